section
-- ===== PART A: goes FIRST, ahead of the names: the tables' words, and 'selects' of the private methods out of them =====
/-- a private method of a class that the tables say can be made, by its rows of tables_1 -/
def lw_okq (q : MethodName × Nat) : Prop := (q.1.cls ≠ "java/lang/invoke/MethodHandle" ∧ q.1.cls ≠ "java/lang/invoke/VarHandle") ∧ Cond.instantiable q.1.cls q.2 ∈ tables_1 ∧ Cond.privateMethod q.1 ∈ tables_1 ∧ Cond.instanceMethod q.1 ∈ tables_1
theorem lw_p0 : lw_okq (⟨"WhoSingsNext$Reader", "readToken", "()V"⟩, 11) := ⟨⟨by decide +kernel, by decide +kernel⟩, List.mem_of_getElem? (i := 122) (by decide +kernel), List.mem_of_getElem? (i := 321) (by decide +kernel), List.mem_of_getElem? (i := 322) (by decide +kernel)⟩
theorem lw_p1 : lw_okq (⟨"WhoSingsNext$Reader", "readWord", "()V"⟩, 11) := ⟨⟨by decide +kernel, by decide +kernel⟩, List.mem_of_getElem? (i := 122) (by decide +kernel), List.mem_of_getElem? (i := 328) (by decide +kernel), List.mem_of_getElem? (i := 329) (by decide +kernel)⟩
theorem lw_p2 : lw_okq (⟨"WhoSingsNext$Reader", "spells", "(Ljava/lang/String;)Z"⟩, 11) := ⟨⟨by decide +kernel, by decide +kernel⟩, List.mem_of_getElem? (i := 122) (by decide +kernel), List.mem_of_getElem? (i := 333) (by decide +kernel), List.mem_of_getElem? (i := 334) (by decide +kernel)⟩
theorem lw_p3 : lw_okq (⟨"WhoSingsNext$Reader", "readNumber", "()V"⟩, 11) := ⟨⟨by decide +kernel, by decide +kernel⟩, List.mem_of_getElem? (i := 122) (by decide +kernel), List.mem_of_getElem? (i := 353) (by decide +kernel), List.mem_of_getElem? (i := 354) (by decide +kernel)⟩
theorem lw_p4 : lw_okq (⟨"WhoSingsNext$Reader", "readPart", "(I)V"⟩, 11) := ⟨⟨by decide +kernel, by decide +kernel⟩, List.mem_of_getElem? (i := 122) (by decide +kernel), List.mem_of_getElem? (i := 417) (by decide +kernel), List.mem_of_getElem? (i := 418) (by decide +kernel)⟩
theorem lw_p5 : lw_okq (⟨"WhoSingsNext$Reader", "pass", "(I)V"⟩, 11) := ⟨⟨by decide +kernel, by decide +kernel⟩, List.mem_of_getElem? (i := 122) (by decide +kernel), List.mem_of_getElem? (i := 421) (by decide +kernel), List.mem_of_getElem? (i := 422) (by decide +kernel)⟩
theorem lw_p6 : lw_okq (⟨"WhoSingsNext$Reader", "fail", "()V"⟩, 11) := ⟨⟨by decide +kernel, by decide +kernel⟩, List.mem_of_getElem? (i := 122) (by decide +kernel), List.mem_of_getElem? (i := 425) (by decide +kernel), List.mem_of_getElem? (i := 426) (by decide +kernel)⟩
theorem lw_p7 : lw_okq (⟨"WhoSingsNext$Reader", "readLevel", "(II)V"⟩, 11) := ⟨⟨by decide +kernel, by decide +kernel⟩, List.mem_of_getElem? (i := 122) (by decide +kernel), List.mem_of_getElem? (i := 429) (by decide +kernel), List.mem_of_getElem? (i := 430) (by decide +kernel)⟩
theorem lw_p8 : lw_okq (⟨"WhoSingsNext$Reader", "readOne", "(I)V"⟩, 11) := ⟨⟨by decide +kernel, by decide +kernel⟩, List.mem_of_getElem? (i := 122) (by decide +kernel), List.mem_of_getElem? (i := 433) (by decide +kernel), List.mem_of_getElem? (i := 434) (by decide +kernel)⟩
theorem lw_p9 : lw_okq (⟨"WhoSingsNext$Reader", "emit", "(I)V"⟩, 11) := ⟨⟨by decide +kernel, by decide +kernel⟩, List.mem_of_getElem? (i := 122) (by decide +kernel), List.mem_of_getElem? (i := 437) (by decide +kernel), List.mem_of_getElem? (i := 438) (by decide +kernel)⟩
theorem lw_p10 : lw_okq (⟨"WhoSingsNext$Reader", "readNot", "(I)V"⟩, 11) := ⟨⟨by decide +kernel, by decide +kernel⟩, List.mem_of_getElem? (i := 122) (by decide +kernel), List.mem_of_getElem? (i := 444) (by decide +kernel), List.mem_of_getElem? (i := 445) (by decide +kernel)⟩
theorem lw_p11 : lw_okq (⟨"WhoSingsNext$Reader", "joins", "(I)Z"⟩, 11) := ⟨⟨by decide +kernel, by decide +kernel⟩, List.mem_of_getElem? (i := 122) (by decide +kernel), List.mem_of_getElem? (i := 448) (by decide +kernel), List.mem_of_getElem? (i := 449) (by decide +kernel)⟩
theorem lw_p12 : lw_okq (⟨"WhoSingsNext", "rule", "()LWhoSingsNext$Text;"⟩, 9) := ⟨⟨by decide +kernel, by decide +kernel⟩, List.mem_of_getElem? (i := 21) (by decide +kernel), List.mem_of_getElem? (i := 612) (by decide +kernel), List.mem_of_getElem? (i := 613) (by decide +kernel)⟩
theorem lw_p13 : lw_okq (⟨"WhoSingsNext$Evening", "wouldBeSung", "(I)Z"⟩, 16) := ⟨⟨by decide +kernel, by decide +kernel⟩, List.mem_of_getElem? (i := 167) (by decide +kernel), List.mem_of_getElem? (i := 637) (by decide +kernel), List.mem_of_getElem? (i := 638) (by decide +kernel)⟩
theorem lw_p14 : lw_okq (⟨"WhoSingsNext$Evening", "nameAll", "(III)V"⟩, 16) := ⟨⟨by decide +kernel, by decide +kernel⟩, List.mem_of_getElem? (i := 167) (by decide +kernel), List.mem_of_getElem? (i := 654) (by decide +kernel), List.mem_of_getElem? (i := 655) (by decide +kernel)⟩
theorem lw_p15 : lw_okq (⟨"WhoSingsNext$Evening", "letLeave", "()V"⟩, 16) := ⟨⟨by decide +kernel, by decide +kernel⟩, List.mem_of_getElem? (i := 167) (by decide +kernel), List.mem_of_getElem? (i := 676) (by decide +kernel), List.mem_of_getElem? (i := 677) (by decide +kernel)⟩
def lw_privs_1 : List (MethodName × Nat) := [(⟨"WhoSingsNext$Reader", "readToken", "()V"⟩, 11), (⟨"WhoSingsNext$Reader", "readWord", "()V"⟩, 11), (⟨"WhoSingsNext$Reader", "spells", "(Ljava/lang/String;)Z"⟩, 11), (⟨"WhoSingsNext$Reader", "readNumber", "()V"⟩, 11), (⟨"WhoSingsNext$Reader", "readPart", "(I)V"⟩, 11), (⟨"WhoSingsNext$Reader", "pass", "(I)V"⟩, 11), (⟨"WhoSingsNext$Reader", "fail", "()V"⟩, 11), (⟨"WhoSingsNext$Reader", "readLevel", "(II)V"⟩, 11), (⟨"WhoSingsNext$Reader", "readOne", "(I)V"⟩, 11), (⟨"WhoSingsNext$Reader", "emit", "(I)V"⟩, 11), (⟨"WhoSingsNext$Reader", "readNot", "(I)V"⟩, 11), (⟨"WhoSingsNext$Reader", "joins", "(I)Z"⟩, 11), (⟨"WhoSingsNext", "rule", "()LWhoSingsNext$Text;"⟩, 9), (⟨"WhoSingsNext$Evening", "wouldBeSung", "(I)Z"⟩, 16), (⟨"WhoSingsNext$Evening", "nameAll", "(III)V"⟩, 16), (⟨"WhoSingsNext$Evening", "letLeave", "()V"⟩, 16)]
theorem lw_r1 : ∀ q ∈ lw_privs_1, lw_okq q := List.forall_mem_cons.mpr ⟨lw_p0, List.forall_mem_cons.mpr ⟨lw_p1, List.forall_mem_cons.mpr ⟨lw_p2, List.forall_mem_cons.mpr ⟨lw_p3, List.forall_mem_cons.mpr ⟨lw_p4, List.forall_mem_cons.mpr ⟨lw_p5, List.forall_mem_cons.mpr ⟨lw_p6, List.forall_mem_cons.mpr ⟨lw_p7, List.forall_mem_cons.mpr ⟨lw_p8, List.forall_mem_cons.mpr ⟨lw_p9, List.forall_mem_cons.mpr ⟨lw_p10, List.forall_mem_cons.mpr ⟨lw_p11, List.forall_mem_cons.mpr ⟨lw_p12, List.forall_mem_cons.mpr ⟨lw_p13, List.forall_mem_cons.mpr ⟨lw_p14, List.forall_mem_cons.mpr ⟨lw_p15, fun _ h => absurd h List.not_mem_nil⟩⟩⟩⟩⟩⟩⟩⟩⟩⟩⟩⟩⟩⟩⟩⟩
theorem lw_p16 : lw_okq (⟨"WhoSingsNext$Evening", "rowAsDigits", "()I"⟩, 16) := ⟨⟨by decide +kernel, by decide +kernel⟩, List.mem_of_getElem? (i := 167) (by decide +kernel), List.mem_of_getElem? (i := 684) (by decide +kernel), List.mem_of_getElem? (i := 685) (by decide +kernel)⟩
theorem lw_p17 : lw_okq (⟨"WhoSingsNext$Search", "note", "(ILWhoSingsNext$Evening;I)V"⟩, 7) := ⟨⟨by decide +kernel, by decide +kernel⟩, List.mem_of_getElem? (i := 231) (by decide +kernel), List.mem_of_getElem? (i := 697) (by decide +kernel), List.mem_of_getElem? (i := 698) (by decide +kernel)⟩
theorem lw_p18 : lw_okq (⟨"WhoSingsNext$Search", "goOn", "(II)V"⟩, 7) := ⟨⟨by decide +kernel, by decide +kernel⟩, List.mem_of_getElem? (i := 231) (by decide +kernel), List.mem_of_getElem? (i := 701) (by decide +kernel), List.mem_of_getElem? (i := 702) (by decide +kernel)⟩
theorem lw_p19 : lw_okq (⟨"WhoSingsNext$Search", "losesFewer", "(LWhoSingsNext$Evening;)Z"⟩, 7) := ⟨⟨by decide +kernel, by decide +kernel⟩, List.mem_of_getElem? (i := 231) (by decide +kernel), List.mem_of_getElem? (i := 712) (by decide +kernel), List.mem_of_getElem? (i := 713) (by decide +kernel)⟩
theorem lw_p20 : lw_okq (⟨"WhoSingsNext", "runDesk", "(LWhoSingsNext$Text;I)V"⟩, 9) := ⟨⟨by decide +kernel, by decide +kernel⟩, List.mem_of_getElem? (i := 21) (by decide +kernel), List.mem_of_getElem? (i := 724) (by decide +kernel), List.mem_of_getElem? (i := 725) (by decide +kernel)⟩
theorem lw_p21 : lw_okq (⟨"WhoSingsNext$Evening", "firstByDesk", "()I"⟩, 16) := ⟨⟨by decide +kernel, by decide +kernel⟩, List.mem_of_getElem? (i := 167) (by decide +kernel), List.mem_of_getElem? (i := 736) (by decide +kernel), List.mem_of_getElem? (i := 737) (by decide +kernel)⟩
theorem lw_p22 : lw_okq (⟨"WhoSingsNext", "judged", "(LWhoSingsNext$Sheet;LWhoSingsNext$Text;)I"⟩, 9) := ⟨⟨by decide +kernel, by decide +kernel⟩, List.mem_of_getElem? (i := 21) (by decide +kernel), List.mem_of_getElem? (i := 768) (by decide +kernel), List.mem_of_getElem? (i := 769) (by decide +kernel)⟩
theorem lw_p23 : lw_okq (⟨"WhoSingsNext$Evening", "uncalled", "(I)I"⟩, 16) := ⟨⟨by decide +kernel, by decide +kernel⟩, List.mem_of_getElem? (i := 167) (by decide +kernel), List.mem_of_getElem? (i := 789) (by decide +kernel), List.mem_of_getElem? (i := 790) (by decide +kernel)⟩
theorem lw_p24 : lw_okq (⟨"WhoSingsNextModel", "spell", "(IIIIIIIII)V"⟩, 61) := ⟨⟨by decide +kernel, by decide +kernel⟩, List.mem_of_getElem? (i := 863) (by decide +kernel), List.mem_of_getElem? (i := 869) (by decide +kernel), List.mem_of_getElem? (i := 870) (by decide +kernel)⟩
theorem lw_p25 : lw_okq (⟨"WhoSingsNextModel", "isOne", "(I)Z"⟩, 61) := ⟨⟨by decide +kernel, by decide +kernel⟩, List.mem_of_getElem? (i := 863) (by decide +kernel), List.mem_of_getElem? (i := 1072) (by decide +kernel), List.mem_of_getElem? (i := 1073) (by decide +kernel)⟩
theorem lw_p26 : lw_okq (⟨"WhoSingsNextModel", "isSlip", "(I)Z"⟩, 61) := ⟨⟨by decide +kernel, by decide +kernel⟩, List.mem_of_getElem? (i := 863) (by decide +kernel), List.mem_of_getElem? (i := 1083) (by decide +kernel), List.mem_of_getElem? (i := 1084) (by decide +kernel)⟩
theorem lw_p27 : lw_okq (⟨"WhoSingsNextModel", "read", "(II)I"⟩, 61) := ⟨⟨by decide +kernel, by decide +kernel⟩, List.mem_of_getElem? (i := 863) (by decide +kernel), List.mem_of_getElem? (i := 1103) (by decide +kernel), List.mem_of_getElem? (i := 1104) (by decide +kernel)⟩
theorem lw_p28 : lw_okq (⟨"WhoSingsNextModel", "next", "()V"⟩, 61) := ⟨⟨by decide +kernel, by decide +kernel⟩, List.mem_of_getElem? (i := 863) (by decide +kernel), List.mem_of_getElem? (i := 1107) (by decide +kernel), List.mem_of_getElem? (i := 1108) (by decide +kernel)⟩
theorem lw_p29 : lw_okq (⟨"WhoSingsNextModel", "byteAt", "(I)I"⟩, 61) := ⟨⟨by decide +kernel, by decide +kernel⟩, List.mem_of_getElem? (i := 863) (by decide +kernel), List.mem_of_getElem? (i := 1111) (by decide +kernel), List.mem_of_getElem? (i := 1112) (by decide +kernel)⟩
theorem lw_p30 : lw_okq (⟨"WhoSingsNextModel", "isWord", "(IIIIIIII)Z"⟩, 61) := ⟨⟨by decide +kernel, by decide +kernel⟩, List.mem_of_getElem? (i := 863) (by decide +kernel), List.mem_of_getElem? (i := 1119) (by decide +kernel), List.mem_of_getElem? (i := 1120) (by decide +kernel)⟩
theorem lw_p31 : lw_okq (⟨"WhoSingsNextModel", "isLetter", "(II)Z"⟩, 61) := ⟨⟨by decide +kernel, by decide +kernel⟩, List.mem_of_getElem? (i := 863) (by decide +kernel), List.mem_of_getElem? (i := 1123) (by decide +kernel), List.mem_of_getElem? (i := 1124) (by decide +kernel)⟩
def lw_privs_2 : List (MethodName × Nat) := [(⟨"WhoSingsNext$Evening", "rowAsDigits", "()I"⟩, 16), (⟨"WhoSingsNext$Search", "note", "(ILWhoSingsNext$Evening;I)V"⟩, 7), (⟨"WhoSingsNext$Search", "goOn", "(II)V"⟩, 7), (⟨"WhoSingsNext$Search", "losesFewer", "(LWhoSingsNext$Evening;)Z"⟩, 7), (⟨"WhoSingsNext", "runDesk", "(LWhoSingsNext$Text;I)V"⟩, 9), (⟨"WhoSingsNext$Evening", "firstByDesk", "()I"⟩, 16), (⟨"WhoSingsNext", "judged", "(LWhoSingsNext$Sheet;LWhoSingsNext$Text;)I"⟩, 9), (⟨"WhoSingsNext$Evening", "uncalled", "(I)I"⟩, 16), (⟨"WhoSingsNextModel", "spell", "(IIIIIIIII)V"⟩, 61), (⟨"WhoSingsNextModel", "isOne", "(I)Z"⟩, 61), (⟨"WhoSingsNextModel", "isSlip", "(I)Z"⟩, 61), (⟨"WhoSingsNextModel", "read", "(II)I"⟩, 61), (⟨"WhoSingsNextModel", "next", "()V"⟩, 61), (⟨"WhoSingsNextModel", "byteAt", "(I)I"⟩, 61), (⟨"WhoSingsNextModel", "isWord", "(IIIIIIII)Z"⟩, 61), (⟨"WhoSingsNextModel", "isLetter", "(II)Z"⟩, 61)]
theorem lw_r2 : ∀ q ∈ lw_privs_2, lw_okq q := List.forall_mem_cons.mpr ⟨lw_p16, List.forall_mem_cons.mpr ⟨lw_p17, List.forall_mem_cons.mpr ⟨lw_p18, List.forall_mem_cons.mpr ⟨lw_p19, List.forall_mem_cons.mpr ⟨lw_p20, List.forall_mem_cons.mpr ⟨lw_p21, List.forall_mem_cons.mpr ⟨lw_p22, List.forall_mem_cons.mpr ⟨lw_p23, List.forall_mem_cons.mpr ⟨lw_p24, List.forall_mem_cons.mpr ⟨lw_p25, List.forall_mem_cons.mpr ⟨lw_p26, List.forall_mem_cons.mpr ⟨lw_p27, List.forall_mem_cons.mpr ⟨lw_p28, List.forall_mem_cons.mpr ⟨lw_p29, List.forall_mem_cons.mpr ⟨lw_p30, List.forall_mem_cons.mpr ⟨lw_p31, fun _ h => absurd h List.not_mem_nil⟩⟩⟩⟩⟩⟩⟩⟩⟩⟩⟩⟩⟩⟩⟩⟩
theorem lw_p32 : lw_okq (⟨"WhoSingsNextModel", "part", "(Z)I"⟩, 61) := ⟨⟨by decide +kernel, by decide +kernel⟩, List.mem_of_getElem? (i := 863) (by decide +kernel), List.mem_of_getElem? (i := 1127) (by decide +kernel), List.mem_of_getElem? (i := 1128) (by decide +kernel)⟩
theorem lw_p33 : lw_okq (⟨"WhoSingsNextModel", "fail", "()V"⟩, 61) := ⟨⟨by decide +kernel, by decide +kernel⟩, List.mem_of_getElem? (i := 863) (by decide +kernel), List.mem_of_getElem? (i := 1131) (by decide +kernel), List.mem_of_getElem? (i := 1132) (by decide +kernel)⟩
theorem lw_p34 : lw_okq (⟨"WhoSingsNextModel", "either", "()I"⟩, 61) := ⟨⟨by decide +kernel, by decide +kernel⟩, List.mem_of_getElem? (i := 863) (by decide +kernel), List.mem_of_getElem? (i := 1135) (by decide +kernel), List.mem_of_getElem? (i := 1136) (by decide +kernel)⟩
theorem lw_p35 : lw_okq (⟨"WhoSingsNextModel", "both", "()I"⟩, 61) := ⟨⟨by decide +kernel, by decide +kernel⟩, List.mem_of_getElem? (i := 863) (by decide +kernel), List.mem_of_getElem? (i := 1139) (by decide +kernel), List.mem_of_getElem? (i := 1140) (by decide +kernel)⟩
theorem lw_p36 : lw_okq (⟨"WhoSingsNextModel", "not", "()I"⟩, 61) := ⟨⟨by decide +kernel, by decide +kernel⟩, List.mem_of_getElem? (i := 863) (by decide +kernel), List.mem_of_getElem? (i := 1143) (by decide +kernel), List.mem_of_getElem? (i := 1144) (by decide +kernel)⟩
theorem lw_p37 : lw_okq (⟨"WhoSingsNextModel", "opens", "()Z"⟩, 61) := ⟨⟨by decide +kernel, by decide +kernel⟩, List.mem_of_getElem? (i := 863) (by decide +kernel), List.mem_of_getElem? (i := 1147) (by decide +kernel), List.mem_of_getElem? (i := 1148) (by decide +kernel)⟩
theorem lw_p38 : lw_okq (⟨"WhoSingsNextModel", "added", "()I"⟩, 61) := ⟨⟨by decide +kernel, by decide +kernel⟩, List.mem_of_getElem? (i := 863) (by decide +kernel), List.mem_of_getElem? (i := 1151) (by decide +kernel), List.mem_of_getElem? (i := 1152) (by decide +kernel)⟩
theorem lw_p39 : lw_okq (⟨"WhoSingsNextModel", "term", "()I"⟩, 61) := ⟨⟨by decide +kernel, by decide +kernel⟩, List.mem_of_getElem? (i := 863) (by decide +kernel), List.mem_of_getElem? (i := 1155) (by decide +kernel), List.mem_of_getElem? (i := 1156) (by decide +kernel)⟩
theorem lw_p40 : lw_okq (⟨"WhoSingsNextModel", "atom", "()I"⟩, 61) := ⟨⟨by decide +kernel, by decide +kernel⟩, List.mem_of_getElem? (i := 863) (by decide +kernel), List.mem_of_getElem? (i := 1159) (by decide +kernel), List.mem_of_getElem? (i := 1160) (by decide +kernel)⟩
theorem lw_p41 : lw_okq (⟨"WhoSingsNextModel", "isSign", "(I)Z"⟩, 61) := ⟨⟨by decide +kernel, by decide +kernel⟩, List.mem_of_getElem? (i := 863) (by decide +kernel), List.mem_of_getElem? (i := 1163) (by decide +kernel), List.mem_of_getElem? (i := 1164) (by decide +kernel)⟩
theorem lw_p42 : lw_okq (⟨"WhoSingsNextModel", "name", "()I"⟩, 61) := ⟨⟨by decide +kernel, by decide +kernel⟩, List.mem_of_getElem? (i := 863) (by decide +kernel), List.mem_of_getElem? (i := 1167) (by decide +kernel), List.mem_of_getElem? (i := 1168) (by decide +kernel)⟩
theorem lw_p43 : lw_okq (⟨"WhoSingsNextModel", "isRow", "(I)Z"⟩, 61) := ⟨⟨by decide +kernel, by decide +kernel⟩, List.mem_of_getElem? (i := 863) (by decide +kernel), List.mem_of_getElem? (i := 1181) (by decide +kernel), List.mem_of_getElem? (i := 1182) (by decide +kernel)⟩
theorem lw_p44 : lw_okq (⟨"WhoSingsNextModel", "goes", "(I)V"⟩, 61) := ⟨⟨by decide +kernel, by decide +kernel⟩, List.mem_of_getElem? (i := 863) (by decide +kernel), List.mem_of_getElem? (i := 1185) (by decide +kernel), List.mem_of_getElem? (i := 1186) (by decide +kernel)⟩
theorem lw_p45 : lw_okq (⟨"WhoSingsNextModel", "begins", "()V"⟩, 61) := ⟨⟨by decide +kernel, by decide +kernel⟩, List.mem_of_getElem? (i := 863) (by decide +kernel), List.mem_of_getElem? (i := 1189) (by decide +kernel), List.mem_of_getElem? (i := 1190) (by decide +kernel)⟩
theorem lw_p46 : lw_okq (⟨"WhoSingsNextModel", "calls", "(I)V"⟩, 61) := ⟨⟨by decide +kernel, by decide +kernel⟩, List.mem_of_getElem? (i := 863) (by decide +kernel), List.mem_of_getElem? (i := 1196) (by decide +kernel), List.mem_of_getElem? (i := 1197) (by decide +kernel)⟩
theorem lw_p47 : lw_okq (⟨"WhoSingsNextModel", "canSing", "(I)Z"⟩, 61) := ⟨⟨by decide +kernel, by decide +kernel⟩, List.mem_of_getElem? (i := 863) (by decide +kernel), List.mem_of_getElem? (i := 1200) (by decide +kernel), List.mem_of_getElem? (i := 1201) (by decide +kernel)⟩
def lw_privs_3 : List (MethodName × Nat) := [(⟨"WhoSingsNextModel", "part", "(Z)I"⟩, 61), (⟨"WhoSingsNextModel", "fail", "()V"⟩, 61), (⟨"WhoSingsNextModel", "either", "()I"⟩, 61), (⟨"WhoSingsNextModel", "both", "()I"⟩, 61), (⟨"WhoSingsNextModel", "not", "()I"⟩, 61), (⟨"WhoSingsNextModel", "opens", "()Z"⟩, 61), (⟨"WhoSingsNextModel", "added", "()I"⟩, 61), (⟨"WhoSingsNextModel", "term", "()I"⟩, 61), (⟨"WhoSingsNextModel", "atom", "()I"⟩, 61), (⟨"WhoSingsNextModel", "isSign", "(I)Z"⟩, 61), (⟨"WhoSingsNextModel", "name", "()I"⟩, 61), (⟨"WhoSingsNextModel", "isRow", "(I)Z"⟩, 61), (⟨"WhoSingsNextModel", "goes", "(I)V"⟩, 61), (⟨"WhoSingsNextModel", "begins", "()V"⟩, 61), (⟨"WhoSingsNextModel", "calls", "(I)V"⟩, 61), (⟨"WhoSingsNextModel", "canSing", "(I)Z"⟩, 61)]
theorem lw_r3 : ∀ q ∈ lw_privs_3, lw_okq q := List.forall_mem_cons.mpr ⟨lw_p32, List.forall_mem_cons.mpr ⟨lw_p33, List.forall_mem_cons.mpr ⟨lw_p34, List.forall_mem_cons.mpr ⟨lw_p35, List.forall_mem_cons.mpr ⟨lw_p36, List.forall_mem_cons.mpr ⟨lw_p37, List.forall_mem_cons.mpr ⟨lw_p38, List.forall_mem_cons.mpr ⟨lw_p39, List.forall_mem_cons.mpr ⟨lw_p40, List.forall_mem_cons.mpr ⟨lw_p41, List.forall_mem_cons.mpr ⟨lw_p42, List.forall_mem_cons.mpr ⟨lw_p43, List.forall_mem_cons.mpr ⟨lw_p44, List.forall_mem_cons.mpr ⟨lw_p45, List.forall_mem_cons.mpr ⟨lw_p46, List.forall_mem_cons.mpr ⟨lw_p47, fun _ h => absurd h List.not_mem_nil⟩⟩⟩⟩⟩⟩⟩⟩⟩⟩⟩⟩⟩⟩⟩⟩
theorem lw_p48 : lw_okq (⟨"WhoSingsNextModel", "moves", "(II)I"⟩, 61) := ⟨⟨by decide +kernel, by decide +kernel⟩, List.mem_of_getElem? (i := 863) (by decide +kernel), List.mem_of_getElem? (i := 1204) (by decide +kernel), List.mem_of_getElem? (i := 1205) (by decide +kernel)⟩
theorem lw_p49 : lw_okq (⟨"WhoSingsNextModel", "thirst", "(II)I"⟩, 61) := ⟨⟨by decide +kernel, by decide +kernel⟩, List.mem_of_getElem? (i := 863) (by decide +kernel), List.mem_of_getElem? (i := 1214) (by decide +kernel), List.mem_of_getElem? (i := 1215) (by decide +kernel)⟩
theorem lw_p50 : lw_okq (⟨"WhoSingsNextModel", "says", "(IIII)I"⟩, 61) := ⟨⟨by decide +kernel, by decide +kernel⟩, List.mem_of_getElem? (i := 863) (by decide +kernel), List.mem_of_getElem? (i := 1218) (by decide +kernel), List.mem_of_getElem? (i := 1219) (by decide +kernel)⟩
theorem lw_p51 : lw_okq (⟨"WhoSingsNextModel", "tells", "(I)I"⟩, 61) := ⟨⟨by decide +kernel, by decide +kernel⟩, List.mem_of_getElem? (i := 863) (by decide +kernel), List.mem_of_getElem? (i := 1222) (by decide +kernel), List.mem_of_getElem? (i := 1223) (by decide +kernel)⟩
theorem lw_p52 : lw_okq (⟨"WhoSingsNextModel", "leftMany", "()I"⟩, 61) := ⟨⟨by decide +kernel, by decide +kernel⟩, List.mem_of_getElem? (i := 863) (by decide +kernel), List.mem_of_getElem? (i := 1226) (by decide +kernel), List.mem_of_getElem? (i := 1227) (by decide +kernel)⟩
theorem lw_p53 : lw_okq (⟨"WhoSingsNextModel", "rows", "(III)V"⟩, 61) := ⟨⟨by decide +kernel, by decide +kernel⟩, List.mem_of_getElem? (i := 863) (by decide +kernel), List.mem_of_getElem? (i := 1239) (by decide +kernel), List.mem_of_getElem? (i := 1240) (by decide +kernel)⟩
theorem lw_p54 : lw_okq (⟨"WhoSingsNextModel", "isBetter", "(I)Z"⟩, 61) := ⟨⟨by decide +kernel, by decide +kernel⟩, List.mem_of_getElem? (i := 863) (by decide +kernel), List.mem_of_getElem? (i := 1243) (by decide +kernel), List.mem_of_getElem? (i := 1244) (by decide +kernel)⟩
theorem lw_p55 : lw_okq (⟨"WhoSingsNextModel", "lays", "(I)V"⟩, 61) := ⟨⟨by decide +kernel, by decide +kernel⟩, List.mem_of_getElem? (i := 863) (by decide +kernel), List.mem_of_getElem? (i := 1247) (by decide +kernel), List.mem_of_getElem? (i := 1248) (by decide +kernel)⟩
theorem lw_p56 : lw_okq (⟨"WhoSingsNextModel", "laysBack", "(I)V"⟩, 61) := ⟨⟨by decide +kernel, by decide +kernel⟩, List.mem_of_getElem? (i := 863) (by decide +kernel), List.mem_of_getElem? (i := 1251) (by decide +kernel), List.mem_of_getElem? (i := 1252) (by decide +kernel)⟩
theorem lw_p57 : lw_okq (⟨"WhoSingsNextModel", "desks", "(I)V"⟩, 61) := ⟨⟨by decide +kernel, by decide +kernel⟩, List.mem_of_getElem? (i := 863) (by decide +kernel), List.mem_of_getElem? (i := 1259) (by decide +kernel), List.mem_of_getElem? (i := 1260) (by decide +kernel)⟩
theorem lw_p58 : lw_okq (⟨"WhoSingsNextModel", "goesOn", "(I)V"⟩, 61) := ⟨⟨by decide +kernel, by decide +kernel⟩, List.mem_of_getElem? (i := 863) (by decide +kernel), List.mem_of_getElem? (i := 1263) (by decide +kernel), List.mem_of_getElem? (i := 1264) (by decide +kernel)⟩
theorem lw_p59 : lw_okq (⟨"WhoSingsNextModel", "deskCalls", "(I)I"⟩, 61) := ⟨⟨by decide +kernel, by decide +kernel⟩, List.mem_of_getElem? (i := 863) (by decide +kernel), List.mem_of_getElem? (i := 1267) (by decide +kernel), List.mem_of_getElem? (i := 1268) (by decide +kernel)⟩
theorem lw_p60 : lw_okq (⟨"WhoSingsNextModel", "tellBad", "(I)I"⟩, 61) := ⟨⟨by decide +kernel, by decide +kernel⟩, List.mem_of_getElem? (i := 863) (by decide +kernel), List.mem_of_getElem? (i := 1291) (by decide +kernel), List.mem_of_getElem? (i := 1292) (by decide +kernel)⟩
theorem lw_p61 : lw_okq (⟨"WhoSingsNextModel", "wrongAt", "(I)I"⟩, 61) := ⟨⟨by decide +kernel, by decide +kernel⟩, List.mem_of_getElem? (i := 863) (by decide +kernel), List.mem_of_getElem? (i := 1298) (by decide +kernel), List.mem_of_getElem? (i := 1299) (by decide +kernel)⟩
theorem lw_p62 : lw_okq (⟨"WhoSingsNextModel", "draws", "(I)V"⟩, 61) := ⟨⟨by decide +kernel, by decide +kernel⟩, List.mem_of_getElem? (i := 863) (by decide +kernel), List.mem_of_getElem? (i := 1314) (by decide +kernel), List.mem_of_getElem? (i := 1315) (by decide +kernel)⟩
def lw_privs_4 : List (MethodName × Nat) := [(⟨"WhoSingsNextModel", "moves", "(II)I"⟩, 61), (⟨"WhoSingsNextModel", "thirst", "(II)I"⟩, 61), (⟨"WhoSingsNextModel", "says", "(IIII)I"⟩, 61), (⟨"WhoSingsNextModel", "tells", "(I)I"⟩, 61), (⟨"WhoSingsNextModel", "leftMany", "()I"⟩, 61), (⟨"WhoSingsNextModel", "rows", "(III)V"⟩, 61), (⟨"WhoSingsNextModel", "isBetter", "(I)Z"⟩, 61), (⟨"WhoSingsNextModel", "lays", "(I)V"⟩, 61), (⟨"WhoSingsNextModel", "laysBack", "(I)V"⟩, 61), (⟨"WhoSingsNextModel", "desks", "(I)V"⟩, 61), (⟨"WhoSingsNextModel", "goesOn", "(I)V"⟩, 61), (⟨"WhoSingsNextModel", "deskCalls", "(I)I"⟩, 61), (⟨"WhoSingsNextModel", "tellBad", "(I)I"⟩, 61), (⟨"WhoSingsNextModel", "wrongAt", "(I)I"⟩, 61), (⟨"WhoSingsNextModel", "draws", "(I)V"⟩, 61)]
theorem lw_r4 : ∀ q ∈ lw_privs_4, lw_okq q := List.forall_mem_cons.mpr ⟨lw_p48, List.forall_mem_cons.mpr ⟨lw_p49, List.forall_mem_cons.mpr ⟨lw_p50, List.forall_mem_cons.mpr ⟨lw_p51, List.forall_mem_cons.mpr ⟨lw_p52, List.forall_mem_cons.mpr ⟨lw_p53, List.forall_mem_cons.mpr ⟨lw_p54, List.forall_mem_cons.mpr ⟨lw_p55, List.forall_mem_cons.mpr ⟨lw_p56, List.forall_mem_cons.mpr ⟨lw_p57, List.forall_mem_cons.mpr ⟨lw_p58, List.forall_mem_cons.mpr ⟨lw_p59, List.forall_mem_cons.mpr ⟨lw_p60, List.forall_mem_cons.mpr ⟨lw_p61, List.forall_mem_cons.mpr ⟨lw_p62, fun _ h => absurd h List.not_mem_nil⟩⟩⟩⟩⟩⟩⟩⟩⟩⟩⟩⟩⟩⟩⟩
def lw_privs : List (MethodName × Nat) := lw_privs_1 ++ (lw_privs_2 ++ (lw_privs_3 ++ (lw_privs_4)))
def lw_tbl : List Cond := k2_sels lw_privs ++ tables_1
theorem lw_privs_ok : ∀ q ∈ lw_privs, lw_okq q := by
  show ∀ q ∈ lw_privs_1 ++ (lw_privs_2 ++ (lw_privs_3 ++ (lw_privs_4))), lw_okq q
  exact List.forall_mem_append.mpr ⟨lw_r1, List.forall_mem_append.mpr ⟨lw_r2, List.forall_mem_append.mpr ⟨lw_r3, lw_r4⟩⟩⟩
-- ===== end of PART A; then your names; then what follows =====
end
section
def RX0 : String := "WhoSingsNext$Evening"
def TX0 : u_T := fun k => match k with
  | 0 => ("WhoSingsNext$Evening", "house", "LWhoSingsNext$House;", true)
  | 1 => ("WhoSingsNext$Evening", "rule", "LWhoSingsNext$Text;", false)
  | 2 => ("WhoSingsNext$Evening", "names", "[I", true)
  | 3 => ("WhoSingsNext$Evening", "lastSang", "[I", true)
  | 4 => ("WhoSingsNext$Evening", "sungBy", "[I", true)
  | 5 => ("WhoSingsNext$Evening", "bears", "[I", true)
  | 6 => ("WhoSingsNext$Evening", "row", "[I", true)
  | 7 => ("WhoSingsNext$Evening", "calls", "I", false)
  | 8 => ("WhoSingsNext$Evening", "begins", "[I", true)
  | 9 => ("WhoSingsNext$Evening", "called", "I", false)
  | 10 => ("WhoSingsNext$Evening", "minute", "I", false)
  | 11 => ("WhoSingsNext$Evening", "mood", "I", false)
  | 12 => ("WhoSingsNext$Evening", "bar", "I", false)
  | 13 => ("WhoSingsNext$Evening", "left", "I", false)
  | 14 => ("WhoSingsNext$Evening", "sung", "I", false)
  | _ => ("WhoSingsNext$Evening", "there", "I", false)
def tyX0 : Nat → FieldType := fun k => match k with
  | 0 => .object "WhoSingsNext$House"
  | 1 => .object "WhoSingsNext$Text"
  | 2 => .array .int
  | 3 => .array .int
  | 4 => .array .int
  | 5 => .array .int
  | 6 => .array .int
  | 7 => .int
  | 8 => .array .int
  | 9 => .int
  | 10 => .int
  | 11 => .int
  | 12 => .int
  | 13 => .int
  | 14 => .int
  | _ => .int
abbrev wsX00 : List Cond := u_ws RX0 TX0 16
theorem nmX0 : ∀ a, a < 16 → ∀ b, b < 16 → a ≠ b → (TX0 a).2.1 ≠ (TX0 b).2.1 := by decide +kernel
theorem tyX0_ok : ∀ k, k < 16 → parseFieldDescriptor (TX0 k).2.2.1 = some (tyX0 k) := by decide +kernel
abbrev cX0_init : ByteArray := prog_2_method_1_code
def yX0_init : MethodName := ⟨RX0, "<init>", "(LWhoSingsNext$House;)V"⟩
abbrev cX0_begin : ByteArray := prog_2_method_2_code
def yX0_begin : MethodName := ⟨RX0, "begin", "(LWhoSingsNext$Text;)V"⟩
abbrev cX0_goOnFrom : ByteArray := prog_2_method_3_code
def yX0_goOnFrom : MethodName := ⟨RX0, "goOnFrom", "(LWhoSingsNext$Evening;)V"⟩
abbrev cX0_answer : ByteArray := prog_2_method_4_code
def yX0_answer : MethodName := ⟨RX0, "answer", "(I)I"⟩
abbrev cX0_rowAsDigits : ByteArray := prog_2_method_5_code
def yX0_rowAsDigits : MethodName := ⟨RX0, "rowAsDigits", "()I"⟩
abbrev cX0_wasCalled : ByteArray := prog_2_method_6_code
def yX0_wasCalled : MethodName := ⟨RX0, "wasCalled", "(I)Z"⟩
abbrev cX0_leaveOut : ByteArray := prog_2_method_7_code
def yX0_leaveOut : MethodName := ⟨RX0, "leaveOut", "(I)V"⟩
abbrev cX0_wouldBeSung : ByteArray := prog_2_method_8_code
def yX0_wouldBeSung : MethodName := ⟨RX0, "wouldBeSung", "(I)Z"⟩
abbrev cX0_callSlip : ByteArray := prog_2_method_9_code
def yX0_callSlip : MethodName := ⟨RX0, "callSlip", "(I)V"⟩
abbrev cX0_nameAll : ByteArray := prog_2_method_10_code
def yX0_nameAll : MethodName := ⟨RX0, "nameAll", "(III)V"⟩
abbrev cX0_letLeave : ByteArray := prog_2_method_11_code
def yX0_letLeave : MethodName := ⟨RX0, "letLeave", "()V"⟩
abbrev cX0_callRow : ByteArray := prog_2_method_12_code
def yX0_callRow : MethodName := ⟨RX0, "callRow", "(I)V"⟩
abbrev cX0_callByDesk : ByteArray := prog_2_method_13_code
def yX0_callByDesk : MethodName := ⟨RX0, "callByDesk", "()V"⟩
abbrev cX0_firstByDesk : ByteArray := prog_2_method_14_code
def yX0_firstByDesk : MethodName := ⟨RX0, "firstByDesk", "()I"⟩
abbrev cX0_callByChance : ByteArray := prog_2_method_15_code
def yX0_callByChance : MethodName := ⟨RX0, "callByChance", "(I)V"⟩
abbrev cX0_uncalled : ByteArray := prog_2_method_16_code
def yX0_uncalled : MethodName := ⟨RX0, "uncalled", "(I)I"⟩
def RX1 : String := "WhoSingsNext$House"
def TX1 : u_T := fun k => match k with
  | 0 => ("WhoSingsNext$House", "people", "[LWhoSingsNext$Person;", true)
  | 1 => ("WhoSingsNext$House", "slips", "[LWhoSingsNext$Slip;", true)
  | 2 => ("WhoSingsNext$House", "peopleCount", "I", false)
  | 3 => ("WhoSingsNext$House", "slipCount", "I", false)
  | 4 => ("WhoSingsNext$House", "mood", "I", false)
  | 5 => ("WhoSingsNext$House", "till", "I", false)
  | 6 => ("WhoSingsNext$House", "rule", "I", false)
  | _ => ("WhoSingsNext$House", "changes", "I", false)
def tyX1 : Nat → FieldType := fun k => match k with
  | 0 => .array (.object "WhoSingsNext$Person")
  | 1 => .array (.object "WhoSingsNext$Slip")
  | 2 => .int
  | 3 => .int
  | 4 => .int
  | 5 => .int
  | 6 => .int
  | _ => .int
abbrev wsX10 : List Cond := u_ws RX1 TX1 8
theorem nmX1 : ∀ a, a < 8 → ∀ b, b < 8 → a ≠ b → (TX1 a).2.1 ≠ (TX1 b).2.1 := by decide +kernel
theorem tyX1_ok : ∀ k, k < 8 → parseFieldDescriptor (TX1 k).2.2.1 = some (tyX1 k) := by decide +kernel
abbrev cX1_init : ByteArray := prog_3_method_1_code
def yX1_init : MethodName := ⟨RX1, "<init>", "()V"⟩
abbrev cX1_hasPerson : ByteArray := prog_3_method_2_code
def yX1_hasPerson : MethodName := ⟨RX1, "hasPerson", "(I)Z"⟩
abbrev cX1_hasSlip : ByteArray := prog_3_method_3_code
def yX1_hasSlip : MethodName := ⟨RX1, "hasSlip", "(I)Z"⟩
abbrev cX1_groupOf : ByteArray := prog_3_method_4_code
def yX1_groupOf : MethodName := ⟨RX1, "groupOf", "(LWhoSingsNext$Slip;)I"⟩
abbrev cX1_addPerson : ByteArray := prog_3_method_5_code
def yX1_addPerson : MethodName := ⟨RX1, "addPerson", "(II)I"⟩
abbrev cX1_addSlip : ByteArray := prog_3_method_6_code
def yX1_addSlip : MethodName := ⟨RX1, "addSlip", "(III)I"⟩
abbrev cX1_hasValue : ByteArray := prog_3_method_7_code
def yX1_hasValue : MethodName := ⟨RX1, "hasValue", "(II)Z"⟩
abbrev cX1_allows : ByteArray := prog_3_method_8_code
def yX1_allows : MethodName := ⟨RX1, "allows", "(II)Z"⟩
abbrev cX1_valueOf : ByteArray := prog_3_method_9_code
def yX1_valueOf : MethodName := ⟨RX1, "valueOf", "(II)I"⟩
abbrev cX1_change : ByteArray := prog_3_method_10_code
def yX1_change : MethodName := ⟨RX1, "change", "(III)V"⟩
abbrev cX1_follow : ByteArray := prog_3_method_11_code
def yX1_follow : MethodName := ⟨RX1, "follow", "(I)V"⟩
abbrev cX1_become : ByteArray := prog_3_method_12_code
def yX1_become : MethodName := ⟨RX1, "become", "(LWhoSingsNext$House;)V"⟩
abbrev cX1_isRow : ByteArray := prog_3_method_13_code
def yX1_isRow : MethodName := ⟨RX1, "isRow", "(I)Z"⟩
def RX2 : String := "WhoSingsNext$Person"
def TX2 : u_T := fun k => match k with
  | 0 => ("WhoSingsNext$Person", "patience", "I", false)
  | _ => ("WhoSingsNext$Person", "group", "I", false)
def tyX2 : Nat → FieldType := fun k => match k with
  | 0 => .int
  | _ => .int
abbrev wsX20 : List Cond := u_ws RX2 TX2 2
theorem nmX2 : ∀ a, a < 2 → ∀ b, b < 2 → a ≠ b → (TX2 a).2.1 ≠ (TX2 b).2.1 := by decide +kernel
theorem tyX2_ok : ∀ k, k < 2 → parseFieldDescriptor (TX2 k).2.2.1 = some (tyX2 k) := by decide +kernel
abbrev cX2_init : ByteArray := prog_4_method_1_code
def yX2_init : MethodName := ⟨RX2, "<init>", "()V"⟩
abbrev cX2_become : ByteArray := prog_4_method_2_code
def yX2_become : MethodName := ⟨RX2, "become", "(LWhoSingsNext$Person;)V"⟩
def RX3 : String := "WhoSingsNext$Reader"
def TX3 : u_T := fun k => match k with
  | 0 => ("WhoSingsNext$Reader", "tape", "[I", true)
  | 1 => ("WhoSingsNext$Reader", "bytes", "I", false)
  | 2 => ("WhoSingsNext$Reader", "code", "[I", true)
  | 3 => ("WhoSingsNext$Reader", "codes", "I", false)
  | 4 => ("WhoSingsNext$Reader", "takesAt", "I", false)
  | 5 => ("WhoSingsNext$Reader", "firstAt", "I", false)
  | 6 => ("WhoSingsNext$Reader", "token", "I", false)
  | 7 => ("WhoSingsNext$Reader", "number", "I", false)
  | 8 => ("WhoSingsNext$Reader", "place", "I", false)
  | 9 => ("WhoSingsNext$Reader", "next", "I", false)
  | _ => ("WhoSingsNext$Reader", "fault", "I", false)
def tyX3 : Nat → FieldType := fun k => match k with
  | 0 => .array .int
  | 1 => .int
  | 2 => .array .int
  | 3 => .int
  | 4 => .int
  | 5 => .int
  | 6 => .int
  | 7 => .int
  | 8 => .int
  | 9 => .int
  | _ => .int
abbrev wsX30 : List Cond := u_ws RX3 TX3 11
theorem nmX3 : ∀ a, a < 11 → ∀ b, b < 11 → a ≠ b → (TX3 a).2.1 ≠ (TX3 b).2.1 := by decide +kernel
theorem tyX3_ok : ∀ k, k < 11 → parseFieldDescriptor (TX3 k).2.2.1 = some (tyX3 k) := by decide +kernel
abbrev cX3_init : ByteArray := prog_5_method_1_code
def yX3_init : MethodName := ⟨RX3, "<init>", "()V"⟩
abbrev cX3_add : ByteArray := prog_5_method_2_code
def yX3_add : MethodName := ⟨RX3, "add", "(I)Z"⟩
abbrev cX3_readTape : ByteArray := prog_5_method_3_code
def yX3_readTape : MethodName := ⟨RX3, "readTape", "()Z"⟩
abbrev cX3_made : ByteArray := prog_5_method_4_code
def yX3_made : MethodName := ⟨RX3, "made", "()LWhoSingsNext$Text;"⟩
abbrev cX3_readPart : ByteArray := prog_5_method_5_code
def yX3_readPart : MethodName := ⟨RX3, "readPart", "(I)V"⟩
abbrev cX3_pass : ByteArray := prog_5_method_6_code
def yX3_pass : MethodName := ⟨RX3, "pass", "(I)V"⟩
abbrev cX3_fail : ByteArray := prog_5_method_7_code
def yX3_fail : MethodName := ⟨RX3, "fail", "()V"⟩
abbrev cX3_readLevel : ByteArray := prog_5_method_8_code
def yX3_readLevel : MethodName := ⟨RX3, "readLevel", "(II)V"⟩
abbrev cX3_joins : ByteArray := prog_5_method_9_code
def yX3_joins : MethodName := ⟨RX3, "joins", "(I)Z"⟩
abbrev cX3_readNot : ByteArray := prog_5_method_10_code
def yX3_readNot : MethodName := ⟨RX3, "readNot", "(I)V"⟩
abbrev cX3_readOne : ByteArray := prog_5_method_11_code
def yX3_readOne : MethodName := ⟨RX3, "readOne", "(I)V"⟩
abbrev cX3_isName : ByteArray := prog_5_method_12_code
def yX3_isName : MethodName := ⟨RX3, "isName", "(I)Z"⟩
abbrev cX3_emit : ByteArray := prog_5_method_13_code
def yX3_emit : MethodName := ⟨RX3, "emit", "(I)V"⟩
abbrev cX3_readToken : ByteArray := prog_5_method_14_code
def yX3_readToken : MethodName := ⟨RX3, "readToken", "()V"⟩
abbrev cX3_isLetter : ByteArray := prog_5_method_15_code
def yX3_isLetter : MethodName := ⟨RX3, "isLetter", "(I)Z"⟩
abbrev cX3_isDigit : ByteArray := prog_5_method_16_code
def yX3_isDigit : MethodName := ⟨RX3, "isDigit", "(I)Z"⟩
abbrev cX3_readNumber : ByteArray := prog_5_method_17_code
def yX3_readNumber : MethodName := ⟨RX3, "readNumber", "()V"⟩
abbrev cX3_readWord : ByteArray := prog_5_method_18_code
def yX3_readWord : MethodName := ⟨RX3, "readWord", "()V"⟩
abbrev cX3_spells : ByteArray := prog_5_method_19_code
def yX3_spells : MethodName := ⟨RX3, "spells", "(Ljava/lang/String;)Z"⟩
def RX4 : String := "WhoSingsNext$Search"
def TX4 : u_T := fun k => match k with
  | 0 => ("WhoSingsNext$Search", "house", "LWhoSingsNext$House;", true)
  | 1 => ("WhoSingsNext$Search", "evenings", "[LWhoSingsNext$Evening;", true)
  | 2 => ("WhoSingsNext$Search", "taken", "[I", true)
  | 3 => ("WhoSingsNext$Search", "left", "[I", true)
  | 4 => ("WhoSingsNext$Search", "sung", "[I", true)
  | 5 => ("WhoSingsNext$Search", "row", "[I", true)
  | _ => ("WhoSingsNext$Search", "looked", "I", false)
def tyX4 : Nat → FieldType := fun k => match k with
  | 0 => .object "WhoSingsNext$House"
  | 1 => .array (.object "WhoSingsNext$Evening")
  | 2 => .array .int
  | 3 => .array .int
  | 4 => .array .int
  | 5 => .array .int
  | _ => .int
abbrev wsX40 : List Cond := u_ws RX4 TX4 7
theorem nmX4 : ∀ a, a < 7 → ∀ b, b < 7 → a ≠ b → (TX4 a).2.1 ≠ (TX4 b).2.1 := by decide +kernel
theorem tyX4_ok : ∀ k, k < 7 → parseFieldDescriptor (TX4 k).2.2.1 = some (tyX4 k) := by decide +kernel
abbrev cX4_init : ByteArray := prog_6_method_1_code
def yX4_init : MethodName := ⟨RX4, "<init>", "(LWhoSingsNext$House;)V"⟩
abbrev cX4_look : ByteArray := prog_6_method_2_code
def yX4_look : MethodName := ⟨RX4, "look", "(LWhoSingsNext$Text;)V"⟩
abbrev cX4_answer : ByteArray := prog_6_method_3_code
def yX4_answer : MethodName := ⟨RX4, "answer", "(II)I"⟩
abbrev cX4_note : ByteArray := prog_6_method_4_code
def yX4_note : MethodName := ⟨RX4, "note", "(ILWhoSingsNext$Evening;I)V"⟩
abbrev cX4_goOn : ByteArray := prog_6_method_5_code
def yX4_goOn : MethodName := ⟨RX4, "goOn", "(II)V"⟩
abbrev cX4_losesFewer : ByteArray := prog_6_method_6_code
def yX4_losesFewer : MethodName := ⟨RX4, "losesFewer", "(LWhoSingsNext$Evening;)Z"⟩
def RX5 : String := "WhoSingsNext$Sheet"
def TX5 : u_T := fun k => match k with
  | 0 => ("WhoSingsNext$Sheet", "items", "[I", true)
  | 1 => ("WhoSingsNext$Sheet", "sort", "I", false)
  | _ => ("WhoSingsNext$Sheet", "size", "I", false)
def tyX5 : Nat → FieldType := fun k => match k with
  | 0 => .array .int
  | 1 => .int
  | _ => .int
abbrev wsX50 : List Cond := u_ws RX5 TX5 3
theorem nmX5 : ∀ a, a < 3 → ∀ b, b < 3 → a ≠ b → (TX5 a).2.1 ≠ (TX5 b).2.1 := by decide +kernel
theorem tyX5_ok : ∀ k, k < 3 → parseFieldDescriptor (TX5 k).2.2.1 = some (tyX5 k) := by decide +kernel
abbrev cX5_init : ByteArray := prog_7_method_1_code
def yX5_init : MethodName := ⟨RX5, "<init>", "()V"⟩
abbrev cX5_remake : ByteArray := prog_7_method_2_code
def yX5_remake : MethodName := ⟨RX5, "remake", "(II)V"⟩
abbrev cX5_holds : ByteArray := prog_7_method_3_code
def yX5_holds : MethodName := ⟨RX5, "holds", "(II)Z"⟩
abbrev cX5_put : ByteArray := prog_7_method_4_code
def yX5_put : MethodName := ⟨RX5, "put", "(II)V"⟩
def RX6 : String := "WhoSingsNext$Slip"
def TX6 : u_T := fun k => match k with
  | 0 => ("WhoSingsNext$Slip", "kind", "I", false)
  | 1 => ("WhoSingsNext$Slip", "number", "I", false)
  | 2 => ("WhoSingsNext$Slip", "minutes", "I", false)
  | _ => ("WhoSingsNext$Slip", "whose", "I", false)
def tyX6 : Nat → FieldType := fun k => match k with
  | 0 => .int
  | 1 => .int
  | 2 => .int
  | _ => .int
abbrev wsX60 : List Cond := u_ws RX6 TX6 4
theorem nmX6 : ∀ a, a < 4 → ∀ b, b < 4 → a ≠ b → (TX6 a).2.1 ≠ (TX6 b).2.1 := by decide +kernel
theorem tyX6_ok : ∀ k, k < 4 → parseFieldDescriptor (TX6 k).2.2.1 = some (tyX6 k) := by decide +kernel
abbrev cX6_init : ByteArray := prog_8_method_1_code
def yX6_init : MethodName := ⟨RX6, "<init>", "()V"⟩
abbrev cX6_become : ByteArray := prog_8_method_2_code
def yX6_become : MethodName := ⟨RX6, "become", "(LWhoSingsNext$Slip;)V"⟩
abbrev cX6_moves : ByteArray := prog_8_method_3_code
def yX6_moves : MethodName := ⟨RX6, "moves", "(I)I"⟩
abbrev cX6_thirst : ByteArray := prog_8_method_4_code
def yX6_thirst : MethodName := ⟨RX6, "thirst", "(I)I"⟩
abbrev cX6_isOf : ByteArray := prog_8_method_5_code
def yX6_isOf : MethodName := ⟨RX6, "isOf", "(I)Z"⟩
def RX7 : String := "WhoSingsNext$Text"
def TX7 : u_T := fun k => match k with
  | 0 => ("WhoSingsNext$Text", "code", "[I", true)
  | 1 => ("WhoSingsNext$Text", "takesAt", "I", true)
  | 2 => ("WhoSingsNext$Text", "firstAt", "I", true)
  | _ => ("WhoSingsNext$Text", "pending", "[I", true)
def tyX7 : Nat → FieldType := fun k => match k with
  | 0 => .array .int
  | 1 => .int
  | 2 => .int
  | _ => .array .int
abbrev wsX70 : List Cond := u_ws RX7 TX7 4
theorem nmX7 : ∀ a, a < 4 → ∀ b, b < 4 → a ≠ b → (TX7 a).2.1 ≠ (TX7 b).2.1 := by decide +kernel
theorem tyX7_ok : ∀ k, k < 4 → parseFieldDescriptor (TX7 k).2.2.1 = some (tyX7 k) := by decide +kernel
abbrev cX7_init : ByteArray := prog_9_method_1_code
def yX7_init : MethodName := ⟨RX7, "<init>", "([III)V"⟩
abbrev cX7_worth : ByteArray := prog_9_method_2_code
def yX7_worth : MethodName := ⟨RX7, "worth", "(I[I)I"⟩
abbrev cX7_joined : ByteArray := prog_9_method_3_code
def yX7_joined : MethodName := ⟨RX7, "joined", "(III)I"⟩
def RX8 : String := "WhoSingsNext"
def TX8 : u_T := fun k => match k with
  | 0 => ("WhoSingsNext", "house", "LWhoSingsNext$House;", true)
  | 1 => ("WhoSingsNext", "kept", "LWhoSingsNext$House;", true)
  | 2 => ("WhoSingsNext", "isKept", "Z", false)
  | 3 => ("WhoSingsNext", "reader", "LWhoSingsNext$Reader;", true)
  | 4 => ("WhoSingsNext", "texts", "[LWhoSingsNext$Text;", true)
  | 5 => ("WhoSingsNext", "textCount", "I", false)
  | 6 => ("WhoSingsNext", "tonight", "LWhoSingsNext$Evening;", true)
  | 7 => ("WhoSingsNext", "search", "LWhoSingsNext$Search;", true)
  | _ => ("WhoSingsNext", "sheets", "[LWhoSingsNext$Sheet;", true)
def tyX8 : Nat → FieldType := fun k => match k with
  | 0 => .object "WhoSingsNext$House"
  | 1 => .object "WhoSingsNext$House"
  | 2 => .boolean
  | 3 => .object "WhoSingsNext$Reader"
  | 4 => .array (.object "WhoSingsNext$Text")
  | 5 => .int
  | 6 => .object "WhoSingsNext$Evening"
  | 7 => .object "WhoSingsNext$Search"
  | _ => .array (.object "WhoSingsNext$Sheet")
abbrev wsX80 : List Cond := u_ws RX8 TX8 9
theorem nmX8 : ∀ a, a < 9 → ∀ b, b < 9 → a ≠ b → (TX8 a).2.1 ≠ (TX8 b).2.1 := by decide +kernel
theorem tyX8_ok : ∀ k, k < 9 → parseFieldDescriptor (TX8 k).2.2.1 = some (tyX8 k) := by decide +kernel
abbrev cX8_init : ByteArray := prog_1_method_1_code
def yX8_init : MethodName := ⟨RX8, "<init>", "()V"⟩
abbrev cX8_come : ByteArray := prog_1_method_2_code
def yX8_come : MethodName := ⟨RX8, "come", "(II)I"⟩
abbrev cX8_slip : ByteArray := prog_1_method_3_code
def yX8_slip : MethodName := ⟨RX8, "slip", "(III)I"⟩
abbrev cX8_set : ByteArray := prog_1_method_4_code
def yX8_set : MethodName := ⟨RX8, "set", "(III)I"⟩
abbrev cX8_told : ByteArray := prog_1_method_5_code
def yX8_told : MethodName := ⟨RX8, "told", "(II)I"⟩
abbrev cX8_feed : ByteArray := prog_1_method_6_code
def yX8_feed : MethodName := ⟨RX8, "feed", "(I)I"⟩
abbrev cX8_text : ByteArray := prog_1_method_7_code
def yX8_text : MethodName := ⟨RX8, "text", "()I"⟩
abbrev cX8_force : ByteArray := prog_1_method_8_code
def yX8_force : MethodName := ⟨RX8, "force", "(I)I"⟩
abbrev cX8_evening : ByteArray := prog_1_method_9_code
def yX8_evening : MethodName := ⟨RX8, "evening", "(II)I"⟩
abbrev cX8_best : ByteArray := prog_1_method_10_code
def yX8_best : MethodName := ⟨RX8, "best", "(II)I"⟩
abbrev cX8_desk : ByteArray := prog_1_method_11_code
def yX8_desk : MethodName := ⟨RX8, "desk", "(I)I"⟩
abbrev cX8_hold : ByteArray := prog_1_method_12_code
def yX8_hold : MethodName := ⟨RX8, "hold", "(I)I"⟩
abbrev cX8_wait : ByteArray := prog_1_method_13_code
def yX8_wait : MethodName := ⟨RX8, "wait", "(I)I"⟩
abbrev cX8_refuse : ByteArray := prog_1_method_14_code
def yX8_refuse : MethodName := ⟨RX8, "refuse", "(I)I"⟩
abbrev cX8_coin : ByteArray := prog_1_method_15_code
def yX8_coin : MethodName := ⟨RX8, "coin", "(I)I"⟩
abbrev cX8_harm : ByteArray := prog_1_method_16_code
def yX8_harm : MethodName := ⟨RX8, "harm", "(I)I"⟩
abbrev cX8_judge : ByteArray := prog_1_method_17_code
def yX8_judge : MethodName := ⟨RX8, "judge", "(I)I"⟩
abbrev cX8_which : ByteArray := prog_1_method_18_code
def yX8_which : MethodName := ⟨RX8, "which", "(I)I"⟩
abbrev cX8_behind : ByteArray := prog_1_method_19_code
def yX8_behind : MethodName := ⟨RX8, "behind", "()I"⟩
abbrev cX8_drawn : ByteArray := prog_1_method_20_code
def yX8_drawn : MethodName := ⟨RX8, "drawn", "(I)I"⟩
abbrev cX8_chance : ByteArray := prog_1_method_21_code
def yX8_chance : MethodName := ⟨RX8, "chance", "(III)J"⟩
abbrev cX8_image : ByteArray := prog_1_method_22_code
def yX8_image : MethodName := ⟨RX8, "image", "()I"⟩
abbrev cX8_back : ByteArray := prog_1_method_23_code
def yX8_back : MethodName := ⟨RX8, "back", "()I"⟩
abbrev cX8_count : ByteArray := prog_1_method_24_code
def yX8_count : MethodName := ⟨RX8, "count", "(I)I"⟩
abbrev cX8_sheet : ByteArray := prog_1_method_25_code
def yX8_sheet : MethodName := ⟨RX8, "sheet", "(III)I"⟩
abbrev cX8_cell : ByteArray := prog_1_method_26_code
def yX8_cell : MethodName := ⟨RX8, "cell", "(III)I"⟩
abbrev cX8_copy : ByteArray := prog_1_method_27_code
def yX8_copy : MethodName := ⟨RX8, "copy", "(IIIII)I"⟩
abbrev cX8_slips : ByteArray := prog_1_method_28_code
def yX8_slips : MethodName := ⟨RX8, "slips", "(IIII)I"⟩
abbrev cX8_taken : ByteArray := prog_1_method_29_code
def yX8_taken : MethodName := ⟨RX8, "taken", "(II)I"⟩
abbrev cX8_rule : ByteArray := prog_1_method_30_code
def yX8_rule : MethodName := ⟨RX8, "rule", "()LWhoSingsNext$Text;"⟩
abbrev cX8_isSheet : ByteArray := prog_1_method_31_code
def yX8_isSheet : MethodName := ⟨RX8, "isSheet", "(I)Z"⟩
abbrev cX8_runDesk : ByteArray := prog_1_method_32_code
def yX8_runDesk : MethodName := ⟨RX8, "runDesk", "(LWhoSingsNext$Text;I)V"⟩
abbrev cX8_judged : ByteArray := prog_1_method_33_code
def yX8_judged : MethodName := ⟨RX8, "judged", "(LWhoSingsNext$Sheet;LWhoSingsNext$Text;)I"⟩
abbrev cX8_commonDivisor : ByteArray := prog_1_method_34_code
def yX8_commonDivisor : MethodName := ⟨RX8, "commonDivisor", "(II)I"⟩
abbrev cX8_within : ByteArray := prog_1_method_35_code
def yX8_within : MethodName := ⟨RX8, "within", "(III)I"⟩
def RX9 : String := "WhoSingsNextModel"
def TX9 : u_T := fun k => match k with
  | 0 => ("WhoSingsNextModel", "thrown", "I", false)
  | 1 => ("WhoSingsNextModel", "texts", "[I", true)
  | 2 => ("WhoSingsNextModel", "textSize", "[I", true)
  | 3 => ("WhoSingsNextModel", "textCount", "I", false)
  | 4 => ("WhoSingsNextModel", "rule", "I", false)
  | 5 => ("WhoSingsNextModel", "tape", "[I", true)
  | 6 => ("WhoSingsNextModel", "taped", "I", false)
  | 7 => ("WhoSingsNextModel", "patience", "[I", true)
  | 8 => ("WhoSingsNextModel", "groups", "[I", true)
  | 9 => ("WhoSingsNextModel", "people", "I", false)
  | 10 => ("WhoSingsNextModel", "kinds", "[I", true)
  | 11 => ("WhoSingsNextModel", "numbers", "[I", true)
  | 12 => ("WhoSingsNextModel", "longs", "[I", true)
  | 13 => ("WhoSingsNextModel", "owners", "[I", true)
  | 14 => ("WhoSingsNextModel", "slipCount", "I", false)
  | 15 => ("WhoSingsNextModel", "mood", "I", false)
  | 16 => ("WhoSingsNextModel", "till", "I", false)
  | 17 => ("WhoSingsNextModel", "ofMinute", "I", false)
  | 18 => ("WhoSingsNextModel", "ofWaited", "I", false)
  | 19 => ("WhoSingsNextModel", "ofSung", "I", false)
  | 20 => ("WhoSingsNextModel", "ofSort", "I", false)
  | 21 => ("WhoSingsNextModel", "ofBar", "I", false)
  | 22 => ("WhoSingsNextModel", "ofMood", "I", false)
  | 23 => ("WhoSingsNextModel", "from", "I", false)
  | 24 => ("WhoSingsNextModel", "size", "I", false)
  | 25 => ("WhoSingsNextModel", "here", "I", false)
  | 26 => ("WhoSingsNextModel", "token", "I", false)
  | 27 => ("WhoSingsNextModel", "tokenAt", "I", false)
  | 28 => ("WhoSingsNextModel", "tokenWorth", "J", false)
  | 29 => ("WhoSingsNextModel", "open", "I", false)
  | 30 => ("WhoSingsNextModel", "bad", "Z", false)
  | 31 => ("WhoSingsNextModel", "fault", "I", false)
  | 32 => ("WhoSingsNextModel", "minute", "I", false)
  | 33 => ("WhoSingsNextModel", "moodNow", "I", false)
  | 34 => ("WhoSingsNextModel", "bar", "I", false)
  | 35 => ("WhoSingsNextModel", "there", "I", false)
  | 36 => ("WhoSingsNextModel", "sungMany", "I", false)
  | 37 => ("WhoSingsNextModel", "lastSang", "[I", true)
  | 38 => ("WhoSingsNextModel", "sungBy", "[I", true)
  | 39 => ("WhoSingsNextModel", "called", "I", false)
  | 40 => ("WhoSingsNextModel", "sungSet", "I", false)
  | 41 => ("WhoSingsNextModel", "began", "[I", true)
  | 42 => ("WhoSingsNextModel", "asideRow", "[I", true)
  | 43 => ("WhoSingsNextModel", "asideLast", "[I", true)
  | 44 => ("WhoSingsNextModel", "asideSung", "[I", true)
  | 45 => ("WhoSingsNextModel", "bestRow", "I", false)
  | 46 => ("WhoSingsNextModel", "bestBar", "I", false)
  | 47 => ("WhoSingsNextModel", "bestLeft", "I", false)
  | 48 => ("WhoSingsNextModel", "bestSung", "I", false)
  | 49 => ("WhoSingsNextModel", "deskRow", "I", false)
  | 50 => ("WhoSingsNextModel", "onesKept", "[I", true)
  | 51 => ("WhoSingsNextModel", "slipsKept", "[I", true)
  | 52 => ("WhoSingsNextModel", "slipsMany", "I", false)
  | 53 => ("WhoSingsNextModel", "peopleKept", "I", false)
  | 54 => ("WhoSingsNextModel", "moodKept", "I", false)
  | 55 => ("WhoSingsNextModel", "tillKept", "I", false)
  | 56 => ("WhoSingsNextModel", "ruleKept", "I", false)
  | 57 => ("WhoSingsNextModel", "isThere", "[Z", true)
  | 58 => ("WhoSingsNextModel", "sorts", "[I", true)
  | 59 => ("WhoSingsNextModel", "sheetSize", "[I", true)
  | _ => ("WhoSingsNextModel", "items", "[I", true)
def tyX9 : Nat → FieldType := fun k => match k with
  | 0 => .int
  | 1 => .array .int
  | 2 => .array .int
  | 3 => .int
  | 4 => .int
  | 5 => .array .int
  | 6 => .int
  | 7 => .array .int
  | 8 => .array .int
  | 9 => .int
  | 10 => .array .int
  | 11 => .array .int
  | 12 => .array .int
  | 13 => .array .int
  | 14 => .int
  | 15 => .int
  | 16 => .int
  | 17 => .int
  | 18 => .int
  | 19 => .int
  | 20 => .int
  | 21 => .int
  | 22 => .int
  | 23 => .int
  | 24 => .int
  | 25 => .int
  | 26 => .int
  | 27 => .int
  | 28 => .long
  | 29 => .int
  | 30 => .boolean
  | 31 => .int
  | 32 => .int
  | 33 => .int
  | 34 => .int
  | 35 => .int
  | 36 => .int
  | 37 => .array .int
  | 38 => .array .int
  | 39 => .int
  | 40 => .int
  | 41 => .array .int
  | 42 => .array .int
  | 43 => .array .int
  | 44 => .array .int
  | 45 => .int
  | 46 => .int
  | 47 => .int
  | 48 => .int
  | 49 => .int
  | 50 => .array .int
  | 51 => .array .int
  | 52 => .int
  | 53 => .int
  | 54 => .int
  | 55 => .int
  | 56 => .int
  | 57 => .array .boolean
  | 58 => .array .int
  | 59 => .array .int
  | _ => .array .int
abbrev wsX90 : List Cond := u_ws RX9 TX9 61
theorem nmX9 : ∀ a, a < 61 → ∀ b, b < 61 → a ≠ b → (TX9 a).2.1 ≠ (TX9 b).2.1 := by decide +kernel
theorem tyX9_ok : ∀ k, k < 61 → parseFieldDescriptor (TX9 k).2.2.1 = some (tyX9 k) := by decide +kernel
abbrev cX9_in : ByteArray := prog_11_method_2_code
def yX9_in : MethodName := ⟨RX9, "in", "(JJJ)Z"⟩
abbrev cX9_within : ByteArray := prog_11_method_3_code
def yX9_within : MethodName := ⟨RX9, "within", "(III)I"⟩
abbrev cX9_bitsOf : ByteArray := prog_11_method_4_code
def yX9_bitsOf : MethodName := ⟨RX9, "bitsOf", "(I)I"⟩
abbrev cX9_init : ByteArray := prog_11_method_5_code
def yX9_init : MethodName := ⟨RX9, "<init>", "()V"⟩
abbrev cX9_spell : ByteArray := prog_11_method_6_code
def yX9_spell : MethodName := ⟨RX9, "spell", "(IIIIIIIII)V"⟩
abbrev cX9_isOne : ByteArray := prog_11_method_7_code
def yX9_isOne : MethodName := ⟨RX9, "isOne", "(I)Z"⟩
abbrev cX9_isSlip : ByteArray := prog_11_method_8_code
def yX9_isSlip : MethodName := ⟨RX9, "isSlip", "(I)Z"⟩
abbrev cX9_come : ByteArray := prog_11_method_9_code
def yX9_come : MethodName := ⟨RX9, "come", "(II)I"⟩
abbrev cX9_slip : ByteArray := prog_11_method_10_code
def yX9_slip : MethodName := ⟨RX9, "slip", "(III)I"⟩
abbrev cX9_set : ByteArray := prog_11_method_11_code
def yX9_set : MethodName := ⟨RX9, "set", "(III)I"⟩
abbrev cX9_told : ByteArray := prog_11_method_12_code
def yX9_told : MethodName := ⟨RX9, "told", "(II)I"⟩
abbrev cX9_moves : ByteArray := prog_11_method_13_code
def yX9_moves : MethodName := ⟨RX9, "moves", "(II)I"⟩
abbrev cX9_thirst : ByteArray := prog_11_method_14_code
def yX9_thirst : MethodName := ⟨RX9, "thirst", "(II)I"⟩
abbrev cX9_feed : ByteArray := prog_11_method_15_code
def yX9_feed : MethodName := ⟨RX9, "feed", "(I)I"⟩
abbrev cX9_byteAt : ByteArray := prog_11_method_16_code
def yX9_byteAt : MethodName := ⟨RX9, "byteAt", "(I)I"⟩
abbrev cX9_next : ByteArray := prog_11_method_17_code
def yX9_next : MethodName := ⟨RX9, "next", "()V"⟩
abbrev cX9_fail : ByteArray := prog_11_method_18_code
def yX9_fail : MethodName := ⟨RX9, "fail", "()V"⟩
abbrev cX9_isLetter : ByteArray := prog_11_method_19_code
def yX9_isLetter : MethodName := ⟨RX9, "isLetter", "(II)Z"⟩
abbrev cX9_isWord : ByteArray := prog_11_method_20_code
def yX9_isWord : MethodName := ⟨RX9, "isWord", "(IIIIIIII)Z"⟩
abbrev cX9_isSign : ByteArray := prog_11_method_21_code
def yX9_isSign : MethodName := ⟨RX9, "isSign", "(I)Z"⟩
abbrev cX9_opens : ByteArray := prog_11_method_22_code
def yX9_opens : MethodName := ⟨RX9, "opens", "()Z"⟩
abbrev cX9_name : ByteArray := prog_11_method_23_code
def yX9_name : MethodName := ⟨RX9, "name", "()I"⟩
abbrev cX9_atom : ByteArray := prog_11_method_24_code
def yX9_atom : MethodName := ⟨RX9, "atom", "()I"⟩
abbrev cX9_term : ByteArray := prog_11_method_25_code
def yX9_term : MethodName := ⟨RX9, "term", "()I"⟩
abbrev cX9_added : ByteArray := prog_11_method_26_code
def yX9_added : MethodName := ⟨RX9, "added", "()I"⟩
abbrev cX9_not : ByteArray := prog_11_method_27_code
def yX9_not : MethodName := ⟨RX9, "not", "()I"⟩
abbrev cX9_both : ByteArray := prog_11_method_28_code
def yX9_both : MethodName := ⟨RX9, "both", "()I"⟩
abbrev cX9_either : ByteArray := prog_11_method_29_code
def yX9_either : MethodName := ⟨RX9, "either", "()I"⟩
abbrev cX9_part : ByteArray := prog_11_method_30_code
def yX9_part : MethodName := ⟨RX9, "part", "(Z)I"⟩
abbrev cX9_read : ByteArray := prog_11_method_31_code
def yX9_read : MethodName := ⟨RX9, "read", "(II)I"⟩
abbrev cX9_text : ByteArray := prog_11_method_32_code
def yX9_text : MethodName := ⟨RX9, "text", "()I"⟩
abbrev cX9_force : ByteArray := prog_11_method_33_code
def yX9_force : MethodName := ⟨RX9, "force", "(I)I"⟩
abbrev cX9_says : ByteArray := prog_11_method_34_code
def yX9_says : MethodName := ⟨RX9, "says", "(IIII)I"⟩
abbrev cX9_begins : ByteArray := prog_11_method_35_code
def yX9_begins : MethodName := ⟨RX9, "begins", "()V"⟩
abbrev cX9_canSing : ByteArray := prog_11_method_36_code
def yX9_canSing : MethodName := ⟨RX9, "canSing", "(I)Z"⟩
abbrev cX9_calls : ByteArray := prog_11_method_37_code
def yX9_calls : MethodName := ⟨RX9, "calls", "(I)V"⟩
abbrev cX9_leftMany : ByteArray := prog_11_method_38_code
def yX9_leftMany : MethodName := ⟨RX9, "leftMany", "()I"⟩
abbrev cX9_tells : ByteArray := prog_11_method_39_code
def yX9_tells : MethodName := ⟨RX9, "tells", "(I)I"⟩
abbrev cX9_sizeOf : ByteArray := prog_11_method_40_code
def yX9_sizeOf : MethodName := ⟨RX9, "sizeOf", "(I)I"⟩
abbrev cX9_isRow : ByteArray := prog_11_method_41_code
def yX9_isRow : MethodName := ⟨RX9, "isRow", "(I)Z"⟩
abbrev cX9_goes : ByteArray := prog_11_method_42_code
def yX9_goes : MethodName := ⟨RX9, "goes", "(I)V"⟩
abbrev cX9_evening : ByteArray := prog_11_method_43_code
def yX9_evening : MethodName := ⟨RX9, "evening", "(II)I"⟩
abbrev cX9_hold : ByteArray := prog_11_method_44_code
def yX9_hold : MethodName := ⟨RX9, "hold", "(I)I"⟩
abbrev cX9_lays : ByteArray := prog_11_method_45_code
def yX9_lays : MethodName := ⟨RX9, "lays", "(I)V"⟩
abbrev cX9_laysBack : ByteArray := prog_11_method_46_code
def yX9_laysBack : MethodName := ⟨RX9, "laysBack", "(I)V"⟩
abbrev cX9_isBetter : ByteArray := prog_11_method_47_code
def yX9_isBetter : MethodName := ⟨RX9, "isBetter", "(I)Z"⟩
abbrev cX9_rows : ByteArray := prog_11_method_48_code
def yX9_rows : MethodName := ⟨RX9, "rows", "(III)V"⟩
abbrev cX9_best : ByteArray := prog_11_method_49_code
def yX9_best : MethodName := ⟨RX9, "best", "(II)I"⟩
abbrev cX9_deskCalls : ByteArray := prog_11_method_50_code
def yX9_deskCalls : MethodName := ⟨RX9, "deskCalls", "(I)I"⟩
abbrev cX9_goesOn : ByteArray := prog_11_method_51_code
def yX9_goesOn : MethodName := ⟨RX9, "goesOn", "(I)V"⟩
abbrev cX9_desks : ByteArray := prog_11_method_52_code
def yX9_desks : MethodName := ⟨RX9, "desks", "(I)V"⟩
abbrev cX9_desk : ByteArray := prog_11_method_53_code
def yX9_desk : MethodName := ⟨RX9, "desk", "(I)I"⟩
abbrev cX9_wait : ByteArray := prog_11_method_54_code
def yX9_wait : MethodName := ⟨RX9, "wait", "(I)I"⟩
abbrev cX9_refuse : ByteArray := prog_11_method_55_code
def yX9_refuse : MethodName := ⟨RX9, "refuse", "(I)I"⟩
abbrev cX9_coin : ByteArray := prog_11_method_56_code
def yX9_coin : MethodName := ⟨RX9, "coin", "(I)I"⟩
abbrev cX9_harm : ByteArray := prog_11_method_57_code
def yX9_harm : MethodName := ⟨RX9, "harm", "(I)I"⟩
abbrev cX9_wrongAt : ByteArray := prog_11_method_58_code
def yX9_wrongAt : MethodName := ⟨RX9, "wrongAt", "(I)I"⟩
abbrev cX9_tellBad : ByteArray := prog_11_method_59_code
def yX9_tellBad : MethodName := ⟨RX9, "tellBad", "(I)I"⟩
abbrev cX9_judge : ByteArray := prog_11_method_60_code
def yX9_judge : MethodName := ⟨RX9, "judge", "(I)I"⟩
abbrev cX9_which : ByteArray := prog_11_method_61_code
def yX9_which : MethodName := ⟨RX9, "which", "(I)I"⟩
abbrev cX9_behind : ByteArray := prog_11_method_62_code
def yX9_behind : MethodName := ⟨RX9, "behind", "()I"⟩
abbrev cX9_draws : ByteArray := prog_11_method_63_code
def yX9_draws : MethodName := ⟨RX9, "draws", "(I)V"⟩
abbrev cX9_drawn : ByteArray := prog_11_method_64_code
def yX9_drawn : MethodName := ⟨RX9, "drawn", "(I)I"⟩
abbrev cX9_chance : ByteArray := prog_11_method_65_code
def yX9_chance : MethodName := ⟨RX9, "chance", "(III)J"⟩
abbrev cX9_image : ByteArray := prog_11_method_66_code
def yX9_image : MethodName := ⟨RX9, "image", "()I"⟩
abbrev cX9_back : ByteArray := prog_11_method_67_code
def yX9_back : MethodName := ⟨RX9, "back", "()I"⟩
abbrev cX9_count : ByteArray := prog_11_method_68_code
def yX9_count : MethodName := ⟨RX9, "count", "(I)I"⟩
abbrev cX9_isSheet : ByteArray := prog_11_method_69_code
def yX9_isSheet : MethodName := ⟨RX9, "isSheet", "(I)Z"⟩
abbrev cX9_sheet : ByteArray := prog_11_method_70_code
def yX9_sheet : MethodName := ⟨RX9, "sheet", "(III)I"⟩
abbrev cX9_cell : ByteArray := prog_11_method_71_code
def yX9_cell : MethodName := ⟨RX9, "cell", "(III)I"⟩
abbrev cX9_copy : ByteArray := prog_11_method_72_code
def yX9_copy : MethodName := ⟨RX9, "copy", "(IIIII)I"⟩
abbrev cX9_slips : ByteArray := prog_11_method_73_code
def yX9_slips : MethodName := ⟨RX9, "slips", "(IIII)I"⟩
abbrev cX9_over : ByteArray := prog_11_method_74_code
def yX9_over : MethodName := ⟨RX9, "over", "(I)I"⟩
abbrev cX9_taken : ByteArray := prog_11_method_75_code
def yX9_taken : MethodName := ⟨RX9, "taken", "(II)I"⟩
def RJ11 : String := "java/lang/Character"
def TJ11 : u_T := fun k => match k with
  | _ => ("", "", "", false)
def tyJ11 : Nat → FieldType := fun k => match k with
  | _ => .int
abbrev wsJ110 : List Cond := u_ws RJ11 TJ11 0
theorem nmJ11 : ∀ a, a < 0 → ∀ b, b < 0 → a ≠ b → (TJ11 a).2.1 ≠ (TJ11 b).2.1 := by decide +kernel
theorem tyJ11_ok : ∀ k, k < 0 → parseFieldDescriptor (TJ11 k).2.2.1 = some (tyJ11 k) := by decide +kernel
abbrev cJ11_isValidCodePoint_9a6ad : ByteArray := prog_12_method_11_code
def yJ11_isValidCodePoint_9a6ad : MethodName := ⟨RJ11, "isValidCodePoint", "(I)Z"⟩
abbrev cJ11_highSurrogate_5068e : ByteArray := prog_12_method_28_code
def yJ11_highSurrogate_5068e : MethodName := ⟨RJ11, "highSurrogate", "(I)C"⟩
abbrev cJ11_lowSurrogate_5068e : ByteArray := prog_12_method_29_code
def yJ11_lowSurrogate_5068e : MethodName := ⟨RJ11, "lowSurrogate", "(I)C"⟩
def RJ6 : String := "java/lang/Integer"
def TJ6 : u_T := fun k => match k with
  | _ => ("", "", "", false)
def tyJ6 : Nat → FieldType := fun k => match k with
  | _ => .int
abbrev wsJ60 : List Cond := u_ws RJ6 TJ6 0
theorem nmJ6 : ∀ a, a < 0 → ∀ b, b < 0 → a ≠ b → (TJ6 a).2.1 ≠ (TJ6 b).2.1 := by decide +kernel
theorem tyJ6_ok : ∀ k, k < 0 → parseFieldDescriptor (TJ6 k).2.2.1 = some (tyJ6 k) := by decide +kernel
abbrev cJ6_bitCount_0f7a4 : ByteArray := prog_14_method_49_code
def yJ6_bitCount_0f7a4 : MethodName := ⟨RJ6, "bitCount", "(I)I"⟩
def RJ9 : String := "java/lang/Math"
def TJ9 : u_T := fun k => match k with
  | _ => ("", "", "", false)
def tyJ9 : Nat → FieldType := fun k => match k with
  | _ => .int
abbrev wsJ90 : List Cond := u_ws RJ9 TJ9 0
theorem nmJ9 : ∀ a, a < 0 → ∀ b, b < 0 → a ≠ b → (TJ9 a).2.1 ≠ (TJ9 b).2.1 := by decide +kernel
theorem tyJ9_ok : ∀ k, k < 0 → parseFieldDescriptor (TJ9 k).2.2.1 = some (tyJ9 k) := by decide +kernel
abbrev cJ9_max_7cf53 : ByteArray := prog_15_method_65_code
def yJ9_max_7cf53 : MethodName := ⟨RJ9, "max", "(II)I"⟩
abbrev cJ9_min_7cf53 : ByteArray := prog_15_method_69_code
def yJ9_min_7cf53 : MethodName := ⟨RJ9, "min", "(II)I"⟩
def RJ0 : String := "java/lang/String"
def TJ0 : u_T := fun k => match k with
  | _ => ("", "", "", false)
def tyJ0 : Nat → FieldType := fun k => match k with
  | _ => .int
abbrev wsJ00 : List Cond := u_ws RJ0 TJ0 0
theorem nmJ0 : ∀ a, a < 0 → ∀ b, b < 0 → a ≠ b → (TJ0 a).2.1 ≠ (TJ0 b).2.1 := by decide +kernel
theorem tyJ0_ok : ∀ k, k < 0 → parseFieldDescriptor (TJ0 k).2.2.1 = some (tyJ0 k) := by decide +kernel
abbrev cJ0_length_8abf5 : ByteArray := prog_16_method_54_code
def yJ0_length_8abf5 : MethodName := ⟨RJ0, "length", "()I"⟩
abbrev cJ0_charAt_5068e : ByteArray := prog_16_method_56_code
def yJ0_charAt_5068e : MethodName := ⟨RJ0, "charAt", "(I)C"⟩
abbrev cJ0_indexOf_0f7a4 : ByteArray := prog_16_method_79_code
def yJ0_indexOf_0f7a4 : MethodName := ⟨RJ0, "indexOf", "(I)I"⟩
abbrev cJ0_indexOf_7cf53 : ByteArray := prog_16_method_80_code
def yJ0_indexOf_7cf53 : MethodName := ⟨RJ0, "indexOf", "(II)I"⟩
abbrev cJ0_coder_7d493 : ByteArray := prog_16_method_152_code
def yJ0_coder_7d493 : MethodName := ⟨RJ0, "coder", "()B"⟩
abbrev cJ0_isLatin1_aae02 : ByteArray := prog_16_method_154_code
def yJ0_isLatin1_aae02 : MethodName := ⟨RJ0, "isLatin1", "()Z"⟩
abbrev cJ0_checkIndex_df160 : ByteArray := prog_16_method_155_code
def yJ0_checkIndex_df160 : MethodName := ⟨RJ0, "checkIndex", "(II)V"⟩
abbrev cJ0_checkBoundsBeginEnd_23922 : ByteArray := prog_16_method_158_code
def yJ0_checkBoundsBeginEnd_23922 : MethodName := ⟨RJ0, "checkBoundsBeginEnd", "(III)V"⟩
def RJ1 : String := "java/lang/StringLatin1"
def TJ1 : u_T := fun k => match k with
  | _ => ("", "", "", false)
def tyJ1 : Nat → FieldType := fun k => match k with
  | _ => .int
abbrev wsJ10 : List Cond := u_ws RJ1 TJ1 0
theorem nmJ1 : ∀ a, a < 0 → ∀ b, b < 0 → a ≠ b → (TJ1 a).2.1 ≠ (TJ1 b).2.1 := by decide +kernel
theorem tyJ1_ok : ∀ k, k < 0 → parseFieldDescriptor (TJ1 k).2.2.1 = some (tyJ1 k) := by decide +kernel
abbrev cJ1_charAt_3b067 : ByteArray := prog_17_method_2_code
def yJ1_charAt_3b067 : MethodName := ⟨RJ1, "charAt", "([BI)C"⟩
abbrev cJ1_canEncode_9a6ad : ByteArray := prog_17_method_4_code
def yJ1_canEncode_9a6ad : MethodName := ⟨RJ1, "canEncode", "(I)Z"⟩
abbrev cJ1_indexOf_4cfef : ByteArray := prog_17_method_22_code
def yJ1_indexOf_4cfef : MethodName := ⟨RJ1, "indexOf", "([BIII)I"⟩
abbrev cJ1_indexOfChar_4cfef : ByteArray := prog_17_method_23_code
def yJ1_indexOfChar_4cfef : MethodName := ⟨RJ1, "indexOfChar", "([BIII)I"⟩
def RJ2 : String := "java/lang/StringUTF16"
def TJ2 : u_T := fun k => match k with
  | _ => ("", "", "", false)
def tyJ2 : Nat → FieldType := fun k => match k with
  | _ => .int
abbrev wsJ20 : List Cond := u_ws RJ2 TJ2 0
theorem nmJ2 : ∀ a, a < 0 → ∀ b, b < 0 → a ≠ b → (TJ2 a).2.1 ≠ (TJ2 b).2.1 := by decide +kernel
theorem tyJ2_ok : ∀ k, k < 0 → parseFieldDescriptor (TJ2 k).2.2.1 = some (tyJ2 k) := by decide +kernel
abbrev cJ2_getChar_3b067 : ByteArray := prog_18_method_5_code
def yJ2_getChar_3b067 : MethodName := ⟨RJ2, "getChar", "([BI)C"⟩
abbrev cJ2_length_9d52b : ByteArray := prog_18_method_6_code
def yJ2_length_9d52b : MethodName := ⟨RJ2, "length", "([B)I"⟩
abbrev cJ2_indexOf_4cfef : ByteArray := prog_18_method_40_code
def yJ2_indexOf_4cfef : MethodName := ⟨RJ2, "indexOf", "([BIII)I"⟩
abbrev cJ2_indexOfChar_4cfef : ByteArray := prog_18_method_47_code
def yJ2_indexOfChar_4cfef : MethodName := ⟨RJ2, "indexOfChar", "([BIII)I"⟩
abbrev cJ2_indexOfCharUnsafe_4cfef : ByteArray := prog_18_method_48_code
def yJ2_indexOfCharUnsafe_4cfef : MethodName := ⟨RJ2, "indexOfCharUnsafe", "([BIII)I"⟩
abbrev cJ2_indexOfSupplementary_4cfef : ByteArray := prog_18_method_49_code
def yJ2_indexOfSupplementary_4cfef : MethodName := ⟨RJ2, "indexOfSupplementary", "([BIII)I"⟩
abbrev cJ2_charAt_3b067 : ByteArray := prog_18_method_83_code
def yJ2_charAt_3b067 : MethodName := ⟨RJ2, "charAt", "([BI)C"⟩
abbrev cJ2_checkIndex_2214a : ByteArray := prog_18_method_91_code
def yJ2_checkIndex_2214a : MethodName := ⟨RJ2, "checkIndex", "(I[B)V"⟩
abbrev cJ2_checkBoundsBeginEnd_d044e : ByteArray := prog_18_method_93_code
def yJ2_checkBoundsBeginEnd_d044e : MethodName := ⟨RJ2, "checkBoundsBeginEnd", "(II[B)V"⟩
def RJ10 : String := "java/lang/System"
def TJ10 : u_T := fun k => match k with
  | _ => ("", "", "", false)
def tyJ10 : Nat → FieldType := fun k => match k with
  | _ => .int
abbrev wsJ100 : List Cond := u_ws RJ10 TJ10 0
theorem nmJ10 : ∀ a, a < 0 → ∀ b, b < 0 → a ≠ b → (TJ10 a).2.1 ≠ (TJ10 b).2.1 := by decide +kernel
theorem tyJ10_ok : ∀ k, k < 0 → parseFieldDescriptor (TJ10 k).2.2.1 = some (tyJ10 k) := by decide +kernel
def RJ7 : String := "java/util/Arrays"
def TJ7 : u_T := fun k => match k with
  | _ => ("", "", "", false)
def tyJ7 : Nat → FieldType := fun k => match k with
  | _ => .int
abbrev wsJ70 : List Cond := u_ws RJ7 TJ7 0
theorem nmJ7 : ∀ a, a < 0 → ∀ b, b < 0 → a ≠ b → (TJ7 a).2.1 ≠ (TJ7 b).2.1 := by decide +kernel
theorem tyJ7_ok : ∀ k, k < 0 → parseFieldDescriptor (TJ7 k).2.2.1 = some (tyJ7 k) := by decide +kernel
abbrev cJ7_fill_53178 : ByteArray := prog_20_method_103_code
def yJ7_fill_53178 : MethodName := ⟨RJ7, "fill", "([II)V"⟩
abbrev cJ7_copyOf_59c91 : ByteArray := prog_20_method_123_code
def yJ7_copyOf_59c91 : MethodName := ⟨RJ7, "copyOf", "([II)[I"⟩
def RJ3 : String := "jdk/internal/util/Preconditions"
def TJ3 : u_T := fun k => match k with
  | _ => ("", "", "", false)
def tyJ3 : Nat → FieldType := fun k => match k with
  | _ => .int
abbrev wsJ30 : List Cond := u_ws RJ3 TJ3 0
theorem nmJ3 : ∀ a, a < 0 → ∀ b, b < 0 → a ≠ b → (TJ3 a).2.1 ≠ (TJ3 b).2.1 := by decide +kernel
theorem tyJ3_ok : ∀ k, k < 0 → parseFieldDescriptor (TJ3 k).2.2.1 = some (tyJ3 k) := by decide +kernel
abbrev cJ3_checkIndex_8e157 : ByteArray := prog_21_method_11_code
def yJ3_checkIndex_8e157 : MethodName := ⟨RJ3, "checkIndex", "(IILjava/util/function/BiFunction;)I"⟩
abbrev cJ3_checkFromToIndex_8c36e : ByteArray := prog_21_method_12_code
def yJ3_checkFromToIndex_8c36e : MethodName := ⟨RJ3, "checkFromToIndex", "(IIILjava/util/function/BiFunction;)I"⟩
def RL : String := "WhoSingsNextLaw"
abbrev cL_law : ByteArray := code
def yL_law : MethodName := ⟨RL, "law", "([I)Z"⟩
abbrev vwCl : List vw_C := [(RX0, TX0, 16), (RX1, TX1, 8), (RX2, TX2, 2), (RX3, TX3, 11), (RX4, TX4, 7), (RX5, TX5, 3), (RX6, TX6, 4), (RX7, TX7, 4), (RX8, TX8, 9), (RX9, TX9, 61)]
end
section
/-! ===== memory: all ints of all cells, by kind, instance, place ===== -/
def gw_t : List Cond := lw_tbl.filter goodWord
theorem gw_mem {w : Cond} (k : Nat) (h : lw_tbl[k]? = some w) (g : goodWord w = true) : w ∈ gw_t := List.mem_filter.mpr ⟨List.mem_of_getElem? h, g⟩
theorem gw_good : GoodIn gw_t gw_t := fun w h => ⟨h, good_of_word (List.mem_filter.mp h).2⟩
theorem gw_law : GoodIn lw_tbl gw_t := fun w h => ⟨(List.mem_filter.mp h).1, good_of_word (List.mem_filter.mp h).2⟩
abbrev mm_T : Type := Nat → Nat → Nat → Int32
def mm_row (I : mm_T) (k i : Nat) (f : Nat → Int32) : mm_T := fun a => if a = k then (fun b => if b = i then f else I a b) else I a
def mm_up (I : mm_T) (k i j : Nat) (v : Int32) : mm_T := mm_row I k i (upd (I k i) j v)
theorem mm_row_ne {I : mm_T} {k i : Nat} {f : Nat → Int32} {a : Nat} (h : a ≠ k) : mm_row I k i f a = I a := by unfold mm_row; rw [if_neg h]
theorem mm_row_at {I : mm_T} {k i : Nat} {f : Nat → Int32} : mm_row I k i f k i = f := by unfold mm_row; rw [if_pos rfl]; exact if_pos rfl
theorem mm_row_ni {I : mm_T} {k i : Nat} {f : Nat → Int32} {b : Nat} (h : b ≠ i) : mm_row I k i f k b = I k b := by unfold mm_row; rw [if_pos rfl]; exact if_neg h
theorem mm_up_ne {I : mm_T} {k i j : Nat} {v : Int32} {a : Nat} (h : a ≠ k) : mm_up I k i j v a = I a := mm_row_ne h
theorem mm_up_at {I : mm_T} {k i j : Nat} {v : Int32} : mm_up I k i j v k i = upd (I k i) j v := mm_row_at
theorem mm_up_ni {I : mm_T} {k i j : Nat} {v : Int32} {b : Nat} (h : b ≠ i) : mm_up I k i j v k b = I k b := mm_row_ni h
/-- the class's memory and the reference's, as one -/
def mm_m (k : Nat) : Bool := k == 9 || 30 ≤ k
def mm_mx (I J : mm_T) : mm_T := fun k => if mm_m k = true then J k else I k
theorem mm_mx_I {I J : mm_T} {k : Nat} (h : mm_m k = false) : mm_mx I J k = I k := by unfold mm_mx; rw [h]; rfl
theorem mm_mx_J {I J : mm_T} {k : Nat} (h : mm_m k = true) : mm_mx I J k = J k := by unfold mm_mx; rw [h]; rfl
theorem mm_mx_rowI {I J : mm_T} {k i : Nat} {f : Nat → Int32} (h : mm_m k = false) : mm_mx (mm_row I k i f) J = mm_row (mm_mx I J) k i f := by
  funext a
  by_cases ha : a = k
  · subst ha
    funext b
    by_cases hb : b = i
    · subst hb; rw [mm_mx_I h, mm_row_at, mm_row_at]
    · rw [mm_mx_I h, mm_row_ni hb, mm_row_ni hb, mm_mx_I h]
  · rw [mm_row_ne ha]; unfold mm_mx; rw [mm_row_ne ha]
theorem mm_mx_rowJ {I J : mm_T} {k i : Nat} {f : Nat → Int32} (h : mm_m k = true) : mm_mx I (mm_row J k i f) = mm_row (mm_mx I J) k i f := by
  funext a
  by_cases ha : a = k
  · subst ha
    funext b
    by_cases hb : b = i
    · subst hb; rw [mm_mx_J h, mm_row_at, mm_row_at]
    · rw [mm_mx_J h, mm_row_ni hb, mm_row_ni hb, mm_mx_J h]
  · rw [mm_row_ne ha]; unfold mm_mx; rw [mm_row_ne ha]
/-! ===== a world of cells side by side from an address on ===== -/
def gm_W (b n : Nat) (M : Nat → va_E) : va_W := (List.range n).map fun k => (b + k, M k)
theorem gm_len {b n : Nat} {M : Nat → va_E} : (gm_W b n M).length = n := by simp [gm_W]
theorem gm_get {b n k : Nat} {M : Nat → va_E} (h : k < n) : (gm_W b n M)[k]? = some (b + k, M k) := by
  simp [gm_W, h]
theorem gm_lt {b n k : Nat} {M : Nat → va_E} {q : Nat × va_E} (h : (gm_W b n M)[k]? = some q) : k < n ∧ q = (b + k, M k) := by
  have hk : k < n := by
    have := (List.getElem?_eq_some_iff.mp h).1
    rwa [gm_len] at this
  rw [gm_get hk] at h
  exact ⟨hk, (Option.some.inj h).symm⟩
theorem gm_D {b n : Nat} {M : Nat → va_E} : va_D (fun q => b ≤ q) (gm_W b n M) := by
  refine ⟨fun i j p q hp hq e => ?_, fun k q hk => ?_⟩
  · obtain ⟨-, rfl⟩ := gm_lt hp
    obtain ⟨-, rfl⟩ := gm_lt hq
    simp only at e
    omega
  · obtain ⟨-, rfl⟩ := gm_lt hk
    exact Nat.le_add_right b k
theorem gm_set {b n k : Nat} {M : Nat → va_E} {e : va_E} : (gm_W b n M).set k (b + k, e) = gm_W b n (va_up M k e) := by
  apply List.ext_getElem?
  intro j
  rw [List.getElem?_set]
  by_cases hj : j < n
  · rw [gm_get (M := va_up M k e) hj]
    by_cases hk : k = j
    · subst hk
      rw [if_pos rfl, gm_len, if_pos hj]
      unfold va_up
      rw [if_pos rfl]
    · rw [if_neg hk, gm_get hj]
      unfold va_up
      rw [if_neg (fun h => hk h.symm)]
  · have h1 : (gm_W b n (va_up M k e))[j]? = none := by rw [List.getElem?_eq_none_iff, gm_len]; omega
    have h2 : (gm_W b n M)[j]? = none := by rw [List.getElem?_eq_none_iff, gm_len]; omega
    rw [h1, h2, gm_len]
    by_cases hk : k = j
    · rw [if_pos hk, if_neg (by omega)]
    · rw [if_neg hk]
theorem gm_push {b n : Nat} {M : Nat → va_E} {e : va_E} : gm_W b n M ++ [(b + n, e)] = gm_W b (n + 1) (va_up M n e) := by
  unfold gm_W
  rw [List.range_succ, List.map_append]
  congr 1
  · apply List.map_congr_left
    intro k hk
    have := List.mem_range.mp hk
    unfold va_up
    rw [if_neg (by omega)]
  · simp [va_up]
/-! ===== the layout ===== -/
/-- tables' names, array classes, the first address, the addresses of the text constants and of their bytes -/
abbrev cx_T : Type := va_G × (Nat → ClassId) × Nat × (Nat → Nat) × (Nat → Nat)
abbrev cx_D (G : cx_T) : va_G := G.1
abbrev cx_c (G : cx_T) : Nat → ClassId := G.2.1
abbrev cx_b (G : cx_T) : Nat := G.2.2.1
abbrev cx_K (G : cx_T) : Nat → Nat := G.2.2.2.1
abbrev cx_V (G : cx_T) : Nat → Nat := G.2.2.2.2
def ly_loc (k i : Nat) : Nat := match k with
  | 0 => if i = 0 then 41 else 47 + 7 * i
  | 1 => 1 + 18 * i
  | 2 => 4 + 18 * (i / 8) + i % 8
  | 3 => 37 + i
  | 4 => 48 + i
  | 5 => 114 + 2 * i
  | 6 => 12 + 18 * (i / 7) + i % 7
  | 7 => if i = 0 then 111 else 141 + 3 * i
  | 8 => i
  | 9 => 122 + i
  | 10 => if i = 0 then 42 else 48 + 7 * i
  | 11 => if i = 0 then 43 else 49 + 7 * i
  | 12 => if i = 0 then 44 else 50 + 7 * i
  | 13 => if i = 0 then 45 else 51 + 7 * i
  | 14 => if i = 0 then 46 else 52 + 7 * i
  | 15 => if i = 0 then 47 else 53 + 7 * i
  | 16 => 2 + 18 * i
  | 17 => 3 + 18 * i
  | 18 => 38 + i
  | 19 => 39 + i
  | 20 => 40 + i
  | 21 => 49 + i
  | 22 => 50 + i
  | 23 => 51 + i
  | 24 => 52 + i
  | 25 => 53 + i
  | 26 => 110 + i
  | 27 => 115 + 2 * i
  | 28 => if i = 0 then 112 else 142 + 3 * i
  | 29 => if i = 0 then 113 else 143 + 3 * i
  | 30 => 123 + i
  | 31 => 124 + i
  | 32 => 125 + i
  | 33 => 126 + i
  | 34 => 127 + i
  | 35 => 128 + i
  | 36 => 129 + i
  | 37 => 130 + i
  | 38 => 131 + i
  | 39 => 132 + i
  | 40 => 133 + i
  | 41 => 134 + i
  | 42 => 135 + i
  | 43 => 136 + i
  | 44 => 137 + i
  | 45 => 138 + i
  | 46 => 139 + i
  | 47 => 140 + i
  | 48 => 141 + i
  | 49 => 142 + i
  | _ => 143 + i
def ly_tab : List (Nat × Nat) := [(8, 0), (1, 0), (16, 0), (17, 0), (2, 0), (2, 1), (2, 2), (2, 3), (2, 4), (2, 5), (2, 6), (2, 7), (6, 0), (6, 1), (6, 2), (6, 3), (6, 4), (6, 5), (6, 6), (1, 1), (16, 1), (17, 1), (2, 8), (2, 9), (2, 10), (2, 11), (2, 12), (2, 13), (2, 14), (2, 15), (6, 7), (6, 8), (6, 9), (6, 10), (6, 11), (6, 12), (6, 13), (3, 0), (18, 0), (19, 0), (20, 0), (0, 0), (10, 0), (11, 0), (12, 0), (13, 0), (14, 0), (15, 0), (4, 0), (21, 0), (22, 0), (23, 0), (24, 0), (25, 0), (0, 1), (10, 1), (11, 1), (12, 1), (13, 1), (14, 1), (15, 1), (0, 2), (10, 2), (11, 2), (12, 2), (13, 2), (14, 2), (15, 2), (0, 3), (10, 3), (11, 3), (12, 3), (13, 3), (14, 3), (15, 3), (0, 4), (10, 4), (11, 4), (12, 4), (13, 4), (14, 4), (15, 4), (0, 5), (10, 5), (11, 5), (12, 5), (13, 5), (14, 5), (15, 5), (0, 6), (10, 6), (11, 6), (12, 6), (13, 6), (14, 6), (15, 6), (0, 7), (10, 7), (11, 7), (12, 7), (13, 7), (14, 7), (15, 7), (0, 8), (10, 8), (11, 8), (12, 8), (13, 8), (14, 8), (15, 8), (26, 0), (7, 0), (28, 0), (29, 0), (5, 0), (27, 0), (5, 1), (27, 1), (5, 2), (27, 2), (5, 3), (27, 3), (9, 0), (30, 0), (31, 0), (32, 0), (33, 0), (34, 0), (35, 0), (36, 0), (37, 0), (38, 0), (39, 0), (40, 0), (41, 0), (42, 0), (43, 0), (44, 0), (45, 0), (46, 0), (47, 0), (48, 0), (49, 0), (50, 0)]
def ly_lay (k : Nat) : Nat × Nat := if k < 144 then ly_tab.getD k (0, 0) else ((if (k - 144) % 3 = 0 then 7 else if (k - 144) % 3 = 1 then 28 else 29), (k - 144) / 3 + 1)
theorem ly_inv0 : ∀ k, k < 144 → ly_loc (ly_tab.getD k (0, 0)).1 (ly_tab.getD k (0, 0)).2 = k := by decide +kernel
theorem ly_inv (k : Nat) : ly_loc (ly_lay k).1 (ly_lay k).2 = k := by
  unfold ly_lay
  by_cases h : k < 144
  · rw [if_pos h]; exact ly_inv0 k h
  · rw [if_neg h]
    have h3 : (k - 144) % 3 = 0 ∨ (k - 144) % 3 = 1 ∨ (k - 144) % 3 = 2 := by omega
    rcases h3 with h3 | h3 | h3
    · rw [if_pos h3]; show (if (k - 144) / 3 + 1 = 0 then 111 else 141 + 3 * ((k - 144) / 3 + 1)) = k; rw [if_neg (by omega)]; omega
    · rw [if_neg (by omega), if_pos h3]; show (if (k - 144) / 3 + 1 = 0 then 112 else 142 + 3 * ((k - 144) / 3 + 1)) = k; rw [if_neg (by omega)]; omega
    · rw [if_neg (by omega), if_neg (by omega)]; show (if (k - 144) / 3 + 1 = 0 then 113 else 143 + 3 * ((k - 144) / 3 + 1)) = k; rw [if_neg (by omega)]; omega
theorem ly_inj {a b : Nat} (h : ly_lay a = ly_lay b) : a = b := by rw [← ly_inv a, ← ly_inv b, h]
def ly_tx (G : cx_T) (v : Int32) : Value := if v = -1 then .null else .ref (cx_b G + ly_loc 7 v.toNatClampNeg)
def ly_K (G : cx_T) (k i : Nat) (c : Nat → Int32) : va_E := match k with
  | 0 => .inr (0, [.ref (cx_b G + ly_loc 1 0), ly_tx G (c 1), .ref (cx_b G + ly_loc 10 i), .ref (cx_b G + ly_loc 11 i), .ref (cx_b G + ly_loc 12 i), .ref (cx_b G + ly_loc 13 i), .ref (cx_b G + ly_loc 14 i), .int (c 7), .ref (cx_b G + ly_loc 15 i), .int (c 9), .int (c 10), .int (c 11), .int (c 12), .int (c 13), .int (c 14), .int (c 15)])
  | 1 => .inr (1, [.ref (cx_b G + ly_loc 16 i), .ref (cx_b G + ly_loc 17 i), .int (c 2), .int (c 3), .int (c 4), .int (c 5), .int (c 6), .int (c 7)])
  | 2 => .inr (2, [.int (c 0), .int (c 1)])
  | 3 => .inr (3, [.ref (cx_b G + ly_loc 18 0), .int (c 1), .ref (cx_b G + ly_loc 19 0), .int (c 3), .int (c 4), .int (c 5), .int (c 6), .int (c 7), .int (c 8), .int (c 9), .int (c 10)])
  | 4 => .inr (4, [.ref (cx_b G + ly_loc 1 0), .ref (cx_b G + ly_loc 21 0), .ref (cx_b G + ly_loc 22 0), .ref (cx_b G + ly_loc 23 0), .ref (cx_b G + ly_loc 24 0), .ref (cx_b G + ly_loc 25 0), .int (c 6)])
  | 5 => .inr (5, [.ref (cx_b G + ly_loc 27 i), .int (c 1), .int (c 2)])
  | 6 => .inr (6, [.int (c 0), .int (c 1), .int (c 2), .int (c 3)])
  | 7 => .inr (7, [.ref (cx_b G + ly_loc 28 i), .int (c 1), .int (c 2), .ref (cx_b G + ly_loc 29 i)])
  | 8 => .inr (8, [.ref (cx_b G + ly_loc 1 0), .ref (cx_b G + ly_loc 1 1), .int (c 2), .ref (cx_b G + ly_loc 3 0), .ref (cx_b G + ly_loc 20 0), .int (c 5), .ref (cx_b G + ly_loc 0 0), .ref (cx_b G + ly_loc 4 0), .ref (cx_b G + ly_loc 26 0)])
  | 9 => .inr (9, [.int (c 0), .ref (cx_b G + ly_loc 30 0), .ref (cx_b G + ly_loc 31 0), .int (c 3), .int (c 4), .ref (cx_b G + ly_loc 32 0), .int (c 6), .ref (cx_b G + ly_loc 33 0), .ref (cx_b G + ly_loc 34 0), .int (c 9), .ref (cx_b G + ly_loc 35 0), .ref (cx_b G + ly_loc 36 0), .ref (cx_b G + ly_loc 37 0), .ref (cx_b G + ly_loc 38 0), .int (c 14), .int (c 15), .int (c 16), .int (c 17), .int (c 18), .int (c 19), .int (c 20), .int (c 21), .int (c 22), .int (c 23), .int (c 24), .int (c 25), .int (c 26), .int (c 27), .long (c 28).toInt64, .int (c 29), .int (c 30), .int (c 31), .int (c 32), .int (c 33), .int (c 34), .int (c 35), .int (c 36), .ref (cx_b G + ly_loc 39 0), .ref (cx_b G + ly_loc 40 0), .int (c 39), .int (c 40), .ref (cx_b G + ly_loc 41 0), .ref (cx_b G + ly_loc 42 0), .ref (cx_b G + ly_loc 43 0), .ref (cx_b G + ly_loc 44 0), .int (c 45), .int (c 46), .int (c 47), .int (c 48), .int (c 49), .ref (cx_b G + ly_loc 45 0), .ref (cx_b G + ly_loc 46 0), .int (c 52), .int (c 53), .int (c 54), .int (c 55), .int (c 56), .ref (cx_b G + ly_loc 47 0), .ref (cx_b G + ly_loc 48 0), .ref (cx_b G + ly_loc 49 0), .ref (cx_b G + ly_loc 50 0)])
  | 10 => .inl (cx_c G 0, 6, .inl c)
  | 11 => .inl (cx_c G 0, 8, .inl c)
  | 12 => .inl (cx_c G 0, 8, .inl c)
  | 13 => .inl (cx_c G 0, 8, .inl c)
  | 14 => .inl (cx_c G 0, 7, .inl c)
  | 15 => .inl (cx_c G 0, 7, .inl c)
  | 16 => .inl (cx_c G 2, 8, .inr (.inr (.inr (.inr (fun j => some (cx_b G + ly_loc 2 (8 * i + j)))))))
  | 17 => .inl (cx_c G 3, 7, .inr (.inr (.inr (.inr (fun j => some (cx_b G + ly_loc 6 (7 * i + j)))))))
  | 18 => .inl (cx_c G 0, 160, .inl c)
  | 19 => .inl (cx_c G 0, 160, .inl c)
  | 20 => .inl (cx_c G 4, 6, .inr (.inr (.inr (.inr (fun j => some (cx_b G + ly_loc 7 (c j).toNatClampNeg))))))
  | 21 => .inl (cx_c G 5, 8, .inr (.inr (.inr (.inr (fun j => some (cx_b G + ly_loc 0 (j + 1)))))))
  | 22 => .inl (cx_c G 0, 2, .inl c)
  | 23 => .inl (cx_c G 0, 2, .inl c)
  | 24 => .inl (cx_c G 0, 2, .inl c)
  | 25 => .inl (cx_c G 0, 2, .inl c)
  | 26 => .inl (cx_c G 6, 4, .inr (.inr (.inr (.inr (fun j => some (cx_b G + ly_loc 5 j))))))
  | 27 => .inl (cx_c G 0, 40, .inl c)
  | 28 => .inl (cx_c G 0, (c 1000).toNatClampNeg, .inl c)
  | 29 => .inl (cx_c G 0, 31, .inl c)
  | 30 => .inl (cx_c G 0, 960, .inl c)
  | 31 => .inl (cx_c G 0, 6, .inl c)
  | 32 => .inl (cx_c G 0, 160, .inl c)
  | 33 => .inl (cx_c G 0, 8, .inl c)
  | 34 => .inl (cx_c G 0, 8, .inl c)
  | 35 => .inl (cx_c G 0, 7, .inl c)
  | 36 => .inl (cx_c G 0, 7, .inl c)
  | 37 => .inl (cx_c G 0, 7, .inl c)
  | 38 => .inl (cx_c G 0, 7, .inl c)
  | 39 => .inl (cx_c G 0, 8, .inl c)
  | 40 => .inl (cx_c G 0, 8, .inl c)
  | 41 => .inl (cx_c G 0, 7, .inl c)
  | 42 => .inl (cx_c G 0, 56, .inl c)
  | 43 => .inl (cx_c G 0, 64, .inl c)
  | 44 => .inl (cx_c G 0, 64, .inl c)
  | 45 => .inl (cx_c G 0, 16, .inl c)
  | 46 => .inl (cx_c G 0, 21, .inl c)
  | 47 => .inl (cx_c G 1, 4, .inl c)
  | 48 => .inl (cx_c G 0, 4, .inl c)
  | 49 => .inl (cx_c G 0, 4, .inl c)
  | _ => .inl (cx_c G 0, 160, .inl c)
def ly_cell (G : cx_T) (M : mm_T) (k : Nat) : va_E := ly_K G (ly_lay k).1 (ly_lay k).2 (M (ly_lay k).1 (ly_lay k).2)
/-- an instance that is there -/
def ly_ok (n k i : Nat) : Prop := ly_lay (ly_loc k i) = (k, i) ∧ ly_loc k i < n
theorem ly_at {G : cx_T} {M : mm_T} {n k i : Nat} (h : ly_ok n k i) : ly_cell G M (ly_loc k i) = ly_K G k i (M k i) := by unfold ly_cell; rw [h.1]
theorem ly_get {G : cx_T} {M : mm_T} {b n k i : Nat} (h : ly_ok n k i) : (gm_W b n (ly_cell G M))[ly_loc k i]? = some (b + ly_loc k i, ly_K G k i (M k i)) := by rw [gm_get h.2, ly_at h]
theorem ly_up {G : cx_T} {M : mm_T} {n k i : Nat} {f : Nat → Int32} (h : ly_ok n k i) : ly_cell G (mm_row M k i f) = va_up (ly_cell G M) (ly_loc k i) (ly_K G k i f) := by
  funext q
  unfold va_up
  by_cases hq : q = ly_loc k i
  · subst hq
    rw [if_pos rfl, ly_at h, mm_row_at]
  · rw [if_neg hq]
    have hne : ly_lay q ≠ (k, i) := fun e => hq (ly_inj (e.trans h.1.symm))
    unfold ly_cell
    by_cases h1 : (ly_lay q).1 = k
    · have h2 : (ly_lay q).2 ≠ i := fun e => hne (Prod.ext h1 e)
      rw [h1, mm_row_ni h2]
    · rw [mm_row_ne h1]
theorem ly_set {G : cx_T} {M : mm_T} {b n k i : Nat} {f : Nat → Int32} {e : va_E} (h : ly_ok n k i) (he : ly_K G k i f = e) : (gm_W b n (ly_cell G M)).set (ly_loc k i) (b + ly_loc k i, e) = gm_W b n (ly_cell G (mm_row M k i f)) := by
  rw [gm_set, ly_up h, he]
theorem ly_ok_0_0 : ∀ i, i < 9 → ly_lay (ly_loc 0 i) = (0, i) ∧ ly_loc 0 i < 144 := by decide +kernel
theorem ly_ok_0 {n i : Nat} (h : i < 9) (hn : 144 ≤ n) : ly_ok n 0 i := ⟨(ly_ok_0_0 i h).1, Nat.lt_of_lt_of_le (ly_ok_0_0 i h).2 hn⟩
theorem ly_ok_1_0 : ∀ i, i < 2 → ly_lay (ly_loc 1 i) = (1, i) ∧ ly_loc 1 i < 144 := by decide +kernel
theorem ly_ok_1 {n i : Nat} (h : i < 2) (hn : 144 ≤ n) : ly_ok n 1 i := ⟨(ly_ok_1_0 i h).1, Nat.lt_of_lt_of_le (ly_ok_1_0 i h).2 hn⟩
theorem ly_ok_2_0 : ∀ i, i < 16 → ly_lay (ly_loc 2 i) = (2, i) ∧ ly_loc 2 i < 144 := by decide +kernel
theorem ly_ok_2 {n i : Nat} (h : i < 16) (hn : 144 ≤ n) : ly_ok n 2 i := ⟨(ly_ok_2_0 i h).1, Nat.lt_of_lt_of_le (ly_ok_2_0 i h).2 hn⟩
theorem ly_ok_3_0 : ∀ i, i < 1 → ly_lay (ly_loc 3 i) = (3, i) ∧ ly_loc 3 i < 144 := by decide +kernel
theorem ly_ok_3 {n i : Nat} (h : i < 1) (hn : 144 ≤ n) : ly_ok n 3 i := ⟨(ly_ok_3_0 i h).1, Nat.lt_of_lt_of_le (ly_ok_3_0 i h).2 hn⟩
theorem ly_ok_4_0 : ∀ i, i < 1 → ly_lay (ly_loc 4 i) = (4, i) ∧ ly_loc 4 i < 144 := by decide +kernel
theorem ly_ok_4 {n i : Nat} (h : i < 1) (hn : 144 ≤ n) : ly_ok n 4 i := ⟨(ly_ok_4_0 i h).1, Nat.lt_of_lt_of_le (ly_ok_4_0 i h).2 hn⟩
theorem ly_ok_5_0 : ∀ i, i < 4 → ly_lay (ly_loc 5 i) = (5, i) ∧ ly_loc 5 i < 144 := by decide +kernel
theorem ly_ok_5 {n i : Nat} (h : i < 4) (hn : 144 ≤ n) : ly_ok n 5 i := ⟨(ly_ok_5_0 i h).1, Nat.lt_of_lt_of_le (ly_ok_5_0 i h).2 hn⟩
theorem ly_ok_6_0 : ∀ i, i < 14 → ly_lay (ly_loc 6 i) = (6, i) ∧ ly_loc 6 i < 144 := by decide +kernel
theorem ly_ok_6 {n i : Nat} (h : i < 14) (hn : 144 ≤ n) : ly_ok n 6 i := ⟨(ly_ok_6_0 i h).1, Nat.lt_of_lt_of_le (ly_ok_6_0 i h).2 hn⟩
theorem ly_ok_8_0 : ∀ i, i < 1 → ly_lay (ly_loc 8 i) = (8, i) ∧ ly_loc 8 i < 144 := by decide +kernel
theorem ly_ok_8 {n i : Nat} (h : i < 1) (hn : 144 ≤ n) : ly_ok n 8 i := ⟨(ly_ok_8_0 i h).1, Nat.lt_of_lt_of_le (ly_ok_8_0 i h).2 hn⟩
theorem ly_ok_9_0 : ∀ i, i < 1 → ly_lay (ly_loc 9 i) = (9, i) ∧ ly_loc 9 i < 144 := by decide +kernel
theorem ly_ok_9 {n i : Nat} (h : i < 1) (hn : 144 ≤ n) : ly_ok n 9 i := ⟨(ly_ok_9_0 i h).1, Nat.lt_of_lt_of_le (ly_ok_9_0 i h).2 hn⟩
theorem ly_ok_10_0 : ∀ i, i < 9 → ly_lay (ly_loc 10 i) = (10, i) ∧ ly_loc 10 i < 144 := by decide +kernel
theorem ly_ok_10 {n i : Nat} (h : i < 9) (hn : 144 ≤ n) : ly_ok n 10 i := ⟨(ly_ok_10_0 i h).1, Nat.lt_of_lt_of_le (ly_ok_10_0 i h).2 hn⟩
theorem ly_ok_11_0 : ∀ i, i < 9 → ly_lay (ly_loc 11 i) = (11, i) ∧ ly_loc 11 i < 144 := by decide +kernel
theorem ly_ok_11 {n i : Nat} (h : i < 9) (hn : 144 ≤ n) : ly_ok n 11 i := ⟨(ly_ok_11_0 i h).1, Nat.lt_of_lt_of_le (ly_ok_11_0 i h).2 hn⟩
theorem ly_ok_12_0 : ∀ i, i < 9 → ly_lay (ly_loc 12 i) = (12, i) ∧ ly_loc 12 i < 144 := by decide +kernel
theorem ly_ok_12 {n i : Nat} (h : i < 9) (hn : 144 ≤ n) : ly_ok n 12 i := ⟨(ly_ok_12_0 i h).1, Nat.lt_of_lt_of_le (ly_ok_12_0 i h).2 hn⟩
theorem ly_ok_13_0 : ∀ i, i < 9 → ly_lay (ly_loc 13 i) = (13, i) ∧ ly_loc 13 i < 144 := by decide +kernel
theorem ly_ok_13 {n i : Nat} (h : i < 9) (hn : 144 ≤ n) : ly_ok n 13 i := ⟨(ly_ok_13_0 i h).1, Nat.lt_of_lt_of_le (ly_ok_13_0 i h).2 hn⟩
theorem ly_ok_14_0 : ∀ i, i < 9 → ly_lay (ly_loc 14 i) = (14, i) ∧ ly_loc 14 i < 144 := by decide +kernel
theorem ly_ok_14 {n i : Nat} (h : i < 9) (hn : 144 ≤ n) : ly_ok n 14 i := ⟨(ly_ok_14_0 i h).1, Nat.lt_of_lt_of_le (ly_ok_14_0 i h).2 hn⟩
theorem ly_ok_15_0 : ∀ i, i < 9 → ly_lay (ly_loc 15 i) = (15, i) ∧ ly_loc 15 i < 144 := by decide +kernel
theorem ly_ok_15 {n i : Nat} (h : i < 9) (hn : 144 ≤ n) : ly_ok n 15 i := ⟨(ly_ok_15_0 i h).1, Nat.lt_of_lt_of_le (ly_ok_15_0 i h).2 hn⟩
theorem ly_ok_16_0 : ∀ i, i < 2 → ly_lay (ly_loc 16 i) = (16, i) ∧ ly_loc 16 i < 144 := by decide +kernel
theorem ly_ok_16 {n i : Nat} (h : i < 2) (hn : 144 ≤ n) : ly_ok n 16 i := ⟨(ly_ok_16_0 i h).1, Nat.lt_of_lt_of_le (ly_ok_16_0 i h).2 hn⟩
theorem ly_ok_17_0 : ∀ i, i < 2 → ly_lay (ly_loc 17 i) = (17, i) ∧ ly_loc 17 i < 144 := by decide +kernel
theorem ly_ok_17 {n i : Nat} (h : i < 2) (hn : 144 ≤ n) : ly_ok n 17 i := ⟨(ly_ok_17_0 i h).1, Nat.lt_of_lt_of_le (ly_ok_17_0 i h).2 hn⟩
theorem ly_ok_18_0 : ∀ i, i < 1 → ly_lay (ly_loc 18 i) = (18, i) ∧ ly_loc 18 i < 144 := by decide +kernel
theorem ly_ok_18 {n i : Nat} (h : i < 1) (hn : 144 ≤ n) : ly_ok n 18 i := ⟨(ly_ok_18_0 i h).1, Nat.lt_of_lt_of_le (ly_ok_18_0 i h).2 hn⟩
theorem ly_ok_19_0 : ∀ i, i < 1 → ly_lay (ly_loc 19 i) = (19, i) ∧ ly_loc 19 i < 144 := by decide +kernel
theorem ly_ok_19 {n i : Nat} (h : i < 1) (hn : 144 ≤ n) : ly_ok n 19 i := ⟨(ly_ok_19_0 i h).1, Nat.lt_of_lt_of_le (ly_ok_19_0 i h).2 hn⟩
theorem ly_ok_20_0 : ∀ i, i < 1 → ly_lay (ly_loc 20 i) = (20, i) ∧ ly_loc 20 i < 144 := by decide +kernel
theorem ly_ok_20 {n i : Nat} (h : i < 1) (hn : 144 ≤ n) : ly_ok n 20 i := ⟨(ly_ok_20_0 i h).1, Nat.lt_of_lt_of_le (ly_ok_20_0 i h).2 hn⟩
theorem ly_ok_21_0 : ∀ i, i < 1 → ly_lay (ly_loc 21 i) = (21, i) ∧ ly_loc 21 i < 144 := by decide +kernel
theorem ly_ok_21 {n i : Nat} (h : i < 1) (hn : 144 ≤ n) : ly_ok n 21 i := ⟨(ly_ok_21_0 i h).1, Nat.lt_of_lt_of_le (ly_ok_21_0 i h).2 hn⟩
theorem ly_ok_22_0 : ∀ i, i < 1 → ly_lay (ly_loc 22 i) = (22, i) ∧ ly_loc 22 i < 144 := by decide +kernel
theorem ly_ok_22 {n i : Nat} (h : i < 1) (hn : 144 ≤ n) : ly_ok n 22 i := ⟨(ly_ok_22_0 i h).1, Nat.lt_of_lt_of_le (ly_ok_22_0 i h).2 hn⟩
theorem ly_ok_23_0 : ∀ i, i < 1 → ly_lay (ly_loc 23 i) = (23, i) ∧ ly_loc 23 i < 144 := by decide +kernel
theorem ly_ok_23 {n i : Nat} (h : i < 1) (hn : 144 ≤ n) : ly_ok n 23 i := ⟨(ly_ok_23_0 i h).1, Nat.lt_of_lt_of_le (ly_ok_23_0 i h).2 hn⟩
theorem ly_ok_24_0 : ∀ i, i < 1 → ly_lay (ly_loc 24 i) = (24, i) ∧ ly_loc 24 i < 144 := by decide +kernel
theorem ly_ok_24 {n i : Nat} (h : i < 1) (hn : 144 ≤ n) : ly_ok n 24 i := ⟨(ly_ok_24_0 i h).1, Nat.lt_of_lt_of_le (ly_ok_24_0 i h).2 hn⟩
theorem ly_ok_25_0 : ∀ i, i < 1 → ly_lay (ly_loc 25 i) = (25, i) ∧ ly_loc 25 i < 144 := by decide +kernel
theorem ly_ok_25 {n i : Nat} (h : i < 1) (hn : 144 ≤ n) : ly_ok n 25 i := ⟨(ly_ok_25_0 i h).1, Nat.lt_of_lt_of_le (ly_ok_25_0 i h).2 hn⟩
theorem ly_ok_26_0 : ∀ i, i < 1 → ly_lay (ly_loc 26 i) = (26, i) ∧ ly_loc 26 i < 144 := by decide +kernel
theorem ly_ok_26 {n i : Nat} (h : i < 1) (hn : 144 ≤ n) : ly_ok n 26 i := ⟨(ly_ok_26_0 i h).1, Nat.lt_of_lt_of_le (ly_ok_26_0 i h).2 hn⟩
theorem ly_ok_27_0 : ∀ i, i < 4 → ly_lay (ly_loc 27 i) = (27, i) ∧ ly_loc 27 i < 144 := by decide +kernel
theorem ly_ok_27 {n i : Nat} (h : i < 4) (hn : 144 ≤ n) : ly_ok n 27 i := ⟨(ly_ok_27_0 i h).1, Nat.lt_of_lt_of_le (ly_ok_27_0 i h).2 hn⟩
theorem ly_ok_30_0 : ∀ i, i < 1 → ly_lay (ly_loc 30 i) = (30, i) ∧ ly_loc 30 i < 144 := by decide +kernel
theorem ly_ok_30 {n i : Nat} (h : i < 1) (hn : 144 ≤ n) : ly_ok n 30 i := ⟨(ly_ok_30_0 i h).1, Nat.lt_of_lt_of_le (ly_ok_30_0 i h).2 hn⟩
theorem ly_ok_31_0 : ∀ i, i < 1 → ly_lay (ly_loc 31 i) = (31, i) ∧ ly_loc 31 i < 144 := by decide +kernel
theorem ly_ok_31 {n i : Nat} (h : i < 1) (hn : 144 ≤ n) : ly_ok n 31 i := ⟨(ly_ok_31_0 i h).1, Nat.lt_of_lt_of_le (ly_ok_31_0 i h).2 hn⟩
theorem ly_ok_32_0 : ∀ i, i < 1 → ly_lay (ly_loc 32 i) = (32, i) ∧ ly_loc 32 i < 144 := by decide +kernel
theorem ly_ok_32 {n i : Nat} (h : i < 1) (hn : 144 ≤ n) : ly_ok n 32 i := ⟨(ly_ok_32_0 i h).1, Nat.lt_of_lt_of_le (ly_ok_32_0 i h).2 hn⟩
theorem ly_ok_33_0 : ∀ i, i < 1 → ly_lay (ly_loc 33 i) = (33, i) ∧ ly_loc 33 i < 144 := by decide +kernel
theorem ly_ok_33 {n i : Nat} (h : i < 1) (hn : 144 ≤ n) : ly_ok n 33 i := ⟨(ly_ok_33_0 i h).1, Nat.lt_of_lt_of_le (ly_ok_33_0 i h).2 hn⟩
theorem ly_ok_34_0 : ∀ i, i < 1 → ly_lay (ly_loc 34 i) = (34, i) ∧ ly_loc 34 i < 144 := by decide +kernel
theorem ly_ok_34 {n i : Nat} (h : i < 1) (hn : 144 ≤ n) : ly_ok n 34 i := ⟨(ly_ok_34_0 i h).1, Nat.lt_of_lt_of_le (ly_ok_34_0 i h).2 hn⟩
theorem ly_ok_35_0 : ∀ i, i < 1 → ly_lay (ly_loc 35 i) = (35, i) ∧ ly_loc 35 i < 144 := by decide +kernel
theorem ly_ok_35 {n i : Nat} (h : i < 1) (hn : 144 ≤ n) : ly_ok n 35 i := ⟨(ly_ok_35_0 i h).1, Nat.lt_of_lt_of_le (ly_ok_35_0 i h).2 hn⟩
theorem ly_ok_36_0 : ∀ i, i < 1 → ly_lay (ly_loc 36 i) = (36, i) ∧ ly_loc 36 i < 144 := by decide +kernel
theorem ly_ok_36 {n i : Nat} (h : i < 1) (hn : 144 ≤ n) : ly_ok n 36 i := ⟨(ly_ok_36_0 i h).1, Nat.lt_of_lt_of_le (ly_ok_36_0 i h).2 hn⟩
theorem ly_ok_37_0 : ∀ i, i < 1 → ly_lay (ly_loc 37 i) = (37, i) ∧ ly_loc 37 i < 144 := by decide +kernel
theorem ly_ok_37 {n i : Nat} (h : i < 1) (hn : 144 ≤ n) : ly_ok n 37 i := ⟨(ly_ok_37_0 i h).1, Nat.lt_of_lt_of_le (ly_ok_37_0 i h).2 hn⟩
theorem ly_ok_38_0 : ∀ i, i < 1 → ly_lay (ly_loc 38 i) = (38, i) ∧ ly_loc 38 i < 144 := by decide +kernel
theorem ly_ok_38 {n i : Nat} (h : i < 1) (hn : 144 ≤ n) : ly_ok n 38 i := ⟨(ly_ok_38_0 i h).1, Nat.lt_of_lt_of_le (ly_ok_38_0 i h).2 hn⟩
theorem ly_ok_39_0 : ∀ i, i < 1 → ly_lay (ly_loc 39 i) = (39, i) ∧ ly_loc 39 i < 144 := by decide +kernel
theorem ly_ok_39 {n i : Nat} (h : i < 1) (hn : 144 ≤ n) : ly_ok n 39 i := ⟨(ly_ok_39_0 i h).1, Nat.lt_of_lt_of_le (ly_ok_39_0 i h).2 hn⟩
theorem ly_ok_40_0 : ∀ i, i < 1 → ly_lay (ly_loc 40 i) = (40, i) ∧ ly_loc 40 i < 144 := by decide +kernel
theorem ly_ok_40 {n i : Nat} (h : i < 1) (hn : 144 ≤ n) : ly_ok n 40 i := ⟨(ly_ok_40_0 i h).1, Nat.lt_of_lt_of_le (ly_ok_40_0 i h).2 hn⟩
theorem ly_ok_41_0 : ∀ i, i < 1 → ly_lay (ly_loc 41 i) = (41, i) ∧ ly_loc 41 i < 144 := by decide +kernel
theorem ly_ok_41 {n i : Nat} (h : i < 1) (hn : 144 ≤ n) : ly_ok n 41 i := ⟨(ly_ok_41_0 i h).1, Nat.lt_of_lt_of_le (ly_ok_41_0 i h).2 hn⟩
theorem ly_ok_42_0 : ∀ i, i < 1 → ly_lay (ly_loc 42 i) = (42, i) ∧ ly_loc 42 i < 144 := by decide +kernel
theorem ly_ok_42 {n i : Nat} (h : i < 1) (hn : 144 ≤ n) : ly_ok n 42 i := ⟨(ly_ok_42_0 i h).1, Nat.lt_of_lt_of_le (ly_ok_42_0 i h).2 hn⟩
theorem ly_ok_43_0 : ∀ i, i < 1 → ly_lay (ly_loc 43 i) = (43, i) ∧ ly_loc 43 i < 144 := by decide +kernel
theorem ly_ok_43 {n i : Nat} (h : i < 1) (hn : 144 ≤ n) : ly_ok n 43 i := ⟨(ly_ok_43_0 i h).1, Nat.lt_of_lt_of_le (ly_ok_43_0 i h).2 hn⟩
theorem ly_ok_44_0 : ∀ i, i < 1 → ly_lay (ly_loc 44 i) = (44, i) ∧ ly_loc 44 i < 144 := by decide +kernel
theorem ly_ok_44 {n i : Nat} (h : i < 1) (hn : 144 ≤ n) : ly_ok n 44 i := ⟨(ly_ok_44_0 i h).1, Nat.lt_of_lt_of_le (ly_ok_44_0 i h).2 hn⟩
theorem ly_ok_45_0 : ∀ i, i < 1 → ly_lay (ly_loc 45 i) = (45, i) ∧ ly_loc 45 i < 144 := by decide +kernel
theorem ly_ok_45 {n i : Nat} (h : i < 1) (hn : 144 ≤ n) : ly_ok n 45 i := ⟨(ly_ok_45_0 i h).1, Nat.lt_of_lt_of_le (ly_ok_45_0 i h).2 hn⟩
theorem ly_ok_46_0 : ∀ i, i < 1 → ly_lay (ly_loc 46 i) = (46, i) ∧ ly_loc 46 i < 144 := by decide +kernel
theorem ly_ok_46 {n i : Nat} (h : i < 1) (hn : 144 ≤ n) : ly_ok n 46 i := ⟨(ly_ok_46_0 i h).1, Nat.lt_of_lt_of_le (ly_ok_46_0 i h).2 hn⟩
theorem ly_ok_47_0 : ∀ i, i < 1 → ly_lay (ly_loc 47 i) = (47, i) ∧ ly_loc 47 i < 144 := by decide +kernel
theorem ly_ok_47 {n i : Nat} (h : i < 1) (hn : 144 ≤ n) : ly_ok n 47 i := ⟨(ly_ok_47_0 i h).1, Nat.lt_of_lt_of_le (ly_ok_47_0 i h).2 hn⟩
theorem ly_ok_48_0 : ∀ i, i < 1 → ly_lay (ly_loc 48 i) = (48, i) ∧ ly_loc 48 i < 144 := by decide +kernel
theorem ly_ok_48 {n i : Nat} (h : i < 1) (hn : 144 ≤ n) : ly_ok n 48 i := ⟨(ly_ok_48_0 i h).1, Nat.lt_of_lt_of_le (ly_ok_48_0 i h).2 hn⟩
theorem ly_ok_49_0 : ∀ i, i < 1 → ly_lay (ly_loc 49 i) = (49, i) ∧ ly_loc 49 i < 144 := by decide +kernel
theorem ly_ok_49 {n i : Nat} (h : i < 1) (hn : 144 ≤ n) : ly_ok n 49 i := ⟨(ly_ok_49_0 i h).1, Nat.lt_of_lt_of_le (ly_ok_49_0 i h).2 hn⟩
theorem ly_ok_50_0 : ∀ i, i < 1 → ly_lay (ly_loc 50 i) = (50, i) ∧ ly_loc 50 i < 144 := by decide +kernel
theorem ly_ok_50 {n i : Nat} (h : i < 1) (hn : 144 ≤ n) : ly_ok n 50 i := ⟨(ly_ok_50_0 i h).1, Nat.lt_of_lt_of_le (ly_ok_50_0 i h).2 hn⟩
theorem ly_ok_7 {n t : Nat} (h : 3 * t + 144 ≤ n) : ly_ok n 7 t := by
  have hl : ly_loc 7 t = if t = 0 then 111 else 141 + 3 * t := rfl
  unfold ly_ok
  by_cases h0 : t = 0
  · subst h0; exact ⟨by decide +kernel, Nat.lt_of_lt_of_le (show ly_loc 7 0 < 144 by decide +kernel) (by omega)⟩
  · rw [hl, if_neg h0]
    refine ⟨?_, by omega⟩
    unfold ly_lay
    rw [if_neg (by omega)]
    have e1 : (141 + 3 * t - 144) % 3 = 0 := by omega
    have e2 : (141 + 3 * t - 144) / 3 + 1 = t := by omega
    rw [e1, e2]
    rfl
theorem ly_ok_28 {n t : Nat} (h : 3 * t + 144 ≤ n) : ly_ok n 28 t := by
  have hl : ly_loc 28 t = if t = 0 then 112 else 142 + 3 * t := rfl
  unfold ly_ok
  by_cases h0 : t = 0
  · subst h0; exact ⟨by decide +kernel, Nat.lt_of_lt_of_le (show ly_loc 28 0 < 144 by decide +kernel) (by omega)⟩
  · rw [hl, if_neg h0]
    refine ⟨?_, by omega⟩
    unfold ly_lay
    rw [if_neg (by omega)]
    have e1 : (142 + 3 * t - 144) % 3 = 1 := by omega
    have e2 : (142 + 3 * t - 144) / 3 + 1 = t := by omega
    rw [e1, e2]
    rfl
theorem ly_ok_29 {n t : Nat} (h : 3 * t + 144 ≤ n) : ly_ok n 29 t := by
  have hl : ly_loc 29 t = if t = 0 then 113 else 143 + 3 * t := rfl
  unfold ly_ok
  by_cases h0 : t = 0
  · subst h0; exact ⟨by decide +kernel, Nat.lt_of_lt_of_le (show ly_loc 29 0 < 144 by decide +kernel) (by omega)⟩
  · rw [hl, if_neg h0]
    refine ⟨?_, by omega⟩
    unfold ly_lay
    rw [if_neg (by omega)]
    have e1 : (143 + 3 * t - 144) % 3 = 2 := by omega
    have e2 : (143 + 3 * t - 144) / 3 + 1 = t := by omega
    rw [e1, e2]
    rfl
abbrev cx_t (G : cx_T) : List (ClassId × FieldType) := [(cx_c G 0, .int), (cx_c G 1, .boolean), (cx_c G 2, .object "WhoSingsNext$Person"), (cx_c G 3, .object "WhoSingsNext$Slip"), (cx_c G 4, .object "WhoSingsNext$Text"), (cx_c G 5, .object "WhoSingsNext$Evening"), (cx_c G 6, .object "WhoSingsNext$Sheet")]
end
section
/-! ===== what holds of the tables and of what lay in the heap before ===== -/
def cx_strs : List (String × Nat × String) := [("WhoSingsNext", 54, "bears 10 ; takes 2 + mood ; first waited - sung * 9 ;"), ("WhoSingsNext$Reader", 110, "minute"), ("WhoSingsNext$Reader", 116, "waited"), ("WhoSingsNext$Reader", 118, "sung"), ("WhoSingsNext$Reader", 120, "sort"), ("WhoSingsNext$Reader", 122, "bar"), ("WhoSingsNext$Reader", 124, "mood"), ("WhoSingsNext$Reader", 126, "bears"), ("WhoSingsNext$Reader", 128, "takes"), ("WhoSingsNext$Reader", 130, "first"), ("WhoSingsNext$Reader", 132, "or"), ("WhoSingsNext$Reader", 134, "and"), ("WhoSingsNext$Reader", 136, "not"), ("WhoSingsNext$Reader", 102, "();+-*<=")]
def cx_len : List Nat := [53, 6, 6, 4, 4, 3, 4, 5, 5, 5, 2, 3, 3, 8]
def cx_byt : List (List Int32) := [[98, 101, 97, 114, 115, 32, 49, 48, 32, 59, 32, 116, 97, 107, 101, 115, 32, 50, 32, 43, 32, 109, 111, 111, 100, 32, 59, 32, 102, 105, 114, 115, 116, 32, 119, 97, 105, 116, 101, 100, 32, 45, 32, 115, 117, 110, 103, 32, 42, 32, 57, 32, 59], [109, 105, 110, 117, 116, 101], [119, 97, 105, 116, 101, 100], [115, 117, 110, 103], [115, 111, 114, 116], [98, 97, 114], [109, 111, 111, 100], [98, 101, 97, 114, 115], [116, 97, 107, 101, 115], [102, 105, 114, 115, 116], [111, 114], [97, 110, 100], [110, 111, 116], [40, 41, 59, 43, 45, 42, 60, 61]]
def nw_is : Cond → Bool
  | .fieldLinkNest .. => true
  | .methodLinkNest .. => true
  | _ => false
def nw_t : List Cond := lw_tbl.filter nw_is
theorem nw_mem {w : Cond} (k : Nat) (h : lw_tbl[k]? = some w) (g : nw_is w = true) : w ∈ nw_t := List.mem_filter.mpr ⟨List.mem_of_getElem? h, g⟩
theorem nw_warm {w : Cond} {s U : State} (h : w ∈ nw_t) (hW : s.WarmedH U.vm) (hZ : va_Nw w s) : va_Nw w U := by
  have hi := (List.mem_filter.mp h).2
  cases w <;> first | exact hZ.warmF hW | exact hZ.warmM hW | (exact absurd hi (by simp [nw_is]))
theorem nw_same {w : Cond} {u U : State} (h : w ∈ nw_t) (hv : u.vm = U.vm) (hZ : va_Nw w u) : va_Nw w U := by
  have hi := (List.mem_filter.mp h).2
  cases w <;> first | exact va_Nw.same rfl hv hZ | (exact absurd hi (by simp [nw_is]))
def cx_Kx (G : cx_T) (U : State) : Prop := va_K (cx_D G) vwCl (cx_t G) U ∧ vk_S 14 cx_len cx_byt (cx_K G) (cx_V G) (fun q => cx_b G ≤ q) U U.heap ∧ (∀ (i : Nat) (r : String × Nat × String), cx_strs[i]? = some r → vk_R r.1 r.2.1 r.2.2 (cx_K G i) U) ∧ va_Z "java/lang/String" "COMPACT_STRINGS" "Z" (.int 1) (fun q => cx_b G ≤ q) U U.heap ∧ va_Zq "jdk/internal/util/Preconditions" "SIOOBE_FORMATTER" "Ljava/util/function/BiFunction;" (fun q => cx_b G ≤ q) U U.heap ∧ ∀ w ∈ nw_t, va_Nw w U
theorem cx_Kx.at {G : cx_T} {s U : State} {H : Heap} {locs : List Loc} (h : cx_Kx G s) (hS : va_S (fun q => cx_b G ≤ q) s.heap H locs) (hU : U.heap = H) (hW : s.WarmedH U.vm) : cx_Kx G U := by
  obtain ⟨h1, h2, h3, h4, h5, h6⟩ := h
  refine ⟨va_K.moved hW.alike h1, ?_, fun i r hr => (h3 i r hr).warm hW, ?_, ?_, fun w hw => nw_warm hw hW (h6 w hw)⟩
  · rw [hU]; exact vk_S.moved hW.alike (h2.kept hS.2.1)
  · rw [hU]; exact va_Z.moved hW.alike (h4.kept hS.2.1)
  · rw [hU]; exact va_Zq.moved hW.alike (h5.kept hS.2.1)
theorem cx_Kx.call {G : cx_T} {U : State} {g : JFrame} {mk : MethodId} {a : Array Value} (h : cx_Kx G U) : cx_Kx G (U.calling g mk a) := by
  obtain ⟨h1, h2, h3, h4, h5, h6⟩ := h
  exact ⟨va_K.moved (u := U) (U := U.calling g mk a) (Vm.Alike.refl U.vm) h1, vk_S.moved (u := U) (U := U.calling g mk a) (Vm.Alike.refl U.vm) h2, fun i r hr => vk_R.same (u := U) (U := U.calling g mk a) rfl (h3 i r hr), va_Z.moved (u := U) (U := U.calling g mk a) (Vm.Alike.refl U.vm) h4, va_Zq.moved (u := U) (U := U.calling g mk a) (Vm.Alike.refl U.vm) h5, fun w hw => nw_same (u := U) (U := U.calling g mk a) hw rfl (h6 w hw)⟩
/-- a method's frame: the machine, its code, the tables -/
def cx_ok (G : cx_T) (p : Program) (s : State) (m : MethodId) (args : Array Value) (meth : Method) (c : Code) (cc : ByteArray) (nL : Nat) (own : String) (ret : Option FieldType) : Prop :=
  p.tables.exec = Jvm.exec ∧ c.code = cc ∧ c.maxLocals = nL ∧ s.vm.findClass own = some m.cls ∧ (∀ w ∈ gw_t, w.before args s = true) ∧ cx_Kx G s ∧ meth.sig.returnType = ret ∧ meth.locks = false
/-- the world at a place of the walk -/
def st_ok (G : cx_T) (n : Nat) (I J : mm_T) (s : State) (H : Heap) (locs : List Loc) : Prop :=
  va_P (cx_D G) vwCl (gm_W (cx_b G) n (ly_cell G (mm_mx I J))) H ∧ s.heap.size = cx_b G + n ∧ va_S (fun q => cx_b G ≤ q) s.heap H locs ∧ 144 ≤ n
def wd_ok (G : cx_T) (n : Nat) (I J : mm_T) (U : State) : Prop := va_P (cx_D G) vwCl (gm_W (cx_b G) n (ly_cell G (mm_mx I J))) U.heap ∧ U.heap.size = cx_b G + n ∧ 144 ≤ n
def wd_pre (G : cx_T) (n : Nat) (I J : mm_T) (U : State) : Prop := wd_ok G n I J U ∧ cx_Kx G U
abbrev cx_A (G : cx_T) : Nat → Prop := fun q => cx_b G ≤ q
def ct_qv (G : cx_T) (n : Nat) (I J : mm_T) : Array Value → State → Outcome → State → Prop := va_Qv (fun _ : Unit => True) (fun _ => wd_ok G n I J) (cx_A G)
def ct_qi (G : cx_T) (n : Nat) (I J : mm_T) (r : Int32) : Array Value → State → Outcome → State → Prop := va_Qi (fun (x : Int32) (_ : Unit) => x = r) (fun _ => wd_ok G n I J) (cx_A G)
def ct_ql (G : cx_T) (n : Nat) (I J : mm_T) (r : Int64) : Array Value → State → Outcome → State → Prop := va_Ql (fun (x : Int64) (_ : Unit) => x = r) (fun _ => wd_ok G n I J) (cx_A G)
def ct_qr (G : cx_T) (n : Nat) (I J : mm_T) (a : Nat) : Array Value → State → Outcome → State → Prop := va_Qr (fun _ : Unit => True) (fun _ x t => x = a ∧ wd_ok G n I J t) (cx_A G)
/-- a contract: from memory (I, J) with these arguments to the end Qc -/
def ct_m (l : Launch) (G : cx_T) (n : Nat) (y : MethodName) (cc : ByteArray) (ml : Nat) (ret : Option FieldType) (rm : Room) (av : List Value) (I J : mm_T) (Qc : Array Value → State → Outcome → State → Prop) : Prop :=
  Met l y (.code y cc ml ret :: gw_t) rm (va_Pc av (wd_pre G n I J)) Qc 0 0 (cx_A G)
theorem wd_blind {G : cx_T} {n : Nat} {I J : mm_T} {av : List Value} : FrameBlind (va_Pc av (wd_pre G n I J)) := fun a U g mk q => ⟨q.1, q.2.1, q.2.2.call⟩
theorem ct_en {l : Launch} {G : cx_T} {n : Nat} {y : MethodName} {cc : ByteArray} {ml : Nat} {ret : Option FieldType} {rm : Room} {av : List Value} {I J : mm_T} {Qc : Array Value → State → Outcome → State → Prop} (hy : plainName y.cls = true) (hav : (lg_sl av).length ≤ ml)
    (body : ∀ (p : Program) (e : Env) (s : State) (m : MethodId) (args : Array Value) (below : List Frame) (meth : Method) (c : Code) (ls : Array Slot), cx_ok G p s m args meth c cc ml y.cls ret → st_ok G n I J s s.heap [] → lv_has ls ml (lv_args 0 av) → W p l e rm s m args below meth c s.heap [] 0 0 (MQ below Qc args s 0 0 (cx_A G)) (F0 m 0 ls [])) : ct_m l G n y cc ml ret rm av I J Qc := by
  unfold ct_m
  refine Met.ofW (cc := cc) (maxL := ml) (ret := ret) hy rfl ?_
  intro p e s m args below meth c s₁ B hml hv
  obtain ⟨rfl, ⟨hP, hsz, hn⟩, hK⟩ := hv
  have hts := atoms_spec (ws := .code y cc ml ret :: gw_t) B.pre
  have hl := lv_entry av (n := ml) hav
  rw [lg_entry_eq]
  exact body p e s m av.toArray below meth c _ ⟨B.exec, B.bytes, hml, findClass_of_methodNamed B.named, fun w h => hts w (List.mem_cons_of_mem _ h), hK, B.returns, B.notSynchronized⟩ ⟨hP, hsz, va_S.rf, hn⟩ hl
section RW
variable {p : Program} {l : Launch} {e : Env} {R : Room} {s : State} {m : MethodId} {args : Array Value} {below : List Frame} {meth : Method} {c : Code} {H : Heap} {locs : List Loc} {cells slots : Nat} {Q : State → Prop}
variable {cc : ByteArray} {pc : Nat} {ls : Array Slot} {rest : List Value} {G : cx_T} {n nL : Nat} {I J : mm_T} {own : String} {ret : Option FieldType}
theorem r_size {g : JFrame} (kk : s.heap.size ≤ H.size → H.size ≤ s.heap.size + cells → W p l e R s m args below meth c H locs cells slots Q g) : W p l e R s m args below meth c H locs cells slots Q g := fun T hT X => kk (by rw [← hT]; exact X.same.2.1) (by rw [← hT]; exact X.same.2.2.1) T hT X
theorem st_ok.wd (S : st_ok G n I J s H locs) (h1 : s.heap.size ≤ H.size) (h2 : H.size ≤ s.heap.size + 0) {t : State} (ht : t.heap = H) : wd_ok G n I J t := ⟨by rw [ht]; exact S.1, by rw [ht]; have := S.2.1; omega, S.2.2.2⟩
theorem st_ok.wb {t : State} (S : st_ok G n I J s H locs) {I' J' : mm_T} {H1 : Heap} {locs1 : List Loc} (h : wd_ok G n I' J' t) (ht : t.heap = H1) (hS : va_S (cx_A G) s.heap H1 locs1) : st_ok G n I' J' s H1 locs1 := ⟨by rw [← ht]; exact h.1, S.2.1, hS, h.2.2⟩
theorem st_ok.pre (X : cx_ok G p s m args meth c cc nL own ret) (S : st_ok G n I J s H locs) (h1 : s.heap.size ≤ H.size) (h2 : H.size ≤ s.heap.size + 0) {U : State} (hU : U.heap = H) (hW : s.WarmedH U.vm) : wd_pre G n I J U := ⟨S.wd h1 h2 hU, X.2.2.2.2.2.1.at S.2.2.1 hU hW⟩
/-! ends -/
theorem r_vret (X : cx_ok G p s m args meth c cc nL own none) (S : st_ok G n I J s H locs) (hd : decode cc pc = .ok (.return_, 1)) : W p l e R s m args below meth c H locs 0 0 (MQ below (ct_qv G n I J) args s 0 0 (cx_A G)) (F0 m pc ls []) :=
  r_size (fun h1 h2 => W.vret X.1 X.2.1 X.2.2.2.2.2.2.1 (fun t ht hW => ⟨⟨(), rfl, trivial, S.wd h1 h2 ht⟩, S.2.2.1.F ht⟩) S.2.2.1.2.2 hd X.2.2.2.2.2.2.2)
theorem r_iret (X : cx_ok G p s m args meth c cc nL own (some .int)) (S : st_ok G n I J s H locs) {v : Int32} (hd : decode cc pc = .ok (.ireturn, 1)) : W p l e R s m args below meth c H locs 0 0 (MQ below (ct_qi G n I J v) args s 0 0 (cx_A G)) (F0 m pc ls [.int v]) :=
  r_size (fun h1 h2 => W.iret X.1 X.2.1 X.2.2.2.2.2.2.1 (fun t ht hW => ⟨⟨v, (), rfl, rfl, S.wd h1 h2 ht⟩, S.2.2.1.F ht⟩) S.2.2.1.2.2 hd X.2.2.2.2.2.2.2)
theorem r_zret (X : cx_ok G p s m args meth c cc nL own (some .boolean)) (S : st_ok G n I J s H locs) {v : Int32} (hv : narrow .boolean (.int v) = .int v) (hd : decode cc pc = .ok (.ireturn, 1)) : W p l e R s m args below meth c H locs 0 0 (MQ below (ct_qi G n I J v) args s 0 0 (cx_A G)) (F0 m pc ls [.int v]) :=
  r_size (fun h1 h2 => W.zret X.1 X.2.1 X.2.2.2.2.2.2.1 hv (fun t ht hW => ⟨⟨v, (), rfl, rfl, S.wd h1 h2 ht⟩, S.2.2.1.F ht⟩) S.2.2.1.2.2 hd X.2.2.2.2.2.2.2)
theorem r_lret (X : cx_ok G p s m args meth c cc nL own (some .long)) (S : st_ok G n I J s H locs) {v : Int64} (hd : decode cc pc = .ok (.lreturn, 1)) : W p l e R s m args below meth c H locs 0 0 (MQ below (ct_ql G n I J v) args s 0 0 (cx_A G)) (F0 m pc ls [.long v]) :=
  r_size (fun h1 h2 => W.lret X.1 X.2.1 X.2.2.2.2.2.2.1 (fun t ht hW => ⟨⟨v, (), rfl, rfl, S.wd h1 h2 ht⟩, S.2.2.1.F ht⟩) S.2.2.1.2.2 hd X.2.2.2.2.2.2.2)
theorem r_aret {C : String} (X : cx_ok G p s m args meth c cc nL own (some (.object C))) (S : st_ok G n I J s H locs) {a : Nat} (hd : decode cc pc = .ok (.areturn, 1)) : W p l e R s m args below meth c H locs 0 0 (MQ below (ct_qr G n I J a) args s 0 0 (cx_A G)) (F0 m pc ls [.ref a]) :=
  r_size (fun h1 h2 => W.aret X.1 X.2.1 X.2.2.2.2.2.2.1 (Or.inl ⟨_, rfl⟩) (Or.inr ⟨_, rfl⟩) (fun t ht hW => ⟨⟨(), a, rfl, trivial, rfl, S.wd h1 h2 ht⟩, S.2.2.1.F ht⟩) S.2.2.1.2.2 hd X.2.2.2.2.2.2.2)
/-! fields -/
theorem r_get (X : cx_ok G p s m args meth c cc nL own ret) (S : st_ok G n I J s H locs) {k i ci idx : Nat} (ho : ly_ok n k i) {fs : List Value} (hf : ly_K G k i (mm_mx I J k i) = .inr (ci, fs)) {C : String} {T : u_T} {N : Nat} (hc : vwCl[ci]? = some (C, T, N)) (hin : ∀ w ∈ u_ws C T N, w ∈ gw_t) (j : Nat) (hj : j < N) (hw : Cond.fieldLink own idx (T j).1 (T j).2.1 (T j).2.2.1 ∈ gw_t) {v : Value} (hv : fs[j]? = some v) (hd : decode cc pc = .ok (.getfield idx, 3))
    (kk : W p l e R s m args below meth c H locs cells slots Q (F0 m (pc + 3) ls (v :: rest))) : W p l e R s m args below meth c H locs cells slots Q (F0 m pc ls (.ref (cx_b G + ly_loc k i) :: rest)) :=
  va_get (D := cx_D G) (ci := ci) (v := v) (C := C) (T := T) (N := N) X.1 X.2.1 X.2.2.2.2.1 hin X.2.2.2.1 X.2.2.2.2.2.1.1 S.1 (ly_loc k i) (by rw [ly_get ho, hf]) hc j hj (X.2.2.2.2.1 _ hw) (fun _ h => h) hv hd kk
theorem r_getN (X : cx_ok G p s m args meth c cc nL own ret) (S : st_ok G n I J s H locs) {k i ci idx : Nat} {host : String} (ho : ly_ok n k i) {fs : List Value} (hf : ly_K G k i (mm_mx I J k i) = .inr (ci, fs)) {C : String} {T : u_T} {N : Nat} (hc : vwCl[ci]? = some (C, T, N)) (hin : ∀ w ∈ u_ws C T N, w ∈ gw_t) (j : Nat) (hj : j < N) (hw : Cond.fieldLinkNest own idx (T j).1 (T j).2.1 (T j).2.2.1 host ∈ nw_t) {v : Value} (hv : fs[j]? = some v) (hd : decode cc pc = .ok (.getfield idx, 3))
    (kk : W p l e R s m args below meth c H locs cells slots Q (F0 m (pc + 3) ls (v :: rest))) : W p l e R s m args below meth c H locs cells slots Q (F0 m pc ls (.ref (cx_b G + ly_loc k i) :: rest)) :=
  va_getN (D := cx_D G) (ci := ci) (v := v) (C := C) (T := T) (N := N) X.1 X.2.1 X.2.2.2.2.1 hin X.2.2.2.1 X.2.2.2.2.2.1.1 S.1 (ly_loc k i) (by rw [ly_get ho, hf]) hc j hj ((X.2.2.2.2.2.1.2.2.2.2.2 _ hw).use rfl) (fun _ h => h) hv hd kk
theorem st_rowI (S : st_ok G n I J s H locs) {k i : Nat} (hm : mm_m k = false) {f : Nat → Int32} {H1 : Heap} {locs1 : List Loc} (hP : va_P (cx_D G) vwCl (gm_W (cx_b G) n (ly_cell G (mm_row (mm_mx I J) k i f))) H1) (hS : va_S (cx_A G) s.heap H1 locs1) : st_ok G n (mm_row I k i f) J s H1 locs1 := ⟨by rw [mm_mx_rowI hm]; exact hP, S.2.1, hS, S.2.2.2⟩
theorem st_rowJ (S : st_ok G n I J s H locs) {k i : Nat} (hm : mm_m k = true) {f : Nat → Int32} {H1 : Heap} {locs1 : List Loc} (hP : va_P (cx_D G) vwCl (gm_W (cx_b G) n (ly_cell G (mm_row (mm_mx I J) k i f))) H1) (hS : va_S (cx_A G) s.heap H1 locs1) : st_ok G n I (mm_row J k i f) s H1 locs1 := ⟨by rw [mm_mx_rowJ hm]; exact hP, S.2.1, hS, S.2.2.2⟩
theorem r_putI (X : cx_ok G p s m args meth c cc nL own ret) (S : st_ok G n I J s H locs) {k i ci idx : Nat} (ho : ly_ok n k i) (hm : mm_m k = false) {fs : List Value} (hf : ly_K G k i (mm_mx I J k i) = .inr (ci, fs)) {C : String} {T : u_T} {N : Nat} {ty0 : Nat → FieldType} (hc : vwCl[ci]? = some (C, T, N)) (hin : ∀ w ∈ u_ws C T N, w ∈ gw_t) (hty : ∀ k, k < N → parseFieldDescriptor (T k).2.2.1 = some (ty0 k)) (hnm : ∀ a, a < N → ∀ b, b < N → a ≠ b → (T a).2.1 ≠ (T b).2.1) (j : Nat) (hj : j < N) (hw : Cond.fieldLink own idx (T j).1 (T j).2.1 (T j).2.2.1 ∈ gw_t ∨ ∃ host, Cond.fieldLinkNest own idx (T j).1 (T j).2.1 (T j).2.2.1 host ∈ nw_t) (hfin : (T j).2.2.2 = false) {v : Value} {x : Int32} (hn : narrow (ty0 j) v = v) (hfit : fits (ty0 j) v = true) (hl : j < fs.length) (hu : ly_K G k i (upd (mm_mx I J k i) j x) = .inr (ci, fs.set j v)) (hd : decode cc pc = .ok (.putfield idx, 3))
    (kk : ∀ (I1 : mm_T) (H1 : Heap) (locs1 : List Loc), I1 = mm_up I k i j x → st_ok G n I1 J s H1 locs1 → W p l e R s m args below meth c H1 locs1 cells slots Q (F0 m (pc + 3) ls rest)) : W p l e R s m args below meth c H locs cells slots Q (F0 m pc ls (v :: .ref (cx_b G + ly_loc k i) :: rest)) := by
  rcases hw with hw | ⟨host, hw⟩
  · refine va_put (D := cx_D G) (ci := ci) (v := v) (ty := ty0 j) (C := C) (T := T) (N := N) X.1 X.2.1 X.2.2.2.2.1 hin ty0 hty hnm X.2.2.2.1 X.2.2.2.2.2.1.1 S.1 gm_D S.2.2.1 (ly_loc k i) (by rw [ly_get ho, hf]) hc j hj (X.2.2.2.2.1 _ hw) (fun _ h => h) hfin (hty j hj) hn hfit hl hd (fun H1 locs1 hP _ hS => ?_)
    rw [ly_set ho hu] at hP
    refine kk _ H1 locs1 rfl (st_rowI S hm ?_ hS)
    rw [mm_mx_I hm] at hP
    exact hP
  · refine va_putN (D := cx_D G) (ci := ci) (v := v) (ty := ty0 j) (C := C) (T := T) (N := N) X.1 X.2.1 X.2.2.2.2.1 hin ty0 hty hnm X.2.2.2.1 X.2.2.2.2.2.1.1 S.1 gm_D S.2.2.1 (ly_loc k i) (by rw [ly_get ho, hf]) hc j hj ((X.2.2.2.2.2.1.2.2.2.2.2 _ hw).use rfl) (fun _ h => h) hfin (hty j hj) hn hfit hl hd (fun H1 locs1 hP _ hS => ?_)
    rw [ly_set ho hu] at hP
    refine kk _ H1 locs1 rfl (st_rowI S hm ?_ hS)
    rw [mm_mx_I hm] at hP
    exact hP
theorem r_putJ (X : cx_ok G p s m args meth c cc nL own ret) (S : st_ok G n I J s H locs) {k i ci idx : Nat} (ho : ly_ok n k i) (hm : mm_m k = true) {fs : List Value} (hf : ly_K G k i (mm_mx I J k i) = .inr (ci, fs)) {C : String} {T : u_T} {N : Nat} {ty0 : Nat → FieldType} (hc : vwCl[ci]? = some (C, T, N)) (hin : ∀ w ∈ u_ws C T N, w ∈ gw_t) (hty : ∀ k, k < N → parseFieldDescriptor (T k).2.2.1 = some (ty0 k)) (hnm : ∀ a, a < N → ∀ b, b < N → a ≠ b → (T a).2.1 ≠ (T b).2.1) (j : Nat) (hj : j < N) (hw : Cond.fieldLink own idx (T j).1 (T j).2.1 (T j).2.2.1 ∈ gw_t) (hfin : (T j).2.2.2 = false) {v : Value} {x : Int32} (hn : narrow (ty0 j) v = v) (hfit : fits (ty0 j) v = true) (hl : j < fs.length) (hu : ly_K G k i (upd (mm_mx I J k i) j x) = .inr (ci, fs.set j v)) (hd : decode cc pc = .ok (.putfield idx, 3))
    (kk : ∀ (J1 : mm_T) (H1 : Heap) (locs1 : List Loc), J1 = mm_up J k i j x → st_ok G n I J1 s H1 locs1 → W p l e R s m args below meth c H1 locs1 cells slots Q (F0 m (pc + 3) ls rest)) : W p l e R s m args below meth c H locs cells slots Q (F0 m pc ls (v :: .ref (cx_b G + ly_loc k i) :: rest)) := by
  refine va_put (D := cx_D G) (ci := ci) (v := v) (ty := ty0 j) (C := C) (T := T) (N := N) X.1 X.2.1 X.2.2.2.2.1 hin ty0 hty hnm X.2.2.2.1 X.2.2.2.2.2.1.1 S.1 gm_D S.2.2.1 (ly_loc k i) (by rw [ly_get ho, hf]) hc j hj (X.2.2.2.2.1 _ hw) (fun _ h => h) hfin (hty j hj) hn hfit hl hd (fun H1 locs1 hP _ hS => ?_)
  rw [ly_set ho hu] at hP
  refine kk _ H1 locs1 rfl (st_rowJ S hm ?_ hS)
  rw [mm_mx_J hm] at hP
  exact hP
/-! arrays -/
def ix_in (i : Int32) (n : Nat) : Bool := decide (¬ (i < 0 ∨ n ≤ i.toNatClampNeg))
theorem ix_vp {i : Int32} {n : Nat} (h : ix_in i n = true) : vp_in i n := by unfold ix_in at h; unfold vp_in; exact of_decide_eq_true h
theorem r_iald (X : cx_ok G p s m args meth c cc nL own ret) (S : st_ok G n I J s H locs) {k i N : Nat} {f : Nat → Int32} (ho : ly_ok n k i) (hf : ly_K G k i (mm_mx I J k i) = .inl (cx_c G 0, N, .inl f)) {x : Int32} (hx : ix_in x N = true) (hd : decode cc pc = .ok (.iaload, 1))
    (kk : W p l e R s m args below meth c H locs cells slots Q (F0 m (pc + 1) ls (.int (f x.toNatClampNeg) :: rest))) : W p l e R s m args below meth c H locs cells slots Q (F0 m pc ls (.int x :: .ref (cx_b G + ly_loc k i) :: rest)) :=
  va_iald X.1 X.2.1 X.2.2.2.2.2.1.1 S.1 (ly_loc k i) 0 (by rw [ly_get ho, hf]) rfl (ix_vp hx) hd kk
theorem r_zald (X : cx_ok G p s m args meth c cc nL own ret) (S : st_ok G n I J s H locs) {k i N : Nat} {f : Nat → Int32} (ho : ly_ok n k i) (hf : ly_K G k i (mm_mx I J k i) = .inl (cx_c G 1, N, .inl f)) {x : Int32} (hx : ix_in x N = true) (hd : decode cc pc = .ok (.baload, 1))
    (kk : W p l e R s m args below meth c H locs cells slots Q (F0 m (pc + 1) ls (.int (f x.toNatClampNeg) :: rest))) : W p l e R s m args below meth c H locs cells slots Q (F0 m pc ls (.int x :: .ref (cx_b G + ly_loc k i) :: rest)) :=
  va_zald X.1 X.2.1 X.2.2.2.2.2.1.1 S.1 (ly_loc k i) 1 (by rw [ly_get ho, hf]) rfl (ix_vp hx) hd kk
theorem r_aald (X : cx_ok G p s m args meth c cc nL own ret) (S : st_ok G n I J s H locs) {k i N t0 : Nat} {C : String} {f : Nat → Option Nat} (ho : ly_ok n k i) (hf : ly_K G k i (mm_mx I J k i) = .inl (cx_c G t0, N, .inr (.inr (.inr (.inr f))))) (ht : (cx_t G)[t0]? = some (cx_c G t0, .object C)) {x : Int32} (hx : ix_in x N = true) {a : Nat} (ha : f x.toNatClampNeg = some a) (hd : decode cc pc = .ok (.aaload, 1))
    (kk : W p l e R s m args below meth c H locs cells slots Q (F0 m (pc + 1) ls (.ref a :: rest))) : W p l e R s m args below meth c H locs cells slots Q (F0 m pc ls (.int x :: .ref (cx_b G + ly_loc k i) :: rest)) :=
  va_aldq X.1 X.2.1 X.2.2.2.2.2.1.1 S.1 (ly_loc k i) t0 (by rw [ly_get ho, hf]) ht (ix_vp hx) hd (by rw [ha]; exact kk)
theorem r_alen (X : cx_ok G p s m args meth c cc nL own ret) (S : st_ok G n I J s H locs) {k i : Nat} {x : vp_A} (ho : ly_ok n k i) (hf : ly_K G k i (mm_mx I J k i) = .inl (cx_c G 0, x)) {v : Int32} (hv : Int32.ofNat x.1 = v) (hd : decode cc pc = .ok (.arraylength, 1))
    (kk : W p l e R s m args below meth c H locs cells slots Q (F0 m (pc + 1) ls (.int v :: rest))) : W p l e R s m args below meth c H locs cells slots Q (F0 m pc ls (.ref (cx_b G + ly_loc k i) :: rest)) :=
  va_alen X.1 X.2.1 X.2.2.2.2.2.1.1 S.1 (ly_loc k i) 0 (by rw [ly_get ho, hf]) (ty := .int) rfl hv hd kk
theorem r_iastI (X : cx_ok G p s m args meth c cc nL own ret) (S : st_ok G n I J s H locs) {k i N : Nat} (ho : ly_ok n k i) (hm : mm_m k = false) (hf : ∀ f : Nat → Int32, ly_K G k i f = .inl (cx_c G 0, N, .inl f)) {x y : Int32} (hx : ix_in x N = true) (hd : decode cc pc = .ok (.iastore, 1))
    (kk : ∀ (I1 : mm_T) (H1 : Heap) (locs1 : List Loc), I1 = mm_up I k i x.toNatClampNeg y → st_ok G n I1 J s H1 locs1 → W p l e R s m args below meth c H1 locs1 cells slots Q (F0 m (pc + 1) ls rest)) : W p l e R s m args below meth c H locs cells slots Q (F0 m pc ls (.int y :: .int x :: .ref (cx_b G + ly_loc k i) :: rest)) := by
  refine va_iast X.1 X.2.1 X.2.2.2.2.2.1.1 S.1 gm_D S.2.2.1 (ly_loc k i) 0 (by rw [ly_get ho, hf]) rfl (ix_vp hx) hd (fun H1 locs1 hP _ hS => ?_)
  rw [ly_set ho (hf _)] at hP
  refine kk _ H1 locs1 rfl (st_rowI S hm ?_ hS)
  rw [mm_mx_I hm] at hP
  exact hP
theorem r_iastJ (X : cx_ok G p s m args meth c cc nL own ret) (S : st_ok G n I J s H locs) {k i N : Nat} (ho : ly_ok n k i) (hm : mm_m k = true) (hf : ∀ f : Nat → Int32, ly_K G k i f = .inl (cx_c G 0, N, .inl f)) {x y : Int32} (hx : ix_in x N = true) (hd : decode cc pc = .ok (.iastore, 1))
    (kk : ∀ (J1 : mm_T) (H1 : Heap) (locs1 : List Loc), J1 = mm_up J k i x.toNatClampNeg y → st_ok G n I J1 s H1 locs1 → W p l e R s m args below meth c H1 locs1 cells slots Q (F0 m (pc + 1) ls rest)) : W p l e R s m args below meth c H locs cells slots Q (F0 m pc ls (.int y :: .int x :: .ref (cx_b G + ly_loc k i) :: rest)) := by
  refine va_iast X.1 X.2.1 X.2.2.2.2.2.1.1 S.1 gm_D S.2.2.1 (ly_loc k i) 0 (by rw [ly_get ho, hf]) rfl (ix_vp hx) hd (fun H1 locs1 hP _ hS => ?_)
  rw [ly_set ho (hf _)] at hP
  refine kk _ H1 locs1 rfl (st_rowJ S hm ?_ hS)
  rw [mm_mx_J hm] at hP
  exact hP
theorem r_zastJ (X : cx_ok G p s m args meth c cc nL own ret) (S : st_ok G n I J s H locs) {k i N : Nat} (ho : ly_ok n k i) (hm : mm_m k = true) (hf : ∀ f : Nat → Int32, ly_K G k i f = .inl (cx_c G 1, N, .inl f)) {x y : Int32} (hx : ix_in x N = true) (hd : decode cc pc = .ok (.bastore, 1))
    (kk : ∀ (J1 : mm_T) (H1 : Heap) (locs1 : List Loc), J1 = mm_up J k i x.toNatClampNeg (vp_nar .boolean y) → st_ok G n I J1 s H1 locs1 → W p l e R s m args below meth c H1 locs1 cells slots Q (F0 m (pc + 1) ls rest)) : W p l e R s m args below meth c H locs cells slots Q (F0 m pc ls (.int y :: .int x :: .ref (cx_b G + ly_loc k i) :: rest)) := by
  refine va_zast X.1 X.2.1 X.2.2.2.2.2.1.1 S.1 gm_D S.2.2.1 (ly_loc k i) 1 (by rw [ly_get ho, hf]) rfl (ix_vp hx) hd (fun H1 locs1 hP _ hS => ?_)
  rw [ly_set ho (hf _)] at hP
  refine kk _ H1 locs1 rfl (st_rowJ S hm ?_ hS)
  rw [mm_mx_J hm] at hP
  exact hP
theorem r_recv (X : cx_ok G p s m args meth c cc nL own ret) (S : st_ok G n I J s H locs) {k i ci : Nat} (ho : ly_ok n k i) {fs : List Value} (hf : ly_K G k i (mm_mx I J k i) = .inr (ci, fs)) {C : String} {T : u_T} {N : Nat} (hc : vwCl[ci]? = some (C, T, N)) : ∃ cell : Cell, H[cx_b G + ly_loc k i]? = some cell ∧ cell.vm.isStatics = false ∧ s.vm.findClass C = some cell.cls :=
  va_recv (q := (C, T, N)) X.2.2.2.2.2.1.1 S.1 hc (by rw [ly_get ho, hf])
theorem r_Vv (X : cx_ok G p s m args meth c cc nL own ret) (S : st_ok G n I J s H locs) {y : MethodName} {cy : ByteArray} {ml : Nat} {ry : Option FieldType} {rm : Room} {a : Nat} {As : List Value} {I1 J1 : mm_T} (hM : ct_m l G n y cy ml ry rm (.ref a :: As) I J (ct_qv G n I1 J1)) {C : String} {idx np : Nat} (hG : GoodIn gw_t (wsV own idx C y (.code y cy ml ry :: gw_t))) (hy : y.cls = C ∧ y.cls ≠ "java/lang/invoke/MethodHandle" ∧ y.cls ≠ "java/lang/invoke/VarHandle" ∧ (parseMethodDescriptor y.desc).map (fun d => d.parameters.length) = some np) (hrc : rm.cells = 0 ∧ rm.slots = 0) (hR : rm.frames + 1 ≤ R.frames ∧ 8 + (ml + 11) + rm.locals ≤ R.locals) (hrec : ∃ cell : Cell, H[a]? = some cell ∧ cell.vm.isStatics = false ∧ s.vm.findClass C = some cell.cls) (hn : As.length = np) {st0 : List Value} (hst : st0 = As.reverse ++ .ref a :: rest) (hls : ls.size = nL) (hro : (rest.map fun v => v.category).sum ≤ 8) (hd : decode cc pc = .ok (.invokevirtual idx, 3))
    (kk : ∀ (H1 : Heap) (locs1 : List Loc), st_ok G n I1 J1 s H1 locs1 → W p l e R s m args below meth c H1 locs1 0 0 Q (F0 m (pc + 3) ls (rest))) : W p l e R s m args below meth c H locs 0 0 Q (F0 m pc ls st0) := by
  subst hst
  refine r_size (fun h1 h2 => ?_)
  refine va_callv (va_runV (As := As) (rest := rest) ⟨X.1, X.2.1, X.2.2.1, X.2.2.2.1, X.2.2.2.2.1⟩ hM (cwV np X.2.2.2.2.1 hG rfl hrc.1 hrc.2 hy hR) ⟨wd_blind, hrec, fun U hU hW => ⟨rfl, S.pre X h1 h2 hU hW⟩⟩ rfl hn hls rfl (lv_room hro) hd ⟨Nat.zero_le _, Nat.zero_le _⟩) S.2.2.1 (fun _ _ h => h) (fun _ h => h) (fun u t H1 locs1 ht hvm hw hB hz1 hk1 hS => ?_)
  exact kk H1 locs1 (S.wb hB ht hS)
theorem r_Sv (X : cx_ok G p s m args meth c cc nL own ret) (S : st_ok G n I J s H locs) {y : MethodName} {cy : ByteArray} {ml : Nat} {ry : Option FieldType} {rm : Room} {As : List Value} {I1 J1 : mm_T} (hM : ct_m l G n y cy ml ry rm As I J (ct_qv G n I1 J1)) {idx np : Nat} (hG : GoodIn gw_t (va_wsS own idx y (.code y cy ml ry :: gw_t))) (hy : y.cls ≠ "java/lang/invoke/MethodHandle" ∧ y.cls ≠ "java/lang/invoke/VarHandle" ∧ (parseMethodDescriptor y.desc).map (fun d => d.parameters.length) = some np) (hrc : rm.cells = 0 ∧ rm.slots = 0) (hR : rm.frames + 1 ≤ R.frames ∧ 8 + (ml + 11) + rm.locals ≤ R.locals) (hn : As.length = np) {st0 : List Value} (hst : st0 = As.reverse ++ rest) (hls : ls.size = nL) (hro : (rest.map fun v => v.category).sum ≤ 8) (hd : decode cc pc = .ok (.invokestatic idx, 3))
    (kk : ∀ (H1 : Heap) (locs1 : List Loc), st_ok G n I1 J1 s H1 locs1 → W p l e R s m args below meth c H1 locs1 0 0 Q (F0 m (pc + 3) ls (rest))) : W p l e R s m args below meth c H locs 0 0 Q (F0 m pc ls st0) := by
  subst hst
  refine r_size (fun h1 h2 => ?_)
  refine va_callv (va_runS (As := As) (rest := rest) ⟨X.1, X.2.1, X.2.2.1, X.2.2.2.1, X.2.2.2.2.1⟩ hM (va_cwS np X.2.2.2.2.1 hG rfl hrc.1 hrc.2 hy hR) ⟨wd_blind, fun U hU hW => ⟨rfl, S.pre X h1 h2 hU hW⟩⟩ rfl hn hls rfl (lv_room hro) hd ⟨Nat.zero_le _, Nat.zero_le _⟩) S.2.2.1 (fun _ _ h => h) (fun _ h => h) (fun u t H1 locs1 ht hvm hw hB hz1 hk1 hS => ?_)
  exact kk H1 locs1 (S.wb hB ht hS)
theorem r_Vi (X : cx_ok G p s m args meth c cc nL own ret) (S : st_ok G n I J s H locs) {y : MethodName} {cy : ByteArray} {ml : Nat} {ry : Option FieldType} {rm : Room} {a : Nat} {As : List Value} {I1 J1 : mm_T} {r : Int32} (hM : ct_m l G n y cy ml ry rm (.ref a :: As) I J (ct_qi G n I1 J1 r)) {C : String} {idx np : Nat} (hG : GoodIn gw_t (wsV own idx C y (.code y cy ml ry :: gw_t))) (hy : y.cls = C ∧ y.cls ≠ "java/lang/invoke/MethodHandle" ∧ y.cls ≠ "java/lang/invoke/VarHandle" ∧ (parseMethodDescriptor y.desc).map (fun d => d.parameters.length) = some np) (hrc : rm.cells = 0 ∧ rm.slots = 0) (hR : rm.frames + 1 ≤ R.frames ∧ 8 + (ml + 11) + rm.locals ≤ R.locals) (hrec : ∃ cell : Cell, H[a]? = some cell ∧ cell.vm.isStatics = false ∧ s.vm.findClass C = some cell.cls) (hn : As.length = np) {st0 : List Value} (hst : st0 = As.reverse ++ .ref a :: rest) (hls : ls.size = nL) (hro : (rest.map fun v => v.category).sum ≤ 8) (hd : decode cc pc = .ok (.invokevirtual idx, 3))
    (kk : ∀ (H1 : Heap) (locs1 : List Loc), st_ok G n I1 J1 s H1 locs1 → W p l e R s m args below meth c H1 locs1 0 0 Q (F0 m (pc + 3) ls (.int r :: rest))) : W p l e R s m args below meth c H locs 0 0 Q (F0 m pc ls st0) := by
  subst hst
  refine r_size (fun h1 h2 => ?_)
  refine va_calli (va_runV (As := As) (rest := rest) ⟨X.1, X.2.1, X.2.2.1, X.2.2.2.1, X.2.2.2.2.1⟩ hM (cwV np X.2.2.2.2.1 hG rfl hrc.1 hrc.2 hy hR) ⟨wd_blind, hrec, fun U hU hW => ⟨rfl, S.pre X h1 h2 hU hW⟩⟩ rfl hn hls rfl (lv_room hro) hd ⟨Nat.zero_le _, Nat.zero_le _⟩) S.2.2.1 (fun _ _ h => h) (fun _ h => h) (fun rr u t H1 locs1 ht hvm hw hB hz1 hk1 hS => ?_)
  subst hw; exact kk H1 locs1 (S.wb hB ht hS)
theorem r_Si (X : cx_ok G p s m args meth c cc nL own ret) (S : st_ok G n I J s H locs) {y : MethodName} {cy : ByteArray} {ml : Nat} {ry : Option FieldType} {rm : Room} {As : List Value} {I1 J1 : mm_T} {r : Int32} (hM : ct_m l G n y cy ml ry rm As I J (ct_qi G n I1 J1 r)) {idx np : Nat} (hG : GoodIn gw_t (va_wsS own idx y (.code y cy ml ry :: gw_t))) (hy : y.cls ≠ "java/lang/invoke/MethodHandle" ∧ y.cls ≠ "java/lang/invoke/VarHandle" ∧ (parseMethodDescriptor y.desc).map (fun d => d.parameters.length) = some np) (hrc : rm.cells = 0 ∧ rm.slots = 0) (hR : rm.frames + 1 ≤ R.frames ∧ 8 + (ml + 11) + rm.locals ≤ R.locals) (hn : As.length = np) {st0 : List Value} (hst : st0 = As.reverse ++ rest) (hls : ls.size = nL) (hro : (rest.map fun v => v.category).sum ≤ 8) (hd : decode cc pc = .ok (.invokestatic idx, 3))
    (kk : ∀ (H1 : Heap) (locs1 : List Loc), st_ok G n I1 J1 s H1 locs1 → W p l e R s m args below meth c H1 locs1 0 0 Q (F0 m (pc + 3) ls (.int r :: rest))) : W p l e R s m args below meth c H locs 0 0 Q (F0 m pc ls st0) := by
  subst hst
  refine r_size (fun h1 h2 => ?_)
  refine va_calli (va_runS (As := As) (rest := rest) ⟨X.1, X.2.1, X.2.2.1, X.2.2.2.1, X.2.2.2.2.1⟩ hM (va_cwS np X.2.2.2.2.1 hG rfl hrc.1 hrc.2 hy hR) ⟨wd_blind, fun U hU hW => ⟨rfl, S.pre X h1 h2 hU hW⟩⟩ rfl hn hls rfl (lv_room hro) hd ⟨Nat.zero_le _, Nat.zero_le _⟩) S.2.2.1 (fun _ _ h => h) (fun _ h => h) (fun rr u t H1 locs1 ht hvm hw hB hz1 hk1 hS => ?_)
  subst hw; exact kk H1 locs1 (S.wb hB ht hS)
theorem r_Vl (X : cx_ok G p s m args meth c cc nL own ret) (S : st_ok G n I J s H locs) {y : MethodName} {cy : ByteArray} {ml : Nat} {ry : Option FieldType} {rm : Room} {a : Nat} {As : List Value} {I1 J1 : mm_T} {r : Int64} (hM : ct_m l G n y cy ml ry rm (.ref a :: As) I J (ct_ql G n I1 J1 r)) {C : String} {idx np : Nat} (hG : GoodIn gw_t (wsV own idx C y (.code y cy ml ry :: gw_t))) (hy : y.cls = C ∧ y.cls ≠ "java/lang/invoke/MethodHandle" ∧ y.cls ≠ "java/lang/invoke/VarHandle" ∧ (parseMethodDescriptor y.desc).map (fun d => d.parameters.length) = some np) (hrc : rm.cells = 0 ∧ rm.slots = 0) (hR : rm.frames + 1 ≤ R.frames ∧ 8 + (ml + 11) + rm.locals ≤ R.locals) (hrec : ∃ cell : Cell, H[a]? = some cell ∧ cell.vm.isStatics = false ∧ s.vm.findClass C = some cell.cls) (hn : As.length = np) {st0 : List Value} (hst : st0 = As.reverse ++ .ref a :: rest) (hls : ls.size = nL) (hro : (rest.map fun v => v.category).sum ≤ 8) (hd : decode cc pc = .ok (.invokevirtual idx, 3))
    (kk : ∀ (H1 : Heap) (locs1 : List Loc), st_ok G n I1 J1 s H1 locs1 → W p l e R s m args below meth c H1 locs1 0 0 Q (F0 m (pc + 3) ls (.long r :: rest))) : W p l e R s m args below meth c H locs 0 0 Q (F0 m pc ls st0) := by
  subst hst
  refine r_size (fun h1 h2 => ?_)
  refine va_calll (va_runV (As := As) (rest := rest) ⟨X.1, X.2.1, X.2.2.1, X.2.2.2.1, X.2.2.2.2.1⟩ hM (cwV np X.2.2.2.2.1 hG rfl hrc.1 hrc.2 hy hR) ⟨wd_blind, hrec, fun U hU hW => ⟨rfl, S.pre X h1 h2 hU hW⟩⟩ rfl hn hls rfl (lv_room hro) hd ⟨Nat.zero_le _, Nat.zero_le _⟩) S.2.2.1 (fun _ _ h => h) (fun _ h => h) (fun rr u t H1 locs1 ht hvm hw hB hz1 hk1 hS => ?_)
  subst hw; exact kk H1 locs1 (S.wb hB ht hS)
theorem r_Sl (X : cx_ok G p s m args meth c cc nL own ret) (S : st_ok G n I J s H locs) {y : MethodName} {cy : ByteArray} {ml : Nat} {ry : Option FieldType} {rm : Room} {As : List Value} {I1 J1 : mm_T} {r : Int64} (hM : ct_m l G n y cy ml ry rm As I J (ct_ql G n I1 J1 r)) {idx np : Nat} (hG : GoodIn gw_t (va_wsS own idx y (.code y cy ml ry :: gw_t))) (hy : y.cls ≠ "java/lang/invoke/MethodHandle" ∧ y.cls ≠ "java/lang/invoke/VarHandle" ∧ (parseMethodDescriptor y.desc).map (fun d => d.parameters.length) = some np) (hrc : rm.cells = 0 ∧ rm.slots = 0) (hR : rm.frames + 1 ≤ R.frames ∧ 8 + (ml + 11) + rm.locals ≤ R.locals) (hn : As.length = np) {st0 : List Value} (hst : st0 = As.reverse ++ rest) (hls : ls.size = nL) (hro : (rest.map fun v => v.category).sum ≤ 8) (hd : decode cc pc = .ok (.invokestatic idx, 3))
    (kk : ∀ (H1 : Heap) (locs1 : List Loc), st_ok G n I1 J1 s H1 locs1 → W p l e R s m args below meth c H1 locs1 0 0 Q (F0 m (pc + 3) ls (.long r :: rest))) : W p l e R s m args below meth c H locs 0 0 Q (F0 m pc ls st0) := by
  subst hst
  refine r_size (fun h1 h2 => ?_)
  refine va_calll (va_runS (As := As) (rest := rest) ⟨X.1, X.2.1, X.2.2.1, X.2.2.2.1, X.2.2.2.2.1⟩ hM (va_cwS np X.2.2.2.2.1 hG rfl hrc.1 hrc.2 hy hR) ⟨wd_blind, fun U hU hW => ⟨rfl, S.pre X h1 h2 hU hW⟩⟩ rfl hn hls rfl (lv_room hro) hd ⟨Nat.zero_le _, Nat.zero_le _⟩) S.2.2.1 (fun _ _ h => h) (fun _ h => h) (fun rr u t H1 locs1 ht hvm hw hB hz1 hk1 hS => ?_)
  subst hw; exact kk H1 locs1 (S.wb hB ht hS)
theorem r_Vr (X : cx_ok G p s m args meth c cc nL own ret) (S : st_ok G n I J s H locs) {y : MethodName} {cy : ByteArray} {ml : Nat} {ry : Option FieldType} {rm : Room} {a : Nat} {As : List Value} {I1 J1 : mm_T} {r : Nat} (hM : ct_m l G n y cy ml ry rm (.ref a :: As) I J (ct_qr G n I1 J1 r)) {C : String} {idx np : Nat} (hG : GoodIn gw_t (wsV own idx C y (.code y cy ml ry :: gw_t))) (hy : y.cls = C ∧ y.cls ≠ "java/lang/invoke/MethodHandle" ∧ y.cls ≠ "java/lang/invoke/VarHandle" ∧ (parseMethodDescriptor y.desc).map (fun d => d.parameters.length) = some np) (hrc : rm.cells = 0 ∧ rm.slots = 0) (hR : rm.frames + 1 ≤ R.frames ∧ 8 + (ml + 11) + rm.locals ≤ R.locals) (hrec : ∃ cell : Cell, H[a]? = some cell ∧ cell.vm.isStatics = false ∧ s.vm.findClass C = some cell.cls) (hn : As.length = np) {st0 : List Value} (hst : st0 = As.reverse ++ .ref a :: rest) (hls : ls.size = nL) (hro : (rest.map fun v => v.category).sum ≤ 8) (hd : decode cc pc = .ok (.invokevirtual idx, 3))
    (kk : ∀ (H1 : Heap) (locs1 : List Loc), st_ok G n I1 J1 s H1 locs1 → W p l e R s m args below meth c H1 locs1 0 0 Q (F0 m (pc + 3) ls (.ref r :: rest))) : W p l e R s m args below meth c H locs 0 0 Q (F0 m pc ls st0) := by
  subst hst
  refine r_size (fun h1 h2 => ?_)
  refine va_callr (va_runV (As := As) (rest := rest) ⟨X.1, X.2.1, X.2.2.1, X.2.2.2.1, X.2.2.2.2.1⟩ hM (cwV np X.2.2.2.2.1 hG rfl hrc.1 hrc.2 hy hR) ⟨wd_blind, hrec, fun U hU hW => ⟨rfl, S.pre X h1 h2 hU hW⟩⟩ rfl hn hls rfl (lv_room hro) hd ⟨Nat.zero_le _, Nat.zero_le _⟩) S.2.2.1 (fun _ _ h => h) (fun _ h => h) (fun u rr t H1 locs1 ht hvm hw hB hz1 hk1 hS => ?_)
  obtain ⟨rfl, hB⟩ := hB; exact kk H1 locs1 (S.wb hB ht hS)
theorem r_Sr (X : cx_ok G p s m args meth c cc nL own ret) (S : st_ok G n I J s H locs) {y : MethodName} {cy : ByteArray} {ml : Nat} {ry : Option FieldType} {rm : Room} {As : List Value} {I1 J1 : mm_T} {r : Nat} (hM : ct_m l G n y cy ml ry rm As I J (ct_qr G n I1 J1 r)) {idx np : Nat} (hG : GoodIn gw_t (va_wsS own idx y (.code y cy ml ry :: gw_t))) (hy : y.cls ≠ "java/lang/invoke/MethodHandle" ∧ y.cls ≠ "java/lang/invoke/VarHandle" ∧ (parseMethodDescriptor y.desc).map (fun d => d.parameters.length) = some np) (hrc : rm.cells = 0 ∧ rm.slots = 0) (hR : rm.frames + 1 ≤ R.frames ∧ 8 + (ml + 11) + rm.locals ≤ R.locals) (hn : As.length = np) {st0 : List Value} (hst : st0 = As.reverse ++ rest) (hls : ls.size = nL) (hro : (rest.map fun v => v.category).sum ≤ 8) (hd : decode cc pc = .ok (.invokestatic idx, 3))
    (kk : ∀ (H1 : Heap) (locs1 : List Loc), st_ok G n I1 J1 s H1 locs1 → W p l e R s m args below meth c H1 locs1 0 0 Q (F0 m (pc + 3) ls (.ref r :: rest))) : W p l e R s m args below meth c H locs 0 0 Q (F0 m pc ls st0) := by
  subst hst
  refine r_size (fun h1 h2 => ?_)
  refine va_callr (va_runS (As := As) (rest := rest) ⟨X.1, X.2.1, X.2.2.1, X.2.2.2.1, X.2.2.2.2.1⟩ hM (va_cwS np X.2.2.2.2.1 hG rfl hrc.1 hrc.2 hy hR) ⟨wd_blind, fun U hU hW => ⟨rfl, S.pre X h1 h2 hU hW⟩⟩ rfl hn hls rfl (lv_room hro) hd ⟨Nat.zero_le _, Nat.zero_le _⟩) S.2.2.1 (fun _ _ h => h) (fun _ h => h) (fun u rr t H1 locs1 ht hvm hw hB hz1 hk1 hS => ?_)
  obtain ⟨rfl, hB⟩ := hB; exact kk H1 locs1 (S.wb hB ht hS)
theorem r_SiN (X : cx_ok G p s m args meth c cc nL own ret) (S : st_ok G n I J s H locs) {y : MethodName} {cy : ByteArray} {ml : Nat} {ry : Option FieldType} {rm : Room} {As : List Value} {I1 J1 : mm_T} {r : Int32} {host : String} (hM : ct_m l G n y cy ml ry rm As I J (ct_qi G n I1 J1 r)) {idx np : Nat} (hk : Cond.methodLinkNest own idx y host ∈ nw_t) (hst1 : Cond.static y ∈ gw_t) (hini : Cond.initialized y.cls ∈ gw_t) (hcw : Cond.code y cy ml ry ∈ gw_t) (hy : y.cls ≠ "java/lang/invoke/MethodHandle" ∧ y.cls ≠ "java/lang/invoke/VarHandle" ∧ (parseMethodDescriptor y.desc).map (fun d => d.parameters.length) = some np) (hrc : rm.cells = 0 ∧ rm.slots = 0) (hR : rm.frames + 1 ≤ R.frames ∧ 8 + (ml + 11) + rm.locals ≤ R.locals) (hn : As.length = np) {st0 : List Value} (hst : st0 = As.reverse ++ rest) (hls : ls.size = nL) (hro : (rest.map fun v => v.category).sum ≤ 8) (hd : decode cc pc = .ok (.invokestatic idx, 3))
    (kk : ∀ (H1 : Heap) (locs1 : List Loc), st_ok G n I1 J1 s H1 locs1 → W p l e R s m args below meth c H1 locs1 0 0 Q (F0 m (pc + 3) ls (.int r :: rest))) : W p l e R s m args below meth c H locs 0 0 Q (F0 m pc ls st0) := by
  subst hst
  refine r_size (fun h1 h2 => ?_)
  refine va_calli (va_runSN (As := As) (rest := rest) ⟨X.1, X.2.1, X.2.2.1, X.2.2.2.1, X.2.2.2.2.1⟩ hM ⟨va_cnB np X.2.2.2.2.1 (fun w h => gw_good w ((List.mem_cons.mp h).elim (fun e => e ▸ hcw) id)) rfl hrc.1 hrc.2 (X.2.2.2.2.2.1.2.2.2.2.2 _ hk) (X.2.2.2.2.1 _ hini) hy hR, ⟨X.2.2.2.2.1 _ hst1, trivial⟩⟩ ⟨wd_blind, fun U hU hW => ⟨rfl, S.pre X h1 h2 hU hW⟩⟩ rfl hn hls rfl (lv_room hro) hd ⟨Nat.zero_le _, Nat.zero_le _⟩) S.2.2.1 (fun _ _ h => h) (fun _ h => h) (fun rr u t H1 locs1 ht hvm hw hB hz1 hk1 hS => ?_)
  subst hw; exact kk H1 locs1 (S.wb hB ht hS)
end RW
end
section
theorem goodIn_q (ws : List Cond) (ps : List Nat) (hp : ws = ps.filterMap (fun i => lw_tbl[i]?)) (h : ws.all goodWord = true) : ∀ w ∈ ws, w ∈ lw_tbl ∧ goodWord w = true := by
  intro w hw
  have h1 := List.all_eq_true.mp h w hw
  rw [hp] at hw
  obtain ⟨i, -, hi⟩ := List.mem_filterMap.mp hw
  exact ⟨List.mem_of_getElem? hi, h1⟩
theorem gw_wsV {own C : String} {idx ml : Nat} {y : MethodName} {cy : ByteArray} {ry : Option FieldType} (h1 : Cond.methodLink own idx y ∈ gw_t) (h2 : Cond.instanceMethod y ∈ gw_t) (h3 : Cond.selects C y y ∈ gw_t) (h4 : Cond.initialized C ∈ gw_t) (h5 : Cond.code y cy ml ry ∈ gw_t) : GoodIn gw_t (wsV own idx C y (.code y cy ml ry :: gw_t)) := by
  intro w hw
  have hm : w ∈ gw_t := by
    unfold wsV at hw
    rcases List.mem_append.mp hw with h | h
    · simp only [List.mem_cons, List.not_mem_nil, or_false] at h
      rcases h with rfl | rfl | rfl | rfl <;> assumption
    · rcases List.mem_cons.mp h with rfl | h
      · exact h5
      · exact h
  exact gw_good w hm
theorem gw_wsS {own : String} {idx ml : Nat} {y : MethodName} {cy : ByteArray} {ry : Option FieldType} (h1 : Cond.methodLink own idx y ∈ gw_t) (h2 : Cond.static y ∈ gw_t) (h4 : Cond.initialized y.cls ∈ gw_t) (h5 : Cond.code y cy ml ry ∈ gw_t) : GoodIn gw_t (va_wsS own idx y (.code y cy ml ry :: gw_t)) := by
  intro w hw
  have hm : w ∈ gw_t := by
    unfold va_wsS at hw
    rcases List.mem_append.mp hw with h | h
    · simp only [List.mem_cons, List.not_mem_nil, or_false] at h
      rcases h with rfl | rfl | rfl <;> assumption
    · rcases List.mem_cons.mp h with rfl | h
      · exact h5
      · exact h
  exact gw_good w hm
/-! ===== words of the tables, fields, calls ===== -/
theorem in_X0 : ∀ w ∈ u_ws RX0 TX0 16, w ∈ gw_t := fun w h => List.mem_filter.mpr ((goodIn_q (u_ws RX0 TX0 16) [260, 262, 264, 266, 268, 270, 272, 274, 276, 278, 280, 282, 284, 286, 288, 290] (by decide +kernel) (by decide +kernel)) w h)
theorem in_X1 : ∀ w ∈ u_ws RX1 TX1 8, w ∈ gw_t := fun w h => List.mem_filter.mpr ((goodIn_q (u_ws RX1 TX1 8) [167, 169, 171, 173, 175, 177, 179, 181] (by decide +kernel) (by decide +kernel)) w h)
theorem in_X2 : ∀ w ∈ u_ws RX2 TX2 2, w ∈ gw_t := fun w h => List.mem_filter.mpr ((goodIn_q (u_ws RX2 TX2 2) [112, 114] (by decide +kernel) (by decide +kernel)) w h)
theorem in_X3 : ∀ w ∈ u_ws RX3 TX3 11, w ∈ gw_t := fun w h => List.mem_filter.mpr ((goodIn_q (u_ws RX3 TX3 11) [203, 205, 207, 209, 211, 213, 215, 217, 219, 221, 223] (by decide +kernel) (by decide +kernel)) w h)
theorem in_X4 : ∀ w ∈ u_ws RX4 TX4 7, w ∈ gw_t := fun w h => List.mem_filter.mpr ((goodIn_q (u_ws RX4 TX4 7) [309, 311, 313, 315, 317, 319, 321] (by decide +kernel) (by decide +kernel)) w h)
theorem in_X5 : ∀ w ∈ u_ws RX5 TX5 3, w ∈ gw_t := fun w h => List.mem_filter.mpr ((goodIn_q (u_ws RX5 TX5 3) [563, 565, 567] (by decide +kernel) (by decide +kernel)) w h)
theorem in_X6 : ∀ w ∈ u_ws RX6 TX6 4, w ∈ gw_t := fun w h => List.mem_filter.mpr ((goodIn_q (u_ws RX6 TX6 4) [136, 138, 140, 142] (by decide +kernel) (by decide +kernel)) w h)
theorem in_X7 : ∀ w ∈ u_ws RX7 TX7 4, w ∈ gw_t := fun w h => List.mem_filter.mpr ((goodIn_q (u_ws RX7 TX7 4) [542, 544, 546, 548] (by decide +kernel) (by decide +kernel)) w h)
theorem in_X8 : ∀ w ∈ u_ws RX8 TX8 9, w ∈ gw_t := fun w h => List.mem_filter.mpr ((goodIn_q (u_ws RX8 TX8 9) [579, 581, 583, 585, 587, 589, 591, 593, 595] (by decide +kernel) (by decide +kernel)) w h)
theorem in_X9 : ∀ w ∈ u_ws RX9 TX9 61, w ∈ gw_t := fun w h => List.mem_filter.mpr ((goodIn_q (u_ws RX9 TX9 61) [995, 997, 999, 1001, 1003, 1005, 1007, 1009, 1011, 1013, 1015, 1017, 1019, 1021, 1023, 1025, 1027, 1029, 1031, 1033, 1035, 1037, 1039, 1041, 1043, 1045, 1047, 1049, 1051, 1053, 1055, 1057, 1059, 1061, 1063, 1065, 1067, 1069, 1071, 1073, 1075, 1077, 1079, 1081, 1083, 1085, 1087, 1089, 1091, 1093, 1095, 1097, 1099, 1101, 1103, 1105, 1107, 1109, 1111, 1113, 1115] (by decide +kernel) (by decide +kernel)) w h)
section RS
variable {p : Program} {l : Launch} {e : Env} {R : Room} {s : State} {m : MethodId} {args : Array Value} {below : List Frame} {meth : Method} {c : Code} {H : Heap} {locs : List Loc} {cells slots : Nat} {Q : State → Prop}
variable {cc : ByteArray} {pc : Nat} {ls : Array Slot} {rest : List Value} {G : cx_T} {n nL : Nat} {I J : mm_T} {own : String} {ret : Option FieldType}
theorem lk_X0_9 : Cond.fieldLink RX0 9 "WhoSingsNext$Evening" "names" "[I" ∈ gw_t := gw_mem 237 (by decide +kernel) (by decide +kernel)
theorem gf_X0_9 (X : cx_ok G p s m args meth c cc nL RX0 ret) (S : st_ok G n I J s H locs) {i : Nat} (hi : i < 9) (hd : decode cc pc = .ok (.getfield 9, 3)) (kk : W p l e R s m args below meth c H locs cells slots Q (F0 m (pc + 3) ls (.ref (cx_b G + ly_loc 10 i) :: rest))) : W p l e R s m args below meth c H locs cells slots Q (F0 m pc ls (.ref (cx_b G + ly_loc 0 i) :: rest)) := r_get X S (ly_ok_0 hi S.2.2.2) rfl (show vwCl[0]? = some (RX0, TX0, 16) from rfl) in_X0 2 (by decide) lk_X0_9 rfl hd kk
theorem lk_X0_15 : Cond.fieldLink RX0 15 "WhoSingsNext$Evening" "lastSang" "[I" ∈ gw_t := gw_mem 238 (by decide +kernel) (by decide +kernel)
theorem gf_X0_15 (X : cx_ok G p s m args meth c cc nL RX0 ret) (S : st_ok G n I J s H locs) {i : Nat} (hi : i < 9) (hd : decode cc pc = .ok (.getfield 15, 3)) (kk : W p l e R s m args below meth c H locs cells slots Q (F0 m (pc + 3) ls (.ref (cx_b G + ly_loc 11 i) :: rest))) : W p l e R s m args below meth c H locs cells slots Q (F0 m pc ls (.ref (cx_b G + ly_loc 0 i) :: rest)) := r_get X S (ly_ok_0 hi S.2.2.2) rfl (show vwCl[0]? = some (RX0, TX0, 16) from rfl) in_X0 3 (by decide) lk_X0_15 rfl hd kk
theorem lk_X0_18 : Cond.fieldLink RX0 18 "WhoSingsNext$Evening" "sungBy" "[I" ∈ gw_t := gw_mem 239 (by decide +kernel) (by decide +kernel)
theorem gf_X0_18 (X : cx_ok G p s m args meth c cc nL RX0 ret) (S : st_ok G n I J s H locs) {i : Nat} (hi : i < 9) (hd : decode cc pc = .ok (.getfield 18, 3)) (kk : W p l e R s m args below meth c H locs cells slots Q (F0 m (pc + 3) ls (.ref (cx_b G + ly_loc 12 i) :: rest))) : W p l e R s m args below meth c H locs cells slots Q (F0 m pc ls (.ref (cx_b G + ly_loc 0 i) :: rest)) := r_get X S (ly_ok_0 hi S.2.2.2) rfl (show vwCl[0]? = some (RX0, TX0, 16) from rfl) in_X0 4 (by decide) lk_X0_18 rfl hd kk
theorem lk_X0_21 : Cond.fieldLink RX0 21 "WhoSingsNext$Evening" "bears" "[I" ∈ gw_t := gw_mem 240 (by decide +kernel) (by decide +kernel)
theorem gf_X0_21 (X : cx_ok G p s m args meth c cc nL RX0 ret) (S : st_ok G n I J s H locs) {i : Nat} (hi : i < 9) (hd : decode cc pc = .ok (.getfield 21, 3)) (kk : W p l e R s m args below meth c H locs cells slots Q (F0 m (pc + 3) ls (.ref (cx_b G + ly_loc 13 i) :: rest))) : W p l e R s m args below meth c H locs cells slots Q (F0 m pc ls (.ref (cx_b G + ly_loc 0 i) :: rest)) := r_get X S (ly_ok_0 hi S.2.2.2) rfl (show vwCl[0]? = some (RX0, TX0, 16) from rfl) in_X0 5 (by decide) lk_X0_21 rfl hd kk
theorem lk_X0_24 : Cond.fieldLink RX0 24 "WhoSingsNext$Evening" "row" "[I" ∈ gw_t := gw_mem 241 (by decide +kernel) (by decide +kernel)
theorem gf_X0_24 (X : cx_ok G p s m args meth c cc nL RX0 ret) (S : st_ok G n I J s H locs) {i : Nat} (hi : i < 9) (hd : decode cc pc = .ok (.getfield 24, 3)) (kk : W p l e R s m args below meth c H locs cells slots Q (F0 m (pc + 3) ls (.ref (cx_b G + ly_loc 14 i) :: rest))) : W p l e R s m args below meth c H locs cells slots Q (F0 m pc ls (.ref (cx_b G + ly_loc 0 i) :: rest)) := r_get X S (ly_ok_0 hi S.2.2.2) rfl (show vwCl[0]? = some (RX0, TX0, 16) from rfl) in_X0 6 (by decide) lk_X0_24 rfl hd kk
theorem lk_X0_27 : Cond.fieldLink RX0 27 "WhoSingsNext$Evening" "begins" "[I" ∈ gw_t := gw_mem 245 (by decide +kernel) (by decide +kernel)
theorem gf_X0_27 (X : cx_ok G p s m args meth c cc nL RX0 ret) (S : st_ok G n I J s H locs) {i : Nat} (hi : i < 9) (hd : decode cc pc = .ok (.getfield 27, 3)) (kk : W p l e R s m args below meth c H locs cells slots Q (F0 m (pc + 3) ls (.ref (cx_b G + ly_loc 15 i) :: rest))) : W p l e R s m args below meth c H locs cells slots Q (F0 m pc ls (.ref (cx_b G + ly_loc 0 i) :: rest)) := r_get X S (ly_ok_0 hi S.2.2.2) rfl (show vwCl[0]? = some (RX0, TX0, 16) from rfl) in_X0 8 (by decide) lk_X0_27 rfl hd kk
theorem lk_X0_30 : Cond.fieldLink RX0 30 "WhoSingsNext$Evening" "house" "LWhoSingsNext$House;" ∈ gw_t := gw_mem 235 (by decide +kernel) (by decide +kernel)
theorem gf_X0_30 (X : cx_ok G p s m args meth c cc nL RX0 ret) (S : st_ok G n I J s H locs) {i : Nat} (hi : i < 9) (hd : decode cc pc = .ok (.getfield 30, 3)) (kk : W p l e R s m args below meth c H locs cells slots Q (F0 m (pc + 3) ls (.ref (cx_b G + ly_loc 1 0) :: rest))) : W p l e R s m args below meth c H locs cells slots Q (F0 m pc ls (.ref (cx_b G + ly_loc 0 i) :: rest)) := r_get X S (ly_ok_0 hi S.2.2.2) rfl (show vwCl[0]? = some (RX0, TX0, 16) from rfl) in_X0 0 (by decide) lk_X0_30 rfl hd kk
theorem lk_X0_34 : Cond.fieldLink RX0 34 "WhoSingsNext$Evening" "rule" "LWhoSingsNext$Text;" ∈ gw_t := gw_mem 236 (by decide +kernel) (by decide +kernel)
theorem gf_X0_34 (X : cx_ok G p s m args meth c cc nL RX0 ret) (S : st_ok G n I J s H locs) {i : Nat} (hi : i < 9) (hd : decode cc pc = .ok (.getfield 34, 3)) (kk : W p l e R s m args below meth c H locs cells slots Q (F0 m (pc + 3) ls (ly_tx G (I 0 i 1) :: rest))) : W p l e R s m args below meth c H locs cells slots Q (F0 m pc ls (.ref (cx_b G + ly_loc 0 i) :: rest)) := r_get X S (ly_ok_0 hi S.2.2.2) rfl (show vwCl[0]? = some (RX0, TX0, 16) from rfl) in_X0 1 (by decide) lk_X0_34 rfl hd kk
theorem lk_X0_44 : Cond.fieldLink RX0 44 "WhoSingsNext$Evening" "calls" "I" ∈ gw_t := gw_mem 243 (by decide +kernel) (by decide +kernel)
theorem gf_X0_44 (X : cx_ok G p s m args meth c cc nL RX0 ret) (S : st_ok G n I J s H locs) {i : Nat} (hi : i < 9) (hd : decode cc pc = .ok (.getfield 44, 3)) (kk : W p l e R s m args below meth c H locs cells slots Q (F0 m (pc + 3) ls (.int (I 0 i 7) :: rest))) : W p l e R s m args below meth c H locs cells slots Q (F0 m pc ls (.ref (cx_b G + ly_loc 0 i) :: rest)) := r_get X S (ly_ok_0 hi S.2.2.2) rfl (show vwCl[0]? = some (RX0, TX0, 16) from rfl) in_X0 7 (by decide) lk_X0_44 rfl hd kk
theorem lk_X0_48 : Cond.fieldLink RX0 48 "WhoSingsNext$Evening" "called" "I" ∈ gw_t := gw_mem 247 (by decide +kernel) (by decide +kernel)
theorem gf_X0_48 (X : cx_ok G p s m args meth c cc nL RX0 ret) (S : st_ok G n I J s H locs) {i : Nat} (hi : i < 9) (hd : decode cc pc = .ok (.getfield 48, 3)) (kk : W p l e R s m args below meth c H locs cells slots Q (F0 m (pc + 3) ls (.int (I 0 i 9) :: rest))) : W p l e R s m args below meth c H locs cells slots Q (F0 m pc ls (.ref (cx_b G + ly_loc 0 i) :: rest)) := r_get X S (ly_ok_0 hi S.2.2.2) rfl (show vwCl[0]? = some (RX0, TX0, 16) from rfl) in_X0 9 (by decide) lk_X0_48 rfl hd kk
theorem lk_X0_51 : Cond.fieldLink RX0 51 "WhoSingsNext$Evening" "minute" "I" ∈ gw_t := gw_mem 248 (by decide +kernel) (by decide +kernel)
theorem gf_X0_51 (X : cx_ok G p s m args meth c cc nL RX0 ret) (S : st_ok G n I J s H locs) {i : Nat} (hi : i < 9) (hd : decode cc pc = .ok (.getfield 51, 3)) (kk : W p l e R s m args below meth c H locs cells slots Q (F0 m (pc + 3) ls (.int (I 0 i 10) :: rest))) : W p l e R s m args below meth c H locs cells slots Q (F0 m pc ls (.ref (cx_b G + ly_loc 0 i) :: rest)) := r_get X S (ly_ok_0 hi S.2.2.2) rfl (show vwCl[0]? = some (RX0, TX0, 16) from rfl) in_X0 10 (by decide) lk_X0_51 rfl hd kk
theorem lk_X0_54 : Cond.fieldLinkNest RX0 54 "WhoSingsNext$House" "mood" "I" "WhoSingsNext" ∈ nw_t := nw_mem 157 (by decide +kernel) (by decide +kernel)
theorem gf_X0_54 (X : cx_ok G p s m args meth c cc nL RX0 ret) (S : st_ok G n I J s H locs) {i : Nat} (hi : i < 2) (hd : decode cc pc = .ok (.getfield 54, 3)) (kk : W p l e R s m args below meth c H locs cells slots Q (F0 m (pc + 3) ls (.int (I 1 i 4) :: rest))) : W p l e R s m args below meth c H locs cells slots Q (F0 m pc ls (.ref (cx_b G + ly_loc 1 i) :: rest)) := r_getN X S (ly_ok_1 hi S.2.2.2) rfl (show vwCl[1]? = some (RX1, TX1, 8) from rfl) in_X1 4 (by decide) lk_X0_54 rfl hd kk
theorem lk_X0_59 : Cond.fieldLink RX0 59 "WhoSingsNext$Evening" "mood" "I" ∈ gw_t := gw_mem 249 (by decide +kernel) (by decide +kernel)
theorem gf_X0_59 (X : cx_ok G p s m args meth c cc nL RX0 ret) (S : st_ok G n I J s H locs) {i : Nat} (hi : i < 9) (hd : decode cc pc = .ok (.getfield 59, 3)) (kk : W p l e R s m args below meth c H locs cells slots Q (F0 m (pc + 3) ls (.int (I 0 i 11) :: rest))) : W p l e R s m args below meth c H locs cells slots Q (F0 m pc ls (.ref (cx_b G + ly_loc 0 i) :: rest)) := r_get X S (ly_ok_0 hi S.2.2.2) rfl (show vwCl[0]? = some (RX0, TX0, 16) from rfl) in_X0 11 (by decide) lk_X0_59 rfl hd kk
theorem lk_X0_60 : Cond.fieldLink RX0 60 "WhoSingsNext$Evening" "bar" "I" ∈ gw_t := gw_mem 251 (by decide +kernel) (by decide +kernel)
theorem gf_X0_60 (X : cx_ok G p s m args meth c cc nL RX0 ret) (S : st_ok G n I J s H locs) {i : Nat} (hi : i < 9) (hd : decode cc pc = .ok (.getfield 60, 3)) (kk : W p l e R s m args below meth c H locs cells slots Q (F0 m (pc + 3) ls (.int (I 0 i 12) :: rest))) : W p l e R s m args below meth c H locs cells slots Q (F0 m pc ls (.ref (cx_b G + ly_loc 0 i) :: rest)) := r_get X S (ly_ok_0 hi S.2.2.2) rfl (show vwCl[0]? = some (RX0, TX0, 16) from rfl) in_X0 12 (by decide) lk_X0_60 rfl hd kk
theorem lk_X0_63 : Cond.fieldLink RX0 63 "WhoSingsNext$Evening" "left" "I" ∈ gw_t := gw_mem 254 (by decide +kernel) (by decide +kernel)
theorem gf_X0_63 (X : cx_ok G p s m args meth c cc nL RX0 ret) (S : st_ok G n I J s H locs) {i : Nat} (hi : i < 9) (hd : decode cc pc = .ok (.getfield 63, 3)) (kk : W p l e R s m args below meth c H locs cells slots Q (F0 m (pc + 3) ls (.int (I 0 i 13) :: rest))) : W p l e R s m args below meth c H locs cells slots Q (F0 m pc ls (.ref (cx_b G + ly_loc 0 i) :: rest)) := r_get X S (ly_ok_0 hi S.2.2.2) rfl (show vwCl[0]? = some (RX0, TX0, 16) from rfl) in_X0 13 (by decide) lk_X0_63 rfl hd kk
theorem lk_X0_66 : Cond.fieldLink RX0 66 "WhoSingsNext$Evening" "sung" "I" ∈ gw_t := gw_mem 257 (by decide +kernel) (by decide +kernel)
theorem gf_X0_66 (X : cx_ok G p s m args meth c cc nL RX0 ret) (S : st_ok G n I J s H locs) {i : Nat} (hi : i < 9) (hd : decode cc pc = .ok (.getfield 66, 3)) (kk : W p l e R s m args below meth c H locs cells slots Q (F0 m (pc + 3) ls (.int (I 0 i 14) :: rest))) : W p l e R s m args below meth c H locs cells slots Q (F0 m pc ls (.ref (cx_b G + ly_loc 0 i) :: rest)) := r_get X S (ly_ok_0 hi S.2.2.2) rfl (show vwCl[0]? = some (RX0, TX0, 16) from rfl) in_X0 14 (by decide) lk_X0_66 rfl hd kk
theorem lk_X0_69 : Cond.fieldLinkNest RX0 69 "WhoSingsNext$House" "peopleCount" "I" "WhoSingsNext" ∈ nw_t := nw_mem 151 (by decide +kernel) (by decide +kernel)
theorem gf_X0_69 (X : cx_ok G p s m args meth c cc nL RX0 ret) (S : st_ok G n I J s H locs) {i : Nat} (hi : i < 2) (hd : decode cc pc = .ok (.getfield 69, 3)) (kk : W p l e R s m args below meth c H locs cells slots Q (F0 m (pc + 3) ls (.int (I 1 i 2) :: rest))) : W p l e R s m args below meth c H locs cells slots Q (F0 m pc ls (.ref (cx_b G + ly_loc 1 i) :: rest)) := r_getN X S (ly_ok_1 hi S.2.2.2) rfl (show vwCl[1]? = some (RX1, TX1, 8) from rfl) in_X1 2 (by decide) lk_X0_69 rfl hd kk
theorem lk_X0_72 : Cond.fieldLink RX0 72 "WhoSingsNext$Evening" "there" "I" ∈ gw_t := gw_mem 259 (by decide +kernel) (by decide +kernel)
theorem gf_X0_72 (X : cx_ok G p s m args meth c cc nL RX0 ret) (S : st_ok G n I J s H locs) {i : Nat} (hi : i < 9) (hd : decode cc pc = .ok (.getfield 72, 3)) (kk : W p l e R s m args below meth c H locs cells slots Q (F0 m (pc + 3) ls (.int (I 0 i 15) :: rest))) : W p l e R s m args below meth c H locs cells slots Q (F0 m pc ls (.ref (cx_b G + ly_loc 0 i) :: rest)) := r_get X S (ly_ok_0 hi S.2.2.2) rfl (show vwCl[0]? = some (RX0, TX0, 16) from rfl) in_X0 15 (by decide) lk_X0_72 rfl hd kk
theorem lk_X0_89 : Cond.fieldLinkNest RX0 89 "WhoSingsNext$House" "slips" "[LWhoSingsNext$Slip;" "WhoSingsNext" ∈ nw_t := nw_mem 149 (by decide +kernel) (by decide +kernel)
theorem gf_X0_89 (X : cx_ok G p s m args meth c cc nL RX0 ret) (S : st_ok G n I J s H locs) {i : Nat} (hi : i < 2) (hd : decode cc pc = .ok (.getfield 89, 3)) (kk : W p l e R s m args below meth c H locs cells slots Q (F0 m (pc + 3) ls (.ref (cx_b G + ly_loc 17 i) :: rest))) : W p l e R s m args below meth c H locs cells slots Q (F0 m pc ls (.ref (cx_b G + ly_loc 1 i) :: rest)) := r_getN X S (ly_ok_1 hi S.2.2.2) rfl (show vwCl[1]? = some (RX1, TX1, 8) from rfl) in_X1 1 (by decide) lk_X0_89 rfl hd kk
theorem lk_X0_93 : Cond.fieldLinkNest RX0 93 "WhoSingsNext$Slip" "whose" "I" "WhoSingsNext" ∈ nw_t := nw_mem 134 (by decide +kernel) (by decide +kernel)
theorem gf_X0_93 (X : cx_ok G p s m args meth c cc nL RX0 ret) (S : st_ok G n I J s H locs) {i : Nat} (hi : i < 14) (hd : decode cc pc = .ok (.getfield 93, 3)) (kk : W p l e R s m args below meth c H locs cells slots Q (F0 m (pc + 3) ls (.int (I 6 i 3) :: rest))) : W p l e R s m args below meth c H locs cells slots Q (F0 m pc ls (.ref (cx_b G + ly_loc 6 i) :: rest)) := r_getN X S (ly_ok_6 hi S.2.2.2) rfl (show vwCl[6]? = some (RX6, TX6, 4) from rfl) in_X6 3 (by decide) lk_X0_93 rfl hd kk
theorem lk_X0_98 : Cond.fieldLinkNest RX0 98 "WhoSingsNext$Slip" "minutes" "I" "WhoSingsNext" ∈ nw_t := nw_mem 131 (by decide +kernel) (by decide +kernel)
theorem gf_X0_98 (X : cx_ok G p s m args meth c cc nL RX0 ret) (S : st_ok G n I J s H locs) {i : Nat} (hi : i < 14) (hd : decode cc pc = .ok (.getfield 98, 3)) (kk : W p l e R s m args below meth c H locs cells slots Q (F0 m (pc + 3) ls (.int (I 6 i 2) :: rest))) : W p l e R s m args below meth c H locs cells slots Q (F0 m pc ls (.ref (cx_b G + ly_loc 6 i) :: rest)) := r_getN X S (ly_ok_6 hi S.2.2.2) rfl (show vwCl[6]? = some (RX6, TX6, 4) from rfl) in_X6 2 (by decide) lk_X0_98 rfl hd kk
theorem lk_X0_101 : Cond.fieldLinkNest RX0 101 "WhoSingsNext$House" "till" "I" "WhoSingsNext" ∈ nw_t := nw_mem 161 (by decide +kernel) (by decide +kernel)
theorem gf_X0_101 (X : cx_ok G p s m args meth c cc nL RX0 ret) (S : st_ok G n I J s H locs) {i : Nat} (hi : i < 2) (hd : decode cc pc = .ok (.getfield 101, 3)) (kk : W p l e R s m args below meth c H locs cells slots Q (F0 m (pc + 3) ls (.int (I 1 i 5) :: rest))) : W p l e R s m args below meth c H locs cells slots Q (F0 m pc ls (.ref (cx_b G + ly_loc 1 i) :: rest)) := r_getN X S (ly_ok_1 hi S.2.2.2) rfl (show vwCl[1]? = some (RX1, TX1, 8) from rfl) in_X1 5 (by decide) lk_X0_101 rfl hd kk
theorem lk_X0_122 : Cond.fieldLinkNest RX0 122 "WhoSingsNext$Slip" "kind" "I" "WhoSingsNext" ∈ nw_t := nw_mem 125 (by decide +kernel) (by decide +kernel)
theorem gf_X0_122 (X : cx_ok G p s m args meth c cc nL RX0 ret) (S : st_ok G n I J s H locs) {i : Nat} (hi : i < 14) (hd : decode cc pc = .ok (.getfield 122, 3)) (kk : W p l e R s m args below meth c H locs cells slots Q (F0 m (pc + 3) ls (.int (I 6 i 0) :: rest))) : W p l e R s m args below meth c H locs cells slots Q (F0 m pc ls (.ref (cx_b G + ly_loc 6 i) :: rest)) := r_getN X S (ly_ok_6 hi S.2.2.2) rfl (show vwCl[6]? = some (RX6, TX6, 4) from rfl) in_X6 0 (by decide) lk_X0_122 rfl hd kk
theorem lk_X0_152 : Cond.fieldLinkNest RX0 152 "WhoSingsNext$House" "people" "[LWhoSingsNext$Person;" "WhoSingsNext" ∈ nw_t := nw_mem 146 (by decide +kernel) (by decide +kernel)
theorem gf_X0_152 (X : cx_ok G p s m args meth c cc nL RX0 ret) (S : st_ok G n I J s H locs) {i : Nat} (hi : i < 2) (hd : decode cc pc = .ok (.getfield 152, 3)) (kk : W p l e R s m args below meth c H locs cells slots Q (F0 m (pc + 3) ls (.ref (cx_b G + ly_loc 16 i) :: rest))) : W p l e R s m args below meth c H locs cells slots Q (F0 m pc ls (.ref (cx_b G + ly_loc 1 i) :: rest)) := r_getN X S (ly_ok_1 hi S.2.2.2) rfl (show vwCl[1]? = some (RX1, TX1, 8) from rfl) in_X1 0 (by decide) lk_X0_152 rfl hd kk
theorem lk_X0_156 : Cond.fieldLinkNest RX0 156 "WhoSingsNext$Person" "group" "I" "WhoSingsNext" ∈ nw_t := nw_mem 111 (by decide +kernel) (by decide +kernel)
theorem gf_X0_156 (X : cx_ok G p s m args meth c cc nL RX0 ret) (S : st_ok G n I J s H locs) {i : Nat} (hi : i < 16) (hd : decode cc pc = .ok (.getfield 156, 3)) (kk : W p l e R s m args below meth c H locs cells slots Q (F0 m (pc + 3) ls (.int (I 2 i 1) :: rest))) : W p l e R s m args below meth c H locs cells slots Q (F0 m pc ls (.ref (cx_b G + ly_loc 2 i) :: rest)) := r_getN X S (ly_ok_2 hi S.2.2.2) rfl (show vwCl[2]? = some (RX2, TX2, 2) from rfl) in_X2 1 (by decide) lk_X0_156 rfl hd kk
theorem lk_X0_161 : Cond.fieldLinkNest RX0 161 "WhoSingsNext$Person" "patience" "I" "WhoSingsNext" ∈ nw_t := nw_mem 108 (by decide +kernel) (by decide +kernel)
theorem gf_X0_161 (X : cx_ok G p s m args meth c cc nL RX0 ret) (S : st_ok G n I J s H locs) {i : Nat} (hi : i < 16) (hd : decode cc pc = .ok (.getfield 161, 3)) (kk : W p l e R s m args below meth c H locs cells slots Q (F0 m (pc + 3) ls (.int (I 2 i 0) :: rest))) : W p l e R s m args below meth c H locs cells slots Q (F0 m pc ls (.ref (cx_b G + ly_loc 2 i) :: rest)) := r_getN X S (ly_ok_2 hi S.2.2.2) rfl (show vwCl[2]? = some (RX2, TX2, 2) from rfl) in_X2 0 (by decide) lk_X0_161 rfl hd kk
theorem lk_X0_172 : Cond.fieldLinkNest RX0 172 "WhoSingsNext$House" "slipCount" "I" "WhoSingsNext" ∈ nw_t := nw_mem 155 (by decide +kernel) (by decide +kernel)
theorem gf_X0_172 (X : cx_ok G p s m args meth c cc nL RX0 ret) (S : st_ok G n I J s H locs) {i : Nat} (hi : i < 2) (hd : decode cc pc = .ok (.getfield 172, 3)) (kk : W p l e R s m args below meth c H locs cells slots Q (F0 m (pc + 3) ls (.int (I 1 i 3) :: rest))) : W p l e R s m args below meth c H locs cells slots Q (F0 m pc ls (.ref (cx_b G + ly_loc 1 i) :: rest)) := r_getN X S (ly_ok_1 hi S.2.2.2) rfl (show vwCl[1]? = some (RX1, TX1, 8) from rfl) in_X1 3 (by decide) lk_X0_172 rfl hd kk
theorem lk_X1_11 : Cond.fieldLink RX1 11 "WhoSingsNext$House" "people" "[LWhoSingsNext$Person;" ∈ gw_t := gw_mem 145 (by decide +kernel) (by decide +kernel)
theorem gf_X1_11 (X : cx_ok G p s m args meth c cc nL RX1 ret) (S : st_ok G n I J s H locs) {i : Nat} (hi : i < 2) (hd : decode cc pc = .ok (.getfield 11, 3)) (kk : W p l e R s m args below meth c H locs cells slots Q (F0 m (pc + 3) ls (.ref (cx_b G + ly_loc 16 i) :: rest))) : W p l e R s m args below meth c H locs cells slots Q (F0 m pc ls (.ref (cx_b G + ly_loc 1 i) :: rest)) := r_get X S (ly_ok_1 hi S.2.2.2) rfl (show vwCl[1]? = some (RX1, TX1, 8) from rfl) in_X1 0 (by decide) lk_X1_11 rfl hd kk
theorem lk_X1_19 : Cond.fieldLink RX1 19 "WhoSingsNext$House" "slips" "[LWhoSingsNext$Slip;" ∈ gw_t := gw_mem 147 (by decide +kernel) (by decide +kernel)
theorem gf_X1_19 (X : cx_ok G p s m args meth c cc nL RX1 ret) (S : st_ok G n I J s H locs) {i : Nat} (hi : i < 2) (hd : decode cc pc = .ok (.getfield 19, 3)) (kk : W p l e R s m args below meth c H locs cells slots Q (F0 m (pc + 3) ls (.ref (cx_b G + ly_loc 17 i) :: rest))) : W p l e R s m args below meth c H locs cells slots Q (F0 m pc ls (.ref (cx_b G + ly_loc 1 i) :: rest)) := r_get X S (ly_ok_1 hi S.2.2.2) rfl (show vwCl[1]? = some (RX1, TX1, 8) from rfl) in_X1 1 (by decide) lk_X1_19 rfl hd kk
theorem lk_X1_23 : Cond.fieldLink RX1 23 "WhoSingsNext$House" "till" "I" ∈ gw_t := gw_mem 160 (by decide +kernel) (by decide +kernel)
theorem gf_X1_23 (X : cx_ok G p s m args meth c cc nL RX1 ret) (S : st_ok G n I J s H locs) {i : Nat} (hi : i < 2) (hd : decode cc pc = .ok (.getfield 23, 3)) (kk : W p l e R s m args below meth c H locs cells slots Q (F0 m (pc + 3) ls (.int (I 1 i 5) :: rest))) : W p l e R s m args below meth c H locs cells slots Q (F0 m pc ls (.ref (cx_b G + ly_loc 1 i) :: rest)) := r_get X S (ly_ok_1 hi S.2.2.2) rfl (show vwCl[1]? = some (RX1, TX1, 8) from rfl) in_X1 5 (by decide) lk_X1_23 rfl hd kk
theorem lk_X1_29 : Cond.fieldLink RX1 29 "WhoSingsNext$House" "peopleCount" "I" ∈ gw_t := gw_mem 150 (by decide +kernel) (by decide +kernel)
theorem gf_X1_29 (X : cx_ok G p s m args meth c cc nL RX1 ret) (S : st_ok G n I J s H locs) {i : Nat} (hi : i < 2) (hd : decode cc pc = .ok (.getfield 29, 3)) (kk : W p l e R s m args below meth c H locs cells slots Q (F0 m (pc + 3) ls (.int (I 1 i 2) :: rest))) : W p l e R s m args below meth c H locs cells slots Q (F0 m pc ls (.ref (cx_b G + ly_loc 1 i) :: rest)) := r_get X S (ly_ok_1 hi S.2.2.2) rfl (show vwCl[1]? = some (RX1, TX1, 8) from rfl) in_X1 2 (by decide) lk_X1_29 rfl hd kk
theorem lk_X1_32 : Cond.fieldLink RX1 32 "WhoSingsNext$House" "slipCount" "I" ∈ gw_t := gw_mem 153 (by decide +kernel) (by decide +kernel)
theorem gf_X1_32 (X : cx_ok G p s m args meth c cc nL RX1 ret) (S : st_ok G n I J s H locs) {i : Nat} (hi : i < 2) (hd : decode cc pc = .ok (.getfield 32, 3)) (kk : W p l e R s m args below meth c H locs cells slots Q (F0 m (pc + 3) ls (.int (I 1 i 3) :: rest))) : W p l e R s m args below meth c H locs cells slots Q (F0 m pc ls (.ref (cx_b G + ly_loc 1 i) :: rest)) := r_get X S (ly_ok_1 hi S.2.2.2) rfl (show vwCl[1]? = some (RX1, TX1, 8) from rfl) in_X1 3 (by decide) lk_X1_32 rfl hd kk
theorem lk_X1_35 : Cond.fieldLinkNest RX1 35 "WhoSingsNext$Slip" "whose" "I" "WhoSingsNext" ∈ nw_t := nw_mem 133 (by decide +kernel) (by decide +kernel)
theorem gf_X1_35 (X : cx_ok G p s m args meth c cc nL RX1 ret) (S : st_ok G n I J s H locs) {i : Nat} (hi : i < 14) (hd : decode cc pc = .ok (.getfield 35, 3)) (kk : W p l e R s m args below meth c H locs cells slots Q (F0 m (pc + 3) ls (.int (I 6 i 3) :: rest))) : W p l e R s m args below meth c H locs cells slots Q (F0 m pc ls (.ref (cx_b G + ly_loc 6 i) :: rest)) := r_getN X S (ly_ok_6 hi S.2.2.2) rfl (show vwCl[6]? = some (RX6, TX6, 4) from rfl) in_X6 3 (by decide) lk_X1_35 rfl hd kk
theorem lk_X1_38 : Cond.fieldLinkNest RX1 38 "WhoSingsNext$Person" "group" "I" "WhoSingsNext" ∈ nw_t := nw_mem 110 (by decide +kernel) (by decide +kernel)
theorem gf_X1_38 (X : cx_ok G p s m args meth c cc nL RX1 ret) (S : st_ok G n I J s H locs) {i : Nat} (hi : i < 16) (hd : decode cc pc = .ok (.getfield 38, 3)) (kk : W p l e R s m args below meth c H locs cells slots Q (F0 m (pc + 3) ls (.int (I 2 i 1) :: rest))) : W p l e R s m args below meth c H locs cells slots Q (F0 m pc ls (.ref (cx_b G + ly_loc 2 i) :: rest)) := r_getN X S (ly_ok_2 hi S.2.2.2) rfl (show vwCl[2]? = some (RX2, TX2, 2) from rfl) in_X2 1 (by decide) lk_X1_38 rfl hd kk
theorem lk_X1_41 : Cond.fieldLinkNest RX1 41 "WhoSingsNext$Person" "patience" "I" "WhoSingsNext" ∈ nw_t := nw_mem 107 (by decide +kernel) (by decide +kernel)
theorem gf_X1_41 (X : cx_ok G p s m args meth c cc nL RX1 ret) (S : st_ok G n I J s H locs) {i : Nat} (hi : i < 16) (hd : decode cc pc = .ok (.getfield 41, 3)) (kk : W p l e R s m args below meth c H locs cells slots Q (F0 m (pc + 3) ls (.int (I 2 i 0) :: rest))) : W p l e R s m args below meth c H locs cells slots Q (F0 m pc ls (.ref (cx_b G + ly_loc 2 i) :: rest)) := r_getN X S (ly_ok_2 hi S.2.2.2) rfl (show vwCl[2]? = some (RX2, TX2, 2) from rfl) in_X2 0 (by decide) lk_X1_41 rfl hd kk
theorem lk_X1_44 : Cond.fieldLink RX1 44 "WhoSingsNext$House" "changes" "I" ∈ gw_t := gw_mem 166 (by decide +kernel) (by decide +kernel)
theorem gf_X1_44 (X : cx_ok G p s m args meth c cc nL RX1 ret) (S : st_ok G n I J s H locs) {i : Nat} (hi : i < 2) (hd : decode cc pc = .ok (.getfield 44, 3)) (kk : W p l e R s m args below meth c H locs cells slots Q (F0 m (pc + 3) ls (.int (I 1 i 7) :: rest))) : W p l e R s m args below meth c H locs cells slots Q (F0 m pc ls (.ref (cx_b G + ly_loc 1 i) :: rest)) := r_get X S (ly_ok_1 hi S.2.2.2) rfl (show vwCl[1]? = some (RX1, TX1, 8) from rfl) in_X1 7 (by decide) lk_X1_44 rfl hd kk
theorem lk_X1_54 : Cond.fieldLinkNest RX1 54 "WhoSingsNext$Slip" "number" "I" "WhoSingsNext" ∈ nw_t := nw_mem 127 (by decide +kernel) (by decide +kernel)
theorem gf_X1_54 (X : cx_ok G p s m args meth c cc nL RX1 ret) (S : st_ok G n I J s H locs) {i : Nat} (hi : i < 14) (hd : decode cc pc = .ok (.getfield 54, 3)) (kk : W p l e R s m args below meth c H locs cells slots Q (F0 m (pc + 3) ls (.int (I 6 i 1) :: rest))) : W p l e R s m args below meth c H locs cells slots Q (F0 m pc ls (.ref (cx_b G + ly_loc 6 i) :: rest)) := r_getN X S (ly_ok_6 hi S.2.2.2) rfl (show vwCl[6]? = some (RX6, TX6, 4) from rfl) in_X6 1 (by decide) lk_X1_54 rfl hd kk
theorem lk_X1_57 : Cond.fieldLinkNest RX1 57 "WhoSingsNext$Slip" "minutes" "I" "WhoSingsNext" ∈ nw_t := nw_mem 130 (by decide +kernel) (by decide +kernel)
theorem gf_X1_57 (X : cx_ok G p s m args meth c cc nL RX1 ret) (S : st_ok G n I J s H locs) {i : Nat} (hi : i < 14) (hd : decode cc pc = .ok (.getfield 57, 3)) (kk : W p l e R s m args below meth c H locs cells slots Q (F0 m (pc + 3) ls (.int (I 6 i 2) :: rest))) : W p l e R s m args below meth c H locs cells slots Q (F0 m pc ls (.ref (cx_b G + ly_loc 6 i) :: rest)) := r_getN X S (ly_ok_6 hi S.2.2.2) rfl (show vwCl[6]? = some (RX6, TX6, 4) from rfl) in_X6 2 (by decide) lk_X1_57 rfl hd kk
theorem lk_X1_67 : Cond.fieldLink RX1 67 "WhoSingsNext$House" "mood" "I" ∈ gw_t := gw_mem 158 (by decide +kernel) (by decide +kernel)
theorem gf_X1_67 (X : cx_ok G p s m args meth c cc nL RX1 ret) (S : st_ok G n I J s H locs) {i : Nat} (hi : i < 2) (hd : decode cc pc = .ok (.getfield 67, 3)) (kk : W p l e R s m args below meth c H locs cells slots Q (F0 m (pc + 3) ls (.int (I 1 i 4) :: rest))) : W p l e R s m args below meth c H locs cells slots Q (F0 m pc ls (.ref (cx_b G + ly_loc 1 i) :: rest)) := r_get X S (ly_ok_1 hi S.2.2.2) rfl (show vwCl[1]? = some (RX1, TX1, 8) from rfl) in_X1 4 (by decide) lk_X1_67 rfl hd kk
theorem lk_X1_73 : Cond.fieldLink RX1 73 "WhoSingsNext$House" "rule" "I" ∈ gw_t := gw_mem 164 (by decide +kernel) (by decide +kernel)
theorem gf_X1_73 (X : cx_ok G p s m args meth c cc nL RX1 ret) (S : st_ok G n I J s H locs) {i : Nat} (hi : i < 2) (hd : decode cc pc = .ok (.getfield 73, 3)) (kk : W p l e R s m args below meth c H locs cells slots Q (F0 m (pc + 3) ls (.int (I 1 i 6) :: rest))) : W p l e R s m args below meth c H locs cells slots Q (F0 m pc ls (.ref (cx_b G + ly_loc 1 i) :: rest)) := r_get X S (ly_ok_1 hi S.2.2.2) rfl (show vwCl[1]? = some (RX1, TX1, 8) from rfl) in_X1 6 (by decide) lk_X1_73 rfl hd kk
theorem lk_X2_7 : Cond.fieldLink RX2 7 "WhoSingsNext$Person" "patience" "I" ∈ gw_t := gw_mem 106 (by decide +kernel) (by decide +kernel)
theorem gf_X2_7 (X : cx_ok G p s m args meth c cc nL RX2 ret) (S : st_ok G n I J s H locs) {i : Nat} (hi : i < 16) (hd : decode cc pc = .ok (.getfield 7, 3)) (kk : W p l e R s m args below meth c H locs cells slots Q (F0 m (pc + 3) ls (.int (I 2 i 0) :: rest))) : W p l e R s m args below meth c H locs cells slots Q (F0 m pc ls (.ref (cx_b G + ly_loc 2 i) :: rest)) := r_get X S (ly_ok_2 hi S.2.2.2) rfl (show vwCl[2]? = some (RX2, TX2, 2) from rfl) in_X2 0 (by decide) lk_X2_7 rfl hd kk
theorem lk_X2_13 : Cond.fieldLink RX2 13 "WhoSingsNext$Person" "group" "I" ∈ gw_t := gw_mem 109 (by decide +kernel) (by decide +kernel)
theorem gf_X2_13 (X : cx_ok G p s m args meth c cc nL RX2 ret) (S : st_ok G n I J s H locs) {i : Nat} (hi : i < 16) (hd : decode cc pc = .ok (.getfield 13, 3)) (kk : W p l e R s m args below meth c H locs cells slots Q (F0 m (pc + 3) ls (.int (I 2 i 1) :: rest))) : W p l e R s m args below meth c H locs cells slots Q (F0 m pc ls (.ref (cx_b G + ly_loc 2 i) :: rest)) := r_get X S (ly_ok_2 hi S.2.2.2) rfl (show vwCl[2]? = some (RX2, TX2, 2) from rfl) in_X2 1 (by decide) lk_X2_13 rfl hd kk
theorem lk_X3_9 : Cond.fieldLink RX3 9 "WhoSingsNext$Reader" "tape" "[I" ∈ gw_t := gw_mem 190 (by decide +kernel) (by decide +kernel)
theorem gf_X3_9 (X : cx_ok G p s m args meth c cc nL RX3 ret) (S : st_ok G n I J s H locs) {i : Nat} (hi : i < 1) (hd : decode cc pc = .ok (.getfield 9, 3)) (kk : W p l e R s m args below meth c H locs cells slots Q (F0 m (pc + 3) ls (.ref (cx_b G + ly_loc 18 0) :: rest))) : W p l e R s m args below meth c H locs cells slots Q (F0 m pc ls (.ref (cx_b G + ly_loc 3 i) :: rest)) := r_get X S (ly_ok_3 hi S.2.2.2) rfl (show vwCl[3]? = some (RX3, TX3, 11) from rfl) in_X3 0 (by decide) lk_X3_9 rfl hd kk
theorem lk_X3_15 : Cond.fieldLink RX3 15 "WhoSingsNext$Reader" "code" "[I" ∈ gw_t := gw_mem 193 (by decide +kernel) (by decide +kernel)
theorem gf_X3_15 (X : cx_ok G p s m args meth c cc nL RX3 ret) (S : st_ok G n I J s H locs) {i : Nat} (hi : i < 1) (hd : decode cc pc = .ok (.getfield 15, 3)) (kk : W p l e R s m args below meth c H locs cells slots Q (F0 m (pc + 3) ls (.ref (cx_b G + ly_loc 19 0) :: rest))) : W p l e R s m args below meth c H locs cells slots Q (F0 m pc ls (.ref (cx_b G + ly_loc 3 i) :: rest)) := r_get X S (ly_ok_3 hi S.2.2.2) rfl (show vwCl[3]? = some (RX3, TX3, 11) from rfl) in_X3 2 (by decide) lk_X3_15 rfl hd kk
theorem lk_X3_18 : Cond.fieldLink RX3 18 "WhoSingsNext$Reader" "bytes" "I" ∈ gw_t := gw_mem 191 (by decide +kernel) (by decide +kernel)
theorem gf_X3_18 (X : cx_ok G p s m args meth c cc nL RX3 ret) (S : st_ok G n I J s H locs) {i : Nat} (hi : i < 1) (hd : decode cc pc = .ok (.getfield 18, 3)) (kk : W p l e R s m args below meth c H locs cells slots Q (F0 m (pc + 3) ls (.int (I 3 i 1) :: rest))) : W p l e R s m args below meth c H locs cells slots Q (F0 m pc ls (.ref (cx_b G + ly_loc 3 i) :: rest)) := r_get X S (ly_ok_3 hi S.2.2.2) rfl (show vwCl[3]? = some (RX3, TX3, 11) from rfl) in_X3 1 (by decide) lk_X3_18 rfl hd kk
theorem lk_X3_22 : Cond.fieldLink RX3 22 "WhoSingsNext$Reader" "codes" "I" ∈ gw_t := gw_mem 194 (by decide +kernel) (by decide +kernel)
theorem gf_X3_22 (X : cx_ok G p s m args meth c cc nL RX3 ret) (S : st_ok G n I J s H locs) {i : Nat} (hi : i < 1) (hd : decode cc pc = .ok (.getfield 22, 3)) (kk : W p l e R s m args below meth c H locs cells slots Q (F0 m (pc + 3) ls (.int (I 3 i 3) :: rest))) : W p l e R s m args below meth c H locs cells slots Q (F0 m pc ls (.ref (cx_b G + ly_loc 3 i) :: rest)) := r_get X S (ly_ok_3 hi S.2.2.2) rfl (show vwCl[3]? = some (RX3, TX3, 11) from rfl) in_X3 3 (by decide) lk_X3_22 rfl hd kk
theorem lk_X3_25 : Cond.fieldLink RX3 25 "WhoSingsNext$Reader" "next" "I" ∈ gw_t := gw_mem 200 (by decide +kernel) (by decide +kernel)
theorem gf_X3_25 (X : cx_ok G p s m args meth c cc nL RX3 ret) (S : st_ok G n I J s H locs) {i : Nat} (hi : i < 1) (hd : decode cc pc = .ok (.getfield 25, 3)) (kk : W p l e R s m args below meth c H locs cells slots Q (F0 m (pc + 3) ls (.int (I 3 i 9) :: rest))) : W p l e R s m args below meth c H locs cells slots Q (F0 m pc ls (.ref (cx_b G + ly_loc 3 i) :: rest)) := r_get X S (ly_ok_3 hi S.2.2.2) rfl (show vwCl[3]? = some (RX3, TX3, 11) from rfl) in_X3 9 (by decide) lk_X3_25 rfl hd kk
theorem lk_X3_28 : Cond.fieldLink RX3 28 "WhoSingsNext$Reader" "fault" "I" ∈ gw_t := gw_mem 201 (by decide +kernel) (by decide +kernel)
theorem gf_X3_28 (X : cx_ok G p s m args meth c cc nL RX3 ret) (S : st_ok G n I J s H locs) {i : Nat} (hi : i < 1) (hd : decode cc pc = .ok (.getfield 28, 3)) (kk : W p l e R s m args below meth c H locs cells slots Q (F0 m (pc + 3) ls (.int (I 3 i 10) :: rest))) : W p l e R s m args below meth c H locs cells slots Q (F0 m pc ls (.ref (cx_b G + ly_loc 3 i) :: rest)) := r_get X S (ly_ok_3 hi S.2.2.2) rfl (show vwCl[3]? = some (RX3, TX3, 11) from rfl) in_X3 10 (by decide) lk_X3_28 rfl hd kk
theorem lk_X3_38 : Cond.fieldLink RX3 38 "WhoSingsNext$Reader" "takesAt" "I" ∈ gw_t := gw_mem 195 (by decide +kernel) (by decide +kernel)
theorem gf_X3_38 (X : cx_ok G p s m args meth c cc nL RX3 ret) (S : st_ok G n I J s H locs) {i : Nat} (hi : i < 1) (hd : decode cc pc = .ok (.getfield 38, 3)) (kk : W p l e R s m args below meth c H locs cells slots Q (F0 m (pc + 3) ls (.int (I 3 i 4) :: rest))) : W p l e R s m args below meth c H locs cells slots Q (F0 m pc ls (.ref (cx_b G + ly_loc 3 i) :: rest)) := r_get X S (ly_ok_3 hi S.2.2.2) rfl (show vwCl[3]? = some (RX3, TX3, 11) from rfl) in_X3 4 (by decide) lk_X3_38 rfl hd kk
theorem lk_X3_41 : Cond.fieldLink RX3 41 "WhoSingsNext$Reader" "firstAt" "I" ∈ gw_t := gw_mem 196 (by decide +kernel) (by decide +kernel)
theorem gf_X3_41 (X : cx_ok G p s m args meth c cc nL RX3 ret) (S : st_ok G n I J s H locs) {i : Nat} (hi : i < 1) (hd : decode cc pc = .ok (.getfield 41, 3)) (kk : W p l e R s m args below meth c H locs cells slots Q (F0 m (pc + 3) ls (.int (I 3 i 5) :: rest))) : W p l e R s m args below meth c H locs cells slots Q (F0 m pc ls (.ref (cx_b G + ly_loc 3 i) :: rest)) := r_get X S (ly_ok_3 hi S.2.2.2) rfl (show vwCl[3]? = some (RX3, TX3, 11) from rfl) in_X3 5 (by decide) lk_X3_41 rfl hd kk
theorem lk_X3_44 : Cond.fieldLink RX3 44 "WhoSingsNext$Reader" "token" "I" ∈ gw_t := gw_mem 197 (by decide +kernel) (by decide +kernel)
theorem gf_X3_44 (X : cx_ok G p s m args meth c cc nL RX3 ret) (S : st_ok G n I J s H locs) {i : Nat} (hi : i < 1) (hd : decode cc pc = .ok (.getfield 44, 3)) (kk : W p l e R s m args below meth c H locs cells slots Q (F0 m (pc + 3) ls (.int (I 3 i 6) :: rest))) : W p l e R s m args below meth c H locs cells slots Q (F0 m pc ls (.ref (cx_b G + ly_loc 3 i) :: rest)) := r_get X S (ly_ok_3 hi S.2.2.2) rfl (show vwCl[3]? = some (RX3, TX3, 11) from rfl) in_X3 6 (by decide) lk_X3_44 rfl hd kk
theorem lk_X3_68 : Cond.fieldLink RX3 68 "WhoSingsNext$Reader" "place" "I" ∈ gw_t := gw_mem 199 (by decide +kernel) (by decide +kernel)
theorem gf_X3_68 (X : cx_ok G p s m args meth c cc nL RX3 ret) (S : st_ok G n I J s H locs) {i : Nat} (hi : i < 1) (hd : decode cc pc = .ok (.getfield 68, 3)) (kk : W p l e R s m args below meth c H locs cells slots Q (F0 m (pc + 3) ls (.int (I 3 i 8) :: rest))) : W p l e R s m args below meth c H locs cells slots Q (F0 m pc ls (.ref (cx_b G + ly_loc 3 i) :: rest)) := r_get X S (ly_ok_3 hi S.2.2.2) rfl (show vwCl[3]? = some (RX3, TX3, 11) from rfl) in_X3 8 (by decide) lk_X3_68 rfl hd kk
theorem lk_X3_84 : Cond.fieldLink RX3 84 "WhoSingsNext$Reader" "number" "I" ∈ gw_t := gw_mem 198 (by decide +kernel) (by decide +kernel)
theorem gf_X3_84 (X : cx_ok G p s m args meth c cc nL RX3 ret) (S : st_ok G n I J s H locs) {i : Nat} (hi : i < 1) (hd : decode cc pc = .ok (.getfield 84, 3)) (kk : W p l e R s m args below meth c H locs cells slots Q (F0 m (pc + 3) ls (.int (I 3 i 7) :: rest))) : W p l e R s m args below meth c H locs cells slots Q (F0 m pc ls (.ref (cx_b G + ly_loc 3 i) :: rest)) := r_get X S (ly_ok_3 hi S.2.2.2) rfl (show vwCl[3]? = some (RX3, TX3, 11) from rfl) in_X3 7 (by decide) lk_X3_84 rfl hd kk
theorem lk_X4_11 : Cond.fieldLink RX4 11 "WhoSingsNext$Search" "evenings" "[LWhoSingsNext$Evening;" ∈ gw_t := gw_mem 303 (by decide +kernel) (by decide +kernel)
theorem gf_X4_11 (X : cx_ok G p s m args meth c cc nL RX4 ret) (S : st_ok G n I J s H locs) {i : Nat} (hi : i < 1) (hd : decode cc pc = .ok (.getfield 11, 3)) (kk : W p l e R s m args below meth c H locs cells slots Q (F0 m (pc + 3) ls (.ref (cx_b G + ly_loc 21 0) :: rest))) : W p l e R s m args below meth c H locs cells slots Q (F0 m pc ls (.ref (cx_b G + ly_loc 4 i) :: rest)) := r_get X S (ly_ok_4 hi S.2.2.2) rfl (show vwCl[4]? = some (RX4, TX4, 7) from rfl) in_X4 1 (by decide) lk_X4_11 rfl hd kk
theorem lk_X4_17 : Cond.fieldLink RX4 17 "WhoSingsNext$Search" "taken" "[I" ∈ gw_t := gw_mem 304 (by decide +kernel) (by decide +kernel)
theorem gf_X4_17 (X : cx_ok G p s m args meth c cc nL RX4 ret) (S : st_ok G n I J s H locs) {i : Nat} (hi : i < 1) (hd : decode cc pc = .ok (.getfield 17, 3)) (kk : W p l e R s m args below meth c H locs cells slots Q (F0 m (pc + 3) ls (.ref (cx_b G + ly_loc 22 0) :: rest))) : W p l e R s m args below meth c H locs cells slots Q (F0 m pc ls (.ref (cx_b G + ly_loc 4 i) :: rest)) := r_get X S (ly_ok_4 hi S.2.2.2) rfl (show vwCl[4]? = some (RX4, TX4, 7) from rfl) in_X4 2 (by decide) lk_X4_17 rfl hd kk
theorem lk_X4_21 : Cond.fieldLink RX4 21 "WhoSingsNext$Search" "left" "[I" ∈ gw_t := gw_mem 305 (by decide +kernel) (by decide +kernel)
theorem gf_X4_21 (X : cx_ok G p s m args meth c cc nL RX4 ret) (S : st_ok G n I J s H locs) {i : Nat} (hi : i < 1) (hd : decode cc pc = .ok (.getfield 21, 3)) (kk : W p l e R s m args below meth c H locs cells slots Q (F0 m (pc + 3) ls (.ref (cx_b G + ly_loc 23 0) :: rest))) : W p l e R s m args below meth c H locs cells slots Q (F0 m pc ls (.ref (cx_b G + ly_loc 4 i) :: rest)) := r_get X S (ly_ok_4 hi S.2.2.2) rfl (show vwCl[4]? = some (RX4, TX4, 7) from rfl) in_X4 3 (by decide) lk_X4_21 rfl hd kk
theorem lk_X4_24 : Cond.fieldLink RX4 24 "WhoSingsNext$Search" "sung" "[I" ∈ gw_t := gw_mem 306 (by decide +kernel) (by decide +kernel)
theorem gf_X4_24 (X : cx_ok G p s m args meth c cc nL RX4 ret) (S : st_ok G n I J s H locs) {i : Nat} (hi : i < 1) (hd : decode cc pc = .ok (.getfield 24, 3)) (kk : W p l e R s m args below meth c H locs cells slots Q (F0 m (pc + 3) ls (.ref (cx_b G + ly_loc 24 0) :: rest))) : W p l e R s m args below meth c H locs cells slots Q (F0 m pc ls (.ref (cx_b G + ly_loc 4 i) :: rest)) := r_get X S (ly_ok_4 hi S.2.2.2) rfl (show vwCl[4]? = some (RX4, TX4, 7) from rfl) in_X4 4 (by decide) lk_X4_24 rfl hd kk
theorem lk_X4_27 : Cond.fieldLink RX4 27 "WhoSingsNext$Search" "row" "[I" ∈ gw_t := gw_mem 307 (by decide +kernel) (by decide +kernel)
theorem gf_X4_27 (X : cx_ok G p s m args meth c cc nL RX4 ret) (S : st_ok G n I J s H locs) {i : Nat} (hi : i < 1) (hd : decode cc pc = .ok (.getfield 27, 3)) (kk : W p l e R s m args below meth c H locs cells slots Q (F0 m (pc + 3) ls (.ref (cx_b G + ly_loc 25 0) :: rest))) : W p l e R s m args below meth c H locs cells slots Q (F0 m pc ls (.ref (cx_b G + ly_loc 4 i) :: rest)) := r_get X S (ly_ok_4 hi S.2.2.2) rfl (show vwCl[4]? = some (RX4, TX4, 7) from rfl) in_X4 5 (by decide) lk_X4_27 rfl hd kk
theorem lk_X4_30 : Cond.fieldLink RX4 30 "WhoSingsNext$Search" "looked" "I" ∈ gw_t := gw_mem 308 (by decide +kernel) (by decide +kernel)
theorem gf_X4_30 (X : cx_ok G p s m args meth c cc nL RX4 ret) (S : st_ok G n I J s H locs) {i : Nat} (hi : i < 1) (hd : decode cc pc = .ok (.getfield 30, 3)) (kk : W p l e R s m args below meth c H locs cells slots Q (F0 m (pc + 3) ls (.int (I 4 i 6) :: rest))) : W p l e R s m args below meth c H locs cells slots Q (F0 m pc ls (.ref (cx_b G + ly_loc 4 i) :: rest)) := r_get X S (ly_ok_4 hi S.2.2.2) rfl (show vwCl[4]? = some (RX4, TX4, 7) from rfl) in_X4 6 (by decide) lk_X4_30 rfl hd kk
theorem lk_X4_34 : Cond.fieldLink RX4 34 "WhoSingsNext$Search" "house" "LWhoSingsNext$House;" ∈ gw_t := gw_mem 302 (by decide +kernel) (by decide +kernel)
theorem gf_X4_34 (X : cx_ok G p s m args meth c cc nL RX4 ret) (S : st_ok G n I J s H locs) {i : Nat} (hi : i < 1) (hd : decode cc pc = .ok (.getfield 34, 3)) (kk : W p l e R s m args below meth c H locs cells slots Q (F0 m (pc + 3) ls (.ref (cx_b G + ly_loc 1 0) :: rest))) : W p l e R s m args below meth c H locs cells slots Q (F0 m pc ls (.ref (cx_b G + ly_loc 4 i) :: rest)) := r_get X S (ly_ok_4 hi S.2.2.2) rfl (show vwCl[4]? = some (RX4, TX4, 7) from rfl) in_X4 0 (by decide) lk_X4_34 rfl hd kk
theorem lk_X4_41 : Cond.fieldLinkNest RX4 41 "WhoSingsNext$House" "changes" "I" "WhoSingsNext" ∈ nw_t := nw_mem 165 (by decide +kernel) (by decide +kernel)
theorem gf_X4_41 (X : cx_ok G p s m args meth c cc nL RX4 ret) (S : st_ok G n I J s H locs) {i : Nat} (hi : i < 2) (hd : decode cc pc = .ok (.getfield 41, 3)) (kk : W p l e R s m args below meth c H locs cells slots Q (F0 m (pc + 3) ls (.int (I 1 i 7) :: rest))) : W p l e R s m args below meth c H locs cells slots Q (F0 m pc ls (.ref (cx_b G + ly_loc 1 i) :: rest)) := r_getN X S (ly_ok_1 hi S.2.2.2) rfl (show vwCl[1]? = some (RX1, TX1, 8) from rfl) in_X1 7 (by decide) lk_X4_41 rfl hd kk
theorem lk_X4_58 : Cond.fieldLinkNest RX4 58 "WhoSingsNext$Evening" "bar" "I" "WhoSingsNext" ∈ nw_t := nw_mem 252 (by decide +kernel) (by decide +kernel)
theorem gf_X4_58 (X : cx_ok G p s m args meth c cc nL RX4 ret) (S : st_ok G n I J s H locs) {i : Nat} (hi : i < 9) (hd : decode cc pc = .ok (.getfield 58, 3)) (kk : W p l e R s m args below meth c H locs cells slots Q (F0 m (pc + 3) ls (.int (I 0 i 12) :: rest))) : W p l e R s m args below meth c H locs cells slots Q (F0 m pc ls (.ref (cx_b G + ly_loc 0 i) :: rest)) := r_getN X S (ly_ok_0 hi S.2.2.2) rfl (show vwCl[0]? = some (RX0, TX0, 16) from rfl) in_X0 12 (by decide) lk_X4_58 rfl hd kk
theorem lk_X4_61 : Cond.fieldLinkNest RX4 61 "WhoSingsNext$Evening" "left" "I" "WhoSingsNext" ∈ nw_t := nw_mem 255 (by decide +kernel) (by decide +kernel)
theorem gf_X4_61 (X : cx_ok G p s m args meth c cc nL RX4 ret) (S : st_ok G n I J s H locs) {i : Nat} (hi : i < 9) (hd : decode cc pc = .ok (.getfield 61, 3)) (kk : W p l e R s m args below meth c H locs cells slots Q (F0 m (pc + 3) ls (.int (I 0 i 13) :: rest))) : W p l e R s m args below meth c H locs cells slots Q (F0 m pc ls (.ref (cx_b G + ly_loc 0 i) :: rest)) := r_getN X S (ly_ok_0 hi S.2.2.2) rfl (show vwCl[0]? = some (RX0, TX0, 16) from rfl) in_X0 13 (by decide) lk_X4_61 rfl hd kk
theorem lk_X4_63 : Cond.fieldLinkNest RX4 63 "WhoSingsNext$Evening" "sung" "I" "WhoSingsNext" ∈ nw_t := nw_mem 258 (by decide +kernel) (by decide +kernel)
theorem gf_X4_63 (X : cx_ok G p s m args meth c cc nL RX4 ret) (S : st_ok G n I J s H locs) {i : Nat} (hi : i < 9) (hd : decode cc pc = .ok (.getfield 63, 3)) (kk : W p l e R s m args below meth c H locs cells slots Q (F0 m (pc + 3) ls (.int (I 0 i 14) :: rest))) : W p l e R s m args below meth c H locs cells slots Q (F0 m pc ls (.ref (cx_b G + ly_loc 0 i) :: rest)) := r_getN X S (ly_ok_0 hi S.2.2.2) rfl (show vwCl[0]? = some (RX0, TX0, 16) from rfl) in_X0 14 (by decide) lk_X4_63 rfl hd kk
theorem lk_X4_65 : Cond.fieldLinkNest RX4 65 "WhoSingsNext$House" "slipCount" "I" "WhoSingsNext" ∈ nw_t := nw_mem 154 (by decide +kernel) (by decide +kernel)
theorem gf_X4_65 (X : cx_ok G p s m args meth c cc nL RX4 ret) (S : st_ok G n I J s H locs) {i : Nat} (hi : i < 2) (hd : decode cc pc = .ok (.getfield 65, 3)) (kk : W p l e R s m args below meth c H locs cells slots Q (F0 m (pc + 3) ls (.int (I 1 i 3) :: rest))) : W p l e R s m args below meth c H locs cells slots Q (F0 m pc ls (.ref (cx_b G + ly_loc 1 i) :: rest)) := r_getN X S (ly_ok_1 hi S.2.2.2) rfl (show vwCl[1]? = some (RX1, TX1, 8) from rfl) in_X1 3 (by decide) lk_X4_65 rfl hd kk
theorem lk_X5_9 : Cond.fieldLink RX5 9 "WhoSingsNext$Sheet" "items" "[I" ∈ gw_t := gw_mem 557 (by decide +kernel) (by decide +kernel)
theorem gf_X5_9 (X : cx_ok G p s m args meth c cc nL RX5 ret) (S : st_ok G n I J s H locs) {i : Nat} (hi : i < 4) (hd : decode cc pc = .ok (.getfield 9, 3)) (kk : W p l e R s m args below meth c H locs cells slots Q (F0 m (pc + 3) ls (.ref (cx_b G + ly_loc 27 i) :: rest))) : W p l e R s m args below meth c H locs cells slots Q (F0 m pc ls (.ref (cx_b G + ly_loc 5 i) :: rest)) := r_get X S (ly_ok_5 hi S.2.2.2) rfl (show vwCl[5]? = some (RX5, TX5, 3) from rfl) in_X5 0 (by decide) lk_X5_9 rfl hd kk
theorem lk_X5_15 : Cond.fieldLink RX5 15 "WhoSingsNext$Sheet" "sort" "I" ∈ gw_t := gw_mem 559 (by decide +kernel) (by decide +kernel)
theorem gf_X5_15 (X : cx_ok G p s m args meth c cc nL RX5 ret) (S : st_ok G n I J s H locs) {i : Nat} (hi : i < 4) (hd : decode cc pc = .ok (.getfield 15, 3)) (kk : W p l e R s m args below meth c H locs cells slots Q (F0 m (pc + 3) ls (.int (I 5 i 1) :: rest))) : W p l e R s m args below meth c H locs cells slots Q (F0 m pc ls (.ref (cx_b G + ly_loc 5 i) :: rest)) := r_get X S (ly_ok_5 hi S.2.2.2) rfl (show vwCl[5]? = some (RX5, TX5, 3) from rfl) in_X5 1 (by decide) lk_X5_15 rfl hd kk
theorem lk_X5_19 : Cond.fieldLink RX5 19 "WhoSingsNext$Sheet" "size" "I" ∈ gw_t := gw_mem 561 (by decide +kernel) (by decide +kernel)
theorem gf_X5_19 (X : cx_ok G p s m args meth c cc nL RX5 ret) (S : st_ok G n I J s H locs) {i : Nat} (hi : i < 4) (hd : decode cc pc = .ok (.getfield 19, 3)) (kk : W p l e R s m args below meth c H locs cells slots Q (F0 m (pc + 3) ls (.int (I 5 i 2) :: rest))) : W p l e R s m args below meth c H locs cells slots Q (F0 m pc ls (.ref (cx_b G + ly_loc 5 i) :: rest)) := r_get X S (ly_ok_5 hi S.2.2.2) rfl (show vwCl[5]? = some (RX5, TX5, 3) from rfl) in_X5 2 (by decide) lk_X5_19 rfl hd kk
theorem lk_X6_9 : Cond.fieldLink RX6 9 "WhoSingsNext$Slip" "kind" "I" ∈ gw_t := gw_mem 122 (by decide +kernel) (by decide +kernel)
theorem gf_X6_9 (X : cx_ok G p s m args meth c cc nL RX6 ret) (S : st_ok G n I J s H locs) {i : Nat} (hi : i < 14) (hd : decode cc pc = .ok (.getfield 9, 3)) (kk : W p l e R s m args below meth c H locs cells slots Q (F0 m (pc + 3) ls (.int (I 6 i 0) :: rest))) : W p l e R s m args below meth c H locs cells slots Q (F0 m pc ls (.ref (cx_b G + ly_loc 6 i) :: rest)) := r_get X S (ly_ok_6 hi S.2.2.2) rfl (show vwCl[6]? = some (RX6, TX6, 4) from rfl) in_X6 0 (by decide) lk_X6_9 rfl hd kk
theorem lk_X6_15 : Cond.fieldLink RX6 15 "WhoSingsNext$Slip" "number" "I" ∈ gw_t := gw_mem 126 (by decide +kernel) (by decide +kernel)
theorem gf_X6_15 (X : cx_ok G p s m args meth c cc nL RX6 ret) (S : st_ok G n I J s H locs) {i : Nat} (hi : i < 14) (hd : decode cc pc = .ok (.getfield 15, 3)) (kk : W p l e R s m args below meth c H locs cells slots Q (F0 m (pc + 3) ls (.int (I 6 i 1) :: rest))) : W p l e R s m args below meth c H locs cells slots Q (F0 m pc ls (.ref (cx_b G + ly_loc 6 i) :: rest)) := r_get X S (ly_ok_6 hi S.2.2.2) rfl (show vwCl[6]? = some (RX6, TX6, 4) from rfl) in_X6 1 (by decide) lk_X6_15 rfl hd kk
theorem lk_X6_18 : Cond.fieldLink RX6 18 "WhoSingsNext$Slip" "minutes" "I" ∈ gw_t := gw_mem 129 (by decide +kernel) (by decide +kernel)
theorem gf_X6_18 (X : cx_ok G p s m args meth c cc nL RX6 ret) (S : st_ok G n I J s H locs) {i : Nat} (hi : i < 14) (hd : decode cc pc = .ok (.getfield 18, 3)) (kk : W p l e R s m args below meth c H locs cells slots Q (F0 m (pc + 3) ls (.int (I 6 i 2) :: rest))) : W p l e R s m args below meth c H locs cells slots Q (F0 m pc ls (.ref (cx_b G + ly_loc 6 i) :: rest)) := r_get X S (ly_ok_6 hi S.2.2.2) rfl (show vwCl[6]? = some (RX6, TX6, 4) from rfl) in_X6 2 (by decide) lk_X6_18 rfl hd kk
theorem lk_X6_21 : Cond.fieldLink RX6 21 "WhoSingsNext$Slip" "whose" "I" ∈ gw_t := gw_mem 132 (by decide +kernel) (by decide +kernel)
theorem gf_X6_21 (X : cx_ok G p s m args meth c cc nL RX6 ret) (S : st_ok G n I J s H locs) {i : Nat} (hi : i < 14) (hd : decode cc pc = .ok (.getfield 21, 3)) (kk : W p l e R s m args below meth c H locs cells slots Q (F0 m (pc + 3) ls (.int (I 6 i 3) :: rest))) : W p l e R s m args below meth c H locs cells slots Q (F0 m pc ls (.ref (cx_b G + ly_loc 6 i) :: rest)) := r_get X S (ly_ok_6 hi S.2.2.2) rfl (show vwCl[6]? = some (RX6, TX6, 4) from rfl) in_X6 3 (by decide) lk_X6_21 rfl hd kk
theorem lk_X7_9 : Cond.fieldLink RX7 9 "WhoSingsNext$Text" "pending" "[I" ∈ gw_t := gw_mem 541 (by decide +kernel) (by decide +kernel)
theorem gf_X7_9 (X : cx_ok G p s m args meth c cc nL RX7 ret) (S : st_ok G n I J s H locs) {i : Nat} (hi : 3 * i + 144 ≤ n) (hd : decode cc pc = .ok (.getfield 9, 3)) (kk : W p l e R s m args below meth c H locs cells slots Q (F0 m (pc + 3) ls (.ref (cx_b G + ly_loc 29 i) :: rest))) : W p l e R s m args below meth c H locs cells slots Q (F0 m pc ls (.ref (cx_b G + ly_loc 7 i) :: rest)) := r_get X S (ly_ok_7 hi) rfl (show vwCl[7]? = some (RX7, TX7, 4) from rfl) in_X7 3 (by decide) lk_X7_9 rfl hd kk
theorem lk_X7_13 : Cond.fieldLink RX7 13 "WhoSingsNext$Text" "code" "[I" ∈ gw_t := gw_mem 538 (by decide +kernel) (by decide +kernel)
theorem gf_X7_13 (X : cx_ok G p s m args meth c cc nL RX7 ret) (S : st_ok G n I J s H locs) {i : Nat} (hi : 3 * i + 144 ≤ n) (hd : decode cc pc = .ok (.getfield 13, 3)) (kk : W p l e R s m args below meth c H locs cells slots Q (F0 m (pc + 3) ls (.ref (cx_b G + ly_loc 28 i) :: rest))) : W p l e R s m args below meth c H locs cells slots Q (F0 m pc ls (.ref (cx_b G + ly_loc 7 i) :: rest)) := r_get X S (ly_ok_7 hi) rfl (show vwCl[7]? = some (RX7, TX7, 4) from rfl) in_X7 0 (by decide) lk_X7_13 rfl hd kk
theorem lk_X7_16 : Cond.fieldLink RX7 16 "WhoSingsNext$Text" "takesAt" "I" ∈ gw_t := gw_mem 539 (by decide +kernel) (by decide +kernel)
theorem gf_X7_16 (X : cx_ok G p s m args meth c cc nL RX7 ret) (S : st_ok G n I J s H locs) {i : Nat} (hi : 3 * i + 144 ≤ n) (hd : decode cc pc = .ok (.getfield 16, 3)) (kk : W p l e R s m args below meth c H locs cells slots Q (F0 m (pc + 3) ls (.int (I 7 i 1) :: rest))) : W p l e R s m args below meth c H locs cells slots Q (F0 m pc ls (.ref (cx_b G + ly_loc 7 i) :: rest)) := r_get X S (ly_ok_7 hi) rfl (show vwCl[7]? = some (RX7, TX7, 4) from rfl) in_X7 1 (by decide) lk_X7_16 rfl hd kk
theorem lk_X7_20 : Cond.fieldLink RX7 20 "WhoSingsNext$Text" "firstAt" "I" ∈ gw_t := gw_mem 540 (by decide +kernel) (by decide +kernel)
theorem gf_X7_20 (X : cx_ok G p s m args meth c cc nL RX7 ret) (S : st_ok G n I J s H locs) {i : Nat} (hi : 3 * i + 144 ≤ n) (hd : decode cc pc = .ok (.getfield 20, 3)) (kk : W p l e R s m args below meth c H locs cells slots Q (F0 m (pc + 3) ls (.int (I 7 i 2) :: rest))) : W p l e R s m args below meth c H locs cells slots Q (F0 m pc ls (.ref (cx_b G + ly_loc 7 i) :: rest)) := r_get X S (ly_ok_7 hi) rfl (show vwCl[7]? = some (RX7, TX7, 4) from rfl) in_X7 2 (by decide) lk_X7_20 rfl hd kk
theorem lk_X8_10 : Cond.fieldLink RX8 10 "WhoSingsNext" "house" "LWhoSingsNext$House;" ∈ gw_t := gw_mem 570 (by decide +kernel) (by decide +kernel)
theorem gf_X8_10 (X : cx_ok G p s m args meth c cc nL RX8 ret) (S : st_ok G n I J s H locs) {i : Nat} (hi : i < 1) (hd : decode cc pc = .ok (.getfield 10, 3)) (kk : W p l e R s m args below meth c H locs cells slots Q (F0 m (pc + 3) ls (.ref (cx_b G + ly_loc 1 0) :: rest))) : W p l e R s m args below meth c H locs cells slots Q (F0 m pc ls (.ref (cx_b G + ly_loc 8 i) :: rest)) := r_get X S (ly_ok_8 hi S.2.2.2) rfl (show vwCl[8]? = some (RX8, TX8, 9) from rfl) in_X8 0 (by decide) lk_X8_10 rfl hd kk
theorem lk_X8_16 : Cond.fieldLink RX8 16 "WhoSingsNext" "kept" "LWhoSingsNext$House;" ∈ gw_t := gw_mem 571 (by decide +kernel) (by decide +kernel)
theorem gf_X8_16 (X : cx_ok G p s m args meth c cc nL RX8 ret) (S : st_ok G n I J s H locs) {i : Nat} (hi : i < 1) (hd : decode cc pc = .ok (.getfield 16, 3)) (kk : W p l e R s m args below meth c H locs cells slots Q (F0 m (pc + 3) ls (.ref (cx_b G + ly_loc 1 1) :: rest))) : W p l e R s m args below meth c H locs cells slots Q (F0 m pc ls (.ref (cx_b G + ly_loc 8 i) :: rest)) := r_get X S (ly_ok_8 hi S.2.2.2) rfl (show vwCl[8]? = some (RX8, TX8, 9) from rfl) in_X8 1 (by decide) lk_X8_16 rfl hd kk
theorem lk_X8_22 : Cond.fieldLink RX8 22 "WhoSingsNext" "reader" "LWhoSingsNext$Reader;" ∈ gw_t := gw_mem 573 (by decide +kernel) (by decide +kernel)
theorem gf_X8_22 (X : cx_ok G p s m args meth c cc nL RX8 ret) (S : st_ok G n I J s H locs) {i : Nat} (hi : i < 1) (hd : decode cc pc = .ok (.getfield 22, 3)) (kk : W p l e R s m args below meth c H locs cells slots Q (F0 m (pc + 3) ls (.ref (cx_b G + ly_loc 3 0) :: rest))) : W p l e R s m args below meth c H locs cells slots Q (F0 m pc ls (.ref (cx_b G + ly_loc 8 i) :: rest)) := r_get X S (ly_ok_8 hi S.2.2.2) rfl (show vwCl[8]? = some (RX8, TX8, 9) from rfl) in_X8 3 (by decide) lk_X8_22 rfl hd kk
theorem lk_X8_28 : Cond.fieldLink RX8 28 "WhoSingsNext" "texts" "[LWhoSingsNext$Text;" ∈ gw_t := gw_mem 574 (by decide +kernel) (by decide +kernel)
theorem gf_X8_28 (X : cx_ok G p s m args meth c cc nL RX8 ret) (S : st_ok G n I J s H locs) {i : Nat} (hi : i < 1) (hd : decode cc pc = .ok (.getfield 28, 3)) (kk : W p l e R s m args below meth c H locs cells slots Q (F0 m (pc + 3) ls (.ref (cx_b G + ly_loc 20 0) :: rest))) : W p l e R s m args below meth c H locs cells slots Q (F0 m pc ls (.ref (cx_b G + ly_loc 8 i) :: rest)) := r_get X S (ly_ok_8 hi S.2.2.2) rfl (show vwCl[8]? = some (RX8, TX8, 9) from rfl) in_X8 4 (by decide) lk_X8_28 rfl hd kk
theorem lk_X8_37 : Cond.fieldLink RX8 37 "WhoSingsNext" "tonight" "LWhoSingsNext$Evening;" ∈ gw_t := gw_mem 576 (by decide +kernel) (by decide +kernel)
theorem gf_X8_37 (X : cx_ok G p s m args meth c cc nL RX8 ret) (S : st_ok G n I J s H locs) {i : Nat} (hi : i < 1) (hd : decode cc pc = .ok (.getfield 37, 3)) (kk : W p l e R s m args below meth c H locs cells slots Q (F0 m (pc + 3) ls (.ref (cx_b G + ly_loc 0 0) :: rest))) : W p l e R s m args below meth c H locs cells slots Q (F0 m pc ls (.ref (cx_b G + ly_loc 8 i) :: rest)) := r_get X S (ly_ok_8 hi S.2.2.2) rfl (show vwCl[8]? = some (RX8, TX8, 9) from rfl) in_X8 6 (by decide) lk_X8_37 rfl hd kk
theorem lk_X8_44 : Cond.fieldLink RX8 44 "WhoSingsNext" "search" "LWhoSingsNext$Search;" ∈ gw_t := gw_mem 577 (by decide +kernel) (by decide +kernel)
theorem gf_X8_44 (X : cx_ok G p s m args meth c cc nL RX8 ret) (S : st_ok G n I J s H locs) {i : Nat} (hi : i < 1) (hd : decode cc pc = .ok (.getfield 44, 3)) (kk : W p l e R s m args below meth c H locs cells slots Q (F0 m (pc + 3) ls (.ref (cx_b G + ly_loc 4 0) :: rest))) : W p l e R s m args below meth c H locs cells slots Q (F0 m pc ls (.ref (cx_b G + ly_loc 8 i) :: rest)) := r_get X S (ly_ok_8 hi S.2.2.2) rfl (show vwCl[8]? = some (RX8, TX8, 9) from rfl) in_X8 7 (by decide) lk_X8_44 rfl hd kk
theorem lk_X8_50 : Cond.fieldLink RX8 50 "WhoSingsNext" "sheets" "[LWhoSingsNext$Sheet;" ∈ gw_t := gw_mem 578 (by decide +kernel) (by decide +kernel)
theorem gf_X8_50 (X : cx_ok G p s m args meth c cc nL RX8 ret) (S : st_ok G n I J s H locs) {i : Nat} (hi : i < 1) (hd : decode cc pc = .ok (.getfield 50, 3)) (kk : W p l e R s m args below meth c H locs cells slots Q (F0 m (pc + 3) ls (.ref (cx_b G + ly_loc 26 0) :: rest))) : W p l e R s m args below meth c H locs cells slots Q (F0 m pc ls (.ref (cx_b G + ly_loc 8 i) :: rest)) := r_get X S (ly_ok_8 hi S.2.2.2) rfl (show vwCl[8]? = some (RX8, TX8, 9) from rfl) in_X8 8 (by decide) lk_X8_50 rfl hd kk
theorem lk_X8_78 : Cond.fieldLink RX8 78 "WhoSingsNext" "textCount" "I" ∈ gw_t := gw_mem 575 (by decide +kernel) (by decide +kernel)
theorem gf_X8_78 (X : cx_ok G p s m args meth c cc nL RX8 ret) (S : st_ok G n I J s H locs) {i : Nat} (hi : i < 1) (hd : decode cc pc = .ok (.getfield 78, 3)) (kk : W p l e R s m args below meth c H locs cells slots Q (F0 m (pc + 3) ls (.int (I 8 i 5) :: rest))) : W p l e R s m args below meth c H locs cells slots Q (F0 m pc ls (.ref (cx_b G + ly_loc 8 i) :: rest)) := r_get X S (ly_ok_8 hi S.2.2.2) rfl (show vwCl[8]? = some (RX8, TX8, 9) from rfl) in_X8 5 (by decide) lk_X8_78 rfl hd kk
theorem lk_X8_109 : Cond.fieldLinkNest RX8 109 "WhoSingsNext$House" "slips" "[LWhoSingsNext$Slip;" "WhoSingsNext" ∈ nw_t := nw_mem 148 (by decide +kernel) (by decide +kernel)
theorem gf_X8_109 (X : cx_ok G p s m args meth c cc nL RX8 ret) (S : st_ok G n I J s H locs) {i : Nat} (hi : i < 2) (hd : decode cc pc = .ok (.getfield 109, 3)) (kk : W p l e R s m args below meth c H locs cells slots Q (F0 m (pc + 3) ls (.ref (cx_b G + ly_loc 17 i) :: rest))) : W p l e R s m args below meth c H locs cells slots Q (F0 m pc ls (.ref (cx_b G + ly_loc 1 i) :: rest)) := r_getN X S (ly_ok_1 hi S.2.2.2) rfl (show vwCl[1]? = some (RX1, TX1, 8) from rfl) in_X1 1 (by decide) lk_X8_109 rfl hd kk
theorem lk_X8_113 : Cond.fieldLinkNest RX8 113 "WhoSingsNext$Slip" "kind" "I" "WhoSingsNext" ∈ nw_t := nw_mem 123 (by decide +kernel) (by decide +kernel)
theorem gf_X8_113 (X : cx_ok G p s m args meth c cc nL RX8 ret) (S : st_ok G n I J s H locs) {i : Nat} (hi : i < 14) (hd : decode cc pc = .ok (.getfield 113, 3)) (kk : W p l e R s m args below meth c H locs cells slots Q (F0 m (pc + 3) ls (.int (I 6 i 0) :: rest))) : W p l e R s m args below meth c H locs cells slots Q (F0 m pc ls (.ref (cx_b G + ly_loc 6 i) :: rest)) := r_getN X S (ly_ok_6 hi S.2.2.2) rfl (show vwCl[6]? = some (RX6, TX6, 4) from rfl) in_X6 0 (by decide) lk_X8_113 rfl hd kk
theorem lk_X8_118 : Cond.fieldLinkNest RX8 118 "WhoSingsNext$Reader" "bytes" "I" "WhoSingsNext" ∈ nw_t := nw_mem 192 (by decide +kernel) (by decide +kernel)
theorem gf_X8_118 (X : cx_ok G p s m args meth c cc nL RX8 ret) (S : st_ok G n I J s H locs) {i : Nat} (hi : i < 1) (hd : decode cc pc = .ok (.getfield 118, 3)) (kk : W p l e R s m args below meth c H locs cells slots Q (F0 m (pc + 3) ls (.int (I 3 i 1) :: rest))) : W p l e R s m args below meth c H locs cells slots Q (F0 m pc ls (.ref (cx_b G + ly_loc 3 i) :: rest)) := r_getN X S (ly_ok_3 hi S.2.2.2) rfl (show vwCl[3]? = some (RX3, TX3, 11) from rfl) in_X3 1 (by decide) lk_X8_118 rfl hd kk
theorem lk_X8_121 : Cond.fieldLinkNest RX8 121 "WhoSingsNext$Reader" "fault" "I" "WhoSingsNext" ∈ nw_t := nw_mem 202 (by decide +kernel) (by decide +kernel)
theorem gf_X8_121 (X : cx_ok G p s m args meth c cc nL RX8 ret) (S : st_ok G n I J s H locs) {i : Nat} (hi : i < 1) (hd : decode cc pc = .ok (.getfield 121, 3)) (kk : W p l e R s m args below meth c H locs cells slots Q (F0 m (pc + 3) ls (.int (I 3 i 10) :: rest))) : W p l e R s m args below meth c H locs cells slots Q (F0 m pc ls (.ref (cx_b G + ly_loc 3 i) :: rest)) := r_getN X S (ly_ok_3 hi S.2.2.2) rfl (show vwCl[3]? = some (RX3, TX3, 11) from rfl) in_X3 10 (by decide) lk_X8_121 rfl hd kk
theorem lk_X8_124 : Cond.fieldLinkNest RX8 124 "WhoSingsNext$House" "rule" "I" "WhoSingsNext" ∈ nw_t := nw_mem 163 (by decide +kernel) (by decide +kernel)
theorem gf_X8_124 (X : cx_ok G p s m args meth c cc nL RX8 ret) (S : st_ok G n I J s H locs) {i : Nat} (hi : i < 2) (hd : decode cc pc = .ok (.getfield 124, 3)) (kk : W p l e R s m args below meth c H locs cells slots Q (F0 m (pc + 3) ls (.int (I 1 i 6) :: rest))) : W p l e R s m args below meth c H locs cells slots Q (F0 m pc ls (.ref (cx_b G + ly_loc 1 i) :: rest)) := r_getN X S (ly_ok_1 hi S.2.2.2) rfl (show vwCl[1]? = some (RX1, TX1, 8) from rfl) in_X1 6 (by decide) lk_X8_124 rfl hd kk
theorem lk_X8_156 : Cond.fieldLinkNest RX8 156 "WhoSingsNext$Evening" "mood" "I" "WhoSingsNext" ∈ nw_t := nw_mem 250 (by decide +kernel) (by decide +kernel)
theorem gf_X8_156 (X : cx_ok G p s m args meth c cc nL RX8 ret) (S : st_ok G n I J s H locs) {i : Nat} (hi : i < 9) (hd : decode cc pc = .ok (.getfield 156, 3)) (kk : W p l e R s m args below meth c H locs cells slots Q (F0 m (pc + 3) ls (.int (I 0 i 11) :: rest))) : W p l e R s m args below meth c H locs cells slots Q (F0 m pc ls (.ref (cx_b G + ly_loc 0 i) :: rest)) := r_getN X S (ly_ok_0 hi S.2.2.2) rfl (show vwCl[0]? = some (RX0, TX0, 16) from rfl) in_X0 11 (by decide) lk_X8_156 rfl hd kk
theorem lk_X8_159 : Cond.fieldLinkNest RX8 159 "WhoSingsNext$Evening" "bar" "I" "WhoSingsNext" ∈ nw_t := nw_mem 253 (by decide +kernel) (by decide +kernel)
theorem gf_X8_159 (X : cx_ok G p s m args meth c cc nL RX8 ret) (S : st_ok G n I J s H locs) {i : Nat} (hi : i < 9) (hd : decode cc pc = .ok (.getfield 159, 3)) (kk : W p l e R s m args below meth c H locs cells slots Q (F0 m (pc + 3) ls (.int (I 0 i 12) :: rest))) : W p l e R s m args below meth c H locs cells slots Q (F0 m pc ls (.ref (cx_b G + ly_loc 0 i) :: rest)) := r_getN X S (ly_ok_0 hi S.2.2.2) rfl (show vwCl[0]? = some (RX0, TX0, 16) from rfl) in_X0 12 (by decide) lk_X8_159 rfl hd kk
theorem lk_X8_162 : Cond.fieldLinkNest RX8 162 "WhoSingsNext$Evening" "begins" "[I" "WhoSingsNext" ∈ nw_t := nw_mem 246 (by decide +kernel) (by decide +kernel)
theorem gf_X8_162 (X : cx_ok G p s m args meth c cc nL RX8 ret) (S : st_ok G n I J s H locs) {i : Nat} (hi : i < 9) (hd : decode cc pc = .ok (.getfield 162, 3)) (kk : W p l e R s m args below meth c H locs cells slots Q (F0 m (pc + 3) ls (.ref (cx_b G + ly_loc 15 i) :: rest))) : W p l e R s m args below meth c H locs cells slots Q (F0 m pc ls (.ref (cx_b G + ly_loc 0 i) :: rest)) := r_getN X S (ly_ok_0 hi S.2.2.2) rfl (show vwCl[0]? = some (RX0, TX0, 16) from rfl) in_X0 8 (by decide) lk_X8_162 rfl hd kk
theorem lk_X8_166 : Cond.fieldLinkNest RX8 166 "WhoSingsNext$House" "slipCount" "I" "WhoSingsNext" ∈ nw_t := nw_mem 156 (by decide +kernel) (by decide +kernel)
theorem gf_X8_166 (X : cx_ok G p s m args meth c cc nL RX8 ret) (S : st_ok G n I J s H locs) {i : Nat} (hi : i < 2) (hd : decode cc pc = .ok (.getfield 166, 3)) (kk : W p l e R s m args below meth c H locs cells slots Q (F0 m (pc + 3) ls (.int (I 1 i 3) :: rest))) : W p l e R s m args below meth c H locs cells slots Q (F0 m pc ls (.ref (cx_b G + ly_loc 1 i) :: rest)) := r_getN X S (ly_ok_1 hi S.2.2.2) rfl (show vwCl[1]? = some (RX1, TX1, 8) from rfl) in_X1 3 (by decide) lk_X8_166 rfl hd kk
theorem lk_X8_175 : Cond.fieldLinkNest RX8 175 "WhoSingsNext$Evening" "left" "I" "WhoSingsNext" ∈ nw_t := nw_mem 256 (by decide +kernel) (by decide +kernel)
theorem gf_X8_175 (X : cx_ok G p s m args meth c cc nL RX8 ret) (S : st_ok G n I J s H locs) {i : Nat} (hi : i < 9) (hd : decode cc pc = .ok (.getfield 175, 3)) (kk : W p l e R s m args below meth c H locs cells slots Q (F0 m (pc + 3) ls (.int (I 0 i 13) :: rest))) : W p l e R s m args below meth c H locs cells slots Q (F0 m pc ls (.ref (cx_b G + ly_loc 0 i) :: rest)) := r_getN X S (ly_ok_0 hi S.2.2.2) rfl (show vwCl[0]? = some (RX0, TX0, 16) from rfl) in_X0 13 (by decide) lk_X8_175 rfl hd kk
theorem lk_X8_181 : Cond.fieldLinkNest RX8 181 "WhoSingsNext$Sheet" "sort" "I" "WhoSingsNext" ∈ nw_t := nw_mem 560 (by decide +kernel) (by decide +kernel)
theorem gf_X8_181 (X : cx_ok G p s m args meth c cc nL RX8 ret) (S : st_ok G n I J s H locs) {i : Nat} (hi : i < 4) (hd : decode cc pc = .ok (.getfield 181, 3)) (kk : W p l e R s m args below meth c H locs cells slots Q (F0 m (pc + 3) ls (.int (I 5 i 1) :: rest))) : W p l e R s m args below meth c H locs cells slots Q (F0 m pc ls (.ref (cx_b G + ly_loc 5 i) :: rest)) := r_getN X S (ly_ok_5 hi S.2.2.2) rfl (show vwCl[5]? = some (RX5, TX5, 3) from rfl) in_X5 1 (by decide) lk_X8_181 rfl hd kk
theorem lk_X8_188 : Cond.fieldLinkNest RX8 188 "WhoSingsNext$Slip" "whose" "I" "WhoSingsNext" ∈ nw_t := nw_mem 135 (by decide +kernel) (by decide +kernel)
theorem gf_X8_188 (X : cx_ok G p s m args meth c cc nL RX8 ret) (S : st_ok G n I J s H locs) {i : Nat} (hi : i < 14) (hd : decode cc pc = .ok (.getfield 188, 3)) (kk : W p l e R s m args below meth c H locs cells slots Q (F0 m (pc + 3) ls (.int (I 6 i 3) :: rest))) : W p l e R s m args below meth c H locs cells slots Q (F0 m pc ls (.ref (cx_b G + ly_loc 6 i) :: rest)) := r_getN X S (ly_ok_6 hi S.2.2.2) rfl (show vwCl[6]? = some (RX6, TX6, 4) from rfl) in_X6 3 (by decide) lk_X8_188 rfl hd kk
theorem lk_X8_202 : Cond.fieldLink RX8 202 "WhoSingsNext" "isKept" "Z" ∈ gw_t := gw_mem 572 (by decide +kernel) (by decide +kernel)
theorem gf_X8_202 (X : cx_ok G p s m args meth c cc nL RX8 ret) (S : st_ok G n I J s H locs) {i : Nat} (hi : i < 1) (hd : decode cc pc = .ok (.getfield 202, 3)) (kk : W p l e R s m args below meth c H locs cells slots Q (F0 m (pc + 3) ls (.int (I 8 i 2) :: rest))) : W p l e R s m args below meth c H locs cells slots Q (F0 m pc ls (.ref (cx_b G + ly_loc 8 i) :: rest)) := r_get X S (ly_ok_8 hi S.2.2.2) rfl (show vwCl[8]? = some (RX8, TX8, 9) from rfl) in_X8 2 (by decide) lk_X8_202 rfl hd kk
theorem lk_X8_206 : Cond.fieldLinkNest RX8 206 "WhoSingsNext$House" "peopleCount" "I" "WhoSingsNext" ∈ nw_t := nw_mem 152 (by decide +kernel) (by decide +kernel)
theorem gf_X8_206 (X : cx_ok G p s m args meth c cc nL RX8 ret) (S : st_ok G n I J s H locs) {i : Nat} (hi : i < 2) (hd : decode cc pc = .ok (.getfield 206, 3)) (kk : W p l e R s m args below meth c H locs cells slots Q (F0 m (pc + 3) ls (.int (I 1 i 2) :: rest))) : W p l e R s m args below meth c H locs cells slots Q (F0 m pc ls (.ref (cx_b G + ly_loc 1 i) :: rest)) := r_getN X S (ly_ok_1 hi S.2.2.2) rfl (show vwCl[1]? = some (RX1, TX1, 8) from rfl) in_X1 2 (by decide) lk_X8_206 rfl hd kk
theorem lk_X8_209 : Cond.fieldLinkNest RX8 209 "WhoSingsNext$House" "mood" "I" "WhoSingsNext" ∈ nw_t := nw_mem 159 (by decide +kernel) (by decide +kernel)
theorem gf_X8_209 (X : cx_ok G p s m args meth c cc nL RX8 ret) (S : st_ok G n I J s H locs) {i : Nat} (hi : i < 2) (hd : decode cc pc = .ok (.getfield 209, 3)) (kk : W p l e R s m args below meth c H locs cells slots Q (F0 m (pc + 3) ls (.int (I 1 i 4) :: rest))) : W p l e R s m args below meth c H locs cells slots Q (F0 m pc ls (.ref (cx_b G + ly_loc 1 i) :: rest)) := r_getN X S (ly_ok_1 hi S.2.2.2) rfl (show vwCl[1]? = some (RX1, TX1, 8) from rfl) in_X1 4 (by decide) lk_X8_209 rfl hd kk
theorem lk_X8_210 : Cond.fieldLinkNest RX8 210 "WhoSingsNext$House" "till" "I" "WhoSingsNext" ∈ nw_t := nw_mem 162 (by decide +kernel) (by decide +kernel)
theorem gf_X8_210 (X : cx_ok G p s m args meth c cc nL RX8 ret) (S : st_ok G n I J s H locs) {i : Nat} (hi : i < 2) (hd : decode cc pc = .ok (.getfield 210, 3)) (kk : W p l e R s m args below meth c H locs cells slots Q (F0 m (pc + 3) ls (.int (I 1 i 5) :: rest))) : W p l e R s m args below meth c H locs cells slots Q (F0 m pc ls (.ref (cx_b G + ly_loc 1 i) :: rest)) := r_getN X S (ly_ok_1 hi S.2.2.2) rfl (show vwCl[1]? = some (RX1, TX1, 8) from rfl) in_X1 5 (by decide) lk_X8_210 rfl hd kk
theorem lk_X8_223 : Cond.fieldLinkNest RX8 223 "WhoSingsNext$Sheet" "items" "[I" "WhoSingsNext" ∈ nw_t := nw_mem 558 (by decide +kernel) (by decide +kernel)
theorem gf_X8_223 (X : cx_ok G p s m args meth c cc nL RX8 ret) (S : st_ok G n I J s H locs) {i : Nat} (hi : i < 4) (hd : decode cc pc = .ok (.getfield 223, 3)) (kk : W p l e R s m args below meth c H locs cells slots Q (F0 m (pc + 3) ls (.ref (cx_b G + ly_loc 27 i) :: rest))) : W p l e R s m args below meth c H locs cells slots Q (F0 m pc ls (.ref (cx_b G + ly_loc 5 i) :: rest)) := r_getN X S (ly_ok_5 hi S.2.2.2) rfl (show vwCl[5]? = some (RX5, TX5, 3) from rfl) in_X5 0 (by decide) lk_X8_223 rfl hd kk
theorem lk_X8_235 : Cond.fieldLinkNest RX8 235 "WhoSingsNext$Slip" "number" "I" "WhoSingsNext" ∈ nw_t := nw_mem 128 (by decide +kernel) (by decide +kernel)
theorem gf_X8_235 (X : cx_ok G p s m args meth c cc nL RX8 ret) (S : st_ok G n I J s H locs) {i : Nat} (hi : i < 14) (hd : decode cc pc = .ok (.getfield 235, 3)) (kk : W p l e R s m args below meth c H locs cells slots Q (F0 m (pc + 3) ls (.int (I 6 i 1) :: rest))) : W p l e R s m args below meth c H locs cells slots Q (F0 m pc ls (.ref (cx_b G + ly_loc 6 i) :: rest)) := r_getN X S (ly_ok_6 hi S.2.2.2) rfl (show vwCl[6]? = some (RX6, TX6, 4) from rfl) in_X6 1 (by decide) lk_X8_235 rfl hd kk
theorem lk_X8_241 : Cond.fieldLinkNest RX8 241 "WhoSingsNext$Sheet" "size" "I" "WhoSingsNext" ∈ nw_t := nw_mem 562 (by decide +kernel) (by decide +kernel)
theorem gf_X8_241 (X : cx_ok G p s m args meth c cc nL RX8 ret) (S : st_ok G n I J s H locs) {i : Nat} (hi : i < 4) (hd : decode cc pc = .ok (.getfield 241, 3)) (kk : W p l e R s m args below meth c H locs cells slots Q (F0 m (pc + 3) ls (.int (I 5 i 2) :: rest))) : W p l e R s m args below meth c H locs cells slots Q (F0 m pc ls (.ref (cx_b G + ly_loc 5 i) :: rest)) := r_getN X S (ly_ok_5 hi S.2.2.2) rfl (show vwCl[5]? = some (RX5, TX5, 3) from rfl) in_X5 2 (by decide) lk_X8_241 rfl hd kk
theorem lk_X8_244 : Cond.fieldLinkNest RX8 244 "WhoSingsNext$Evening" "calls" "I" "WhoSingsNext" ∈ nw_t := nw_mem 244 (by decide +kernel) (by decide +kernel)
theorem gf_X8_244 (X : cx_ok G p s m args meth c cc nL RX8 ret) (S : st_ok G n I J s H locs) {i : Nat} (hi : i < 9) (hd : decode cc pc = .ok (.getfield 244, 3)) (kk : W p l e R s m args below meth c H locs cells slots Q (F0 m (pc + 3) ls (.int (I 0 i 7) :: rest))) : W p l e R s m args below meth c H locs cells slots Q (F0 m pc ls (.ref (cx_b G + ly_loc 0 i) :: rest)) := r_getN X S (ly_ok_0 hi S.2.2.2) rfl (show vwCl[0]? = some (RX0, TX0, 16) from rfl) in_X0 7 (by decide) lk_X8_244 rfl hd kk
theorem lk_X8_247 : Cond.fieldLinkNest RX8 247 "WhoSingsNext$Evening" "row" "[I" "WhoSingsNext" ∈ nw_t := nw_mem 242 (by decide +kernel) (by decide +kernel)
theorem gf_X8_247 (X : cx_ok G p s m args meth c cc nL RX8 ret) (S : st_ok G n I J s H locs) {i : Nat} (hi : i < 9) (hd : decode cc pc = .ok (.getfield 247, 3)) (kk : W p l e R s m args below meth c H locs cells slots Q (F0 m (pc + 3) ls (.ref (cx_b G + ly_loc 14 i) :: rest))) : W p l e R s m args below meth c H locs cells slots Q (F0 m pc ls (.ref (cx_b G + ly_loc 0 i) :: rest)) := r_getN X S (ly_ok_0 hi S.2.2.2) rfl (show vwCl[0]? = some (RX0, TX0, 16) from rfl) in_X0 6 (by decide) lk_X8_247 rfl hd kk
theorem lk_X9_13 : Cond.fieldLink RX9 13 "WhoSingsNextModel" "texts" "[I" ∈ gw_t := gw_mem 935 (by decide +kernel) (by decide +kernel)
theorem gf_X9_13 (X : cx_ok G p s m args meth c cc nL RX9 ret) (S : st_ok G n I J s H locs) {i : Nat} (hi : i < 1) (hd : decode cc pc = .ok (.getfield 13, 3)) (kk : W p l e R s m args below meth c H locs cells slots Q (F0 m (pc + 3) ls (.ref (cx_b G + ly_loc 30 0) :: rest))) : W p l e R s m args below meth c H locs cells slots Q (F0 m pc ls (.ref (cx_b G + ly_loc 9 i) :: rest)) := r_get X S (ly_ok_9 hi S.2.2.2) rfl (show vwCl[9]? = some (RX9, TX9, 61) from rfl) in_X9 1 (by decide) lk_X9_13 rfl hd kk
theorem lk_X9_17 : Cond.fieldLink RX9 17 "WhoSingsNextModel" "textSize" "[I" ∈ gw_t := gw_mem 936 (by decide +kernel) (by decide +kernel)
theorem gf_X9_17 (X : cx_ok G p s m args meth c cc nL RX9 ret) (S : st_ok G n I J s H locs) {i : Nat} (hi : i < 1) (hd : decode cc pc = .ok (.getfield 17, 3)) (kk : W p l e R s m args below meth c H locs cells slots Q (F0 m (pc + 3) ls (.ref (cx_b G + ly_loc 31 0) :: rest))) : W p l e R s m args below meth c H locs cells slots Q (F0 m pc ls (.ref (cx_b G + ly_loc 9 i) :: rest)) := r_get X S (ly_ok_9 hi S.2.2.2) rfl (show vwCl[9]? = some (RX9, TX9, 61) from rfl) in_X9 2 (by decide) lk_X9_17 rfl hd kk
theorem lk_X9_20 : Cond.fieldLink RX9 20 "WhoSingsNextModel" "tape" "[I" ∈ gw_t := gw_mem 939 (by decide +kernel) (by decide +kernel)
theorem gf_X9_20 (X : cx_ok G p s m args meth c cc nL RX9 ret) (S : st_ok G n I J s H locs) {i : Nat} (hi : i < 1) (hd : decode cc pc = .ok (.getfield 20, 3)) (kk : W p l e R s m args below meth c H locs cells slots Q (F0 m (pc + 3) ls (.ref (cx_b G + ly_loc 32 0) :: rest))) : W p l e R s m args below meth c H locs cells slots Q (F0 m pc ls (.ref (cx_b G + ly_loc 9 i) :: rest)) := r_get X S (ly_ok_9 hi S.2.2.2) rfl (show vwCl[9]? = some (RX9, TX9, 61) from rfl) in_X9 5 (by decide) lk_X9_20 rfl hd kk
theorem lk_X9_23 : Cond.fieldLink RX9 23 "WhoSingsNextModel" "patience" "[I" ∈ gw_t := gw_mem 941 (by decide +kernel) (by decide +kernel)
theorem gf_X9_23 (X : cx_ok G p s m args meth c cc nL RX9 ret) (S : st_ok G n I J s H locs) {i : Nat} (hi : i < 1) (hd : decode cc pc = .ok (.getfield 23, 3)) (kk : W p l e R s m args below meth c H locs cells slots Q (F0 m (pc + 3) ls (.ref (cx_b G + ly_loc 33 0) :: rest))) : W p l e R s m args below meth c H locs cells slots Q (F0 m pc ls (.ref (cx_b G + ly_loc 9 i) :: rest)) := r_get X S (ly_ok_9 hi S.2.2.2) rfl (show vwCl[9]? = some (RX9, TX9, 61) from rfl) in_X9 7 (by decide) lk_X9_23 rfl hd kk
theorem lk_X9_26 : Cond.fieldLink RX9 26 "WhoSingsNextModel" "groups" "[I" ∈ gw_t := gw_mem 942 (by decide +kernel) (by decide +kernel)
theorem gf_X9_26 (X : cx_ok G p s m args meth c cc nL RX9 ret) (S : st_ok G n I J s H locs) {i : Nat} (hi : i < 1) (hd : decode cc pc = .ok (.getfield 26, 3)) (kk : W p l e R s m args below meth c H locs cells slots Q (F0 m (pc + 3) ls (.ref (cx_b G + ly_loc 34 0) :: rest))) : W p l e R s m args below meth c H locs cells slots Q (F0 m pc ls (.ref (cx_b G + ly_loc 9 i) :: rest)) := r_get X S (ly_ok_9 hi S.2.2.2) rfl (show vwCl[9]? = some (RX9, TX9, 61) from rfl) in_X9 8 (by decide) lk_X9_26 rfl hd kk
theorem lk_X9_29 : Cond.fieldLink RX9 29 "WhoSingsNextModel" "kinds" "[I" ∈ gw_t := gw_mem 944 (by decide +kernel) (by decide +kernel)
theorem gf_X9_29 (X : cx_ok G p s m args meth c cc nL RX9 ret) (S : st_ok G n I J s H locs) {i : Nat} (hi : i < 1) (hd : decode cc pc = .ok (.getfield 29, 3)) (kk : W p l e R s m args below meth c H locs cells slots Q (F0 m (pc + 3) ls (.ref (cx_b G + ly_loc 35 0) :: rest))) : W p l e R s m args below meth c H locs cells slots Q (F0 m pc ls (.ref (cx_b G + ly_loc 9 i) :: rest)) := r_get X S (ly_ok_9 hi S.2.2.2) rfl (show vwCl[9]? = some (RX9, TX9, 61) from rfl) in_X9 10 (by decide) lk_X9_29 rfl hd kk
theorem lk_X9_32 : Cond.fieldLink RX9 32 "WhoSingsNextModel" "numbers" "[I" ∈ gw_t := gw_mem 945 (by decide +kernel) (by decide +kernel)
theorem gf_X9_32 (X : cx_ok G p s m args meth c cc nL RX9 ret) (S : st_ok G n I J s H locs) {i : Nat} (hi : i < 1) (hd : decode cc pc = .ok (.getfield 32, 3)) (kk : W p l e R s m args below meth c H locs cells slots Q (F0 m (pc + 3) ls (.ref (cx_b G + ly_loc 36 0) :: rest))) : W p l e R s m args below meth c H locs cells slots Q (F0 m pc ls (.ref (cx_b G + ly_loc 9 i) :: rest)) := r_get X S (ly_ok_9 hi S.2.2.2) rfl (show vwCl[9]? = some (RX9, TX9, 61) from rfl) in_X9 11 (by decide) lk_X9_32 rfl hd kk
theorem lk_X9_35 : Cond.fieldLink RX9 35 "WhoSingsNextModel" "longs" "[I" ∈ gw_t := gw_mem 946 (by decide +kernel) (by decide +kernel)
theorem gf_X9_35 (X : cx_ok G p s m args meth c cc nL RX9 ret) (S : st_ok G n I J s H locs) {i : Nat} (hi : i < 1) (hd : decode cc pc = .ok (.getfield 35, 3)) (kk : W p l e R s m args below meth c H locs cells slots Q (F0 m (pc + 3) ls (.ref (cx_b G + ly_loc 37 0) :: rest))) : W p l e R s m args below meth c H locs cells slots Q (F0 m pc ls (.ref (cx_b G + ly_loc 9 i) :: rest)) := r_get X S (ly_ok_9 hi S.2.2.2) rfl (show vwCl[9]? = some (RX9, TX9, 61) from rfl) in_X9 12 (by decide) lk_X9_35 rfl hd kk
theorem lk_X9_38 : Cond.fieldLink RX9 38 "WhoSingsNextModel" "owners" "[I" ∈ gw_t := gw_mem 947 (by decide +kernel) (by decide +kernel)
theorem gf_X9_38 (X : cx_ok G p s m args meth c cc nL RX9 ret) (S : st_ok G n I J s H locs) {i : Nat} (hi : i < 1) (hd : decode cc pc = .ok (.getfield 38, 3)) (kk : W p l e R s m args below meth c H locs cells slots Q (F0 m (pc + 3) ls (.ref (cx_b G + ly_loc 38 0) :: rest))) : W p l e R s m args below meth c H locs cells slots Q (F0 m pc ls (.ref (cx_b G + ly_loc 9 i) :: rest)) := r_get X S (ly_ok_9 hi S.2.2.2) rfl (show vwCl[9]? = some (RX9, TX9, 61) from rfl) in_X9 13 (by decide) lk_X9_38 rfl hd kk
theorem lk_X9_41 : Cond.fieldLink RX9 41 "WhoSingsNextModel" "till" "I" ∈ gw_t := gw_mem 950 (by decide +kernel) (by decide +kernel)
theorem gf_X9_41 (X : cx_ok G p s m args meth c cc nL RX9 ret) (S : st_ok G n I J s H locs) {i : Nat} (hi : i < 1) (hd : decode cc pc = .ok (.getfield 41, 3)) (kk : W p l e R s m args below meth c H locs cells slots Q (F0 m (pc + 3) ls (.int (J 9 i 16) :: rest))) : W p l e R s m args below meth c H locs cells slots Q (F0 m pc ls (.ref (cx_b G + ly_loc 9 i) :: rest)) := r_get X S (ly_ok_9 hi S.2.2.2) rfl (show vwCl[9]? = some (RX9, TX9, 61) from rfl) in_X9 16 (by decide) lk_X9_41 rfl hd kk
theorem lk_X9_44 : Cond.fieldLink RX9 44 "WhoSingsNextModel" "lastSang" "[I" ∈ gw_t := gw_mem 971 (by decide +kernel) (by decide +kernel)
theorem gf_X9_44 (X : cx_ok G p s m args meth c cc nL RX9 ret) (S : st_ok G n I J s H locs) {i : Nat} (hi : i < 1) (hd : decode cc pc = .ok (.getfield 44, 3)) (kk : W p l e R s m args below meth c H locs cells slots Q (F0 m (pc + 3) ls (.ref (cx_b G + ly_loc 39 0) :: rest))) : W p l e R s m args below meth c H locs cells slots Q (F0 m pc ls (.ref (cx_b G + ly_loc 9 i) :: rest)) := r_get X S (ly_ok_9 hi S.2.2.2) rfl (show vwCl[9]? = some (RX9, TX9, 61) from rfl) in_X9 37 (by decide) lk_X9_44 rfl hd kk
theorem lk_X9_47 : Cond.fieldLink RX9 47 "WhoSingsNextModel" "sungBy" "[I" ∈ gw_t := gw_mem 972 (by decide +kernel) (by decide +kernel)
theorem gf_X9_47 (X : cx_ok G p s m args meth c cc nL RX9 ret) (S : st_ok G n I J s H locs) {i : Nat} (hi : i < 1) (hd : decode cc pc = .ok (.getfield 47, 3)) (kk : W p l e R s m args below meth c H locs cells slots Q (F0 m (pc + 3) ls (.ref (cx_b G + ly_loc 40 0) :: rest))) : W p l e R s m args below meth c H locs cells slots Q (F0 m pc ls (.ref (cx_b G + ly_loc 9 i) :: rest)) := r_get X S (ly_ok_9 hi S.2.2.2) rfl (show vwCl[9]? = some (RX9, TX9, 61) from rfl) in_X9 38 (by decide) lk_X9_47 rfl hd kk
theorem lk_X9_50 : Cond.fieldLink RX9 50 "WhoSingsNextModel" "began" "[I" ∈ gw_t := gw_mem 975 (by decide +kernel) (by decide +kernel)
theorem gf_X9_50 (X : cx_ok G p s m args meth c cc nL RX9 ret) (S : st_ok G n I J s H locs) {i : Nat} (hi : i < 1) (hd : decode cc pc = .ok (.getfield 50, 3)) (kk : W p l e R s m args below meth c H locs cells slots Q (F0 m (pc + 3) ls (.ref (cx_b G + ly_loc 41 0) :: rest))) : W p l e R s m args below meth c H locs cells slots Q (F0 m pc ls (.ref (cx_b G + ly_loc 9 i) :: rest)) := r_get X S (ly_ok_9 hi S.2.2.2) rfl (show vwCl[9]? = some (RX9, TX9, 61) from rfl) in_X9 41 (by decide) lk_X9_50 rfl hd kk
theorem lk_X9_53 : Cond.fieldLink RX9 53 "WhoSingsNextModel" "asideRow" "[I" ∈ gw_t := gw_mem 976 (by decide +kernel) (by decide +kernel)
theorem gf_X9_53 (X : cx_ok G p s m args meth c cc nL RX9 ret) (S : st_ok G n I J s H locs) {i : Nat} (hi : i < 1) (hd : decode cc pc = .ok (.getfield 53, 3)) (kk : W p l e R s m args below meth c H locs cells slots Q (F0 m (pc + 3) ls (.ref (cx_b G + ly_loc 42 0) :: rest))) : W p l e R s m args below meth c H locs cells slots Q (F0 m pc ls (.ref (cx_b G + ly_loc 9 i) :: rest)) := r_get X S (ly_ok_9 hi S.2.2.2) rfl (show vwCl[9]? = some (RX9, TX9, 61) from rfl) in_X9 42 (by decide) lk_X9_53 rfl hd kk
theorem lk_X9_56 : Cond.fieldLink RX9 56 "WhoSingsNextModel" "asideLast" "[I" ∈ gw_t := gw_mem 977 (by decide +kernel) (by decide +kernel)
theorem gf_X9_56 (X : cx_ok G p s m args meth c cc nL RX9 ret) (S : st_ok G n I J s H locs) {i : Nat} (hi : i < 1) (hd : decode cc pc = .ok (.getfield 56, 3)) (kk : W p l e R s m args below meth c H locs cells slots Q (F0 m (pc + 3) ls (.ref (cx_b G + ly_loc 43 0) :: rest))) : W p l e R s m args below meth c H locs cells slots Q (F0 m pc ls (.ref (cx_b G + ly_loc 9 i) :: rest)) := r_get X S (ly_ok_9 hi S.2.2.2) rfl (show vwCl[9]? = some (RX9, TX9, 61) from rfl) in_X9 43 (by decide) lk_X9_56 rfl hd kk
theorem lk_X9_59 : Cond.fieldLink RX9 59 "WhoSingsNextModel" "asideSung" "[I" ∈ gw_t := gw_mem 978 (by decide +kernel) (by decide +kernel)
theorem gf_X9_59 (X : cx_ok G p s m args meth c cc nL RX9 ret) (S : st_ok G n I J s H locs) {i : Nat} (hi : i < 1) (hd : decode cc pc = .ok (.getfield 59, 3)) (kk : W p l e R s m args below meth c H locs cells slots Q (F0 m (pc + 3) ls (.ref (cx_b G + ly_loc 44 0) :: rest))) : W p l e R s m args below meth c H locs cells slots Q (F0 m pc ls (.ref (cx_b G + ly_loc 9 i) :: rest)) := r_get X S (ly_ok_9 hi S.2.2.2) rfl (show vwCl[9]? = some (RX9, TX9, 61) from rfl) in_X9 44 (by decide) lk_X9_59 rfl hd kk
theorem lk_X9_62 : Cond.fieldLink RX9 62 "WhoSingsNextModel" "onesKept" "[I" ∈ gw_t := gw_mem 984 (by decide +kernel) (by decide +kernel)
theorem gf_X9_62 (X : cx_ok G p s m args meth c cc nL RX9 ret) (S : st_ok G n I J s H locs) {i : Nat} (hi : i < 1) (hd : decode cc pc = .ok (.getfield 62, 3)) (kk : W p l e R s m args below meth c H locs cells slots Q (F0 m (pc + 3) ls (.ref (cx_b G + ly_loc 45 0) :: rest))) : W p l e R s m args below meth c H locs cells slots Q (F0 m pc ls (.ref (cx_b G + ly_loc 9 i) :: rest)) := r_get X S (ly_ok_9 hi S.2.2.2) rfl (show vwCl[9]? = some (RX9, TX9, 61) from rfl) in_X9 50 (by decide) lk_X9_62 rfl hd kk
theorem lk_X9_65 : Cond.fieldLink RX9 65 "WhoSingsNextModel" "slipsKept" "[I" ∈ gw_t := gw_mem 985 (by decide +kernel) (by decide +kernel)
theorem gf_X9_65 (X : cx_ok G p s m args meth c cc nL RX9 ret) (S : st_ok G n I J s H locs) {i : Nat} (hi : i < 1) (hd : decode cc pc = .ok (.getfield 65, 3)) (kk : W p l e R s m args below meth c H locs cells slots Q (F0 m (pc + 3) ls (.ref (cx_b G + ly_loc 46 0) :: rest))) : W p l e R s m args below meth c H locs cells slots Q (F0 m pc ls (.ref (cx_b G + ly_loc 9 i) :: rest)) := r_get X S (ly_ok_9 hi S.2.2.2) rfl (show vwCl[9]? = some (RX9, TX9, 61) from rfl) in_X9 51 (by decide) lk_X9_65 rfl hd kk
theorem lk_X9_68 : Cond.fieldLink RX9 68 "WhoSingsNextModel" "slipsMany" "I" ∈ gw_t := gw_mem 986 (by decide +kernel) (by decide +kernel)
theorem gf_X9_68 (X : cx_ok G p s m args meth c cc nL RX9 ret) (S : st_ok G n I J s H locs) {i : Nat} (hi : i < 1) (hd : decode cc pc = .ok (.getfield 68, 3)) (kk : W p l e R s m args below meth c H locs cells slots Q (F0 m (pc + 3) ls (.int (J 9 i 52) :: rest))) : W p l e R s m args below meth c H locs cells slots Q (F0 m pc ls (.ref (cx_b G + ly_loc 9 i) :: rest)) := r_get X S (ly_ok_9 hi S.2.2.2) rfl (show vwCl[9]? = some (RX9, TX9, 61) from rfl) in_X9 52 (by decide) lk_X9_68 rfl hd kk
theorem lk_X9_71 : Cond.fieldLink RX9 71 "WhoSingsNextModel" "isThere" "[Z" ∈ gw_t := gw_mem 991 (by decide +kernel) (by decide +kernel)
theorem gf_X9_71 (X : cx_ok G p s m args meth c cc nL RX9 ret) (S : st_ok G n I J s H locs) {i : Nat} (hi : i < 1) (hd : decode cc pc = .ok (.getfield 71, 3)) (kk : W p l e R s m args below meth c H locs cells slots Q (F0 m (pc + 3) ls (.ref (cx_b G + ly_loc 47 0) :: rest))) : W p l e R s m args below meth c H locs cells slots Q (F0 m pc ls (.ref (cx_b G + ly_loc 9 i) :: rest)) := r_get X S (ly_ok_9 hi S.2.2.2) rfl (show vwCl[9]? = some (RX9, TX9, 61) from rfl) in_X9 57 (by decide) lk_X9_71 rfl hd kk
theorem lk_X9_75 : Cond.fieldLink RX9 75 "WhoSingsNextModel" "sorts" "[I" ∈ gw_t := gw_mem 992 (by decide +kernel) (by decide +kernel)
theorem gf_X9_75 (X : cx_ok G p s m args meth c cc nL RX9 ret) (S : st_ok G n I J s H locs) {i : Nat} (hi : i < 1) (hd : decode cc pc = .ok (.getfield 75, 3)) (kk : W p l e R s m args below meth c H locs cells slots Q (F0 m (pc + 3) ls (.ref (cx_b G + ly_loc 48 0) :: rest))) : W p l e R s m args below meth c H locs cells slots Q (F0 m pc ls (.ref (cx_b G + ly_loc 9 i) :: rest)) := r_get X S (ly_ok_9 hi S.2.2.2) rfl (show vwCl[9]? = some (RX9, TX9, 61) from rfl) in_X9 58 (by decide) lk_X9_75 rfl hd kk
theorem lk_X9_78 : Cond.fieldLink RX9 78 "WhoSingsNextModel" "sheetSize" "[I" ∈ gw_t := gw_mem 993 (by decide +kernel) (by decide +kernel)
theorem gf_X9_78 (X : cx_ok G p s m args meth c cc nL RX9 ret) (S : st_ok G n I J s H locs) {i : Nat} (hi : i < 1) (hd : decode cc pc = .ok (.getfield 78, 3)) (kk : W p l e R s m args below meth c H locs cells slots Q (F0 m (pc + 3) ls (.ref (cx_b G + ly_loc 49 0) :: rest))) : W p l e R s m args below meth c H locs cells slots Q (F0 m pc ls (.ref (cx_b G + ly_loc 9 i) :: rest)) := r_get X S (ly_ok_9 hi S.2.2.2) rfl (show vwCl[9]? = some (RX9, TX9, 61) from rfl) in_X9 59 (by decide) lk_X9_78 rfl hd kk
theorem lk_X9_81 : Cond.fieldLink RX9 81 "WhoSingsNextModel" "items" "[I" ∈ gw_t := gw_mem 994 (by decide +kernel) (by decide +kernel)
theorem gf_X9_81 (X : cx_ok G p s m args meth c cc nL RX9 ret) (S : st_ok G n I J s H locs) {i : Nat} (hi : i < 1) (hd : decode cc pc = .ok (.getfield 81, 3)) (kk : W p l e R s m args below meth c H locs cells slots Q (F0 m (pc + 3) ls (.ref (cx_b G + ly_loc 50 0) :: rest))) : W p l e R s m args below meth c H locs cells slots Q (F0 m pc ls (.ref (cx_b G + ly_loc 9 i) :: rest)) := r_get X S (ly_ok_9 hi S.2.2.2) rfl (show vwCl[9]? = some (RX9, TX9, 61) from rfl) in_X9 60 (by decide) lk_X9_81 rfl hd kk
theorem lk_X9_88 : Cond.fieldLink RX9 88 "WhoSingsNextModel" "textCount" "I" ∈ gw_t := gw_mem 937 (by decide +kernel) (by decide +kernel)
theorem gf_X9_88 (X : cx_ok G p s m args meth c cc nL RX9 ret) (S : st_ok G n I J s H locs) {i : Nat} (hi : i < 1) (hd : decode cc pc = .ok (.getfield 88, 3)) (kk : W p l e R s m args below meth c H locs cells slots Q (F0 m (pc + 3) ls (.int (J 9 i 3) :: rest))) : W p l e R s m args below meth c H locs cells slots Q (F0 m pc ls (.ref (cx_b G + ly_loc 9 i) :: rest)) := r_get X S (ly_ok_9 hi S.2.2.2) rfl (show vwCl[9]? = some (RX9, TX9, 61) from rfl) in_X9 3 (by decide) lk_X9_88 rfl hd kk
theorem lk_X9_91 : Cond.fieldLink RX9 91 "WhoSingsNextModel" "people" "I" ∈ gw_t := gw_mem 943 (by decide +kernel) (by decide +kernel)
theorem gf_X9_91 (X : cx_ok G p s m args meth c cc nL RX9 ret) (S : st_ok G n I J s H locs) {i : Nat} (hi : i < 1) (hd : decode cc pc = .ok (.getfield 91, 3)) (kk : W p l e R s m args below meth c H locs cells slots Q (F0 m (pc + 3) ls (.int (J 9 i 9) :: rest))) : W p l e R s m args below meth c H locs cells slots Q (F0 m pc ls (.ref (cx_b G + ly_loc 9 i) :: rest)) := r_get X S (ly_ok_9 hi S.2.2.2) rfl (show vwCl[9]? = some (RX9, TX9, 61) from rfl) in_X9 9 (by decide) lk_X9_91 rfl hd kk
theorem lk_X9_98 : Cond.fieldLink RX9 98 "WhoSingsNextModel" "slipCount" "I" ∈ gw_t := gw_mem 948 (by decide +kernel) (by decide +kernel)
theorem gf_X9_98 (X : cx_ok G p s m args meth c cc nL RX9 ret) (S : st_ok G n I J s H locs) {i : Nat} (hi : i < 1) (hd : decode cc pc = .ok (.getfield 98, 3)) (kk : W p l e R s m args below meth c H locs cells slots Q (F0 m (pc + 3) ls (.int (J 9 i 14) :: rest))) : W p l e R s m args below meth c H locs cells slots Q (F0 m pc ls (.ref (cx_b G + ly_loc 9 i) :: rest)) := r_get X S (ly_ok_9 hi S.2.2.2) rfl (show vwCl[9]? = some (RX9, TX9, 61) from rfl) in_X9 14 (by decide) lk_X9_98 rfl hd kk
theorem lk_X9_127 : Cond.fieldLink RX9 127 "WhoSingsNextModel" "mood" "I" ∈ gw_t := gw_mem 949 (by decide +kernel) (by decide +kernel)
theorem gf_X9_127 (X : cx_ok G p s m args meth c cc nL RX9 ret) (S : st_ok G n I J s H locs) {i : Nat} (hi : i < 1) (hd : decode cc pc = .ok (.getfield 127, 3)) (kk : W p l e R s m args below meth c H locs cells slots Q (F0 m (pc + 3) ls (.int (J 9 i 15) :: rest))) : W p l e R s m args below meth c H locs cells slots Q (F0 m pc ls (.ref (cx_b G + ly_loc 9 i) :: rest)) := r_get X S (ly_ok_9 hi S.2.2.2) rfl (show vwCl[9]? = some (RX9, TX9, 61) from rfl) in_X9 15 (by decide) lk_X9_127 rfl hd kk
theorem lk_X9_132 : Cond.fieldLink RX9 132 "WhoSingsNextModel" "taped" "I" ∈ gw_t := gw_mem 940 (by decide +kernel) (by decide +kernel)
theorem gf_X9_132 (X : cx_ok G p s m args meth c cc nL RX9 ret) (S : st_ok G n I J s H locs) {i : Nat} (hi : i < 1) (hd : decode cc pc = .ok (.getfield 132, 3)) (kk : W p l e R s m args below meth c H locs cells slots Q (F0 m (pc + 3) ls (.int (J 9 i 6) :: rest))) : W p l e R s m args below meth c H locs cells slots Q (F0 m pc ls (.ref (cx_b G + ly_loc 9 i) :: rest)) := r_get X S (ly_ok_9 hi S.2.2.2) rfl (show vwCl[9]? = some (RX9, TX9, 61) from rfl) in_X9 6 (by decide) lk_X9_132 rfl hd kk
theorem lk_X9_135 : Cond.fieldLink RX9 135 "WhoSingsNextModel" "size" "I" ∈ gw_t := gw_mem 958 (by decide +kernel) (by decide +kernel)
theorem gf_X9_135 (X : cx_ok G p s m args meth c cc nL RX9 ret) (S : st_ok G n I J s H locs) {i : Nat} (hi : i < 1) (hd : decode cc pc = .ok (.getfield 135, 3)) (kk : W p l e R s m args below meth c H locs cells slots Q (F0 m (pc + 3) ls (.int (J 9 i 24) :: rest))) : W p l e R s m args below meth c H locs cells slots Q (F0 m pc ls (.ref (cx_b G + ly_loc 9 i) :: rest)) := r_get X S (ly_ok_9 hi S.2.2.2) rfl (show vwCl[9]? = some (RX9, TX9, 61) from rfl) in_X9 24 (by decide) lk_X9_135 rfl hd kk
theorem lk_X9_138 : Cond.fieldLink RX9 138 "WhoSingsNextModel" "from" "I" ∈ gw_t := gw_mem 957 (by decide +kernel) (by decide +kernel)
theorem gf_X9_138 (X : cx_ok G p s m args meth c cc nL RX9 ret) (S : st_ok G n I J s H locs) {i : Nat} (hi : i < 1) (hd : decode cc pc = .ok (.getfield 138, 3)) (kk : W p l e R s m args below meth c H locs cells slots Q (F0 m (pc + 3) ls (.int (J 9 i 23) :: rest))) : W p l e R s m args below meth c H locs cells slots Q (F0 m pc ls (.ref (cx_b G + ly_loc 9 i) :: rest)) := r_get X S (ly_ok_9 hi S.2.2.2) rfl (show vwCl[9]? = some (RX9, TX9, 61) from rfl) in_X9 23 (by decide) lk_X9_138 rfl hd kk
theorem lk_X9_141 : Cond.fieldLink RX9 141 "WhoSingsNextModel" "here" "I" ∈ gw_t := gw_mem 959 (by decide +kernel) (by decide +kernel)
theorem gf_X9_141 (X : cx_ok G p s m args meth c cc nL RX9 ret) (S : st_ok G n I J s H locs) {i : Nat} (hi : i < 1) (hd : decode cc pc = .ok (.getfield 141, 3)) (kk : W p l e R s m args below meth c H locs cells slots Q (F0 m (pc + 3) ls (.int (J 9 i 25) :: rest))) : W p l e R s m args below meth c H locs cells slots Q (F0 m pc ls (.ref (cx_b G + ly_loc 9 i) :: rest)) := r_get X S (ly_ok_9 hi S.2.2.2) rfl (show vwCl[9]? = some (RX9, TX9, 61) from rfl) in_X9 25 (by decide) lk_X9_141 rfl hd kk
theorem lk_X9_148 : Cond.fieldLink RX9 148 "WhoSingsNextModel" "tokenAt" "I" ∈ gw_t := gw_mem 961 (by decide +kernel) (by decide +kernel)
theorem gf_X9_148 (X : cx_ok G p s m args meth c cc nL RX9 ret) (S : st_ok G n I J s H locs) {i : Nat} (hi : i < 1) (hd : decode cc pc = .ok (.getfield 148, 3)) (kk : W p l e R s m args below meth c H locs cells slots Q (F0 m (pc + 3) ls (.int (J 9 i 27) :: rest))) : W p l e R s m args below meth c H locs cells slots Q (F0 m pc ls (.ref (cx_b G + ly_loc 9 i) :: rest)) := r_get X S (ly_ok_9 hi S.2.2.2) rfl (show vwCl[9]? = some (RX9, TX9, 61) from rfl) in_X9 27 (by decide) lk_X9_148 rfl hd kk
theorem lk_X9_151 : Cond.fieldLink RX9 151 "WhoSingsNextModel" "token" "I" ∈ gw_t := gw_mem 960 (by decide +kernel) (by decide +kernel)
theorem gf_X9_151 (X : cx_ok G p s m args meth c cc nL RX9 ret) (S : st_ok G n I J s H locs) {i : Nat} (hi : i < 1) (hd : decode cc pc = .ok (.getfield 151, 3)) (kk : W p l e R s m args below meth c H locs cells slots Q (F0 m (pc + 3) ls (.int (J 9 i 26) :: rest))) : W p l e R s m args below meth c H locs cells slots Q (F0 m pc ls (.ref (cx_b G + ly_loc 9 i) :: rest)) := r_get X S (ly_ok_9 hi S.2.2.2) rfl (show vwCl[9]? = some (RX9, TX9, 61) from rfl) in_X9 26 (by decide) lk_X9_151 rfl hd kk
theorem lk_X9_162 : Cond.fieldLink RX9 162 "WhoSingsNextModel" "tokenWorth" "J" ∈ gw_t := gw_mem 962 (by decide +kernel) (by decide +kernel)
theorem gf_X9_162 (X : cx_ok G p s m args meth c cc nL RX9 ret) (S : st_ok G n I J s H locs) {i : Nat} (hi : i < 1) (hd : decode cc pc = .ok (.getfield 162, 3)) (kk : W p l e R s m args below meth c H locs cells slots Q (F0 m (pc + 3) ls (.long (J 9 i 28).toInt64 :: rest))) : W p l e R s m args below meth c H locs cells slots Q (F0 m pc ls (.ref (cx_b G + ly_loc 9 i) :: rest)) := r_get X S (ly_ok_9 hi S.2.2.2) rfl (show vwCl[9]? = some (RX9, TX9, 61) from rfl) in_X9 28 (by decide) lk_X9_162 rfl hd kk
theorem lk_X9_166 : Cond.fieldLink RX9 166 "WhoSingsNextModel" "bad" "Z" ∈ gw_t := gw_mem 964 (by decide +kernel) (by decide +kernel)
theorem gf_X9_166 (X : cx_ok G p s m args meth c cc nL RX9 ret) (S : st_ok G n I J s H locs) {i : Nat} (hi : i < 1) (hd : decode cc pc = .ok (.getfield 166, 3)) (kk : W p l e R s m args below meth c H locs cells slots Q (F0 m (pc + 3) ls (.int (J 9 i 30) :: rest))) : W p l e R s m args below meth c H locs cells slots Q (F0 m pc ls (.ref (cx_b G + ly_loc 9 i) :: rest)) := r_get X S (ly_ok_9 hi S.2.2.2) rfl (show vwCl[9]? = some (RX9, TX9, 61) from rfl) in_X9 30 (by decide) lk_X9_166 rfl hd kk
theorem lk_X9_170 : Cond.fieldLink RX9 170 "WhoSingsNextModel" "fault" "I" ∈ gw_t := gw_mem 965 (by decide +kernel) (by decide +kernel)
theorem gf_X9_170 (X : cx_ok G p s m args meth c cc nL RX9 ret) (S : st_ok G n I J s H locs) {i : Nat} (hi : i < 1) (hd : decode cc pc = .ok (.getfield 170, 3)) (kk : W p l e R s m args below meth c H locs cells slots Q (F0 m (pc + 3) ls (.int (J 9 i 31) :: rest))) : W p l e R s m args below meth c H locs cells slots Q (F0 m pc ls (.ref (cx_b G + ly_loc 9 i) :: rest)) := r_get X S (ly_ok_9 hi S.2.2.2) rfl (show vwCl[9]? = some (RX9, TX9, 61) from rfl) in_X9 31 (by decide) lk_X9_170 rfl hd kk
theorem lk_X9_177 : Cond.fieldLink RX9 177 "WhoSingsNextModel" "open" "I" ∈ gw_t := gw_mem 963 (by decide +kernel) (by decide +kernel)
theorem gf_X9_177 (X : cx_ok G p s m args meth c cc nL RX9 ret) (S : st_ok G n I J s H locs) {i : Nat} (hi : i < 1) (hd : decode cc pc = .ok (.getfield 177, 3)) (kk : W p l e R s m args below meth c H locs cells slots Q (F0 m (pc + 3) ls (.int (J 9 i 29) :: rest))) : W p l e R s m args below meth c H locs cells slots Q (F0 m pc ls (.ref (cx_b G + ly_loc 9 i) :: rest)) := r_get X S (ly_ok_9 hi S.2.2.2) rfl (show vwCl[9]? = some (RX9, TX9, 61) from rfl) in_X9 29 (by decide) lk_X9_177 rfl hd kk
theorem lk_X9_190 : Cond.fieldLink RX9 190 "WhoSingsNextModel" "ofMinute" "I" ∈ gw_t := gw_mem 951 (by decide +kernel) (by decide +kernel)
theorem gf_X9_190 (X : cx_ok G p s m args meth c cc nL RX9 ret) (S : st_ok G n I J s H locs) {i : Nat} (hi : i < 1) (hd : decode cc pc = .ok (.getfield 190, 3)) (kk : W p l e R s m args below meth c H locs cells slots Q (F0 m (pc + 3) ls (.int (J 9 i 17) :: rest))) : W p l e R s m args below meth c H locs cells slots Q (F0 m pc ls (.ref (cx_b G + ly_loc 9 i) :: rest)) := r_get X S (ly_ok_9 hi S.2.2.2) rfl (show vwCl[9]? = some (RX9, TX9, 61) from rfl) in_X9 17 (by decide) lk_X9_190 rfl hd kk
theorem lk_X9_193 : Cond.fieldLink RX9 193 "WhoSingsNextModel" "ofWaited" "I" ∈ gw_t := gw_mem 952 (by decide +kernel) (by decide +kernel)
theorem gf_X9_193 (X : cx_ok G p s m args meth c cc nL RX9 ret) (S : st_ok G n I J s H locs) {i : Nat} (hi : i < 1) (hd : decode cc pc = .ok (.getfield 193, 3)) (kk : W p l e R s m args below meth c H locs cells slots Q (F0 m (pc + 3) ls (.int (J 9 i 18) :: rest))) : W p l e R s m args below meth c H locs cells slots Q (F0 m pc ls (.ref (cx_b G + ly_loc 9 i) :: rest)) := r_get X S (ly_ok_9 hi S.2.2.2) rfl (show vwCl[9]? = some (RX9, TX9, 61) from rfl) in_X9 18 (by decide) lk_X9_193 rfl hd kk
theorem lk_X9_196 : Cond.fieldLink RX9 196 "WhoSingsNextModel" "ofSung" "I" ∈ gw_t := gw_mem 953 (by decide +kernel) (by decide +kernel)
theorem gf_X9_196 (X : cx_ok G p s m args meth c cc nL RX9 ret) (S : st_ok G n I J s H locs) {i : Nat} (hi : i < 1) (hd : decode cc pc = .ok (.getfield 196, 3)) (kk : W p l e R s m args below meth c H locs cells slots Q (F0 m (pc + 3) ls (.int (J 9 i 19) :: rest))) : W p l e R s m args below meth c H locs cells slots Q (F0 m pc ls (.ref (cx_b G + ly_loc 9 i) :: rest)) := r_get X S (ly_ok_9 hi S.2.2.2) rfl (show vwCl[9]? = some (RX9, TX9, 61) from rfl) in_X9 19 (by decide) lk_X9_196 rfl hd kk
theorem lk_X9_199 : Cond.fieldLink RX9 199 "WhoSingsNextModel" "ofSort" "I" ∈ gw_t := gw_mem 954 (by decide +kernel) (by decide +kernel)
theorem gf_X9_199 (X : cx_ok G p s m args meth c cc nL RX9 ret) (S : st_ok G n I J s H locs) {i : Nat} (hi : i < 1) (hd : decode cc pc = .ok (.getfield 199, 3)) (kk : W p l e R s m args below meth c H locs cells slots Q (F0 m (pc + 3) ls (.int (J 9 i 20) :: rest))) : W p l e R s m args below meth c H locs cells slots Q (F0 m pc ls (.ref (cx_b G + ly_loc 9 i) :: rest)) := r_get X S (ly_ok_9 hi S.2.2.2) rfl (show vwCl[9]? = some (RX9, TX9, 61) from rfl) in_X9 20 (by decide) lk_X9_199 rfl hd kk
theorem lk_X9_202 : Cond.fieldLink RX9 202 "WhoSingsNextModel" "ofBar" "I" ∈ gw_t := gw_mem 955 (by decide +kernel) (by decide +kernel)
theorem gf_X9_202 (X : cx_ok G p s m args meth c cc nL RX9 ret) (S : st_ok G n I J s H locs) {i : Nat} (hi : i < 1) (hd : decode cc pc = .ok (.getfield 202, 3)) (kk : W p l e R s m args below meth c H locs cells slots Q (F0 m (pc + 3) ls (.int (J 9 i 21) :: rest))) : W p l e R s m args below meth c H locs cells slots Q (F0 m pc ls (.ref (cx_b G + ly_loc 9 i) :: rest)) := r_get X S (ly_ok_9 hi S.2.2.2) rfl (show vwCl[9]? = some (RX9, TX9, 61) from rfl) in_X9 21 (by decide) lk_X9_202 rfl hd kk
theorem lk_X9_205 : Cond.fieldLink RX9 205 "WhoSingsNextModel" "ofMood" "I" ∈ gw_t := gw_mem 956 (by decide +kernel) (by decide +kernel)
theorem gf_X9_205 (X : cx_ok G p s m args meth c cc nL RX9 ret) (S : st_ok G n I J s H locs) {i : Nat} (hi : i < 1) (hd : decode cc pc = .ok (.getfield 205, 3)) (kk : W p l e R s m args below meth c H locs cells slots Q (F0 m (pc + 3) ls (.int (J 9 i 22) :: rest))) : W p l e R s m args below meth c H locs cells slots Q (F0 m pc ls (.ref (cx_b G + ly_loc 9 i) :: rest)) := r_get X S (ly_ok_9 hi S.2.2.2) rfl (show vwCl[9]? = some (RX9, TX9, 61) from rfl) in_X9 22 (by decide) lk_X9_205 rfl hd kk
theorem lk_X9_249 : Cond.fieldLink RX9 249 "WhoSingsNextModel" "rule" "I" ∈ gw_t := gw_mem 938 (by decide +kernel) (by decide +kernel)
theorem gf_X9_249 (X : cx_ok G p s m args meth c cc nL RX9 ret) (S : st_ok G n I J s H locs) {i : Nat} (hi : i < 1) (hd : decode cc pc = .ok (.getfield 249, 3)) (kk : W p l e R s m args below meth c H locs cells slots Q (F0 m (pc + 3) ls (.int (J 9 i 4) :: rest))) : W p l e R s m args below meth c H locs cells slots Q (F0 m pc ls (.ref (cx_b G + ly_loc 9 i) :: rest)) := r_get X S (ly_ok_9 hi S.2.2.2) rfl (show vwCl[9]? = some (RX9, TX9, 61) from rfl) in_X9 4 (by decide) lk_X9_249 rfl hd kk
theorem lk_X9_252 : Cond.fieldLink RX9 252 "WhoSingsNextModel" "minute" "I" ∈ gw_t := gw_mem 966 (by decide +kernel) (by decide +kernel)
theorem gf_X9_252 (X : cx_ok G p s m args meth c cc nL RX9 ret) (S : st_ok G n I J s H locs) {i : Nat} (hi : i < 1) (hd : decode cc pc = .ok (.getfield 252, 3)) (kk : W p l e R s m args below meth c H locs cells slots Q (F0 m (pc + 3) ls (.int (J 9 i 32) :: rest))) : W p l e R s m args below meth c H locs cells slots Q (F0 m pc ls (.ref (cx_b G + ly_loc 9 i) :: rest)) := r_get X S (ly_ok_9 hi S.2.2.2) rfl (show vwCl[9]? = some (RX9, TX9, 61) from rfl) in_X9 32 (by decide) lk_X9_252 rfl hd kk
theorem lk_X9_255 : Cond.fieldLink RX9 255 "WhoSingsNextModel" "bar" "I" ∈ gw_t := gw_mem 968 (by decide +kernel) (by decide +kernel)
theorem gf_X9_255 (X : cx_ok G p s m args meth c cc nL RX9 ret) (S : st_ok G n I J s H locs) {i : Nat} (hi : i < 1) (hd : decode cc pc = .ok (.getfield 255, 3)) (kk : W p l e R s m args below meth c H locs cells slots Q (F0 m (pc + 3) ls (.int (J 9 i 34) :: rest))) : W p l e R s m args below meth c H locs cells slots Q (F0 m pc ls (.ref (cx_b G + ly_loc 9 i) :: rest)) := r_get X S (ly_ok_9 hi S.2.2.2) rfl (show vwCl[9]? = some (RX9, TX9, 61) from rfl) in_X9 34 (by decide) lk_X9_255 rfl hd kk
theorem lk_X9_258 : Cond.fieldLink RX9 258 "WhoSingsNextModel" "moodNow" "I" ∈ gw_t := gw_mem 967 (by decide +kernel) (by decide +kernel)
theorem gf_X9_258 (X : cx_ok G p s m args meth c cc nL RX9 ret) (S : st_ok G n I J s H locs) {i : Nat} (hi : i < 1) (hd : decode cc pc = .ok (.getfield 258, 3)) (kk : W p l e R s m args below meth c H locs cells slots Q (F0 m (pc + 3) ls (.int (J 9 i 33) :: rest))) : W p l e R s m args below meth c H locs cells slots Q (F0 m pc ls (.ref (cx_b G + ly_loc 9 i) :: rest)) := r_get X S (ly_ok_9 hi S.2.2.2) rfl (show vwCl[9]? = some (RX9, TX9, 61) from rfl) in_X9 33 (by decide) lk_X9_258 rfl hd kk
theorem lk_X9_265 : Cond.fieldLink RX9 265 "WhoSingsNextModel" "there" "I" ∈ gw_t := gw_mem 969 (by decide +kernel) (by decide +kernel)
theorem gf_X9_265 (X : cx_ok G p s m args meth c cc nL RX9 ret) (S : st_ok G n I J s H locs) {i : Nat} (hi : i < 1) (hd : decode cc pc = .ok (.getfield 265, 3)) (kk : W p l e R s m args below meth c H locs cells slots Q (F0 m (pc + 3) ls (.int (J 9 i 35) :: rest))) : W p l e R s m args below meth c H locs cells slots Q (F0 m pc ls (.ref (cx_b G + ly_loc 9 i) :: rest)) := r_get X S (ly_ok_9 hi S.2.2.2) rfl (show vwCl[9]? = some (RX9, TX9, 61) from rfl) in_X9 35 (by decide) lk_X9_265 rfl hd kk
theorem lk_X9_268 : Cond.fieldLink RX9 268 "WhoSingsNextModel" "sungMany" "I" ∈ gw_t := gw_mem 970 (by decide +kernel) (by decide +kernel)
theorem gf_X9_268 (X : cx_ok G p s m args meth c cc nL RX9 ret) (S : st_ok G n I J s H locs) {i : Nat} (hi : i < 1) (hd : decode cc pc = .ok (.getfield 268, 3)) (kk : W p l e R s m args below meth c H locs cells slots Q (F0 m (pc + 3) ls (.int (J 9 i 36) :: rest))) : W p l e R s m args below meth c H locs cells slots Q (F0 m pc ls (.ref (cx_b G + ly_loc 9 i) :: rest)) := r_get X S (ly_ok_9 hi S.2.2.2) rfl (show vwCl[9]? = some (RX9, TX9, 61) from rfl) in_X9 36 (by decide) lk_X9_268 rfl hd kk
theorem lk_X9_271 : Cond.fieldLink RX9 271 "WhoSingsNextModel" "called" "I" ∈ gw_t := gw_mem 973 (by decide +kernel) (by decide +kernel)
theorem gf_X9_271 (X : cx_ok G p s m args meth c cc nL RX9 ret) (S : st_ok G n I J s H locs) {i : Nat} (hi : i < 1) (hd : decode cc pc = .ok (.getfield 271, 3)) (kk : W p l e R s m args below meth c H locs cells slots Q (F0 m (pc + 3) ls (.int (J 9 i 39) :: rest))) : W p l e R s m args below meth c H locs cells slots Q (F0 m pc ls (.ref (cx_b G + ly_loc 9 i) :: rest)) := r_get X S (ly_ok_9 hi S.2.2.2) rfl (show vwCl[9]? = some (RX9, TX9, 61) from rfl) in_X9 39 (by decide) lk_X9_271 rfl hd kk
theorem lk_X9_274 : Cond.fieldLink RX9 274 "WhoSingsNextModel" "sungSet" "I" ∈ gw_t := gw_mem 974 (by decide +kernel) (by decide +kernel)
theorem gf_X9_274 (X : cx_ok G p s m args meth c cc nL RX9 ret) (S : st_ok G n I J s H locs) {i : Nat} (hi : i < 1) (hd : decode cc pc = .ok (.getfield 274, 3)) (kk : W p l e R s m args below meth c H locs cells slots Q (F0 m (pc + 3) ls (.int (J 9 i 40) :: rest))) : W p l e R s m args below meth c H locs cells slots Q (F0 m pc ls (.ref (cx_b G + ly_loc 9 i) :: rest)) := r_get X S (ly_ok_9 hi S.2.2.2) rfl (show vwCl[9]? = some (RX9, TX9, 61) from rfl) in_X9 40 (by decide) lk_X9_274 rfl hd kk
theorem lk_X9_315 : Cond.fieldLink RX9 315 "WhoSingsNextModel" "bestBar" "I" ∈ gw_t := gw_mem 980 (by decide +kernel) (by decide +kernel)
theorem gf_X9_315 (X : cx_ok G p s m args meth c cc nL RX9 ret) (S : st_ok G n I J s H locs) {i : Nat} (hi : i < 1) (hd : decode cc pc = .ok (.getfield 315, 3)) (kk : W p l e R s m args below meth c H locs cells slots Q (F0 m (pc + 3) ls (.int (J 9 i 46) :: rest))) : W p l e R s m args below meth c H locs cells slots Q (F0 m pc ls (.ref (cx_b G + ly_loc 9 i) :: rest)) := r_get X S (ly_ok_9 hi S.2.2.2) rfl (show vwCl[9]? = some (RX9, TX9, 61) from rfl) in_X9 46 (by decide) lk_X9_315 rfl hd kk
theorem lk_X9_318 : Cond.fieldLink RX9 318 "WhoSingsNextModel" "bestLeft" "I" ∈ gw_t := gw_mem 981 (by decide +kernel) (by decide +kernel)
theorem gf_X9_318 (X : cx_ok G p s m args meth c cc nL RX9 ret) (S : st_ok G n I J s H locs) {i : Nat} (hi : i < 1) (hd : decode cc pc = .ok (.getfield 318, 3)) (kk : W p l e R s m args below meth c H locs cells slots Q (F0 m (pc + 3) ls (.int (J 9 i 47) :: rest))) : W p l e R s m args below meth c H locs cells slots Q (F0 m pc ls (.ref (cx_b G + ly_loc 9 i) :: rest)) := r_get X S (ly_ok_9 hi S.2.2.2) rfl (show vwCl[9]? = some (RX9, TX9, 61) from rfl) in_X9 47 (by decide) lk_X9_318 rfl hd kk
theorem lk_X9_321 : Cond.fieldLink RX9 321 "WhoSingsNextModel" "bestSung" "I" ∈ gw_t := gw_mem 982 (by decide +kernel) (by decide +kernel)
theorem gf_X9_321 (X : cx_ok G p s m args meth c cc nL RX9 ret) (S : st_ok G n I J s H locs) {i : Nat} (hi : i < 1) (hd : decode cc pc = .ok (.getfield 321, 3)) (kk : W p l e R s m args below meth c H locs cells slots Q (F0 m (pc + 3) ls (.int (J 9 i 48) :: rest))) : W p l e R s m args below meth c H locs cells slots Q (F0 m pc ls (.ref (cx_b G + ly_loc 9 i) :: rest)) := r_get X S (ly_ok_9 hi S.2.2.2) rfl (show vwCl[9]? = some (RX9, TX9, 61) from rfl) in_X9 48 (by decide) lk_X9_321 rfl hd kk
theorem lk_X9_327 : Cond.fieldLink RX9 327 "WhoSingsNextModel" "bestRow" "I" ∈ gw_t := gw_mem 979 (by decide +kernel) (by decide +kernel)
theorem gf_X9_327 (X : cx_ok G p s m args meth c cc nL RX9 ret) (S : st_ok G n I J s H locs) {i : Nat} (hi : i < 1) (hd : decode cc pc = .ok (.getfield 327, 3)) (kk : W p l e R s m args below meth c H locs cells slots Q (F0 m (pc + 3) ls (.int (J 9 i 45) :: rest))) : W p l e R s m args below meth c H locs cells slots Q (F0 m pc ls (.ref (cx_b G + ly_loc 9 i) :: rest)) := r_get X S (ly_ok_9 hi S.2.2.2) rfl (show vwCl[9]? = some (RX9, TX9, 61) from rfl) in_X9 45 (by decide) lk_X9_327 rfl hd kk
theorem lk_X9_342 : Cond.fieldLink RX9 342 "WhoSingsNextModel" "deskRow" "I" ∈ gw_t := gw_mem 983 (by decide +kernel) (by decide +kernel)
theorem gf_X9_342 (X : cx_ok G p s m args meth c cc nL RX9 ret) (S : st_ok G n I J s H locs) {i : Nat} (hi : i < 1) (hd : decode cc pc = .ok (.getfield 342, 3)) (kk : W p l e R s m args below meth c H locs cells slots Q (F0 m (pc + 3) ls (.int (J 9 i 49) :: rest))) : W p l e R s m args below meth c H locs cells slots Q (F0 m pc ls (.ref (cx_b G + ly_loc 9 i) :: rest)) := r_get X S (ly_ok_9 hi S.2.2.2) rfl (show vwCl[9]? = some (RX9, TX9, 61) from rfl) in_X9 49 (by decide) lk_X9_342 rfl hd kk
theorem lk_X9_371 : Cond.fieldLink RX9 371 "WhoSingsNextModel" "peopleKept" "I" ∈ gw_t := gw_mem 987 (by decide +kernel) (by decide +kernel)
theorem gf_X9_371 (X : cx_ok G p s m args meth c cc nL RX9 ret) (S : st_ok G n I J s H locs) {i : Nat} (hi : i < 1) (hd : decode cc pc = .ok (.getfield 371, 3)) (kk : W p l e R s m args below meth c H locs cells slots Q (F0 m (pc + 3) ls (.int (J 9 i 53) :: rest))) : W p l e R s m args below meth c H locs cells slots Q (F0 m pc ls (.ref (cx_b G + ly_loc 9 i) :: rest)) := r_get X S (ly_ok_9 hi S.2.2.2) rfl (show vwCl[9]? = some (RX9, TX9, 61) from rfl) in_X9 53 (by decide) lk_X9_371 rfl hd kk
theorem lk_X9_374 : Cond.fieldLink RX9 374 "WhoSingsNextModel" "moodKept" "I" ∈ gw_t := gw_mem 988 (by decide +kernel) (by decide +kernel)
theorem gf_X9_374 (X : cx_ok G p s m args meth c cc nL RX9 ret) (S : st_ok G n I J s H locs) {i : Nat} (hi : i < 1) (hd : decode cc pc = .ok (.getfield 374, 3)) (kk : W p l e R s m args below meth c H locs cells slots Q (F0 m (pc + 3) ls (.int (J 9 i 54) :: rest))) : W p l e R s m args below meth c H locs cells slots Q (F0 m pc ls (.ref (cx_b G + ly_loc 9 i) :: rest)) := r_get X S (ly_ok_9 hi S.2.2.2) rfl (show vwCl[9]? = some (RX9, TX9, 61) from rfl) in_X9 54 (by decide) lk_X9_374 rfl hd kk
theorem lk_X9_377 : Cond.fieldLink RX9 377 "WhoSingsNextModel" "tillKept" "I" ∈ gw_t := gw_mem 989 (by decide +kernel) (by decide +kernel)
theorem gf_X9_377 (X : cx_ok G p s m args meth c cc nL RX9 ret) (S : st_ok G n I J s H locs) {i : Nat} (hi : i < 1) (hd : decode cc pc = .ok (.getfield 377, 3)) (kk : W p l e R s m args below meth c H locs cells slots Q (F0 m (pc + 3) ls (.int (J 9 i 55) :: rest))) : W p l e R s m args below meth c H locs cells slots Q (F0 m pc ls (.ref (cx_b G + ly_loc 9 i) :: rest)) := r_get X S (ly_ok_9 hi S.2.2.2) rfl (show vwCl[9]? = some (RX9, TX9, 61) from rfl) in_X9 55 (by decide) lk_X9_377 rfl hd kk
theorem lk_X9_380 : Cond.fieldLink RX9 380 "WhoSingsNextModel" "ruleKept" "I" ∈ gw_t := gw_mem 990 (by decide +kernel) (by decide +kernel)
theorem gf_X9_380 (X : cx_ok G p s m args meth c cc nL RX9 ret) (S : st_ok G n I J s H locs) {i : Nat} (hi : i < 1) (hd : decode cc pc = .ok (.getfield 380, 3)) (kk : W p l e R s m args below meth c H locs cells slots Q (F0 m (pc + 3) ls (.int (J 9 i 56) :: rest))) : W p l e R s m args below meth c H locs cells slots Q (F0 m pc ls (.ref (cx_b G + ly_loc 9 i) :: rest)) := r_get X S (ly_ok_9 hi S.2.2.2) rfl (show vwCl[9]? = some (RX9, TX9, 61) from rfl) in_X9 56 (by decide) lk_X9_380 rfl hd kk
theorem pf_X0_34 (X : cx_ok G p s m args meth c cc nL RX0 ret) (S : st_ok G n I J s H locs) {i : Nat} (hi : i < 9) {v : Int32} (hv : v ≠ -1) (hd : decode cc pc = .ok (.putfield 34, 3)) (kk : ∀ (I1 : mm_T) (H1 : Heap) (locs1 : List Loc), I1 = mm_up I 0 i 1 v → st_ok G n I1 J s H1 locs1 → W p l e R s m args below meth c H1 locs1 cells slots Q (F0 m (pc + 3) ls rest)) : W p l e R s m args below meth c H locs cells slots Q (F0 m pc ls (.ref (cx_b G + ly_loc 7 v.toNatClampNeg) :: .ref (cx_b G + ly_loc 0 i) :: rest)) := r_putI X S (ly_ok_0 hi S.2.2.2) rfl rfl (show vwCl[0]? = some (RX0, TX0, 16) from rfl) in_X0 tyX0_ok nmX0 1 (by decide) (Or.inl lk_X0_34) rfl rfl rfl (Nat.le_of_ble_eq_true rfl) (by show Sum.inr (0, _) = Sum.inr (0, _); simp only [upd, ly_tx, if_true, if_neg hv]; rfl) hd kk
theorem pf_X0_44 (X : cx_ok G p s m args meth c cc nL RX0 ret) (S : st_ok G n I J s H locs) {i : Nat} (hi : i < 9) {v : Int32} (hd : decode cc pc = .ok (.putfield 44, 3)) (kk : ∀ (I1 : mm_T) (H1 : Heap) (locs1 : List Loc), I1 = mm_up I 0 i 7 v → st_ok G n I1 J s H1 locs1 → W p l e R s m args below meth c H1 locs1 cells slots Q (F0 m (pc + 3) ls rest)) : W p l e R s m args below meth c H locs cells slots Q (F0 m pc ls (.int v :: .ref (cx_b G + ly_loc 0 i) :: rest)) := r_putI X S (ly_ok_0 hi S.2.2.2) rfl rfl (show vwCl[0]? = some (RX0, TX0, 16) from rfl) in_X0 tyX0_ok nmX0 7 (by decide) (Or.inl lk_X0_44) rfl rfl rfl (Nat.le_of_ble_eq_true rfl) rfl hd kk
theorem pf_X0_48 (X : cx_ok G p s m args meth c cc nL RX0 ret) (S : st_ok G n I J s H locs) {i : Nat} (hi : i < 9) {v : Int32} (hd : decode cc pc = .ok (.putfield 48, 3)) (kk : ∀ (I1 : mm_T) (H1 : Heap) (locs1 : List Loc), I1 = mm_up I 0 i 9 v → st_ok G n I1 J s H1 locs1 → W p l e R s m args below meth c H1 locs1 cells slots Q (F0 m (pc + 3) ls rest)) : W p l e R s m args below meth c H locs cells slots Q (F0 m pc ls (.int v :: .ref (cx_b G + ly_loc 0 i) :: rest)) := r_putI X S (ly_ok_0 hi S.2.2.2) rfl rfl (show vwCl[0]? = some (RX0, TX0, 16) from rfl) in_X0 tyX0_ok nmX0 9 (by decide) (Or.inl lk_X0_48) rfl rfl rfl (Nat.le_of_ble_eq_true rfl) rfl hd kk
theorem pf_X0_51 (X : cx_ok G p s m args meth c cc nL RX0 ret) (S : st_ok G n I J s H locs) {i : Nat} (hi : i < 9) {v : Int32} (hd : decode cc pc = .ok (.putfield 51, 3)) (kk : ∀ (I1 : mm_T) (H1 : Heap) (locs1 : List Loc), I1 = mm_up I 0 i 10 v → st_ok G n I1 J s H1 locs1 → W p l e R s m args below meth c H1 locs1 cells slots Q (F0 m (pc + 3) ls rest)) : W p l e R s m args below meth c H locs cells slots Q (F0 m pc ls (.int v :: .ref (cx_b G + ly_loc 0 i) :: rest)) := r_putI X S (ly_ok_0 hi S.2.2.2) rfl rfl (show vwCl[0]? = some (RX0, TX0, 16) from rfl) in_X0 tyX0_ok nmX0 10 (by decide) (Or.inl lk_X0_51) rfl rfl rfl (Nat.le_of_ble_eq_true rfl) rfl hd kk
theorem pf_X0_59 (X : cx_ok G p s m args meth c cc nL RX0 ret) (S : st_ok G n I J s H locs) {i : Nat} (hi : i < 9) {v : Int32} (hd : decode cc pc = .ok (.putfield 59, 3)) (kk : ∀ (I1 : mm_T) (H1 : Heap) (locs1 : List Loc), I1 = mm_up I 0 i 11 v → st_ok G n I1 J s H1 locs1 → W p l e R s m args below meth c H1 locs1 cells slots Q (F0 m (pc + 3) ls rest)) : W p l e R s m args below meth c H locs cells slots Q (F0 m pc ls (.int v :: .ref (cx_b G + ly_loc 0 i) :: rest)) := r_putI X S (ly_ok_0 hi S.2.2.2) rfl rfl (show vwCl[0]? = some (RX0, TX0, 16) from rfl) in_X0 tyX0_ok nmX0 11 (by decide) (Or.inl lk_X0_59) rfl rfl rfl (Nat.le_of_ble_eq_true rfl) rfl hd kk
theorem pf_X0_60 (X : cx_ok G p s m args meth c cc nL RX0 ret) (S : st_ok G n I J s H locs) {i : Nat} (hi : i < 9) {v : Int32} (hd : decode cc pc = .ok (.putfield 60, 3)) (kk : ∀ (I1 : mm_T) (H1 : Heap) (locs1 : List Loc), I1 = mm_up I 0 i 12 v → st_ok G n I1 J s H1 locs1 → W p l e R s m args below meth c H1 locs1 cells slots Q (F0 m (pc + 3) ls rest)) : W p l e R s m args below meth c H locs cells slots Q (F0 m pc ls (.int v :: .ref (cx_b G + ly_loc 0 i) :: rest)) := r_putI X S (ly_ok_0 hi S.2.2.2) rfl rfl (show vwCl[0]? = some (RX0, TX0, 16) from rfl) in_X0 tyX0_ok nmX0 12 (by decide) (Or.inl lk_X0_60) rfl rfl rfl (Nat.le_of_ble_eq_true rfl) rfl hd kk
theorem pf_X0_63 (X : cx_ok G p s m args meth c cc nL RX0 ret) (S : st_ok G n I J s H locs) {i : Nat} (hi : i < 9) {v : Int32} (hd : decode cc pc = .ok (.putfield 63, 3)) (kk : ∀ (I1 : mm_T) (H1 : Heap) (locs1 : List Loc), I1 = mm_up I 0 i 13 v → st_ok G n I1 J s H1 locs1 → W p l e R s m args below meth c H1 locs1 cells slots Q (F0 m (pc + 3) ls rest)) : W p l e R s m args below meth c H locs cells slots Q (F0 m pc ls (.int v :: .ref (cx_b G + ly_loc 0 i) :: rest)) := r_putI X S (ly_ok_0 hi S.2.2.2) rfl rfl (show vwCl[0]? = some (RX0, TX0, 16) from rfl) in_X0 tyX0_ok nmX0 13 (by decide) (Or.inl lk_X0_63) rfl rfl rfl (Nat.le_of_ble_eq_true rfl) rfl hd kk
theorem pf_X0_66 (X : cx_ok G p s m args meth c cc nL RX0 ret) (S : st_ok G n I J s H locs) {i : Nat} (hi : i < 9) {v : Int32} (hd : decode cc pc = .ok (.putfield 66, 3)) (kk : ∀ (I1 : mm_T) (H1 : Heap) (locs1 : List Loc), I1 = mm_up I 0 i 14 v → st_ok G n I1 J s H1 locs1 → W p l e R s m args below meth c H1 locs1 cells slots Q (F0 m (pc + 3) ls rest)) : W p l e R s m args below meth c H locs cells slots Q (F0 m pc ls (.int v :: .ref (cx_b G + ly_loc 0 i) :: rest)) := r_putI X S (ly_ok_0 hi S.2.2.2) rfl rfl (show vwCl[0]? = some (RX0, TX0, 16) from rfl) in_X0 tyX0_ok nmX0 14 (by decide) (Or.inl lk_X0_66) rfl rfl rfl (Nat.le_of_ble_eq_true rfl) rfl hd kk
theorem pf_X0_72 (X : cx_ok G p s m args meth c cc nL RX0 ret) (S : st_ok G n I J s H locs) {i : Nat} (hi : i < 9) {v : Int32} (hd : decode cc pc = .ok (.putfield 72, 3)) (kk : ∀ (I1 : mm_T) (H1 : Heap) (locs1 : List Loc), I1 = mm_up I 0 i 15 v → st_ok G n I1 J s H1 locs1 → W p l e R s m args below meth c H1 locs1 cells slots Q (F0 m (pc + 3) ls rest)) : W p l e R s m args below meth c H locs cells slots Q (F0 m pc ls (.int v :: .ref (cx_b G + ly_loc 0 i) :: rest)) := r_putI X S (ly_ok_0 hi S.2.2.2) rfl rfl (show vwCl[0]? = some (RX0, TX0, 16) from rfl) in_X0 tyX0_ok nmX0 15 (by decide) (Or.inl lk_X0_72) rfl rfl rfl (Nat.le_of_ble_eq_true rfl) rfl hd kk
theorem pf_X1_23 (X : cx_ok G p s m args meth c cc nL RX1 ret) (S : st_ok G n I J s H locs) {i : Nat} (hi : i < 2) {v : Int32} (hd : decode cc pc = .ok (.putfield 23, 3)) (kk : ∀ (I1 : mm_T) (H1 : Heap) (locs1 : List Loc), I1 = mm_up I 1 i 5 v → st_ok G n I1 J s H1 locs1 → W p l e R s m args below meth c H1 locs1 cells slots Q (F0 m (pc + 3) ls rest)) : W p l e R s m args below meth c H locs cells slots Q (F0 m pc ls (.int v :: .ref (cx_b G + ly_loc 1 i) :: rest)) := r_putI X S (ly_ok_1 hi S.2.2.2) rfl rfl (show vwCl[1]? = some (RX1, TX1, 8) from rfl) in_X1 tyX1_ok nmX1 5 (by decide) (Or.inl lk_X1_23) rfl rfl rfl (Nat.le_of_ble_eq_true rfl) rfl hd kk
theorem pf_X1_29 (X : cx_ok G p s m args meth c cc nL RX1 ret) (S : st_ok G n I J s H locs) {i : Nat} (hi : i < 2) {v : Int32} (hd : decode cc pc = .ok (.putfield 29, 3)) (kk : ∀ (I1 : mm_T) (H1 : Heap) (locs1 : List Loc), I1 = mm_up I 1 i 2 v → st_ok G n I1 J s H1 locs1 → W p l e R s m args below meth c H1 locs1 cells slots Q (F0 m (pc + 3) ls rest)) : W p l e R s m args below meth c H locs cells slots Q (F0 m pc ls (.int v :: .ref (cx_b G + ly_loc 1 i) :: rest)) := r_putI X S (ly_ok_1 hi S.2.2.2) rfl rfl (show vwCl[1]? = some (RX1, TX1, 8) from rfl) in_X1 tyX1_ok nmX1 2 (by decide) (Or.inl lk_X1_29) rfl rfl rfl (Nat.le_of_ble_eq_true rfl) rfl hd kk
theorem pf_X1_32 (X : cx_ok G p s m args meth c cc nL RX1 ret) (S : st_ok G n I J s H locs) {i : Nat} (hi : i < 2) {v : Int32} (hd : decode cc pc = .ok (.putfield 32, 3)) (kk : ∀ (I1 : mm_T) (H1 : Heap) (locs1 : List Loc), I1 = mm_up I 1 i 3 v → st_ok G n I1 J s H1 locs1 → W p l e R s m args below meth c H1 locs1 cells slots Q (F0 m (pc + 3) ls rest)) : W p l e R s m args below meth c H locs cells slots Q (F0 m pc ls (.int v :: .ref (cx_b G + ly_loc 1 i) :: rest)) := r_putI X S (ly_ok_1 hi S.2.2.2) rfl rfl (show vwCl[1]? = some (RX1, TX1, 8) from rfl) in_X1 tyX1_ok nmX1 3 (by decide) (Or.inl lk_X1_32) rfl rfl rfl (Nat.le_of_ble_eq_true rfl) rfl hd kk
theorem pf_X1_35 (X : cx_ok G p s m args meth c cc nL RX1 ret) (S : st_ok G n I J s H locs) {i : Nat} (hi : i < 14) {v : Int32} (hd : decode cc pc = .ok (.putfield 35, 3)) (kk : ∀ (I1 : mm_T) (H1 : Heap) (locs1 : List Loc), I1 = mm_up I 6 i 3 v → st_ok G n I1 J s H1 locs1 → W p l e R s m args below meth c H1 locs1 cells slots Q (F0 m (pc + 3) ls rest)) : W p l e R s m args below meth c H locs cells slots Q (F0 m pc ls (.int v :: .ref (cx_b G + ly_loc 6 i) :: rest)) := r_putI X S (ly_ok_6 hi S.2.2.2) rfl rfl (show vwCl[6]? = some (RX6, TX6, 4) from rfl) in_X6 tyX6_ok nmX6 3 (by decide) (Or.inr ⟨_, lk_X1_35⟩) rfl rfl rfl (Nat.le_of_ble_eq_true rfl) rfl hd kk
theorem pf_X1_38 (X : cx_ok G p s m args meth c cc nL RX1 ret) (S : st_ok G n I J s H locs) {i : Nat} (hi : i < 16) {v : Int32} (hd : decode cc pc = .ok (.putfield 38, 3)) (kk : ∀ (I1 : mm_T) (H1 : Heap) (locs1 : List Loc), I1 = mm_up I 2 i 1 v → st_ok G n I1 J s H1 locs1 → W p l e R s m args below meth c H1 locs1 cells slots Q (F0 m (pc + 3) ls rest)) : W p l e R s m args below meth c H locs cells slots Q (F0 m pc ls (.int v :: .ref (cx_b G + ly_loc 2 i) :: rest)) := r_putI X S (ly_ok_2 hi S.2.2.2) rfl rfl (show vwCl[2]? = some (RX2, TX2, 2) from rfl) in_X2 tyX2_ok nmX2 1 (by decide) (Or.inr ⟨_, lk_X1_38⟩) rfl rfl rfl (Nat.le_of_ble_eq_true rfl) rfl hd kk
theorem pf_X1_41 (X : cx_ok G p s m args meth c cc nL RX1 ret) (S : st_ok G n I J s H locs) {i : Nat} (hi : i < 16) {v : Int32} (hd : decode cc pc = .ok (.putfield 41, 3)) (kk : ∀ (I1 : mm_T) (H1 : Heap) (locs1 : List Loc), I1 = mm_up I 2 i 0 v → st_ok G n I1 J s H1 locs1 → W p l e R s m args below meth c H1 locs1 cells slots Q (F0 m (pc + 3) ls rest)) : W p l e R s m args below meth c H locs cells slots Q (F0 m pc ls (.int v :: .ref (cx_b G + ly_loc 2 i) :: rest)) := r_putI X S (ly_ok_2 hi S.2.2.2) rfl rfl (show vwCl[2]? = some (RX2, TX2, 2) from rfl) in_X2 tyX2_ok nmX2 0 (by decide) (Or.inr ⟨_, lk_X1_41⟩) rfl rfl rfl (Nat.le_of_ble_eq_true rfl) rfl hd kk
theorem pf_X1_44 (X : cx_ok G p s m args meth c cc nL RX1 ret) (S : st_ok G n I J s H locs) {i : Nat} (hi : i < 2) {v : Int32} (hd : decode cc pc = .ok (.putfield 44, 3)) (kk : ∀ (I1 : mm_T) (H1 : Heap) (locs1 : List Loc), I1 = mm_up I 1 i 7 v → st_ok G n I1 J s H1 locs1 → W p l e R s m args below meth c H1 locs1 cells slots Q (F0 m (pc + 3) ls rest)) : W p l e R s m args below meth c H locs cells slots Q (F0 m pc ls (.int v :: .ref (cx_b G + ly_loc 1 i) :: rest)) := r_putI X S (ly_ok_1 hi S.2.2.2) rfl rfl (show vwCl[1]? = some (RX1, TX1, 8) from rfl) in_X1 tyX1_ok nmX1 7 (by decide) (Or.inl lk_X1_44) rfl rfl rfl (Nat.le_of_ble_eq_true rfl) rfl hd kk
theorem lk_X1_51 : Cond.fieldLinkNest RX1 51 "WhoSingsNext$Slip" "kind" "I" "WhoSingsNext" ∈ nw_t := nw_mem 124 (by decide +kernel) (by decide +kernel)
theorem pf_X1_51 (X : cx_ok G p s m args meth c cc nL RX1 ret) (S : st_ok G n I J s H locs) {i : Nat} (hi : i < 14) {v : Int32} (hd : decode cc pc = .ok (.putfield 51, 3)) (kk : ∀ (I1 : mm_T) (H1 : Heap) (locs1 : List Loc), I1 = mm_up I 6 i 0 v → st_ok G n I1 J s H1 locs1 → W p l e R s m args below meth c H1 locs1 cells slots Q (F0 m (pc + 3) ls rest)) : W p l e R s m args below meth c H locs cells slots Q (F0 m pc ls (.int v :: .ref (cx_b G + ly_loc 6 i) :: rest)) := r_putI X S (ly_ok_6 hi S.2.2.2) rfl rfl (show vwCl[6]? = some (RX6, TX6, 4) from rfl) in_X6 tyX6_ok nmX6 0 (by decide) (Or.inr ⟨_, lk_X1_51⟩) rfl rfl rfl (Nat.le_of_ble_eq_true rfl) rfl hd kk
theorem pf_X1_54 (X : cx_ok G p s m args meth c cc nL RX1 ret) (S : st_ok G n I J s H locs) {i : Nat} (hi : i < 14) {v : Int32} (hd : decode cc pc = .ok (.putfield 54, 3)) (kk : ∀ (I1 : mm_T) (H1 : Heap) (locs1 : List Loc), I1 = mm_up I 6 i 1 v → st_ok G n I1 J s H1 locs1 → W p l e R s m args below meth c H1 locs1 cells slots Q (F0 m (pc + 3) ls rest)) : W p l e R s m args below meth c H locs cells slots Q (F0 m pc ls (.int v :: .ref (cx_b G + ly_loc 6 i) :: rest)) := r_putI X S (ly_ok_6 hi S.2.2.2) rfl rfl (show vwCl[6]? = some (RX6, TX6, 4) from rfl) in_X6 tyX6_ok nmX6 1 (by decide) (Or.inr ⟨_, lk_X1_54⟩) rfl rfl rfl (Nat.le_of_ble_eq_true rfl) rfl hd kk
theorem pf_X1_57 (X : cx_ok G p s m args meth c cc nL RX1 ret) (S : st_ok G n I J s H locs) {i : Nat} (hi : i < 14) {v : Int32} (hd : decode cc pc = .ok (.putfield 57, 3)) (kk : ∀ (I1 : mm_T) (H1 : Heap) (locs1 : List Loc), I1 = mm_up I 6 i 2 v → st_ok G n I1 J s H1 locs1 → W p l e R s m args below meth c H1 locs1 cells slots Q (F0 m (pc + 3) ls rest)) : W p l e R s m args below meth c H locs cells slots Q (F0 m pc ls (.int v :: .ref (cx_b G + ly_loc 6 i) :: rest)) := r_putI X S (ly_ok_6 hi S.2.2.2) rfl rfl (show vwCl[6]? = some (RX6, TX6, 4) from rfl) in_X6 tyX6_ok nmX6 2 (by decide) (Or.inr ⟨_, lk_X1_57⟩) rfl rfl rfl (Nat.le_of_ble_eq_true rfl) rfl hd kk
theorem pf_X1_67 (X : cx_ok G p s m args meth c cc nL RX1 ret) (S : st_ok G n I J s H locs) {i : Nat} (hi : i < 2) {v : Int32} (hd : decode cc pc = .ok (.putfield 67, 3)) (kk : ∀ (I1 : mm_T) (H1 : Heap) (locs1 : List Loc), I1 = mm_up I 1 i 4 v → st_ok G n I1 J s H1 locs1 → W p l e R s m args below meth c H1 locs1 cells slots Q (F0 m (pc + 3) ls rest)) : W p l e R s m args below meth c H locs cells slots Q (F0 m pc ls (.int v :: .ref (cx_b G + ly_loc 1 i) :: rest)) := r_putI X S (ly_ok_1 hi S.2.2.2) rfl rfl (show vwCl[1]? = some (RX1, TX1, 8) from rfl) in_X1 tyX1_ok nmX1 4 (by decide) (Or.inl lk_X1_67) rfl rfl rfl (Nat.le_of_ble_eq_true rfl) rfl hd kk
theorem pf_X1_73 (X : cx_ok G p s m args meth c cc nL RX1 ret) (S : st_ok G n I J s H locs) {i : Nat} (hi : i < 2) {v : Int32} (hd : decode cc pc = .ok (.putfield 73, 3)) (kk : ∀ (I1 : mm_T) (H1 : Heap) (locs1 : List Loc), I1 = mm_up I 1 i 6 v → st_ok G n I1 J s H1 locs1 → W p l e R s m args below meth c H1 locs1 cells slots Q (F0 m (pc + 3) ls rest)) : W p l e R s m args below meth c H locs cells slots Q (F0 m pc ls (.int v :: .ref (cx_b G + ly_loc 1 i) :: rest)) := r_putI X S (ly_ok_1 hi S.2.2.2) rfl rfl (show vwCl[1]? = some (RX1, TX1, 8) from rfl) in_X1 tyX1_ok nmX1 6 (by decide) (Or.inl lk_X1_73) rfl rfl rfl (Nat.le_of_ble_eq_true rfl) rfl hd kk
theorem pf_X2_7 (X : cx_ok G p s m args meth c cc nL RX2 ret) (S : st_ok G n I J s H locs) {i : Nat} (hi : i < 16) {v : Int32} (hd : decode cc pc = .ok (.putfield 7, 3)) (kk : ∀ (I1 : mm_T) (H1 : Heap) (locs1 : List Loc), I1 = mm_up I 2 i 0 v → st_ok G n I1 J s H1 locs1 → W p l e R s m args below meth c H1 locs1 cells slots Q (F0 m (pc + 3) ls rest)) : W p l e R s m args below meth c H locs cells slots Q (F0 m pc ls (.int v :: .ref (cx_b G + ly_loc 2 i) :: rest)) := r_putI X S (ly_ok_2 hi S.2.2.2) rfl rfl (show vwCl[2]? = some (RX2, TX2, 2) from rfl) in_X2 tyX2_ok nmX2 0 (by decide) (Or.inl lk_X2_7) rfl rfl rfl (Nat.le_of_ble_eq_true rfl) rfl hd kk
theorem pf_X2_13 (X : cx_ok G p s m args meth c cc nL RX2 ret) (S : st_ok G n I J s H locs) {i : Nat} (hi : i < 16) {v : Int32} (hd : decode cc pc = .ok (.putfield 13, 3)) (kk : ∀ (I1 : mm_T) (H1 : Heap) (locs1 : List Loc), I1 = mm_up I 2 i 1 v → st_ok G n I1 J s H1 locs1 → W p l e R s m args below meth c H1 locs1 cells slots Q (F0 m (pc + 3) ls rest)) : W p l e R s m args below meth c H locs cells slots Q (F0 m pc ls (.int v :: .ref (cx_b G + ly_loc 2 i) :: rest)) := r_putI X S (ly_ok_2 hi S.2.2.2) rfl rfl (show vwCl[2]? = some (RX2, TX2, 2) from rfl) in_X2 tyX2_ok nmX2 1 (by decide) (Or.inl lk_X2_13) rfl rfl rfl (Nat.le_of_ble_eq_true rfl) rfl hd kk
theorem pf_X3_18 (X : cx_ok G p s m args meth c cc nL RX3 ret) (S : st_ok G n I J s H locs) {i : Nat} (hi : i < 1) {v : Int32} (hd : decode cc pc = .ok (.putfield 18, 3)) (kk : ∀ (I1 : mm_T) (H1 : Heap) (locs1 : List Loc), I1 = mm_up I 3 i 1 v → st_ok G n I1 J s H1 locs1 → W p l e R s m args below meth c H1 locs1 cells slots Q (F0 m (pc + 3) ls rest)) : W p l e R s m args below meth c H locs cells slots Q (F0 m pc ls (.int v :: .ref (cx_b G + ly_loc 3 i) :: rest)) := r_putI X S (ly_ok_3 hi S.2.2.2) rfl rfl (show vwCl[3]? = some (RX3, TX3, 11) from rfl) in_X3 tyX3_ok nmX3 1 (by decide) (Or.inl lk_X3_18) rfl rfl rfl (Nat.le_of_ble_eq_true rfl) rfl hd kk
theorem pf_X3_22 (X : cx_ok G p s m args meth c cc nL RX3 ret) (S : st_ok G n I J s H locs) {i : Nat} (hi : i < 1) {v : Int32} (hd : decode cc pc = .ok (.putfield 22, 3)) (kk : ∀ (I1 : mm_T) (H1 : Heap) (locs1 : List Loc), I1 = mm_up I 3 i 3 v → st_ok G n I1 J s H1 locs1 → W p l e R s m args below meth c H1 locs1 cells slots Q (F0 m (pc + 3) ls rest)) : W p l e R s m args below meth c H locs cells slots Q (F0 m pc ls (.int v :: .ref (cx_b G + ly_loc 3 i) :: rest)) := r_putI X S (ly_ok_3 hi S.2.2.2) rfl rfl (show vwCl[3]? = some (RX3, TX3, 11) from rfl) in_X3 tyX3_ok nmX3 3 (by decide) (Or.inl lk_X3_22) rfl rfl rfl (Nat.le_of_ble_eq_true rfl) rfl hd kk
theorem pf_X3_25 (X : cx_ok G p s m args meth c cc nL RX3 ret) (S : st_ok G n I J s H locs) {i : Nat} (hi : i < 1) {v : Int32} (hd : decode cc pc = .ok (.putfield 25, 3)) (kk : ∀ (I1 : mm_T) (H1 : Heap) (locs1 : List Loc), I1 = mm_up I 3 i 9 v → st_ok G n I1 J s H1 locs1 → W p l e R s m args below meth c H1 locs1 cells slots Q (F0 m (pc + 3) ls rest)) : W p l e R s m args below meth c H locs cells slots Q (F0 m pc ls (.int v :: .ref (cx_b G + ly_loc 3 i) :: rest)) := r_putI X S (ly_ok_3 hi S.2.2.2) rfl rfl (show vwCl[3]? = some (RX3, TX3, 11) from rfl) in_X3 tyX3_ok nmX3 9 (by decide) (Or.inl lk_X3_25) rfl rfl rfl (Nat.le_of_ble_eq_true rfl) rfl hd kk
theorem pf_X3_28 (X : cx_ok G p s m args meth c cc nL RX3 ret) (S : st_ok G n I J s H locs) {i : Nat} (hi : i < 1) {v : Int32} (hd : decode cc pc = .ok (.putfield 28, 3)) (kk : ∀ (I1 : mm_T) (H1 : Heap) (locs1 : List Loc), I1 = mm_up I 3 i 10 v → st_ok G n I1 J s H1 locs1 → W p l e R s m args below meth c H1 locs1 cells slots Q (F0 m (pc + 3) ls rest)) : W p l e R s m args below meth c H locs cells slots Q (F0 m pc ls (.int v :: .ref (cx_b G + ly_loc 3 i) :: rest)) := r_putI X S (ly_ok_3 hi S.2.2.2) rfl rfl (show vwCl[3]? = some (RX3, TX3, 11) from rfl) in_X3 tyX3_ok nmX3 10 (by decide) (Or.inl lk_X3_28) rfl rfl rfl (Nat.le_of_ble_eq_true rfl) rfl hd kk
theorem pf_X3_38 (X : cx_ok G p s m args meth c cc nL RX3 ret) (S : st_ok G n I J s H locs) {i : Nat} (hi : i < 1) {v : Int32} (hd : decode cc pc = .ok (.putfield 38, 3)) (kk : ∀ (I1 : mm_T) (H1 : Heap) (locs1 : List Loc), I1 = mm_up I 3 i 4 v → st_ok G n I1 J s H1 locs1 → W p l e R s m args below meth c H1 locs1 cells slots Q (F0 m (pc + 3) ls rest)) : W p l e R s m args below meth c H locs cells slots Q (F0 m pc ls (.int v :: .ref (cx_b G + ly_loc 3 i) :: rest)) := r_putI X S (ly_ok_3 hi S.2.2.2) rfl rfl (show vwCl[3]? = some (RX3, TX3, 11) from rfl) in_X3 tyX3_ok nmX3 4 (by decide) (Or.inl lk_X3_38) rfl rfl rfl (Nat.le_of_ble_eq_true rfl) rfl hd kk
theorem pf_X3_41 (X : cx_ok G p s m args meth c cc nL RX3 ret) (S : st_ok G n I J s H locs) {i : Nat} (hi : i < 1) {v : Int32} (hd : decode cc pc = .ok (.putfield 41, 3)) (kk : ∀ (I1 : mm_T) (H1 : Heap) (locs1 : List Loc), I1 = mm_up I 3 i 5 v → st_ok G n I1 J s H1 locs1 → W p l e R s m args below meth c H1 locs1 cells slots Q (F0 m (pc + 3) ls rest)) : W p l e R s m args below meth c H locs cells slots Q (F0 m pc ls (.int v :: .ref (cx_b G + ly_loc 3 i) :: rest)) := r_putI X S (ly_ok_3 hi S.2.2.2) rfl rfl (show vwCl[3]? = some (RX3, TX3, 11) from rfl) in_X3 tyX3_ok nmX3 5 (by decide) (Or.inl lk_X3_41) rfl rfl rfl (Nat.le_of_ble_eq_true rfl) rfl hd kk
theorem pf_X3_44 (X : cx_ok G p s m args meth c cc nL RX3 ret) (S : st_ok G n I J s H locs) {i : Nat} (hi : i < 1) {v : Int32} (hd : decode cc pc = .ok (.putfield 44, 3)) (kk : ∀ (I1 : mm_T) (H1 : Heap) (locs1 : List Loc), I1 = mm_up I 3 i 6 v → st_ok G n I1 J s H1 locs1 → W p l e R s m args below meth c H1 locs1 cells slots Q (F0 m (pc + 3) ls rest)) : W p l e R s m args below meth c H locs cells slots Q (F0 m pc ls (.int v :: .ref (cx_b G + ly_loc 3 i) :: rest)) := r_putI X S (ly_ok_3 hi S.2.2.2) rfl rfl (show vwCl[3]? = some (RX3, TX3, 11) from rfl) in_X3 tyX3_ok nmX3 6 (by decide) (Or.inl lk_X3_44) rfl rfl rfl (Nat.le_of_ble_eq_true rfl) rfl hd kk
theorem pf_X3_68 (X : cx_ok G p s m args meth c cc nL RX3 ret) (S : st_ok G n I J s H locs) {i : Nat} (hi : i < 1) {v : Int32} (hd : decode cc pc = .ok (.putfield 68, 3)) (kk : ∀ (I1 : mm_T) (H1 : Heap) (locs1 : List Loc), I1 = mm_up I 3 i 8 v → st_ok G n I1 J s H1 locs1 → W p l e R s m args below meth c H1 locs1 cells slots Q (F0 m (pc + 3) ls rest)) : W p l e R s m args below meth c H locs cells slots Q (F0 m pc ls (.int v :: .ref (cx_b G + ly_loc 3 i) :: rest)) := r_putI X S (ly_ok_3 hi S.2.2.2) rfl rfl (show vwCl[3]? = some (RX3, TX3, 11) from rfl) in_X3 tyX3_ok nmX3 8 (by decide) (Or.inl lk_X3_68) rfl rfl rfl (Nat.le_of_ble_eq_true rfl) rfl hd kk
theorem pf_X3_84 (X : cx_ok G p s m args meth c cc nL RX3 ret) (S : st_ok G n I J s H locs) {i : Nat} (hi : i < 1) {v : Int32} (hd : decode cc pc = .ok (.putfield 84, 3)) (kk : ∀ (I1 : mm_T) (H1 : Heap) (locs1 : List Loc), I1 = mm_up I 3 i 7 v → st_ok G n I1 J s H1 locs1 → W p l e R s m args below meth c H1 locs1 cells slots Q (F0 m (pc + 3) ls rest)) : W p l e R s m args below meth c H locs cells slots Q (F0 m pc ls (.int v :: .ref (cx_b G + ly_loc 3 i) :: rest)) := r_putI X S (ly_ok_3 hi S.2.2.2) rfl rfl (show vwCl[3]? = some (RX3, TX3, 11) from rfl) in_X3 tyX3_ok nmX3 7 (by decide) (Or.inl lk_X3_84) rfl rfl rfl (Nat.le_of_ble_eq_true rfl) rfl hd kk
theorem pf_X4_30 (X : cx_ok G p s m args meth c cc nL RX4 ret) (S : st_ok G n I J s H locs) {i : Nat} (hi : i < 1) {v : Int32} (hd : decode cc pc = .ok (.putfield 30, 3)) (kk : ∀ (I1 : mm_T) (H1 : Heap) (locs1 : List Loc), I1 = mm_up I 4 i 6 v → st_ok G n I1 J s H1 locs1 → W p l e R s m args below meth c H1 locs1 cells slots Q (F0 m (pc + 3) ls rest)) : W p l e R s m args below meth c H locs cells slots Q (F0 m pc ls (.int v :: .ref (cx_b G + ly_loc 4 i) :: rest)) := r_putI X S (ly_ok_4 hi S.2.2.2) rfl rfl (show vwCl[4]? = some (RX4, TX4, 7) from rfl) in_X4 tyX4_ok nmX4 6 (by decide) (Or.inl lk_X4_30) rfl rfl rfl (Nat.le_of_ble_eq_true rfl) rfl hd kk
theorem pf_X5_15 (X : cx_ok G p s m args meth c cc nL RX5 ret) (S : st_ok G n I J s H locs) {i : Nat} (hi : i < 4) {v : Int32} (hd : decode cc pc = .ok (.putfield 15, 3)) (kk : ∀ (I1 : mm_T) (H1 : Heap) (locs1 : List Loc), I1 = mm_up I 5 i 1 v → st_ok G n I1 J s H1 locs1 → W p l e R s m args below meth c H1 locs1 cells slots Q (F0 m (pc + 3) ls rest)) : W p l e R s m args below meth c H locs cells slots Q (F0 m pc ls (.int v :: .ref (cx_b G + ly_loc 5 i) :: rest)) := r_putI X S (ly_ok_5 hi S.2.2.2) rfl rfl (show vwCl[5]? = some (RX5, TX5, 3) from rfl) in_X5 tyX5_ok nmX5 1 (by decide) (Or.inl lk_X5_15) rfl rfl rfl (Nat.le_of_ble_eq_true rfl) rfl hd kk
theorem pf_X5_19 (X : cx_ok G p s m args meth c cc nL RX5 ret) (S : st_ok G n I J s H locs) {i : Nat} (hi : i < 4) {v : Int32} (hd : decode cc pc = .ok (.putfield 19, 3)) (kk : ∀ (I1 : mm_T) (H1 : Heap) (locs1 : List Loc), I1 = mm_up I 5 i 2 v → st_ok G n I1 J s H1 locs1 → W p l e R s m args below meth c H1 locs1 cells slots Q (F0 m (pc + 3) ls rest)) : W p l e R s m args below meth c H locs cells slots Q (F0 m pc ls (.int v :: .ref (cx_b G + ly_loc 5 i) :: rest)) := r_putI X S (ly_ok_5 hi S.2.2.2) rfl rfl (show vwCl[5]? = some (RX5, TX5, 3) from rfl) in_X5 tyX5_ok nmX5 2 (by decide) (Or.inl lk_X5_19) rfl rfl rfl (Nat.le_of_ble_eq_true rfl) rfl hd kk
theorem pf_X6_9 (X : cx_ok G p s m args meth c cc nL RX6 ret) (S : st_ok G n I J s H locs) {i : Nat} (hi : i < 14) {v : Int32} (hd : decode cc pc = .ok (.putfield 9, 3)) (kk : ∀ (I1 : mm_T) (H1 : Heap) (locs1 : List Loc), I1 = mm_up I 6 i 0 v → st_ok G n I1 J s H1 locs1 → W p l e R s m args below meth c H1 locs1 cells slots Q (F0 m (pc + 3) ls rest)) : W p l e R s m args below meth c H locs cells slots Q (F0 m pc ls (.int v :: .ref (cx_b G + ly_loc 6 i) :: rest)) := r_putI X S (ly_ok_6 hi S.2.2.2) rfl rfl (show vwCl[6]? = some (RX6, TX6, 4) from rfl) in_X6 tyX6_ok nmX6 0 (by decide) (Or.inl lk_X6_9) rfl rfl rfl (Nat.le_of_ble_eq_true rfl) rfl hd kk
theorem pf_X6_15 (X : cx_ok G p s m args meth c cc nL RX6 ret) (S : st_ok G n I J s H locs) {i : Nat} (hi : i < 14) {v : Int32} (hd : decode cc pc = .ok (.putfield 15, 3)) (kk : ∀ (I1 : mm_T) (H1 : Heap) (locs1 : List Loc), I1 = mm_up I 6 i 1 v → st_ok G n I1 J s H1 locs1 → W p l e R s m args below meth c H1 locs1 cells slots Q (F0 m (pc + 3) ls rest)) : W p l e R s m args below meth c H locs cells slots Q (F0 m pc ls (.int v :: .ref (cx_b G + ly_loc 6 i) :: rest)) := r_putI X S (ly_ok_6 hi S.2.2.2) rfl rfl (show vwCl[6]? = some (RX6, TX6, 4) from rfl) in_X6 tyX6_ok nmX6 1 (by decide) (Or.inl lk_X6_15) rfl rfl rfl (Nat.le_of_ble_eq_true rfl) rfl hd kk
theorem pf_X6_18 (X : cx_ok G p s m args meth c cc nL RX6 ret) (S : st_ok G n I J s H locs) {i : Nat} (hi : i < 14) {v : Int32} (hd : decode cc pc = .ok (.putfield 18, 3)) (kk : ∀ (I1 : mm_T) (H1 : Heap) (locs1 : List Loc), I1 = mm_up I 6 i 2 v → st_ok G n I1 J s H1 locs1 → W p l e R s m args below meth c H1 locs1 cells slots Q (F0 m (pc + 3) ls rest)) : W p l e R s m args below meth c H locs cells slots Q (F0 m pc ls (.int v :: .ref (cx_b G + ly_loc 6 i) :: rest)) := r_putI X S (ly_ok_6 hi S.2.2.2) rfl rfl (show vwCl[6]? = some (RX6, TX6, 4) from rfl) in_X6 tyX6_ok nmX6 2 (by decide) (Or.inl lk_X6_18) rfl rfl rfl (Nat.le_of_ble_eq_true rfl) rfl hd kk
theorem pf_X6_21 (X : cx_ok G p s m args meth c cc nL RX6 ret) (S : st_ok G n I J s H locs) {i : Nat} (hi : i < 14) {v : Int32} (hd : decode cc pc = .ok (.putfield 21, 3)) (kk : ∀ (I1 : mm_T) (H1 : Heap) (locs1 : List Loc), I1 = mm_up I 6 i 3 v → st_ok G n I1 J s H1 locs1 → W p l e R s m args below meth c H1 locs1 cells slots Q (F0 m (pc + 3) ls rest)) : W p l e R s m args below meth c H locs cells slots Q (F0 m pc ls (.int v :: .ref (cx_b G + ly_loc 6 i) :: rest)) := r_putI X S (ly_ok_6 hi S.2.2.2) rfl rfl (show vwCl[6]? = some (RX6, TX6, 4) from rfl) in_X6 tyX6_ok nmX6 3 (by decide) (Or.inl lk_X6_21) rfl rfl rfl (Nat.le_of_ble_eq_true rfl) rfl hd kk
theorem pf_X8_78 (X : cx_ok G p s m args meth c cc nL RX8 ret) (S : st_ok G n I J s H locs) {i : Nat} (hi : i < 1) {v : Int32} (hd : decode cc pc = .ok (.putfield 78, 3)) (kk : ∀ (I1 : mm_T) (H1 : Heap) (locs1 : List Loc), I1 = mm_up I 8 i 5 v → st_ok G n I1 J s H1 locs1 → W p l e R s m args below meth c H1 locs1 cells slots Q (F0 m (pc + 3) ls rest)) : W p l e R s m args below meth c H locs cells slots Q (F0 m pc ls (.int v :: .ref (cx_b G + ly_loc 8 i) :: rest)) := r_putI X S (ly_ok_8 hi S.2.2.2) rfl rfl (show vwCl[8]? = some (RX8, TX8, 9) from rfl) in_X8 tyX8_ok nmX8 5 (by decide) (Or.inl lk_X8_78) rfl rfl rfl (Nat.le_of_ble_eq_true rfl) rfl hd kk
theorem pf_X8_202 (X : cx_ok G p s m args meth c cc nL RX8 ret) (S : st_ok G n I J s H locs) {i : Nat} (hi : i < 1) {v : Int32} (hv : narrow .boolean (.int v) = .int v ∧ fits .boolean (.int v) = true) (hd : decode cc pc = .ok (.putfield 202, 3)) (kk : ∀ (I1 : mm_T) (H1 : Heap) (locs1 : List Loc), I1 = mm_up I 8 i 2 v → st_ok G n I1 J s H1 locs1 → W p l e R s m args below meth c H1 locs1 cells slots Q (F0 m (pc + 3) ls rest)) : W p l e R s m args below meth c H locs cells slots Q (F0 m pc ls (.int v :: .ref (cx_b G + ly_loc 8 i) :: rest)) := r_putI X S (ly_ok_8 hi S.2.2.2) rfl rfl (show vwCl[8]? = some (RX8, TX8, 9) from rfl) in_X8 tyX8_ok nmX8 2 (by decide) (Or.inl lk_X8_202) rfl hv.1 hv.2 (Nat.le_of_ble_eq_true rfl) rfl hd kk
theorem pf_X9_41 (X : cx_ok G p s m args meth c cc nL RX9 ret) (S : st_ok G n I J s H locs) {i : Nat} (hi : i < 1) {v : Int32} (hd : decode cc pc = .ok (.putfield 41, 3)) (kk : ∀ (J1 : mm_T) (H1 : Heap) (locs1 : List Loc), J1 = mm_up J 9 i 16 v → st_ok G n I J1 s H1 locs1 → W p l e R s m args below meth c H1 locs1 cells slots Q (F0 m (pc + 3) ls rest)) : W p l e R s m args below meth c H locs cells slots Q (F0 m pc ls (.int v :: .ref (cx_b G + ly_loc 9 i) :: rest)) := r_putJ X S (ly_ok_9 hi S.2.2.2) rfl rfl (show vwCl[9]? = some (RX9, TX9, 61) from rfl) in_X9 tyX9_ok nmX9 16 (by decide) lk_X9_41 rfl rfl rfl (Nat.le_of_ble_eq_true rfl) rfl hd kk
theorem pf_X9_68 (X : cx_ok G p s m args meth c cc nL RX9 ret) (S : st_ok G n I J s H locs) {i : Nat} (hi : i < 1) {v : Int32} (hd : decode cc pc = .ok (.putfield 68, 3)) (kk : ∀ (J1 : mm_T) (H1 : Heap) (locs1 : List Loc), J1 = mm_up J 9 i 52 v → st_ok G n I J1 s H1 locs1 → W p l e R s m args below meth c H1 locs1 cells slots Q (F0 m (pc + 3) ls rest)) : W p l e R s m args below meth c H locs cells slots Q (F0 m pc ls (.int v :: .ref (cx_b G + ly_loc 9 i) :: rest)) := r_putJ X S (ly_ok_9 hi S.2.2.2) rfl rfl (show vwCl[9]? = some (RX9, TX9, 61) from rfl) in_X9 tyX9_ok nmX9 52 (by decide) lk_X9_68 rfl rfl rfl (Nat.le_of_ble_eq_true rfl) rfl hd kk
theorem pf_X9_88 (X : cx_ok G p s m args meth c cc nL RX9 ret) (S : st_ok G n I J s H locs) {i : Nat} (hi : i < 1) {v : Int32} (hd : decode cc pc = .ok (.putfield 88, 3)) (kk : ∀ (J1 : mm_T) (H1 : Heap) (locs1 : List Loc), J1 = mm_up J 9 i 3 v → st_ok G n I J1 s H1 locs1 → W p l e R s m args below meth c H1 locs1 cells slots Q (F0 m (pc + 3) ls rest)) : W p l e R s m args below meth c H locs cells slots Q (F0 m pc ls (.int v :: .ref (cx_b G + ly_loc 9 i) :: rest)) := r_putJ X S (ly_ok_9 hi S.2.2.2) rfl rfl (show vwCl[9]? = some (RX9, TX9, 61) from rfl) in_X9 tyX9_ok nmX9 3 (by decide) lk_X9_88 rfl rfl rfl (Nat.le_of_ble_eq_true rfl) rfl hd kk
theorem pf_X9_91 (X : cx_ok G p s m args meth c cc nL RX9 ret) (S : st_ok G n I J s H locs) {i : Nat} (hi : i < 1) {v : Int32} (hd : decode cc pc = .ok (.putfield 91, 3)) (kk : ∀ (J1 : mm_T) (H1 : Heap) (locs1 : List Loc), J1 = mm_up J 9 i 9 v → st_ok G n I J1 s H1 locs1 → W p l e R s m args below meth c H1 locs1 cells slots Q (F0 m (pc + 3) ls rest)) : W p l e R s m args below meth c H locs cells slots Q (F0 m pc ls (.int v :: .ref (cx_b G + ly_loc 9 i) :: rest)) := r_putJ X S (ly_ok_9 hi S.2.2.2) rfl rfl (show vwCl[9]? = some (RX9, TX9, 61) from rfl) in_X9 tyX9_ok nmX9 9 (by decide) lk_X9_91 rfl rfl rfl (Nat.le_of_ble_eq_true rfl) rfl hd kk
theorem pf_X9_98 (X : cx_ok G p s m args meth c cc nL RX9 ret) (S : st_ok G n I J s H locs) {i : Nat} (hi : i < 1) {v : Int32} (hd : decode cc pc = .ok (.putfield 98, 3)) (kk : ∀ (J1 : mm_T) (H1 : Heap) (locs1 : List Loc), J1 = mm_up J 9 i 14 v → st_ok G n I J1 s H1 locs1 → W p l e R s m args below meth c H1 locs1 cells slots Q (F0 m (pc + 3) ls rest)) : W p l e R s m args below meth c H locs cells slots Q (F0 m pc ls (.int v :: .ref (cx_b G + ly_loc 9 i) :: rest)) := r_putJ X S (ly_ok_9 hi S.2.2.2) rfl rfl (show vwCl[9]? = some (RX9, TX9, 61) from rfl) in_X9 tyX9_ok nmX9 14 (by decide) lk_X9_98 rfl rfl rfl (Nat.le_of_ble_eq_true rfl) rfl hd kk
theorem pf_X9_127 (X : cx_ok G p s m args meth c cc nL RX9 ret) (S : st_ok G n I J s H locs) {i : Nat} (hi : i < 1) {v : Int32} (hd : decode cc pc = .ok (.putfield 127, 3)) (kk : ∀ (J1 : mm_T) (H1 : Heap) (locs1 : List Loc), J1 = mm_up J 9 i 15 v → st_ok G n I J1 s H1 locs1 → W p l e R s m args below meth c H1 locs1 cells slots Q (F0 m (pc + 3) ls rest)) : W p l e R s m args below meth c H locs cells slots Q (F0 m pc ls (.int v :: .ref (cx_b G + ly_loc 9 i) :: rest)) := r_putJ X S (ly_ok_9 hi S.2.2.2) rfl rfl (show vwCl[9]? = some (RX9, TX9, 61) from rfl) in_X9 tyX9_ok nmX9 15 (by decide) lk_X9_127 rfl rfl rfl (Nat.le_of_ble_eq_true rfl) rfl hd kk
theorem pf_X9_132 (X : cx_ok G p s m args meth c cc nL RX9 ret) (S : st_ok G n I J s H locs) {i : Nat} (hi : i < 1) {v : Int32} (hd : decode cc pc = .ok (.putfield 132, 3)) (kk : ∀ (J1 : mm_T) (H1 : Heap) (locs1 : List Loc), J1 = mm_up J 9 i 6 v → st_ok G n I J1 s H1 locs1 → W p l e R s m args below meth c H1 locs1 cells slots Q (F0 m (pc + 3) ls rest)) : W p l e R s m args below meth c H locs cells slots Q (F0 m pc ls (.int v :: .ref (cx_b G + ly_loc 9 i) :: rest)) := r_putJ X S (ly_ok_9 hi S.2.2.2) rfl rfl (show vwCl[9]? = some (RX9, TX9, 61) from rfl) in_X9 tyX9_ok nmX9 6 (by decide) lk_X9_132 rfl rfl rfl (Nat.le_of_ble_eq_true rfl) rfl hd kk
theorem pf_X9_135 (X : cx_ok G p s m args meth c cc nL RX9 ret) (S : st_ok G n I J s H locs) {i : Nat} (hi : i < 1) {v : Int32} (hd : decode cc pc = .ok (.putfield 135, 3)) (kk : ∀ (J1 : mm_T) (H1 : Heap) (locs1 : List Loc), J1 = mm_up J 9 i 24 v → st_ok G n I J1 s H1 locs1 → W p l e R s m args below meth c H1 locs1 cells slots Q (F0 m (pc + 3) ls rest)) : W p l e R s m args below meth c H locs cells slots Q (F0 m pc ls (.int v :: .ref (cx_b G + ly_loc 9 i) :: rest)) := r_putJ X S (ly_ok_9 hi S.2.2.2) rfl rfl (show vwCl[9]? = some (RX9, TX9, 61) from rfl) in_X9 tyX9_ok nmX9 24 (by decide) lk_X9_135 rfl rfl rfl (Nat.le_of_ble_eq_true rfl) rfl hd kk
theorem pf_X9_138 (X : cx_ok G p s m args meth c cc nL RX9 ret) (S : st_ok G n I J s H locs) {i : Nat} (hi : i < 1) {v : Int32} (hd : decode cc pc = .ok (.putfield 138, 3)) (kk : ∀ (J1 : mm_T) (H1 : Heap) (locs1 : List Loc), J1 = mm_up J 9 i 23 v → st_ok G n I J1 s H1 locs1 → W p l e R s m args below meth c H1 locs1 cells slots Q (F0 m (pc + 3) ls rest)) : W p l e R s m args below meth c H locs cells slots Q (F0 m pc ls (.int v :: .ref (cx_b G + ly_loc 9 i) :: rest)) := r_putJ X S (ly_ok_9 hi S.2.2.2) rfl rfl (show vwCl[9]? = some (RX9, TX9, 61) from rfl) in_X9 tyX9_ok nmX9 23 (by decide) lk_X9_138 rfl rfl rfl (Nat.le_of_ble_eq_true rfl) rfl hd kk
theorem pf_X9_141 (X : cx_ok G p s m args meth c cc nL RX9 ret) (S : st_ok G n I J s H locs) {i : Nat} (hi : i < 1) {v : Int32} (hd : decode cc pc = .ok (.putfield 141, 3)) (kk : ∀ (J1 : mm_T) (H1 : Heap) (locs1 : List Loc), J1 = mm_up J 9 i 25 v → st_ok G n I J1 s H1 locs1 → W p l e R s m args below meth c H1 locs1 cells slots Q (F0 m (pc + 3) ls rest)) : W p l e R s m args below meth c H locs cells slots Q (F0 m pc ls (.int v :: .ref (cx_b G + ly_loc 9 i) :: rest)) := r_putJ X S (ly_ok_9 hi S.2.2.2) rfl rfl (show vwCl[9]? = some (RX9, TX9, 61) from rfl) in_X9 tyX9_ok nmX9 25 (by decide) lk_X9_141 rfl rfl rfl (Nat.le_of_ble_eq_true rfl) rfl hd kk
theorem pf_X9_148 (X : cx_ok G p s m args meth c cc nL RX9 ret) (S : st_ok G n I J s H locs) {i : Nat} (hi : i < 1) {v : Int32} (hd : decode cc pc = .ok (.putfield 148, 3)) (kk : ∀ (J1 : mm_T) (H1 : Heap) (locs1 : List Loc), J1 = mm_up J 9 i 27 v → st_ok G n I J1 s H1 locs1 → W p l e R s m args below meth c H1 locs1 cells slots Q (F0 m (pc + 3) ls rest)) : W p l e R s m args below meth c H locs cells slots Q (F0 m pc ls (.int v :: .ref (cx_b G + ly_loc 9 i) :: rest)) := r_putJ X S (ly_ok_9 hi S.2.2.2) rfl rfl (show vwCl[9]? = some (RX9, TX9, 61) from rfl) in_X9 tyX9_ok nmX9 27 (by decide) lk_X9_148 rfl rfl rfl (Nat.le_of_ble_eq_true rfl) rfl hd kk
theorem pf_X9_151 (X : cx_ok G p s m args meth c cc nL RX9 ret) (S : st_ok G n I J s H locs) {i : Nat} (hi : i < 1) {v : Int32} (hd : decode cc pc = .ok (.putfield 151, 3)) (kk : ∀ (J1 : mm_T) (H1 : Heap) (locs1 : List Loc), J1 = mm_up J 9 i 26 v → st_ok G n I J1 s H1 locs1 → W p l e R s m args below meth c H1 locs1 cells slots Q (F0 m (pc + 3) ls rest)) : W p l e R s m args below meth c H locs cells slots Q (F0 m pc ls (.int v :: .ref (cx_b G + ly_loc 9 i) :: rest)) := r_putJ X S (ly_ok_9 hi S.2.2.2) rfl rfl (show vwCl[9]? = some (RX9, TX9, 61) from rfl) in_X9 tyX9_ok nmX9 26 (by decide) lk_X9_151 rfl rfl rfl (Nat.le_of_ble_eq_true rfl) rfl hd kk
theorem pf_X9_162 (X : cx_ok G p s m args meth c cc nL RX9 ret) (S : st_ok G n I J s H locs) {i : Nat} (hi : i < 1) {v : Int64} (hv : v.toInt32.toInt64 = v) (hd : decode cc pc = .ok (.putfield 162, 3)) (kk : ∀ (J1 : mm_T) (H1 : Heap) (locs1 : List Loc), J1 = mm_up J 9 i 28 v.toInt32 → st_ok G n I J1 s H1 locs1 → W p l e R s m args below meth c H1 locs1 cells slots Q (F0 m (pc + 3) ls rest)) : W p l e R s m args below meth c H locs cells slots Q (F0 m pc ls (.long v :: .ref (cx_b G + ly_loc 9 i) :: rest)) := r_putJ X S (ly_ok_9 hi S.2.2.2) rfl rfl (show vwCl[9]? = some (RX9, TX9, 61) from rfl) in_X9 tyX9_ok nmX9 28 (by decide) lk_X9_162 rfl rfl rfl (Nat.le_of_ble_eq_true rfl) (by rw [show (ly_K G 9 i (upd (mm_mx I J 9 i) 28 v.toInt32)) = _ from rfl]; exact congrArg (fun z => Sum.inr (9, z)) (by simp [upd, hv])) hd kk
theorem pf_X9_166 (X : cx_ok G p s m args meth c cc nL RX9 ret) (S : st_ok G n I J s H locs) {i : Nat} (hi : i < 1) {v : Int32} (hv : narrow .boolean (.int v) = .int v ∧ fits .boolean (.int v) = true) (hd : decode cc pc = .ok (.putfield 166, 3)) (kk : ∀ (J1 : mm_T) (H1 : Heap) (locs1 : List Loc), J1 = mm_up J 9 i 30 v → st_ok G n I J1 s H1 locs1 → W p l e R s m args below meth c H1 locs1 cells slots Q (F0 m (pc + 3) ls rest)) : W p l e R s m args below meth c H locs cells slots Q (F0 m pc ls (.int v :: .ref (cx_b G + ly_loc 9 i) :: rest)) := r_putJ X S (ly_ok_9 hi S.2.2.2) rfl rfl (show vwCl[9]? = some (RX9, TX9, 61) from rfl) in_X9 tyX9_ok nmX9 30 (by decide) lk_X9_166 rfl hv.1 hv.2 (Nat.le_of_ble_eq_true rfl) rfl hd kk
theorem pf_X9_170 (X : cx_ok G p s m args meth c cc nL RX9 ret) (S : st_ok G n I J s H locs) {i : Nat} (hi : i < 1) {v : Int32} (hd : decode cc pc = .ok (.putfield 170, 3)) (kk : ∀ (J1 : mm_T) (H1 : Heap) (locs1 : List Loc), J1 = mm_up J 9 i 31 v → st_ok G n I J1 s H1 locs1 → W p l e R s m args below meth c H1 locs1 cells slots Q (F0 m (pc + 3) ls rest)) : W p l e R s m args below meth c H locs cells slots Q (F0 m pc ls (.int v :: .ref (cx_b G + ly_loc 9 i) :: rest)) := r_putJ X S (ly_ok_9 hi S.2.2.2) rfl rfl (show vwCl[9]? = some (RX9, TX9, 61) from rfl) in_X9 tyX9_ok nmX9 31 (by decide) lk_X9_170 rfl rfl rfl (Nat.le_of_ble_eq_true rfl) rfl hd kk
theorem pf_X9_177 (X : cx_ok G p s m args meth c cc nL RX9 ret) (S : st_ok G n I J s H locs) {i : Nat} (hi : i < 1) {v : Int32} (hd : decode cc pc = .ok (.putfield 177, 3)) (kk : ∀ (J1 : mm_T) (H1 : Heap) (locs1 : List Loc), J1 = mm_up J 9 i 29 v → st_ok G n I J1 s H1 locs1 → W p l e R s m args below meth c H1 locs1 cells slots Q (F0 m (pc + 3) ls rest)) : W p l e R s m args below meth c H locs cells slots Q (F0 m pc ls (.int v :: .ref (cx_b G + ly_loc 9 i) :: rest)) := r_putJ X S (ly_ok_9 hi S.2.2.2) rfl rfl (show vwCl[9]? = some (RX9, TX9, 61) from rfl) in_X9 tyX9_ok nmX9 29 (by decide) lk_X9_177 rfl rfl rfl (Nat.le_of_ble_eq_true rfl) rfl hd kk
theorem pf_X9_190 (X : cx_ok G p s m args meth c cc nL RX9 ret) (S : st_ok G n I J s H locs) {i : Nat} (hi : i < 1) {v : Int32} (hd : decode cc pc = .ok (.putfield 190, 3)) (kk : ∀ (J1 : mm_T) (H1 : Heap) (locs1 : List Loc), J1 = mm_up J 9 i 17 v → st_ok G n I J1 s H1 locs1 → W p l e R s m args below meth c H1 locs1 cells slots Q (F0 m (pc + 3) ls rest)) : W p l e R s m args below meth c H locs cells slots Q (F0 m pc ls (.int v :: .ref (cx_b G + ly_loc 9 i) :: rest)) := r_putJ X S (ly_ok_9 hi S.2.2.2) rfl rfl (show vwCl[9]? = some (RX9, TX9, 61) from rfl) in_X9 tyX9_ok nmX9 17 (by decide) lk_X9_190 rfl rfl rfl (Nat.le_of_ble_eq_true rfl) rfl hd kk
theorem pf_X9_193 (X : cx_ok G p s m args meth c cc nL RX9 ret) (S : st_ok G n I J s H locs) {i : Nat} (hi : i < 1) {v : Int32} (hd : decode cc pc = .ok (.putfield 193, 3)) (kk : ∀ (J1 : mm_T) (H1 : Heap) (locs1 : List Loc), J1 = mm_up J 9 i 18 v → st_ok G n I J1 s H1 locs1 → W p l e R s m args below meth c H1 locs1 cells slots Q (F0 m (pc + 3) ls rest)) : W p l e R s m args below meth c H locs cells slots Q (F0 m pc ls (.int v :: .ref (cx_b G + ly_loc 9 i) :: rest)) := r_putJ X S (ly_ok_9 hi S.2.2.2) rfl rfl (show vwCl[9]? = some (RX9, TX9, 61) from rfl) in_X9 tyX9_ok nmX9 18 (by decide) lk_X9_193 rfl rfl rfl (Nat.le_of_ble_eq_true rfl) rfl hd kk
theorem pf_X9_196 (X : cx_ok G p s m args meth c cc nL RX9 ret) (S : st_ok G n I J s H locs) {i : Nat} (hi : i < 1) {v : Int32} (hd : decode cc pc = .ok (.putfield 196, 3)) (kk : ∀ (J1 : mm_T) (H1 : Heap) (locs1 : List Loc), J1 = mm_up J 9 i 19 v → st_ok G n I J1 s H1 locs1 → W p l e R s m args below meth c H1 locs1 cells slots Q (F0 m (pc + 3) ls rest)) : W p l e R s m args below meth c H locs cells slots Q (F0 m pc ls (.int v :: .ref (cx_b G + ly_loc 9 i) :: rest)) := r_putJ X S (ly_ok_9 hi S.2.2.2) rfl rfl (show vwCl[9]? = some (RX9, TX9, 61) from rfl) in_X9 tyX9_ok nmX9 19 (by decide) lk_X9_196 rfl rfl rfl (Nat.le_of_ble_eq_true rfl) rfl hd kk
theorem pf_X9_199 (X : cx_ok G p s m args meth c cc nL RX9 ret) (S : st_ok G n I J s H locs) {i : Nat} (hi : i < 1) {v : Int32} (hd : decode cc pc = .ok (.putfield 199, 3)) (kk : ∀ (J1 : mm_T) (H1 : Heap) (locs1 : List Loc), J1 = mm_up J 9 i 20 v → st_ok G n I J1 s H1 locs1 → W p l e R s m args below meth c H1 locs1 cells slots Q (F0 m (pc + 3) ls rest)) : W p l e R s m args below meth c H locs cells slots Q (F0 m pc ls (.int v :: .ref (cx_b G + ly_loc 9 i) :: rest)) := r_putJ X S (ly_ok_9 hi S.2.2.2) rfl rfl (show vwCl[9]? = some (RX9, TX9, 61) from rfl) in_X9 tyX9_ok nmX9 20 (by decide) lk_X9_199 rfl rfl rfl (Nat.le_of_ble_eq_true rfl) rfl hd kk
theorem pf_X9_202 (X : cx_ok G p s m args meth c cc nL RX9 ret) (S : st_ok G n I J s H locs) {i : Nat} (hi : i < 1) {v : Int32} (hd : decode cc pc = .ok (.putfield 202, 3)) (kk : ∀ (J1 : mm_T) (H1 : Heap) (locs1 : List Loc), J1 = mm_up J 9 i 21 v → st_ok G n I J1 s H1 locs1 → W p l e R s m args below meth c H1 locs1 cells slots Q (F0 m (pc + 3) ls rest)) : W p l e R s m args below meth c H locs cells slots Q (F0 m pc ls (.int v :: .ref (cx_b G + ly_loc 9 i) :: rest)) := r_putJ X S (ly_ok_9 hi S.2.2.2) rfl rfl (show vwCl[9]? = some (RX9, TX9, 61) from rfl) in_X9 tyX9_ok nmX9 21 (by decide) lk_X9_202 rfl rfl rfl (Nat.le_of_ble_eq_true rfl) rfl hd kk
theorem pf_X9_205 (X : cx_ok G p s m args meth c cc nL RX9 ret) (S : st_ok G n I J s H locs) {i : Nat} (hi : i < 1) {v : Int32} (hd : decode cc pc = .ok (.putfield 205, 3)) (kk : ∀ (J1 : mm_T) (H1 : Heap) (locs1 : List Loc), J1 = mm_up J 9 i 22 v → st_ok G n I J1 s H1 locs1 → W p l e R s m args below meth c H1 locs1 cells slots Q (F0 m (pc + 3) ls rest)) : W p l e R s m args below meth c H locs cells slots Q (F0 m pc ls (.int v :: .ref (cx_b G + ly_loc 9 i) :: rest)) := r_putJ X S (ly_ok_9 hi S.2.2.2) rfl rfl (show vwCl[9]? = some (RX9, TX9, 61) from rfl) in_X9 tyX9_ok nmX9 22 (by decide) lk_X9_205 rfl rfl rfl (Nat.le_of_ble_eq_true rfl) rfl hd kk
theorem pf_X9_249 (X : cx_ok G p s m args meth c cc nL RX9 ret) (S : st_ok G n I J s H locs) {i : Nat} (hi : i < 1) {v : Int32} (hd : decode cc pc = .ok (.putfield 249, 3)) (kk : ∀ (J1 : mm_T) (H1 : Heap) (locs1 : List Loc), J1 = mm_up J 9 i 4 v → st_ok G n I J1 s H1 locs1 → W p l e R s m args below meth c H1 locs1 cells slots Q (F0 m (pc + 3) ls rest)) : W p l e R s m args below meth c H locs cells slots Q (F0 m pc ls (.int v :: .ref (cx_b G + ly_loc 9 i) :: rest)) := r_putJ X S (ly_ok_9 hi S.2.2.2) rfl rfl (show vwCl[9]? = some (RX9, TX9, 61) from rfl) in_X9 tyX9_ok nmX9 4 (by decide) lk_X9_249 rfl rfl rfl (Nat.le_of_ble_eq_true rfl) rfl hd kk
theorem pf_X9_252 (X : cx_ok G p s m args meth c cc nL RX9 ret) (S : st_ok G n I J s H locs) {i : Nat} (hi : i < 1) {v : Int32} (hd : decode cc pc = .ok (.putfield 252, 3)) (kk : ∀ (J1 : mm_T) (H1 : Heap) (locs1 : List Loc), J1 = mm_up J 9 i 32 v → st_ok G n I J1 s H1 locs1 → W p l e R s m args below meth c H1 locs1 cells slots Q (F0 m (pc + 3) ls rest)) : W p l e R s m args below meth c H locs cells slots Q (F0 m pc ls (.int v :: .ref (cx_b G + ly_loc 9 i) :: rest)) := r_putJ X S (ly_ok_9 hi S.2.2.2) rfl rfl (show vwCl[9]? = some (RX9, TX9, 61) from rfl) in_X9 tyX9_ok nmX9 32 (by decide) lk_X9_252 rfl rfl rfl (Nat.le_of_ble_eq_true rfl) rfl hd kk
theorem pf_X9_255 (X : cx_ok G p s m args meth c cc nL RX9 ret) (S : st_ok G n I J s H locs) {i : Nat} (hi : i < 1) {v : Int32} (hd : decode cc pc = .ok (.putfield 255, 3)) (kk : ∀ (J1 : mm_T) (H1 : Heap) (locs1 : List Loc), J1 = mm_up J 9 i 34 v → st_ok G n I J1 s H1 locs1 → W p l e R s m args below meth c H1 locs1 cells slots Q (F0 m (pc + 3) ls rest)) : W p l e R s m args below meth c H locs cells slots Q (F0 m pc ls (.int v :: .ref (cx_b G + ly_loc 9 i) :: rest)) := r_putJ X S (ly_ok_9 hi S.2.2.2) rfl rfl (show vwCl[9]? = some (RX9, TX9, 61) from rfl) in_X9 tyX9_ok nmX9 34 (by decide) lk_X9_255 rfl rfl rfl (Nat.le_of_ble_eq_true rfl) rfl hd kk
theorem pf_X9_258 (X : cx_ok G p s m args meth c cc nL RX9 ret) (S : st_ok G n I J s H locs) {i : Nat} (hi : i < 1) {v : Int32} (hd : decode cc pc = .ok (.putfield 258, 3)) (kk : ∀ (J1 : mm_T) (H1 : Heap) (locs1 : List Loc), J1 = mm_up J 9 i 33 v → st_ok G n I J1 s H1 locs1 → W p l e R s m args below meth c H1 locs1 cells slots Q (F0 m (pc + 3) ls rest)) : W p l e R s m args below meth c H locs cells slots Q (F0 m pc ls (.int v :: .ref (cx_b G + ly_loc 9 i) :: rest)) := r_putJ X S (ly_ok_9 hi S.2.2.2) rfl rfl (show vwCl[9]? = some (RX9, TX9, 61) from rfl) in_X9 tyX9_ok nmX9 33 (by decide) lk_X9_258 rfl rfl rfl (Nat.le_of_ble_eq_true rfl) rfl hd kk
theorem pf_X9_265 (X : cx_ok G p s m args meth c cc nL RX9 ret) (S : st_ok G n I J s H locs) {i : Nat} (hi : i < 1) {v : Int32} (hd : decode cc pc = .ok (.putfield 265, 3)) (kk : ∀ (J1 : mm_T) (H1 : Heap) (locs1 : List Loc), J1 = mm_up J 9 i 35 v → st_ok G n I J1 s H1 locs1 → W p l e R s m args below meth c H1 locs1 cells slots Q (F0 m (pc + 3) ls rest)) : W p l e R s m args below meth c H locs cells slots Q (F0 m pc ls (.int v :: .ref (cx_b G + ly_loc 9 i) :: rest)) := r_putJ X S (ly_ok_9 hi S.2.2.2) rfl rfl (show vwCl[9]? = some (RX9, TX9, 61) from rfl) in_X9 tyX9_ok nmX9 35 (by decide) lk_X9_265 rfl rfl rfl (Nat.le_of_ble_eq_true rfl) rfl hd kk
theorem pf_X9_268 (X : cx_ok G p s m args meth c cc nL RX9 ret) (S : st_ok G n I J s H locs) {i : Nat} (hi : i < 1) {v : Int32} (hd : decode cc pc = .ok (.putfield 268, 3)) (kk : ∀ (J1 : mm_T) (H1 : Heap) (locs1 : List Loc), J1 = mm_up J 9 i 36 v → st_ok G n I J1 s H1 locs1 → W p l e R s m args below meth c H1 locs1 cells slots Q (F0 m (pc + 3) ls rest)) : W p l e R s m args below meth c H locs cells slots Q (F0 m pc ls (.int v :: .ref (cx_b G + ly_loc 9 i) :: rest)) := r_putJ X S (ly_ok_9 hi S.2.2.2) rfl rfl (show vwCl[9]? = some (RX9, TX9, 61) from rfl) in_X9 tyX9_ok nmX9 36 (by decide) lk_X9_268 rfl rfl rfl (Nat.le_of_ble_eq_true rfl) rfl hd kk
theorem pf_X9_271 (X : cx_ok G p s m args meth c cc nL RX9 ret) (S : st_ok G n I J s H locs) {i : Nat} (hi : i < 1) {v : Int32} (hd : decode cc pc = .ok (.putfield 271, 3)) (kk : ∀ (J1 : mm_T) (H1 : Heap) (locs1 : List Loc), J1 = mm_up J 9 i 39 v → st_ok G n I J1 s H1 locs1 → W p l e R s m args below meth c H1 locs1 cells slots Q (F0 m (pc + 3) ls rest)) : W p l e R s m args below meth c H locs cells slots Q (F0 m pc ls (.int v :: .ref (cx_b G + ly_loc 9 i) :: rest)) := r_putJ X S (ly_ok_9 hi S.2.2.2) rfl rfl (show vwCl[9]? = some (RX9, TX9, 61) from rfl) in_X9 tyX9_ok nmX9 39 (by decide) lk_X9_271 rfl rfl rfl (Nat.le_of_ble_eq_true rfl) rfl hd kk
theorem pf_X9_274 (X : cx_ok G p s m args meth c cc nL RX9 ret) (S : st_ok G n I J s H locs) {i : Nat} (hi : i < 1) {v : Int32} (hd : decode cc pc = .ok (.putfield 274, 3)) (kk : ∀ (J1 : mm_T) (H1 : Heap) (locs1 : List Loc), J1 = mm_up J 9 i 40 v → st_ok G n I J1 s H1 locs1 → W p l e R s m args below meth c H1 locs1 cells slots Q (F0 m (pc + 3) ls rest)) : W p l e R s m args below meth c H locs cells slots Q (F0 m pc ls (.int v :: .ref (cx_b G + ly_loc 9 i) :: rest)) := r_putJ X S (ly_ok_9 hi S.2.2.2) rfl rfl (show vwCl[9]? = some (RX9, TX9, 61) from rfl) in_X9 tyX9_ok nmX9 40 (by decide) lk_X9_274 rfl rfl rfl (Nat.le_of_ble_eq_true rfl) rfl hd kk
theorem pf_X9_315 (X : cx_ok G p s m args meth c cc nL RX9 ret) (S : st_ok G n I J s H locs) {i : Nat} (hi : i < 1) {v : Int32} (hd : decode cc pc = .ok (.putfield 315, 3)) (kk : ∀ (J1 : mm_T) (H1 : Heap) (locs1 : List Loc), J1 = mm_up J 9 i 46 v → st_ok G n I J1 s H1 locs1 → W p l e R s m args below meth c H1 locs1 cells slots Q (F0 m (pc + 3) ls rest)) : W p l e R s m args below meth c H locs cells slots Q (F0 m pc ls (.int v :: .ref (cx_b G + ly_loc 9 i) :: rest)) := r_putJ X S (ly_ok_9 hi S.2.2.2) rfl rfl (show vwCl[9]? = some (RX9, TX9, 61) from rfl) in_X9 tyX9_ok nmX9 46 (by decide) lk_X9_315 rfl rfl rfl (Nat.le_of_ble_eq_true rfl) rfl hd kk
theorem pf_X9_318 (X : cx_ok G p s m args meth c cc nL RX9 ret) (S : st_ok G n I J s H locs) {i : Nat} (hi : i < 1) {v : Int32} (hd : decode cc pc = .ok (.putfield 318, 3)) (kk : ∀ (J1 : mm_T) (H1 : Heap) (locs1 : List Loc), J1 = mm_up J 9 i 47 v → st_ok G n I J1 s H1 locs1 → W p l e R s m args below meth c H1 locs1 cells slots Q (F0 m (pc + 3) ls rest)) : W p l e R s m args below meth c H locs cells slots Q (F0 m pc ls (.int v :: .ref (cx_b G + ly_loc 9 i) :: rest)) := r_putJ X S (ly_ok_9 hi S.2.2.2) rfl rfl (show vwCl[9]? = some (RX9, TX9, 61) from rfl) in_X9 tyX9_ok nmX9 47 (by decide) lk_X9_318 rfl rfl rfl (Nat.le_of_ble_eq_true rfl) rfl hd kk
theorem pf_X9_321 (X : cx_ok G p s m args meth c cc nL RX9 ret) (S : st_ok G n I J s H locs) {i : Nat} (hi : i < 1) {v : Int32} (hd : decode cc pc = .ok (.putfield 321, 3)) (kk : ∀ (J1 : mm_T) (H1 : Heap) (locs1 : List Loc), J1 = mm_up J 9 i 48 v → st_ok G n I J1 s H1 locs1 → W p l e R s m args below meth c H1 locs1 cells slots Q (F0 m (pc + 3) ls rest)) : W p l e R s m args below meth c H locs cells slots Q (F0 m pc ls (.int v :: .ref (cx_b G + ly_loc 9 i) :: rest)) := r_putJ X S (ly_ok_9 hi S.2.2.2) rfl rfl (show vwCl[9]? = some (RX9, TX9, 61) from rfl) in_X9 tyX9_ok nmX9 48 (by decide) lk_X9_321 rfl rfl rfl (Nat.le_of_ble_eq_true rfl) rfl hd kk
theorem pf_X9_327 (X : cx_ok G p s m args meth c cc nL RX9 ret) (S : st_ok G n I J s H locs) {i : Nat} (hi : i < 1) {v : Int32} (hd : decode cc pc = .ok (.putfield 327, 3)) (kk : ∀ (J1 : mm_T) (H1 : Heap) (locs1 : List Loc), J1 = mm_up J 9 i 45 v → st_ok G n I J1 s H1 locs1 → W p l e R s m args below meth c H1 locs1 cells slots Q (F0 m (pc + 3) ls rest)) : W p l e R s m args below meth c H locs cells slots Q (F0 m pc ls (.int v :: .ref (cx_b G + ly_loc 9 i) :: rest)) := r_putJ X S (ly_ok_9 hi S.2.2.2) rfl rfl (show vwCl[9]? = some (RX9, TX9, 61) from rfl) in_X9 tyX9_ok nmX9 45 (by decide) lk_X9_327 rfl rfl rfl (Nat.le_of_ble_eq_true rfl) rfl hd kk
theorem pf_X9_342 (X : cx_ok G p s m args meth c cc nL RX9 ret) (S : st_ok G n I J s H locs) {i : Nat} (hi : i < 1) {v : Int32} (hd : decode cc pc = .ok (.putfield 342, 3)) (kk : ∀ (J1 : mm_T) (H1 : Heap) (locs1 : List Loc), J1 = mm_up J 9 i 49 v → st_ok G n I J1 s H1 locs1 → W p l e R s m args below meth c H1 locs1 cells slots Q (F0 m (pc + 3) ls rest)) : W p l e R s m args below meth c H locs cells slots Q (F0 m pc ls (.int v :: .ref (cx_b G + ly_loc 9 i) :: rest)) := r_putJ X S (ly_ok_9 hi S.2.2.2) rfl rfl (show vwCl[9]? = some (RX9, TX9, 61) from rfl) in_X9 tyX9_ok nmX9 49 (by decide) lk_X9_342 rfl rfl rfl (Nat.le_of_ble_eq_true rfl) rfl hd kk
theorem pf_X9_371 (X : cx_ok G p s m args meth c cc nL RX9 ret) (S : st_ok G n I J s H locs) {i : Nat} (hi : i < 1) {v : Int32} (hd : decode cc pc = .ok (.putfield 371, 3)) (kk : ∀ (J1 : mm_T) (H1 : Heap) (locs1 : List Loc), J1 = mm_up J 9 i 53 v → st_ok G n I J1 s H1 locs1 → W p l e R s m args below meth c H1 locs1 cells slots Q (F0 m (pc + 3) ls rest)) : W p l e R s m args below meth c H locs cells slots Q (F0 m pc ls (.int v :: .ref (cx_b G + ly_loc 9 i) :: rest)) := r_putJ X S (ly_ok_9 hi S.2.2.2) rfl rfl (show vwCl[9]? = some (RX9, TX9, 61) from rfl) in_X9 tyX9_ok nmX9 53 (by decide) lk_X9_371 rfl rfl rfl (Nat.le_of_ble_eq_true rfl) rfl hd kk
theorem pf_X9_374 (X : cx_ok G p s m args meth c cc nL RX9 ret) (S : st_ok G n I J s H locs) {i : Nat} (hi : i < 1) {v : Int32} (hd : decode cc pc = .ok (.putfield 374, 3)) (kk : ∀ (J1 : mm_T) (H1 : Heap) (locs1 : List Loc), J1 = mm_up J 9 i 54 v → st_ok G n I J1 s H1 locs1 → W p l e R s m args below meth c H1 locs1 cells slots Q (F0 m (pc + 3) ls rest)) : W p l e R s m args below meth c H locs cells slots Q (F0 m pc ls (.int v :: .ref (cx_b G + ly_loc 9 i) :: rest)) := r_putJ X S (ly_ok_9 hi S.2.2.2) rfl rfl (show vwCl[9]? = some (RX9, TX9, 61) from rfl) in_X9 tyX9_ok nmX9 54 (by decide) lk_X9_374 rfl rfl rfl (Nat.le_of_ble_eq_true rfl) rfl hd kk
theorem pf_X9_377 (X : cx_ok G p s m args meth c cc nL RX9 ret) (S : st_ok G n I J s H locs) {i : Nat} (hi : i < 1) {v : Int32} (hd : decode cc pc = .ok (.putfield 377, 3)) (kk : ∀ (J1 : mm_T) (H1 : Heap) (locs1 : List Loc), J1 = mm_up J 9 i 55 v → st_ok G n I J1 s H1 locs1 → W p l e R s m args below meth c H1 locs1 cells slots Q (F0 m (pc + 3) ls rest)) : W p l e R s m args below meth c H locs cells slots Q (F0 m pc ls (.int v :: .ref (cx_b G + ly_loc 9 i) :: rest)) := r_putJ X S (ly_ok_9 hi S.2.2.2) rfl rfl (show vwCl[9]? = some (RX9, TX9, 61) from rfl) in_X9 tyX9_ok nmX9 55 (by decide) lk_X9_377 rfl rfl rfl (Nat.le_of_ble_eq_true rfl) rfl hd kk
theorem pf_X9_380 (X : cx_ok G p s m args meth c cc nL RX9 ret) (S : st_ok G n I J s H locs) {i : Nat} (hi : i < 1) {v : Int32} (hd : decode cc pc = .ok (.putfield 380, 3)) (kk : ∀ (J1 : mm_T) (H1 : Heap) (locs1 : List Loc), J1 = mm_up J 9 i 56 v → st_ok G n I J1 s H1 locs1 → W p l e R s m args below meth c H1 locs1 cells slots Q (F0 m (pc + 3) ls rest)) : W p l e R s m args below meth c H locs cells slots Q (F0 m pc ls (.int v :: .ref (cx_b G + ly_loc 9 i) :: rest)) := r_putJ X S (ly_ok_9 hi S.2.2.2) rfl rfl (show vwCl[9]? = some (RX9, TX9, 61) from rfl) in_X9 tyX9_ok nmX9 56 (by decide) lk_X9_380 rfl rfl rfl (Nat.le_of_ble_eq_true rfl) rfl hd kk
theorem al_10 (X : cx_ok G p s m args meth c cc nL own ret) (S : st_ok G n I J s H locs) {i : Nat} (hi : i < 9) {x : Int32} (hx : ix_in x 6 = true) (hd : decode cc pc = .ok (.iaload, 1)) (kk : W p l e R s m args below meth c H locs cells slots Q (F0 m (pc + 1) ls (.int (I 10 i x.toNatClampNeg) :: rest))) : W p l e R s m args below meth c H locs cells slots Q (F0 m pc ls (.int x :: .ref (cx_b G + ly_loc 10 i) :: rest)) := r_iald X S (ly_ok_10 hi S.2.2.2) rfl hx hd kk
theorem as_10 (X : cx_ok G p s m args meth c cc nL own ret) (S : st_ok G n I J s H locs) {i : Nat} (hi : i < 9) {x y : Int32} (hx : ix_in x 6 = true) (hd : decode cc pc = .ok (.iastore, 1)) (kk : ∀ (I1 : mm_T) (H1 : Heap) (locs1 : List Loc), I1 = mm_up I 10 i x.toNatClampNeg y → st_ok G n I1 J s H1 locs1 → W p l e R s m args below meth c H1 locs1 cells slots Q (F0 m (pc + 1) ls rest)) : W p l e R s m args below meth c H locs cells slots Q (F0 m pc ls (.int y :: .int x :: .ref (cx_b G + ly_loc 10 i) :: rest)) := r_iastI X S (ly_ok_10 hi S.2.2.2) rfl (fun _ => rfl) hx hd kk
theorem ln_10 (X : cx_ok G p s m args meth c cc nL own ret) (S : st_ok G n I J s H locs) {i : Nat} (hi : i < 9) (hd : decode cc pc = .ok (.arraylength, 1)) (kk : W p l e R s m args below meth c H locs cells slots Q (F0 m (pc + 1) ls (.int (Int32.ofNat 6) :: rest))) : W p l e R s m args below meth c H locs cells slots Q (F0 m pc ls (.ref (cx_b G + ly_loc 10 i) :: rest)) := r_alen X S (ly_ok_10 hi S.2.2.2) rfl rfl hd kk
theorem al_11 (X : cx_ok G p s m args meth c cc nL own ret) (S : st_ok G n I J s H locs) {i : Nat} (hi : i < 9) {x : Int32} (hx : ix_in x 8 = true) (hd : decode cc pc = .ok (.iaload, 1)) (kk : W p l e R s m args below meth c H locs cells slots Q (F0 m (pc + 1) ls (.int (I 11 i x.toNatClampNeg) :: rest))) : W p l e R s m args below meth c H locs cells slots Q (F0 m pc ls (.int x :: .ref (cx_b G + ly_loc 11 i) :: rest)) := r_iald X S (ly_ok_11 hi S.2.2.2) rfl hx hd kk
theorem as_11 (X : cx_ok G p s m args meth c cc nL own ret) (S : st_ok G n I J s H locs) {i : Nat} (hi : i < 9) {x y : Int32} (hx : ix_in x 8 = true) (hd : decode cc pc = .ok (.iastore, 1)) (kk : ∀ (I1 : mm_T) (H1 : Heap) (locs1 : List Loc), I1 = mm_up I 11 i x.toNatClampNeg y → st_ok G n I1 J s H1 locs1 → W p l e R s m args below meth c H1 locs1 cells slots Q (F0 m (pc + 1) ls rest)) : W p l e R s m args below meth c H locs cells slots Q (F0 m pc ls (.int y :: .int x :: .ref (cx_b G + ly_loc 11 i) :: rest)) := r_iastI X S (ly_ok_11 hi S.2.2.2) rfl (fun _ => rfl) hx hd kk
theorem ln_11 (X : cx_ok G p s m args meth c cc nL own ret) (S : st_ok G n I J s H locs) {i : Nat} (hi : i < 9) (hd : decode cc pc = .ok (.arraylength, 1)) (kk : W p l e R s m args below meth c H locs cells slots Q (F0 m (pc + 1) ls (.int (Int32.ofNat 8) :: rest))) : W p l e R s m args below meth c H locs cells slots Q (F0 m pc ls (.ref (cx_b G + ly_loc 11 i) :: rest)) := r_alen X S (ly_ok_11 hi S.2.2.2) rfl rfl hd kk
theorem al_12 (X : cx_ok G p s m args meth c cc nL own ret) (S : st_ok G n I J s H locs) {i : Nat} (hi : i < 9) {x : Int32} (hx : ix_in x 8 = true) (hd : decode cc pc = .ok (.iaload, 1)) (kk : W p l e R s m args below meth c H locs cells slots Q (F0 m (pc + 1) ls (.int (I 12 i x.toNatClampNeg) :: rest))) : W p l e R s m args below meth c H locs cells slots Q (F0 m pc ls (.int x :: .ref (cx_b G + ly_loc 12 i) :: rest)) := r_iald X S (ly_ok_12 hi S.2.2.2) rfl hx hd kk
theorem as_12 (X : cx_ok G p s m args meth c cc nL own ret) (S : st_ok G n I J s H locs) {i : Nat} (hi : i < 9) {x y : Int32} (hx : ix_in x 8 = true) (hd : decode cc pc = .ok (.iastore, 1)) (kk : ∀ (I1 : mm_T) (H1 : Heap) (locs1 : List Loc), I1 = mm_up I 12 i x.toNatClampNeg y → st_ok G n I1 J s H1 locs1 → W p l e R s m args below meth c H1 locs1 cells slots Q (F0 m (pc + 1) ls rest)) : W p l e R s m args below meth c H locs cells slots Q (F0 m pc ls (.int y :: .int x :: .ref (cx_b G + ly_loc 12 i) :: rest)) := r_iastI X S (ly_ok_12 hi S.2.2.2) rfl (fun _ => rfl) hx hd kk
theorem ln_12 (X : cx_ok G p s m args meth c cc nL own ret) (S : st_ok G n I J s H locs) {i : Nat} (hi : i < 9) (hd : decode cc pc = .ok (.arraylength, 1)) (kk : W p l e R s m args below meth c H locs cells slots Q (F0 m (pc + 1) ls (.int (Int32.ofNat 8) :: rest))) : W p l e R s m args below meth c H locs cells slots Q (F0 m pc ls (.ref (cx_b G + ly_loc 12 i) :: rest)) := r_alen X S (ly_ok_12 hi S.2.2.2) rfl rfl hd kk
theorem al_13 (X : cx_ok G p s m args meth c cc nL own ret) (S : st_ok G n I J s H locs) {i : Nat} (hi : i < 9) {x : Int32} (hx : ix_in x 8 = true) (hd : decode cc pc = .ok (.iaload, 1)) (kk : W p l e R s m args below meth c H locs cells slots Q (F0 m (pc + 1) ls (.int (I 13 i x.toNatClampNeg) :: rest))) : W p l e R s m args below meth c H locs cells slots Q (F0 m pc ls (.int x :: .ref (cx_b G + ly_loc 13 i) :: rest)) := r_iald X S (ly_ok_13 hi S.2.2.2) rfl hx hd kk
theorem as_13 (X : cx_ok G p s m args meth c cc nL own ret) (S : st_ok G n I J s H locs) {i : Nat} (hi : i < 9) {x y : Int32} (hx : ix_in x 8 = true) (hd : decode cc pc = .ok (.iastore, 1)) (kk : ∀ (I1 : mm_T) (H1 : Heap) (locs1 : List Loc), I1 = mm_up I 13 i x.toNatClampNeg y → st_ok G n I1 J s H1 locs1 → W p l e R s m args below meth c H1 locs1 cells slots Q (F0 m (pc + 1) ls rest)) : W p l e R s m args below meth c H locs cells slots Q (F0 m pc ls (.int y :: .int x :: .ref (cx_b G + ly_loc 13 i) :: rest)) := r_iastI X S (ly_ok_13 hi S.2.2.2) rfl (fun _ => rfl) hx hd kk
theorem ln_13 (X : cx_ok G p s m args meth c cc nL own ret) (S : st_ok G n I J s H locs) {i : Nat} (hi : i < 9) (hd : decode cc pc = .ok (.arraylength, 1)) (kk : W p l e R s m args below meth c H locs cells slots Q (F0 m (pc + 1) ls (.int (Int32.ofNat 8) :: rest))) : W p l e R s m args below meth c H locs cells slots Q (F0 m pc ls (.ref (cx_b G + ly_loc 13 i) :: rest)) := r_alen X S (ly_ok_13 hi S.2.2.2) rfl rfl hd kk
theorem al_14 (X : cx_ok G p s m args meth c cc nL own ret) (S : st_ok G n I J s H locs) {i : Nat} (hi : i < 9) {x : Int32} (hx : ix_in x 7 = true) (hd : decode cc pc = .ok (.iaload, 1)) (kk : W p l e R s m args below meth c H locs cells slots Q (F0 m (pc + 1) ls (.int (I 14 i x.toNatClampNeg) :: rest))) : W p l e R s m args below meth c H locs cells slots Q (F0 m pc ls (.int x :: .ref (cx_b G + ly_loc 14 i) :: rest)) := r_iald X S (ly_ok_14 hi S.2.2.2) rfl hx hd kk
theorem as_14 (X : cx_ok G p s m args meth c cc nL own ret) (S : st_ok G n I J s H locs) {i : Nat} (hi : i < 9) {x y : Int32} (hx : ix_in x 7 = true) (hd : decode cc pc = .ok (.iastore, 1)) (kk : ∀ (I1 : mm_T) (H1 : Heap) (locs1 : List Loc), I1 = mm_up I 14 i x.toNatClampNeg y → st_ok G n I1 J s H1 locs1 → W p l e R s m args below meth c H1 locs1 cells slots Q (F0 m (pc + 1) ls rest)) : W p l e R s m args below meth c H locs cells slots Q (F0 m pc ls (.int y :: .int x :: .ref (cx_b G + ly_loc 14 i) :: rest)) := r_iastI X S (ly_ok_14 hi S.2.2.2) rfl (fun _ => rfl) hx hd kk
theorem ln_14 (X : cx_ok G p s m args meth c cc nL own ret) (S : st_ok G n I J s H locs) {i : Nat} (hi : i < 9) (hd : decode cc pc = .ok (.arraylength, 1)) (kk : W p l e R s m args below meth c H locs cells slots Q (F0 m (pc + 1) ls (.int (Int32.ofNat 7) :: rest))) : W p l e R s m args below meth c H locs cells slots Q (F0 m pc ls (.ref (cx_b G + ly_loc 14 i) :: rest)) := r_alen X S (ly_ok_14 hi S.2.2.2) rfl rfl hd kk
theorem al_15 (X : cx_ok G p s m args meth c cc nL own ret) (S : st_ok G n I J s H locs) {i : Nat} (hi : i < 9) {x : Int32} (hx : ix_in x 7 = true) (hd : decode cc pc = .ok (.iaload, 1)) (kk : W p l e R s m args below meth c H locs cells slots Q (F0 m (pc + 1) ls (.int (I 15 i x.toNatClampNeg) :: rest))) : W p l e R s m args below meth c H locs cells slots Q (F0 m pc ls (.int x :: .ref (cx_b G + ly_loc 15 i) :: rest)) := r_iald X S (ly_ok_15 hi S.2.2.2) rfl hx hd kk
theorem as_15 (X : cx_ok G p s m args meth c cc nL own ret) (S : st_ok G n I J s H locs) {i : Nat} (hi : i < 9) {x y : Int32} (hx : ix_in x 7 = true) (hd : decode cc pc = .ok (.iastore, 1)) (kk : ∀ (I1 : mm_T) (H1 : Heap) (locs1 : List Loc), I1 = mm_up I 15 i x.toNatClampNeg y → st_ok G n I1 J s H1 locs1 → W p l e R s m args below meth c H1 locs1 cells slots Q (F0 m (pc + 1) ls rest)) : W p l e R s m args below meth c H locs cells slots Q (F0 m pc ls (.int y :: .int x :: .ref (cx_b G + ly_loc 15 i) :: rest)) := r_iastI X S (ly_ok_15 hi S.2.2.2) rfl (fun _ => rfl) hx hd kk
theorem ln_15 (X : cx_ok G p s m args meth c cc nL own ret) (S : st_ok G n I J s H locs) {i : Nat} (hi : i < 9) (hd : decode cc pc = .ok (.arraylength, 1)) (kk : W p l e R s m args below meth c H locs cells slots Q (F0 m (pc + 1) ls (.int (Int32.ofNat 7) :: rest))) : W p l e R s m args below meth c H locs cells slots Q (F0 m pc ls (.ref (cx_b G + ly_loc 15 i) :: rest)) := r_alen X S (ly_ok_15 hi S.2.2.2) rfl rfl hd kk
theorem aa_16 (X : cx_ok G p s m args meth c cc nL own ret) (S : st_ok G n I J s H locs) {i : Nat} (hi : i < 2) {x : Int32} (hx : ix_in x 8 = true) (hd : decode cc pc = .ok (.aaload, 1)) (kk : W p l e R s m args below meth c H locs cells slots Q (F0 m (pc + 1) ls (.ref (cx_b G + ly_loc 2 (8 * i + x.toNatClampNeg)) :: rest))) : W p l e R s m args below meth c H locs cells slots Q (F0 m pc ls (.int x :: .ref (cx_b G + ly_loc 16 i) :: rest)) := r_aald X S (ly_ok_16 hi S.2.2.2) (t0 := 2) rfl rfl hx rfl hd kk
theorem aa_17 (X : cx_ok G p s m args meth c cc nL own ret) (S : st_ok G n I J s H locs) {i : Nat} (hi : i < 2) {x : Int32} (hx : ix_in x 7 = true) (hd : decode cc pc = .ok (.aaload, 1)) (kk : W p l e R s m args below meth c H locs cells slots Q (F0 m (pc + 1) ls (.ref (cx_b G + ly_loc 6 (7 * i + x.toNatClampNeg)) :: rest))) : W p l e R s m args below meth c H locs cells slots Q (F0 m pc ls (.int x :: .ref (cx_b G + ly_loc 17 i) :: rest)) := r_aald X S (ly_ok_17 hi S.2.2.2) (t0 := 3) rfl rfl hx rfl hd kk
theorem al_18 (X : cx_ok G p s m args meth c cc nL own ret) (S : st_ok G n I J s H locs) {i : Nat} (hi : i < 1) {x : Int32} (hx : ix_in x 160 = true) (hd : decode cc pc = .ok (.iaload, 1)) (kk : W p l e R s m args below meth c H locs cells slots Q (F0 m (pc + 1) ls (.int (I 18 i x.toNatClampNeg) :: rest))) : W p l e R s m args below meth c H locs cells slots Q (F0 m pc ls (.int x :: .ref (cx_b G + ly_loc 18 i) :: rest)) := r_iald X S (ly_ok_18 hi S.2.2.2) rfl hx hd kk
theorem as_18 (X : cx_ok G p s m args meth c cc nL own ret) (S : st_ok G n I J s H locs) {i : Nat} (hi : i < 1) {x y : Int32} (hx : ix_in x 160 = true) (hd : decode cc pc = .ok (.iastore, 1)) (kk : ∀ (I1 : mm_T) (H1 : Heap) (locs1 : List Loc), I1 = mm_up I 18 i x.toNatClampNeg y → st_ok G n I1 J s H1 locs1 → W p l e R s m args below meth c H1 locs1 cells slots Q (F0 m (pc + 1) ls rest)) : W p l e R s m args below meth c H locs cells slots Q (F0 m pc ls (.int y :: .int x :: .ref (cx_b G + ly_loc 18 i) :: rest)) := r_iastI X S (ly_ok_18 hi S.2.2.2) rfl (fun _ => rfl) hx hd kk
theorem ln_18 (X : cx_ok G p s m args meth c cc nL own ret) (S : st_ok G n I J s H locs) {i : Nat} (hi : i < 1) (hd : decode cc pc = .ok (.arraylength, 1)) (kk : W p l e R s m args below meth c H locs cells slots Q (F0 m (pc + 1) ls (.int (Int32.ofNat 160) :: rest))) : W p l e R s m args below meth c H locs cells slots Q (F0 m pc ls (.ref (cx_b G + ly_loc 18 i) :: rest)) := r_alen X S (ly_ok_18 hi S.2.2.2) rfl rfl hd kk
theorem al_19 (X : cx_ok G p s m args meth c cc nL own ret) (S : st_ok G n I J s H locs) {i : Nat} (hi : i < 1) {x : Int32} (hx : ix_in x 160 = true) (hd : decode cc pc = .ok (.iaload, 1)) (kk : W p l e R s m args below meth c H locs cells slots Q (F0 m (pc + 1) ls (.int (I 19 i x.toNatClampNeg) :: rest))) : W p l e R s m args below meth c H locs cells slots Q (F0 m pc ls (.int x :: .ref (cx_b G + ly_loc 19 i) :: rest)) := r_iald X S (ly_ok_19 hi S.2.2.2) rfl hx hd kk
theorem as_19 (X : cx_ok G p s m args meth c cc nL own ret) (S : st_ok G n I J s H locs) {i : Nat} (hi : i < 1) {x y : Int32} (hx : ix_in x 160 = true) (hd : decode cc pc = .ok (.iastore, 1)) (kk : ∀ (I1 : mm_T) (H1 : Heap) (locs1 : List Loc), I1 = mm_up I 19 i x.toNatClampNeg y → st_ok G n I1 J s H1 locs1 → W p l e R s m args below meth c H1 locs1 cells slots Q (F0 m (pc + 1) ls rest)) : W p l e R s m args below meth c H locs cells slots Q (F0 m pc ls (.int y :: .int x :: .ref (cx_b G + ly_loc 19 i) :: rest)) := r_iastI X S (ly_ok_19 hi S.2.2.2) rfl (fun _ => rfl) hx hd kk
theorem ln_19 (X : cx_ok G p s m args meth c cc nL own ret) (S : st_ok G n I J s H locs) {i : Nat} (hi : i < 1) (hd : decode cc pc = .ok (.arraylength, 1)) (kk : W p l e R s m args below meth c H locs cells slots Q (F0 m (pc + 1) ls (.int (Int32.ofNat 160) :: rest))) : W p l e R s m args below meth c H locs cells slots Q (F0 m pc ls (.ref (cx_b G + ly_loc 19 i) :: rest)) := r_alen X S (ly_ok_19 hi S.2.2.2) rfl rfl hd kk
theorem aa_20 (X : cx_ok G p s m args meth c cc nL own ret) (S : st_ok G n I J s H locs) {i : Nat} (hi : i < 1) {x : Int32} (hx : ix_in x 6 = true) (hd : decode cc pc = .ok (.aaload, 1)) (kk : W p l e R s m args below meth c H locs cells slots Q (F0 m (pc + 1) ls (.ref (cx_b G + ly_loc 7 (I 20 i x.toNatClampNeg).toNatClampNeg) :: rest))) : W p l e R s m args below meth c H locs cells slots Q (F0 m pc ls (.int x :: .ref (cx_b G + ly_loc 20 i) :: rest)) := r_aald X S (ly_ok_20 hi S.2.2.2) (t0 := 4) rfl rfl hx rfl hd kk
theorem aa_21 (X : cx_ok G p s m args meth c cc nL own ret) (S : st_ok G n I J s H locs) {i : Nat} (hi : i < 1) {x : Int32} (hx : ix_in x 8 = true) (hd : decode cc pc = .ok (.aaload, 1)) (kk : W p l e R s m args below meth c H locs cells slots Q (F0 m (pc + 1) ls (.ref (cx_b G + ly_loc 0 (x.toNatClampNeg + 1)) :: rest))) : W p l e R s m args below meth c H locs cells slots Q (F0 m pc ls (.int x :: .ref (cx_b G + ly_loc 21 i) :: rest)) := r_aald X S (ly_ok_21 hi S.2.2.2) (t0 := 5) rfl rfl hx rfl hd kk
theorem al_22 (X : cx_ok G p s m args meth c cc nL own ret) (S : st_ok G n I J s H locs) {i : Nat} (hi : i < 1) {x : Int32} (hx : ix_in x 2 = true) (hd : decode cc pc = .ok (.iaload, 1)) (kk : W p l e R s m args below meth c H locs cells slots Q (F0 m (pc + 1) ls (.int (I 22 i x.toNatClampNeg) :: rest))) : W p l e R s m args below meth c H locs cells slots Q (F0 m pc ls (.int x :: .ref (cx_b G + ly_loc 22 i) :: rest)) := r_iald X S (ly_ok_22 hi S.2.2.2) rfl hx hd kk
theorem as_22 (X : cx_ok G p s m args meth c cc nL own ret) (S : st_ok G n I J s H locs) {i : Nat} (hi : i < 1) {x y : Int32} (hx : ix_in x 2 = true) (hd : decode cc pc = .ok (.iastore, 1)) (kk : ∀ (I1 : mm_T) (H1 : Heap) (locs1 : List Loc), I1 = mm_up I 22 i x.toNatClampNeg y → st_ok G n I1 J s H1 locs1 → W p l e R s m args below meth c H1 locs1 cells slots Q (F0 m (pc + 1) ls rest)) : W p l e R s m args below meth c H locs cells slots Q (F0 m pc ls (.int y :: .int x :: .ref (cx_b G + ly_loc 22 i) :: rest)) := r_iastI X S (ly_ok_22 hi S.2.2.2) rfl (fun _ => rfl) hx hd kk
theorem ln_22 (X : cx_ok G p s m args meth c cc nL own ret) (S : st_ok G n I J s H locs) {i : Nat} (hi : i < 1) (hd : decode cc pc = .ok (.arraylength, 1)) (kk : W p l e R s m args below meth c H locs cells slots Q (F0 m (pc + 1) ls (.int (Int32.ofNat 2) :: rest))) : W p l e R s m args below meth c H locs cells slots Q (F0 m pc ls (.ref (cx_b G + ly_loc 22 i) :: rest)) := r_alen X S (ly_ok_22 hi S.2.2.2) rfl rfl hd kk
theorem al_23 (X : cx_ok G p s m args meth c cc nL own ret) (S : st_ok G n I J s H locs) {i : Nat} (hi : i < 1) {x : Int32} (hx : ix_in x 2 = true) (hd : decode cc pc = .ok (.iaload, 1)) (kk : W p l e R s m args below meth c H locs cells slots Q (F0 m (pc + 1) ls (.int (I 23 i x.toNatClampNeg) :: rest))) : W p l e R s m args below meth c H locs cells slots Q (F0 m pc ls (.int x :: .ref (cx_b G + ly_loc 23 i) :: rest)) := r_iald X S (ly_ok_23 hi S.2.2.2) rfl hx hd kk
theorem as_23 (X : cx_ok G p s m args meth c cc nL own ret) (S : st_ok G n I J s H locs) {i : Nat} (hi : i < 1) {x y : Int32} (hx : ix_in x 2 = true) (hd : decode cc pc = .ok (.iastore, 1)) (kk : ∀ (I1 : mm_T) (H1 : Heap) (locs1 : List Loc), I1 = mm_up I 23 i x.toNatClampNeg y → st_ok G n I1 J s H1 locs1 → W p l e R s m args below meth c H1 locs1 cells slots Q (F0 m (pc + 1) ls rest)) : W p l e R s m args below meth c H locs cells slots Q (F0 m pc ls (.int y :: .int x :: .ref (cx_b G + ly_loc 23 i) :: rest)) := r_iastI X S (ly_ok_23 hi S.2.2.2) rfl (fun _ => rfl) hx hd kk
theorem ln_23 (X : cx_ok G p s m args meth c cc nL own ret) (S : st_ok G n I J s H locs) {i : Nat} (hi : i < 1) (hd : decode cc pc = .ok (.arraylength, 1)) (kk : W p l e R s m args below meth c H locs cells slots Q (F0 m (pc + 1) ls (.int (Int32.ofNat 2) :: rest))) : W p l e R s m args below meth c H locs cells slots Q (F0 m pc ls (.ref (cx_b G + ly_loc 23 i) :: rest)) := r_alen X S (ly_ok_23 hi S.2.2.2) rfl rfl hd kk
theorem al_24 (X : cx_ok G p s m args meth c cc nL own ret) (S : st_ok G n I J s H locs) {i : Nat} (hi : i < 1) {x : Int32} (hx : ix_in x 2 = true) (hd : decode cc pc = .ok (.iaload, 1)) (kk : W p l e R s m args below meth c H locs cells slots Q (F0 m (pc + 1) ls (.int (I 24 i x.toNatClampNeg) :: rest))) : W p l e R s m args below meth c H locs cells slots Q (F0 m pc ls (.int x :: .ref (cx_b G + ly_loc 24 i) :: rest)) := r_iald X S (ly_ok_24 hi S.2.2.2) rfl hx hd kk
theorem as_24 (X : cx_ok G p s m args meth c cc nL own ret) (S : st_ok G n I J s H locs) {i : Nat} (hi : i < 1) {x y : Int32} (hx : ix_in x 2 = true) (hd : decode cc pc = .ok (.iastore, 1)) (kk : ∀ (I1 : mm_T) (H1 : Heap) (locs1 : List Loc), I1 = mm_up I 24 i x.toNatClampNeg y → st_ok G n I1 J s H1 locs1 → W p l e R s m args below meth c H1 locs1 cells slots Q (F0 m (pc + 1) ls rest)) : W p l e R s m args below meth c H locs cells slots Q (F0 m pc ls (.int y :: .int x :: .ref (cx_b G + ly_loc 24 i) :: rest)) := r_iastI X S (ly_ok_24 hi S.2.2.2) rfl (fun _ => rfl) hx hd kk
theorem ln_24 (X : cx_ok G p s m args meth c cc nL own ret) (S : st_ok G n I J s H locs) {i : Nat} (hi : i < 1) (hd : decode cc pc = .ok (.arraylength, 1)) (kk : W p l e R s m args below meth c H locs cells slots Q (F0 m (pc + 1) ls (.int (Int32.ofNat 2) :: rest))) : W p l e R s m args below meth c H locs cells slots Q (F0 m pc ls (.ref (cx_b G + ly_loc 24 i) :: rest)) := r_alen X S (ly_ok_24 hi S.2.2.2) rfl rfl hd kk
theorem al_25 (X : cx_ok G p s m args meth c cc nL own ret) (S : st_ok G n I J s H locs) {i : Nat} (hi : i < 1) {x : Int32} (hx : ix_in x 2 = true) (hd : decode cc pc = .ok (.iaload, 1)) (kk : W p l e R s m args below meth c H locs cells slots Q (F0 m (pc + 1) ls (.int (I 25 i x.toNatClampNeg) :: rest))) : W p l e R s m args below meth c H locs cells slots Q (F0 m pc ls (.int x :: .ref (cx_b G + ly_loc 25 i) :: rest)) := r_iald X S (ly_ok_25 hi S.2.2.2) rfl hx hd kk
theorem as_25 (X : cx_ok G p s m args meth c cc nL own ret) (S : st_ok G n I J s H locs) {i : Nat} (hi : i < 1) {x y : Int32} (hx : ix_in x 2 = true) (hd : decode cc pc = .ok (.iastore, 1)) (kk : ∀ (I1 : mm_T) (H1 : Heap) (locs1 : List Loc), I1 = mm_up I 25 i x.toNatClampNeg y → st_ok G n I1 J s H1 locs1 → W p l e R s m args below meth c H1 locs1 cells slots Q (F0 m (pc + 1) ls rest)) : W p l e R s m args below meth c H locs cells slots Q (F0 m pc ls (.int y :: .int x :: .ref (cx_b G + ly_loc 25 i) :: rest)) := r_iastI X S (ly_ok_25 hi S.2.2.2) rfl (fun _ => rfl) hx hd kk
theorem ln_25 (X : cx_ok G p s m args meth c cc nL own ret) (S : st_ok G n I J s H locs) {i : Nat} (hi : i < 1) (hd : decode cc pc = .ok (.arraylength, 1)) (kk : W p l e R s m args below meth c H locs cells slots Q (F0 m (pc + 1) ls (.int (Int32.ofNat 2) :: rest))) : W p l e R s m args below meth c H locs cells slots Q (F0 m pc ls (.ref (cx_b G + ly_loc 25 i) :: rest)) := r_alen X S (ly_ok_25 hi S.2.2.2) rfl rfl hd kk
theorem aa_26 (X : cx_ok G p s m args meth c cc nL own ret) (S : st_ok G n I J s H locs) {i : Nat} (hi : i < 1) {x : Int32} (hx : ix_in x 4 = true) (hd : decode cc pc = .ok (.aaload, 1)) (kk : W p l e R s m args below meth c H locs cells slots Q (F0 m (pc + 1) ls (.ref (cx_b G + ly_loc 5 x.toNatClampNeg) :: rest))) : W p l e R s m args below meth c H locs cells slots Q (F0 m pc ls (.int x :: .ref (cx_b G + ly_loc 26 i) :: rest)) := r_aald X S (ly_ok_26 hi S.2.2.2) (t0 := 6) rfl rfl hx rfl hd kk
theorem al_27 (X : cx_ok G p s m args meth c cc nL own ret) (S : st_ok G n I J s H locs) {i : Nat} (hi : i < 4) {x : Int32} (hx : ix_in x 40 = true) (hd : decode cc pc = .ok (.iaload, 1)) (kk : W p l e R s m args below meth c H locs cells slots Q (F0 m (pc + 1) ls (.int (I 27 i x.toNatClampNeg) :: rest))) : W p l e R s m args below meth c H locs cells slots Q (F0 m pc ls (.int x :: .ref (cx_b G + ly_loc 27 i) :: rest)) := r_iald X S (ly_ok_27 hi S.2.2.2) rfl hx hd kk
theorem as_27 (X : cx_ok G p s m args meth c cc nL own ret) (S : st_ok G n I J s H locs) {i : Nat} (hi : i < 4) {x y : Int32} (hx : ix_in x 40 = true) (hd : decode cc pc = .ok (.iastore, 1)) (kk : ∀ (I1 : mm_T) (H1 : Heap) (locs1 : List Loc), I1 = mm_up I 27 i x.toNatClampNeg y → st_ok G n I1 J s H1 locs1 → W p l e R s m args below meth c H1 locs1 cells slots Q (F0 m (pc + 1) ls rest)) : W p l e R s m args below meth c H locs cells slots Q (F0 m pc ls (.int y :: .int x :: .ref (cx_b G + ly_loc 27 i) :: rest)) := r_iastI X S (ly_ok_27 hi S.2.2.2) rfl (fun _ => rfl) hx hd kk
theorem ln_27 (X : cx_ok G p s m args meth c cc nL own ret) (S : st_ok G n I J s H locs) {i : Nat} (hi : i < 4) (hd : decode cc pc = .ok (.arraylength, 1)) (kk : W p l e R s m args below meth c H locs cells slots Q (F0 m (pc + 1) ls (.int (Int32.ofNat 40) :: rest))) : W p l e R s m args below meth c H locs cells slots Q (F0 m pc ls (.ref (cx_b G + ly_loc 27 i) :: rest)) := r_alen X S (ly_ok_27 hi S.2.2.2) rfl rfl hd kk
theorem al_28 (X : cx_ok G p s m args meth c cc nL own ret) (S : st_ok G n I J s H locs) {i : Nat} (hi : 3 * i + 144 ≤ n) {x : Int32} (hx : ix_in x (I 28 i 1000).toNatClampNeg = true) (hd : decode cc pc = .ok (.iaload, 1)) (kk : W p l e R s m args below meth c H locs cells slots Q (F0 m (pc + 1) ls (.int (I 28 i x.toNatClampNeg) :: rest))) : W p l e R s m args below meth c H locs cells slots Q (F0 m pc ls (.int x :: .ref (cx_b G + ly_loc 28 i) :: rest)) := r_iald X S (ly_ok_28 hi) rfl hx hd kk
theorem ln_28 (X : cx_ok G p s m args meth c cc nL own ret) (S : st_ok G n I J s H locs) {i : Nat} (hi : 3 * i + 144 ≤ n) (hd : decode cc pc = .ok (.arraylength, 1)) (kk : W p l e R s m args below meth c H locs cells slots Q (F0 m (pc + 1) ls (.int (Int32.ofNat ((I 28 i 1000).toNatClampNeg)) :: rest))) : W p l e R s m args below meth c H locs cells slots Q (F0 m pc ls (.ref (cx_b G + ly_loc 28 i) :: rest)) := r_alen X S (ly_ok_28 hi) rfl rfl hd kk
theorem al_29 (X : cx_ok G p s m args meth c cc nL own ret) (S : st_ok G n I J s H locs) {i : Nat} (hi : 3 * i + 144 ≤ n) {x : Int32} (hx : ix_in x 31 = true) (hd : decode cc pc = .ok (.iaload, 1)) (kk : W p l e R s m args below meth c H locs cells slots Q (F0 m (pc + 1) ls (.int (I 29 i x.toNatClampNeg) :: rest))) : W p l e R s m args below meth c H locs cells slots Q (F0 m pc ls (.int x :: .ref (cx_b G + ly_loc 29 i) :: rest)) := r_iald X S (ly_ok_29 hi) rfl hx hd kk
theorem as_29 (X : cx_ok G p s m args meth c cc nL own ret) (S : st_ok G n I J s H locs) {i : Nat} (hi : 3 * i + 144 ≤ n) {x y : Int32} (hx : ix_in x 31 = true) (hd : decode cc pc = .ok (.iastore, 1)) (kk : ∀ (I1 : mm_T) (H1 : Heap) (locs1 : List Loc), I1 = mm_up I 29 i x.toNatClampNeg y → st_ok G n I1 J s H1 locs1 → W p l e R s m args below meth c H1 locs1 cells slots Q (F0 m (pc + 1) ls rest)) : W p l e R s m args below meth c H locs cells slots Q (F0 m pc ls (.int y :: .int x :: .ref (cx_b G + ly_loc 29 i) :: rest)) := r_iastI X S (ly_ok_29 hi) rfl (fun _ => rfl) hx hd kk
theorem ln_29 (X : cx_ok G p s m args meth c cc nL own ret) (S : st_ok G n I J s H locs) {i : Nat} (hi : 3 * i + 144 ≤ n) (hd : decode cc pc = .ok (.arraylength, 1)) (kk : W p l e R s m args below meth c H locs cells slots Q (F0 m (pc + 1) ls (.int (Int32.ofNat 31) :: rest))) : W p l e R s m args below meth c H locs cells slots Q (F0 m pc ls (.ref (cx_b G + ly_loc 29 i) :: rest)) := r_alen X S (ly_ok_29 hi) rfl rfl hd kk
theorem al_30 (X : cx_ok G p s m args meth c cc nL own ret) (S : st_ok G n I J s H locs) {i : Nat} (hi : i < 1) {x : Int32} (hx : ix_in x 960 = true) (hd : decode cc pc = .ok (.iaload, 1)) (kk : W p l e R s m args below meth c H locs cells slots Q (F0 m (pc + 1) ls (.int (J 30 i x.toNatClampNeg) :: rest))) : W p l e R s m args below meth c H locs cells slots Q (F0 m pc ls (.int x :: .ref (cx_b G + ly_loc 30 i) :: rest)) := r_iald X S (ly_ok_30 hi S.2.2.2) rfl hx hd kk
theorem as_30 (X : cx_ok G p s m args meth c cc nL own ret) (S : st_ok G n I J s H locs) {i : Nat} (hi : i < 1) {x y : Int32} (hx : ix_in x 960 = true) (hd : decode cc pc = .ok (.iastore, 1)) (kk : ∀ (J1 : mm_T) (H1 : Heap) (locs1 : List Loc), J1 = mm_up J 30 i x.toNatClampNeg y → st_ok G n I J1 s H1 locs1 → W p l e R s m args below meth c H1 locs1 cells slots Q (F0 m (pc + 1) ls rest)) : W p l e R s m args below meth c H locs cells slots Q (F0 m pc ls (.int y :: .int x :: .ref (cx_b G + ly_loc 30 i) :: rest)) := r_iastJ X S (ly_ok_30 hi S.2.2.2) rfl (fun _ => rfl) hx hd kk
theorem ln_30 (X : cx_ok G p s m args meth c cc nL own ret) (S : st_ok G n I J s H locs) {i : Nat} (hi : i < 1) (hd : decode cc pc = .ok (.arraylength, 1)) (kk : W p l e R s m args below meth c H locs cells slots Q (F0 m (pc + 1) ls (.int (Int32.ofNat 960) :: rest))) : W p l e R s m args below meth c H locs cells slots Q (F0 m pc ls (.ref (cx_b G + ly_loc 30 i) :: rest)) := r_alen X S (ly_ok_30 hi S.2.2.2) rfl rfl hd kk
theorem al_31 (X : cx_ok G p s m args meth c cc nL own ret) (S : st_ok G n I J s H locs) {i : Nat} (hi : i < 1) {x : Int32} (hx : ix_in x 6 = true) (hd : decode cc pc = .ok (.iaload, 1)) (kk : W p l e R s m args below meth c H locs cells slots Q (F0 m (pc + 1) ls (.int (J 31 i x.toNatClampNeg) :: rest))) : W p l e R s m args below meth c H locs cells slots Q (F0 m pc ls (.int x :: .ref (cx_b G + ly_loc 31 i) :: rest)) := r_iald X S (ly_ok_31 hi S.2.2.2) rfl hx hd kk
theorem as_31 (X : cx_ok G p s m args meth c cc nL own ret) (S : st_ok G n I J s H locs) {i : Nat} (hi : i < 1) {x y : Int32} (hx : ix_in x 6 = true) (hd : decode cc pc = .ok (.iastore, 1)) (kk : ∀ (J1 : mm_T) (H1 : Heap) (locs1 : List Loc), J1 = mm_up J 31 i x.toNatClampNeg y → st_ok G n I J1 s H1 locs1 → W p l e R s m args below meth c H1 locs1 cells slots Q (F0 m (pc + 1) ls rest)) : W p l e R s m args below meth c H locs cells slots Q (F0 m pc ls (.int y :: .int x :: .ref (cx_b G + ly_loc 31 i) :: rest)) := r_iastJ X S (ly_ok_31 hi S.2.2.2) rfl (fun _ => rfl) hx hd kk
theorem ln_31 (X : cx_ok G p s m args meth c cc nL own ret) (S : st_ok G n I J s H locs) {i : Nat} (hi : i < 1) (hd : decode cc pc = .ok (.arraylength, 1)) (kk : W p l e R s m args below meth c H locs cells slots Q (F0 m (pc + 1) ls (.int (Int32.ofNat 6) :: rest))) : W p l e R s m args below meth c H locs cells slots Q (F0 m pc ls (.ref (cx_b G + ly_loc 31 i) :: rest)) := r_alen X S (ly_ok_31 hi S.2.2.2) rfl rfl hd kk
theorem al_32 (X : cx_ok G p s m args meth c cc nL own ret) (S : st_ok G n I J s H locs) {i : Nat} (hi : i < 1) {x : Int32} (hx : ix_in x 160 = true) (hd : decode cc pc = .ok (.iaload, 1)) (kk : W p l e R s m args below meth c H locs cells slots Q (F0 m (pc + 1) ls (.int (J 32 i x.toNatClampNeg) :: rest))) : W p l e R s m args below meth c H locs cells slots Q (F0 m pc ls (.int x :: .ref (cx_b G + ly_loc 32 i) :: rest)) := r_iald X S (ly_ok_32 hi S.2.2.2) rfl hx hd kk
theorem as_32 (X : cx_ok G p s m args meth c cc nL own ret) (S : st_ok G n I J s H locs) {i : Nat} (hi : i < 1) {x y : Int32} (hx : ix_in x 160 = true) (hd : decode cc pc = .ok (.iastore, 1)) (kk : ∀ (J1 : mm_T) (H1 : Heap) (locs1 : List Loc), J1 = mm_up J 32 i x.toNatClampNeg y → st_ok G n I J1 s H1 locs1 → W p l e R s m args below meth c H1 locs1 cells slots Q (F0 m (pc + 1) ls rest)) : W p l e R s m args below meth c H locs cells slots Q (F0 m pc ls (.int y :: .int x :: .ref (cx_b G + ly_loc 32 i) :: rest)) := r_iastJ X S (ly_ok_32 hi S.2.2.2) rfl (fun _ => rfl) hx hd kk
theorem ln_32 (X : cx_ok G p s m args meth c cc nL own ret) (S : st_ok G n I J s H locs) {i : Nat} (hi : i < 1) (hd : decode cc pc = .ok (.arraylength, 1)) (kk : W p l e R s m args below meth c H locs cells slots Q (F0 m (pc + 1) ls (.int (Int32.ofNat 160) :: rest))) : W p l e R s m args below meth c H locs cells slots Q (F0 m pc ls (.ref (cx_b G + ly_loc 32 i) :: rest)) := r_alen X S (ly_ok_32 hi S.2.2.2) rfl rfl hd kk
theorem al_33 (X : cx_ok G p s m args meth c cc nL own ret) (S : st_ok G n I J s H locs) {i : Nat} (hi : i < 1) {x : Int32} (hx : ix_in x 8 = true) (hd : decode cc pc = .ok (.iaload, 1)) (kk : W p l e R s m args below meth c H locs cells slots Q (F0 m (pc + 1) ls (.int (J 33 i x.toNatClampNeg) :: rest))) : W p l e R s m args below meth c H locs cells slots Q (F0 m pc ls (.int x :: .ref (cx_b G + ly_loc 33 i) :: rest)) := r_iald X S (ly_ok_33 hi S.2.2.2) rfl hx hd kk
theorem as_33 (X : cx_ok G p s m args meth c cc nL own ret) (S : st_ok G n I J s H locs) {i : Nat} (hi : i < 1) {x y : Int32} (hx : ix_in x 8 = true) (hd : decode cc pc = .ok (.iastore, 1)) (kk : ∀ (J1 : mm_T) (H1 : Heap) (locs1 : List Loc), J1 = mm_up J 33 i x.toNatClampNeg y → st_ok G n I J1 s H1 locs1 → W p l e R s m args below meth c H1 locs1 cells slots Q (F0 m (pc + 1) ls rest)) : W p l e R s m args below meth c H locs cells slots Q (F0 m pc ls (.int y :: .int x :: .ref (cx_b G + ly_loc 33 i) :: rest)) := r_iastJ X S (ly_ok_33 hi S.2.2.2) rfl (fun _ => rfl) hx hd kk
theorem ln_33 (X : cx_ok G p s m args meth c cc nL own ret) (S : st_ok G n I J s H locs) {i : Nat} (hi : i < 1) (hd : decode cc pc = .ok (.arraylength, 1)) (kk : W p l e R s m args below meth c H locs cells slots Q (F0 m (pc + 1) ls (.int (Int32.ofNat 8) :: rest))) : W p l e R s m args below meth c H locs cells slots Q (F0 m pc ls (.ref (cx_b G + ly_loc 33 i) :: rest)) := r_alen X S (ly_ok_33 hi S.2.2.2) rfl rfl hd kk
theorem al_34 (X : cx_ok G p s m args meth c cc nL own ret) (S : st_ok G n I J s H locs) {i : Nat} (hi : i < 1) {x : Int32} (hx : ix_in x 8 = true) (hd : decode cc pc = .ok (.iaload, 1)) (kk : W p l e R s m args below meth c H locs cells slots Q (F0 m (pc + 1) ls (.int (J 34 i x.toNatClampNeg) :: rest))) : W p l e R s m args below meth c H locs cells slots Q (F0 m pc ls (.int x :: .ref (cx_b G + ly_loc 34 i) :: rest)) := r_iald X S (ly_ok_34 hi S.2.2.2) rfl hx hd kk
theorem as_34 (X : cx_ok G p s m args meth c cc nL own ret) (S : st_ok G n I J s H locs) {i : Nat} (hi : i < 1) {x y : Int32} (hx : ix_in x 8 = true) (hd : decode cc pc = .ok (.iastore, 1)) (kk : ∀ (J1 : mm_T) (H1 : Heap) (locs1 : List Loc), J1 = mm_up J 34 i x.toNatClampNeg y → st_ok G n I J1 s H1 locs1 → W p l e R s m args below meth c H1 locs1 cells slots Q (F0 m (pc + 1) ls rest)) : W p l e R s m args below meth c H locs cells slots Q (F0 m pc ls (.int y :: .int x :: .ref (cx_b G + ly_loc 34 i) :: rest)) := r_iastJ X S (ly_ok_34 hi S.2.2.2) rfl (fun _ => rfl) hx hd kk
theorem ln_34 (X : cx_ok G p s m args meth c cc nL own ret) (S : st_ok G n I J s H locs) {i : Nat} (hi : i < 1) (hd : decode cc pc = .ok (.arraylength, 1)) (kk : W p l e R s m args below meth c H locs cells slots Q (F0 m (pc + 1) ls (.int (Int32.ofNat 8) :: rest))) : W p l e R s m args below meth c H locs cells slots Q (F0 m pc ls (.ref (cx_b G + ly_loc 34 i) :: rest)) := r_alen X S (ly_ok_34 hi S.2.2.2) rfl rfl hd kk
theorem al_35 (X : cx_ok G p s m args meth c cc nL own ret) (S : st_ok G n I J s H locs) {i : Nat} (hi : i < 1) {x : Int32} (hx : ix_in x 7 = true) (hd : decode cc pc = .ok (.iaload, 1)) (kk : W p l e R s m args below meth c H locs cells slots Q (F0 m (pc + 1) ls (.int (J 35 i x.toNatClampNeg) :: rest))) : W p l e R s m args below meth c H locs cells slots Q (F0 m pc ls (.int x :: .ref (cx_b G + ly_loc 35 i) :: rest)) := r_iald X S (ly_ok_35 hi S.2.2.2) rfl hx hd kk
theorem as_35 (X : cx_ok G p s m args meth c cc nL own ret) (S : st_ok G n I J s H locs) {i : Nat} (hi : i < 1) {x y : Int32} (hx : ix_in x 7 = true) (hd : decode cc pc = .ok (.iastore, 1)) (kk : ∀ (J1 : mm_T) (H1 : Heap) (locs1 : List Loc), J1 = mm_up J 35 i x.toNatClampNeg y → st_ok G n I J1 s H1 locs1 → W p l e R s m args below meth c H1 locs1 cells slots Q (F0 m (pc + 1) ls rest)) : W p l e R s m args below meth c H locs cells slots Q (F0 m pc ls (.int y :: .int x :: .ref (cx_b G + ly_loc 35 i) :: rest)) := r_iastJ X S (ly_ok_35 hi S.2.2.2) rfl (fun _ => rfl) hx hd kk
theorem ln_35 (X : cx_ok G p s m args meth c cc nL own ret) (S : st_ok G n I J s H locs) {i : Nat} (hi : i < 1) (hd : decode cc pc = .ok (.arraylength, 1)) (kk : W p l e R s m args below meth c H locs cells slots Q (F0 m (pc + 1) ls (.int (Int32.ofNat 7) :: rest))) : W p l e R s m args below meth c H locs cells slots Q (F0 m pc ls (.ref (cx_b G + ly_loc 35 i) :: rest)) := r_alen X S (ly_ok_35 hi S.2.2.2) rfl rfl hd kk
theorem al_36 (X : cx_ok G p s m args meth c cc nL own ret) (S : st_ok G n I J s H locs) {i : Nat} (hi : i < 1) {x : Int32} (hx : ix_in x 7 = true) (hd : decode cc pc = .ok (.iaload, 1)) (kk : W p l e R s m args below meth c H locs cells slots Q (F0 m (pc + 1) ls (.int (J 36 i x.toNatClampNeg) :: rest))) : W p l e R s m args below meth c H locs cells slots Q (F0 m pc ls (.int x :: .ref (cx_b G + ly_loc 36 i) :: rest)) := r_iald X S (ly_ok_36 hi S.2.2.2) rfl hx hd kk
theorem as_36 (X : cx_ok G p s m args meth c cc nL own ret) (S : st_ok G n I J s H locs) {i : Nat} (hi : i < 1) {x y : Int32} (hx : ix_in x 7 = true) (hd : decode cc pc = .ok (.iastore, 1)) (kk : ∀ (J1 : mm_T) (H1 : Heap) (locs1 : List Loc), J1 = mm_up J 36 i x.toNatClampNeg y → st_ok G n I J1 s H1 locs1 → W p l e R s m args below meth c H1 locs1 cells slots Q (F0 m (pc + 1) ls rest)) : W p l e R s m args below meth c H locs cells slots Q (F0 m pc ls (.int y :: .int x :: .ref (cx_b G + ly_loc 36 i) :: rest)) := r_iastJ X S (ly_ok_36 hi S.2.2.2) rfl (fun _ => rfl) hx hd kk
theorem ln_36 (X : cx_ok G p s m args meth c cc nL own ret) (S : st_ok G n I J s H locs) {i : Nat} (hi : i < 1) (hd : decode cc pc = .ok (.arraylength, 1)) (kk : W p l e R s m args below meth c H locs cells slots Q (F0 m (pc + 1) ls (.int (Int32.ofNat 7) :: rest))) : W p l e R s m args below meth c H locs cells slots Q (F0 m pc ls (.ref (cx_b G + ly_loc 36 i) :: rest)) := r_alen X S (ly_ok_36 hi S.2.2.2) rfl rfl hd kk
theorem al_37 (X : cx_ok G p s m args meth c cc nL own ret) (S : st_ok G n I J s H locs) {i : Nat} (hi : i < 1) {x : Int32} (hx : ix_in x 7 = true) (hd : decode cc pc = .ok (.iaload, 1)) (kk : W p l e R s m args below meth c H locs cells slots Q (F0 m (pc + 1) ls (.int (J 37 i x.toNatClampNeg) :: rest))) : W p l e R s m args below meth c H locs cells slots Q (F0 m pc ls (.int x :: .ref (cx_b G + ly_loc 37 i) :: rest)) := r_iald X S (ly_ok_37 hi S.2.2.2) rfl hx hd kk
theorem as_37 (X : cx_ok G p s m args meth c cc nL own ret) (S : st_ok G n I J s H locs) {i : Nat} (hi : i < 1) {x y : Int32} (hx : ix_in x 7 = true) (hd : decode cc pc = .ok (.iastore, 1)) (kk : ∀ (J1 : mm_T) (H1 : Heap) (locs1 : List Loc), J1 = mm_up J 37 i x.toNatClampNeg y → st_ok G n I J1 s H1 locs1 → W p l e R s m args below meth c H1 locs1 cells slots Q (F0 m (pc + 1) ls rest)) : W p l e R s m args below meth c H locs cells slots Q (F0 m pc ls (.int y :: .int x :: .ref (cx_b G + ly_loc 37 i) :: rest)) := r_iastJ X S (ly_ok_37 hi S.2.2.2) rfl (fun _ => rfl) hx hd kk
theorem ln_37 (X : cx_ok G p s m args meth c cc nL own ret) (S : st_ok G n I J s H locs) {i : Nat} (hi : i < 1) (hd : decode cc pc = .ok (.arraylength, 1)) (kk : W p l e R s m args below meth c H locs cells slots Q (F0 m (pc + 1) ls (.int (Int32.ofNat 7) :: rest))) : W p l e R s m args below meth c H locs cells slots Q (F0 m pc ls (.ref (cx_b G + ly_loc 37 i) :: rest)) := r_alen X S (ly_ok_37 hi S.2.2.2) rfl rfl hd kk
theorem al_38 (X : cx_ok G p s m args meth c cc nL own ret) (S : st_ok G n I J s H locs) {i : Nat} (hi : i < 1) {x : Int32} (hx : ix_in x 7 = true) (hd : decode cc pc = .ok (.iaload, 1)) (kk : W p l e R s m args below meth c H locs cells slots Q (F0 m (pc + 1) ls (.int (J 38 i x.toNatClampNeg) :: rest))) : W p l e R s m args below meth c H locs cells slots Q (F0 m pc ls (.int x :: .ref (cx_b G + ly_loc 38 i) :: rest)) := r_iald X S (ly_ok_38 hi S.2.2.2) rfl hx hd kk
theorem as_38 (X : cx_ok G p s m args meth c cc nL own ret) (S : st_ok G n I J s H locs) {i : Nat} (hi : i < 1) {x y : Int32} (hx : ix_in x 7 = true) (hd : decode cc pc = .ok (.iastore, 1)) (kk : ∀ (J1 : mm_T) (H1 : Heap) (locs1 : List Loc), J1 = mm_up J 38 i x.toNatClampNeg y → st_ok G n I J1 s H1 locs1 → W p l e R s m args below meth c H1 locs1 cells slots Q (F0 m (pc + 1) ls rest)) : W p l e R s m args below meth c H locs cells slots Q (F0 m pc ls (.int y :: .int x :: .ref (cx_b G + ly_loc 38 i) :: rest)) := r_iastJ X S (ly_ok_38 hi S.2.2.2) rfl (fun _ => rfl) hx hd kk
theorem ln_38 (X : cx_ok G p s m args meth c cc nL own ret) (S : st_ok G n I J s H locs) {i : Nat} (hi : i < 1) (hd : decode cc pc = .ok (.arraylength, 1)) (kk : W p l e R s m args below meth c H locs cells slots Q (F0 m (pc + 1) ls (.int (Int32.ofNat 7) :: rest))) : W p l e R s m args below meth c H locs cells slots Q (F0 m pc ls (.ref (cx_b G + ly_loc 38 i) :: rest)) := r_alen X S (ly_ok_38 hi S.2.2.2) rfl rfl hd kk
theorem al_39 (X : cx_ok G p s m args meth c cc nL own ret) (S : st_ok G n I J s H locs) {i : Nat} (hi : i < 1) {x : Int32} (hx : ix_in x 8 = true) (hd : decode cc pc = .ok (.iaload, 1)) (kk : W p l e R s m args below meth c H locs cells slots Q (F0 m (pc + 1) ls (.int (J 39 i x.toNatClampNeg) :: rest))) : W p l e R s m args below meth c H locs cells slots Q (F0 m pc ls (.int x :: .ref (cx_b G + ly_loc 39 i) :: rest)) := r_iald X S (ly_ok_39 hi S.2.2.2) rfl hx hd kk
theorem as_39 (X : cx_ok G p s m args meth c cc nL own ret) (S : st_ok G n I J s H locs) {i : Nat} (hi : i < 1) {x y : Int32} (hx : ix_in x 8 = true) (hd : decode cc pc = .ok (.iastore, 1)) (kk : ∀ (J1 : mm_T) (H1 : Heap) (locs1 : List Loc), J1 = mm_up J 39 i x.toNatClampNeg y → st_ok G n I J1 s H1 locs1 → W p l e R s m args below meth c H1 locs1 cells slots Q (F0 m (pc + 1) ls rest)) : W p l e R s m args below meth c H locs cells slots Q (F0 m pc ls (.int y :: .int x :: .ref (cx_b G + ly_loc 39 i) :: rest)) := r_iastJ X S (ly_ok_39 hi S.2.2.2) rfl (fun _ => rfl) hx hd kk
theorem ln_39 (X : cx_ok G p s m args meth c cc nL own ret) (S : st_ok G n I J s H locs) {i : Nat} (hi : i < 1) (hd : decode cc pc = .ok (.arraylength, 1)) (kk : W p l e R s m args below meth c H locs cells slots Q (F0 m (pc + 1) ls (.int (Int32.ofNat 8) :: rest))) : W p l e R s m args below meth c H locs cells slots Q (F0 m pc ls (.ref (cx_b G + ly_loc 39 i) :: rest)) := r_alen X S (ly_ok_39 hi S.2.2.2) rfl rfl hd kk
theorem al_40 (X : cx_ok G p s m args meth c cc nL own ret) (S : st_ok G n I J s H locs) {i : Nat} (hi : i < 1) {x : Int32} (hx : ix_in x 8 = true) (hd : decode cc pc = .ok (.iaload, 1)) (kk : W p l e R s m args below meth c H locs cells slots Q (F0 m (pc + 1) ls (.int (J 40 i x.toNatClampNeg) :: rest))) : W p l e R s m args below meth c H locs cells slots Q (F0 m pc ls (.int x :: .ref (cx_b G + ly_loc 40 i) :: rest)) := r_iald X S (ly_ok_40 hi S.2.2.2) rfl hx hd kk
theorem as_40 (X : cx_ok G p s m args meth c cc nL own ret) (S : st_ok G n I J s H locs) {i : Nat} (hi : i < 1) {x y : Int32} (hx : ix_in x 8 = true) (hd : decode cc pc = .ok (.iastore, 1)) (kk : ∀ (J1 : mm_T) (H1 : Heap) (locs1 : List Loc), J1 = mm_up J 40 i x.toNatClampNeg y → st_ok G n I J1 s H1 locs1 → W p l e R s m args below meth c H1 locs1 cells slots Q (F0 m (pc + 1) ls rest)) : W p l e R s m args below meth c H locs cells slots Q (F0 m pc ls (.int y :: .int x :: .ref (cx_b G + ly_loc 40 i) :: rest)) := r_iastJ X S (ly_ok_40 hi S.2.2.2) rfl (fun _ => rfl) hx hd kk
theorem ln_40 (X : cx_ok G p s m args meth c cc nL own ret) (S : st_ok G n I J s H locs) {i : Nat} (hi : i < 1) (hd : decode cc pc = .ok (.arraylength, 1)) (kk : W p l e R s m args below meth c H locs cells slots Q (F0 m (pc + 1) ls (.int (Int32.ofNat 8) :: rest))) : W p l e R s m args below meth c H locs cells slots Q (F0 m pc ls (.ref (cx_b G + ly_loc 40 i) :: rest)) := r_alen X S (ly_ok_40 hi S.2.2.2) rfl rfl hd kk
theorem al_41 (X : cx_ok G p s m args meth c cc nL own ret) (S : st_ok G n I J s H locs) {i : Nat} (hi : i < 1) {x : Int32} (hx : ix_in x 7 = true) (hd : decode cc pc = .ok (.iaload, 1)) (kk : W p l e R s m args below meth c H locs cells slots Q (F0 m (pc + 1) ls (.int (J 41 i x.toNatClampNeg) :: rest))) : W p l e R s m args below meth c H locs cells slots Q (F0 m pc ls (.int x :: .ref (cx_b G + ly_loc 41 i) :: rest)) := r_iald X S (ly_ok_41 hi S.2.2.2) rfl hx hd kk
theorem as_41 (X : cx_ok G p s m args meth c cc nL own ret) (S : st_ok G n I J s H locs) {i : Nat} (hi : i < 1) {x y : Int32} (hx : ix_in x 7 = true) (hd : decode cc pc = .ok (.iastore, 1)) (kk : ∀ (J1 : mm_T) (H1 : Heap) (locs1 : List Loc), J1 = mm_up J 41 i x.toNatClampNeg y → st_ok G n I J1 s H1 locs1 → W p l e R s m args below meth c H1 locs1 cells slots Q (F0 m (pc + 1) ls rest)) : W p l e R s m args below meth c H locs cells slots Q (F0 m pc ls (.int y :: .int x :: .ref (cx_b G + ly_loc 41 i) :: rest)) := r_iastJ X S (ly_ok_41 hi S.2.2.2) rfl (fun _ => rfl) hx hd kk
theorem ln_41 (X : cx_ok G p s m args meth c cc nL own ret) (S : st_ok G n I J s H locs) {i : Nat} (hi : i < 1) (hd : decode cc pc = .ok (.arraylength, 1)) (kk : W p l e R s m args below meth c H locs cells slots Q (F0 m (pc + 1) ls (.int (Int32.ofNat 7) :: rest))) : W p l e R s m args below meth c H locs cells slots Q (F0 m pc ls (.ref (cx_b G + ly_loc 41 i) :: rest)) := r_alen X S (ly_ok_41 hi S.2.2.2) rfl rfl hd kk
theorem al_42 (X : cx_ok G p s m args meth c cc nL own ret) (S : st_ok G n I J s H locs) {i : Nat} (hi : i < 1) {x : Int32} (hx : ix_in x 56 = true) (hd : decode cc pc = .ok (.iaload, 1)) (kk : W p l e R s m args below meth c H locs cells slots Q (F0 m (pc + 1) ls (.int (J 42 i x.toNatClampNeg) :: rest))) : W p l e R s m args below meth c H locs cells slots Q (F0 m pc ls (.int x :: .ref (cx_b G + ly_loc 42 i) :: rest)) := r_iald X S (ly_ok_42 hi S.2.2.2) rfl hx hd kk
theorem as_42 (X : cx_ok G p s m args meth c cc nL own ret) (S : st_ok G n I J s H locs) {i : Nat} (hi : i < 1) {x y : Int32} (hx : ix_in x 56 = true) (hd : decode cc pc = .ok (.iastore, 1)) (kk : ∀ (J1 : mm_T) (H1 : Heap) (locs1 : List Loc), J1 = mm_up J 42 i x.toNatClampNeg y → st_ok G n I J1 s H1 locs1 → W p l e R s m args below meth c H1 locs1 cells slots Q (F0 m (pc + 1) ls rest)) : W p l e R s m args below meth c H locs cells slots Q (F0 m pc ls (.int y :: .int x :: .ref (cx_b G + ly_loc 42 i) :: rest)) := r_iastJ X S (ly_ok_42 hi S.2.2.2) rfl (fun _ => rfl) hx hd kk
theorem ln_42 (X : cx_ok G p s m args meth c cc nL own ret) (S : st_ok G n I J s H locs) {i : Nat} (hi : i < 1) (hd : decode cc pc = .ok (.arraylength, 1)) (kk : W p l e R s m args below meth c H locs cells slots Q (F0 m (pc + 1) ls (.int (Int32.ofNat 56) :: rest))) : W p l e R s m args below meth c H locs cells slots Q (F0 m pc ls (.ref (cx_b G + ly_loc 42 i) :: rest)) := r_alen X S (ly_ok_42 hi S.2.2.2) rfl rfl hd kk
theorem al_43 (X : cx_ok G p s m args meth c cc nL own ret) (S : st_ok G n I J s H locs) {i : Nat} (hi : i < 1) {x : Int32} (hx : ix_in x 64 = true) (hd : decode cc pc = .ok (.iaload, 1)) (kk : W p l e R s m args below meth c H locs cells slots Q (F0 m (pc + 1) ls (.int (J 43 i x.toNatClampNeg) :: rest))) : W p l e R s m args below meth c H locs cells slots Q (F0 m pc ls (.int x :: .ref (cx_b G + ly_loc 43 i) :: rest)) := r_iald X S (ly_ok_43 hi S.2.2.2) rfl hx hd kk
theorem as_43 (X : cx_ok G p s m args meth c cc nL own ret) (S : st_ok G n I J s H locs) {i : Nat} (hi : i < 1) {x y : Int32} (hx : ix_in x 64 = true) (hd : decode cc pc = .ok (.iastore, 1)) (kk : ∀ (J1 : mm_T) (H1 : Heap) (locs1 : List Loc), J1 = mm_up J 43 i x.toNatClampNeg y → st_ok G n I J1 s H1 locs1 → W p l e R s m args below meth c H1 locs1 cells slots Q (F0 m (pc + 1) ls rest)) : W p l e R s m args below meth c H locs cells slots Q (F0 m pc ls (.int y :: .int x :: .ref (cx_b G + ly_loc 43 i) :: rest)) := r_iastJ X S (ly_ok_43 hi S.2.2.2) rfl (fun _ => rfl) hx hd kk
theorem ln_43 (X : cx_ok G p s m args meth c cc nL own ret) (S : st_ok G n I J s H locs) {i : Nat} (hi : i < 1) (hd : decode cc pc = .ok (.arraylength, 1)) (kk : W p l e R s m args below meth c H locs cells slots Q (F0 m (pc + 1) ls (.int (Int32.ofNat 64) :: rest))) : W p l e R s m args below meth c H locs cells slots Q (F0 m pc ls (.ref (cx_b G + ly_loc 43 i) :: rest)) := r_alen X S (ly_ok_43 hi S.2.2.2) rfl rfl hd kk
theorem al_44 (X : cx_ok G p s m args meth c cc nL own ret) (S : st_ok G n I J s H locs) {i : Nat} (hi : i < 1) {x : Int32} (hx : ix_in x 64 = true) (hd : decode cc pc = .ok (.iaload, 1)) (kk : W p l e R s m args below meth c H locs cells slots Q (F0 m (pc + 1) ls (.int (J 44 i x.toNatClampNeg) :: rest))) : W p l e R s m args below meth c H locs cells slots Q (F0 m pc ls (.int x :: .ref (cx_b G + ly_loc 44 i) :: rest)) := r_iald X S (ly_ok_44 hi S.2.2.2) rfl hx hd kk
theorem as_44 (X : cx_ok G p s m args meth c cc nL own ret) (S : st_ok G n I J s H locs) {i : Nat} (hi : i < 1) {x y : Int32} (hx : ix_in x 64 = true) (hd : decode cc pc = .ok (.iastore, 1)) (kk : ∀ (J1 : mm_T) (H1 : Heap) (locs1 : List Loc), J1 = mm_up J 44 i x.toNatClampNeg y → st_ok G n I J1 s H1 locs1 → W p l e R s m args below meth c H1 locs1 cells slots Q (F0 m (pc + 1) ls rest)) : W p l e R s m args below meth c H locs cells slots Q (F0 m pc ls (.int y :: .int x :: .ref (cx_b G + ly_loc 44 i) :: rest)) := r_iastJ X S (ly_ok_44 hi S.2.2.2) rfl (fun _ => rfl) hx hd kk
theorem ln_44 (X : cx_ok G p s m args meth c cc nL own ret) (S : st_ok G n I J s H locs) {i : Nat} (hi : i < 1) (hd : decode cc pc = .ok (.arraylength, 1)) (kk : W p l e R s m args below meth c H locs cells slots Q (F0 m (pc + 1) ls (.int (Int32.ofNat 64) :: rest))) : W p l e R s m args below meth c H locs cells slots Q (F0 m pc ls (.ref (cx_b G + ly_loc 44 i) :: rest)) := r_alen X S (ly_ok_44 hi S.2.2.2) rfl rfl hd kk
theorem al_45 (X : cx_ok G p s m args meth c cc nL own ret) (S : st_ok G n I J s H locs) {i : Nat} (hi : i < 1) {x : Int32} (hx : ix_in x 16 = true) (hd : decode cc pc = .ok (.iaload, 1)) (kk : W p l e R s m args below meth c H locs cells slots Q (F0 m (pc + 1) ls (.int (J 45 i x.toNatClampNeg) :: rest))) : W p l e R s m args below meth c H locs cells slots Q (F0 m pc ls (.int x :: .ref (cx_b G + ly_loc 45 i) :: rest)) := r_iald X S (ly_ok_45 hi S.2.2.2) rfl hx hd kk
theorem as_45 (X : cx_ok G p s m args meth c cc nL own ret) (S : st_ok G n I J s H locs) {i : Nat} (hi : i < 1) {x y : Int32} (hx : ix_in x 16 = true) (hd : decode cc pc = .ok (.iastore, 1)) (kk : ∀ (J1 : mm_T) (H1 : Heap) (locs1 : List Loc), J1 = mm_up J 45 i x.toNatClampNeg y → st_ok G n I J1 s H1 locs1 → W p l e R s m args below meth c H1 locs1 cells slots Q (F0 m (pc + 1) ls rest)) : W p l e R s m args below meth c H locs cells slots Q (F0 m pc ls (.int y :: .int x :: .ref (cx_b G + ly_loc 45 i) :: rest)) := r_iastJ X S (ly_ok_45 hi S.2.2.2) rfl (fun _ => rfl) hx hd kk
theorem ln_45 (X : cx_ok G p s m args meth c cc nL own ret) (S : st_ok G n I J s H locs) {i : Nat} (hi : i < 1) (hd : decode cc pc = .ok (.arraylength, 1)) (kk : W p l e R s m args below meth c H locs cells slots Q (F0 m (pc + 1) ls (.int (Int32.ofNat 16) :: rest))) : W p l e R s m args below meth c H locs cells slots Q (F0 m pc ls (.ref (cx_b G + ly_loc 45 i) :: rest)) := r_alen X S (ly_ok_45 hi S.2.2.2) rfl rfl hd kk
theorem al_46 (X : cx_ok G p s m args meth c cc nL own ret) (S : st_ok G n I J s H locs) {i : Nat} (hi : i < 1) {x : Int32} (hx : ix_in x 21 = true) (hd : decode cc pc = .ok (.iaload, 1)) (kk : W p l e R s m args below meth c H locs cells slots Q (F0 m (pc + 1) ls (.int (J 46 i x.toNatClampNeg) :: rest))) : W p l e R s m args below meth c H locs cells slots Q (F0 m pc ls (.int x :: .ref (cx_b G + ly_loc 46 i) :: rest)) := r_iald X S (ly_ok_46 hi S.2.2.2) rfl hx hd kk
theorem as_46 (X : cx_ok G p s m args meth c cc nL own ret) (S : st_ok G n I J s H locs) {i : Nat} (hi : i < 1) {x y : Int32} (hx : ix_in x 21 = true) (hd : decode cc pc = .ok (.iastore, 1)) (kk : ∀ (J1 : mm_T) (H1 : Heap) (locs1 : List Loc), J1 = mm_up J 46 i x.toNatClampNeg y → st_ok G n I J1 s H1 locs1 → W p l e R s m args below meth c H1 locs1 cells slots Q (F0 m (pc + 1) ls rest)) : W p l e R s m args below meth c H locs cells slots Q (F0 m pc ls (.int y :: .int x :: .ref (cx_b G + ly_loc 46 i) :: rest)) := r_iastJ X S (ly_ok_46 hi S.2.2.2) rfl (fun _ => rfl) hx hd kk
theorem ln_46 (X : cx_ok G p s m args meth c cc nL own ret) (S : st_ok G n I J s H locs) {i : Nat} (hi : i < 1) (hd : decode cc pc = .ok (.arraylength, 1)) (kk : W p l e R s m args below meth c H locs cells slots Q (F0 m (pc + 1) ls (.int (Int32.ofNat 21) :: rest))) : W p l e R s m args below meth c H locs cells slots Q (F0 m pc ls (.ref (cx_b G + ly_loc 46 i) :: rest)) := r_alen X S (ly_ok_46 hi S.2.2.2) rfl rfl hd kk
theorem al_47 (X : cx_ok G p s m args meth c cc nL own ret) (S : st_ok G n I J s H locs) {i : Nat} (hi : i < 1) {x : Int32} (hx : ix_in x 4 = true) (hd : decode cc pc = .ok (.baload, 1)) (kk : W p l e R s m args below meth c H locs cells slots Q (F0 m (pc + 1) ls (.int (J 47 i x.toNatClampNeg) :: rest))) : W p l e R s m args below meth c H locs cells slots Q (F0 m pc ls (.int x :: .ref (cx_b G + ly_loc 47 i) :: rest)) := r_zald X S (ly_ok_47 hi S.2.2.2) rfl hx hd kk
theorem as_47 (X : cx_ok G p s m args meth c cc nL own ret) (S : st_ok G n I J s H locs) {i : Nat} (hi : i < 1) {x y : Int32} (hx : ix_in x 4 = true) (hd : decode cc pc = .ok (.bastore, 1)) (kk : ∀ (J1 : mm_T) (H1 : Heap) (locs1 : List Loc), J1 = mm_up J 47 i x.toNatClampNeg (vp_nar .boolean y) → st_ok G n I J1 s H1 locs1 → W p l e R s m args below meth c H1 locs1 cells slots Q (F0 m (pc + 1) ls rest)) : W p l e R s m args below meth c H locs cells slots Q (F0 m pc ls (.int y :: .int x :: .ref (cx_b G + ly_loc 47 i) :: rest)) := r_zastJ X S (ly_ok_47 hi S.2.2.2) rfl (fun _ => rfl) hx hd kk
theorem al_48 (X : cx_ok G p s m args meth c cc nL own ret) (S : st_ok G n I J s H locs) {i : Nat} (hi : i < 1) {x : Int32} (hx : ix_in x 4 = true) (hd : decode cc pc = .ok (.iaload, 1)) (kk : W p l e R s m args below meth c H locs cells slots Q (F0 m (pc + 1) ls (.int (J 48 i x.toNatClampNeg) :: rest))) : W p l e R s m args below meth c H locs cells slots Q (F0 m pc ls (.int x :: .ref (cx_b G + ly_loc 48 i) :: rest)) := r_iald X S (ly_ok_48 hi S.2.2.2) rfl hx hd kk
theorem as_48 (X : cx_ok G p s m args meth c cc nL own ret) (S : st_ok G n I J s H locs) {i : Nat} (hi : i < 1) {x y : Int32} (hx : ix_in x 4 = true) (hd : decode cc pc = .ok (.iastore, 1)) (kk : ∀ (J1 : mm_T) (H1 : Heap) (locs1 : List Loc), J1 = mm_up J 48 i x.toNatClampNeg y → st_ok G n I J1 s H1 locs1 → W p l e R s m args below meth c H1 locs1 cells slots Q (F0 m (pc + 1) ls rest)) : W p l e R s m args below meth c H locs cells slots Q (F0 m pc ls (.int y :: .int x :: .ref (cx_b G + ly_loc 48 i) :: rest)) := r_iastJ X S (ly_ok_48 hi S.2.2.2) rfl (fun _ => rfl) hx hd kk
theorem ln_48 (X : cx_ok G p s m args meth c cc nL own ret) (S : st_ok G n I J s H locs) {i : Nat} (hi : i < 1) (hd : decode cc pc = .ok (.arraylength, 1)) (kk : W p l e R s m args below meth c H locs cells slots Q (F0 m (pc + 1) ls (.int (Int32.ofNat 4) :: rest))) : W p l e R s m args below meth c H locs cells slots Q (F0 m pc ls (.ref (cx_b G + ly_loc 48 i) :: rest)) := r_alen X S (ly_ok_48 hi S.2.2.2) rfl rfl hd kk
theorem al_49 (X : cx_ok G p s m args meth c cc nL own ret) (S : st_ok G n I J s H locs) {i : Nat} (hi : i < 1) {x : Int32} (hx : ix_in x 4 = true) (hd : decode cc pc = .ok (.iaload, 1)) (kk : W p l e R s m args below meth c H locs cells slots Q (F0 m (pc + 1) ls (.int (J 49 i x.toNatClampNeg) :: rest))) : W p l e R s m args below meth c H locs cells slots Q (F0 m pc ls (.int x :: .ref (cx_b G + ly_loc 49 i) :: rest)) := r_iald X S (ly_ok_49 hi S.2.2.2) rfl hx hd kk
theorem as_49 (X : cx_ok G p s m args meth c cc nL own ret) (S : st_ok G n I J s H locs) {i : Nat} (hi : i < 1) {x y : Int32} (hx : ix_in x 4 = true) (hd : decode cc pc = .ok (.iastore, 1)) (kk : ∀ (J1 : mm_T) (H1 : Heap) (locs1 : List Loc), J1 = mm_up J 49 i x.toNatClampNeg y → st_ok G n I J1 s H1 locs1 → W p l e R s m args below meth c H1 locs1 cells slots Q (F0 m (pc + 1) ls rest)) : W p l e R s m args below meth c H locs cells slots Q (F0 m pc ls (.int y :: .int x :: .ref (cx_b G + ly_loc 49 i) :: rest)) := r_iastJ X S (ly_ok_49 hi S.2.2.2) rfl (fun _ => rfl) hx hd kk
theorem ln_49 (X : cx_ok G p s m args meth c cc nL own ret) (S : st_ok G n I J s H locs) {i : Nat} (hi : i < 1) (hd : decode cc pc = .ok (.arraylength, 1)) (kk : W p l e R s m args below meth c H locs cells slots Q (F0 m (pc + 1) ls (.int (Int32.ofNat 4) :: rest))) : W p l e R s m args below meth c H locs cells slots Q (F0 m pc ls (.ref (cx_b G + ly_loc 49 i) :: rest)) := r_alen X S (ly_ok_49 hi S.2.2.2) rfl rfl hd kk
theorem al_50 (X : cx_ok G p s m args meth c cc nL own ret) (S : st_ok G n I J s H locs) {i : Nat} (hi : i < 1) {x : Int32} (hx : ix_in x 160 = true) (hd : decode cc pc = .ok (.iaload, 1)) (kk : W p l e R s m args below meth c H locs cells slots Q (F0 m (pc + 1) ls (.int (J 50 i x.toNatClampNeg) :: rest))) : W p l e R s m args below meth c H locs cells slots Q (F0 m pc ls (.int x :: .ref (cx_b G + ly_loc 50 i) :: rest)) := r_iald X S (ly_ok_50 hi S.2.2.2) rfl hx hd kk
theorem as_50 (X : cx_ok G p s m args meth c cc nL own ret) (S : st_ok G n I J s H locs) {i : Nat} (hi : i < 1) {x y : Int32} (hx : ix_in x 160 = true) (hd : decode cc pc = .ok (.iastore, 1)) (kk : ∀ (J1 : mm_T) (H1 : Heap) (locs1 : List Loc), J1 = mm_up J 50 i x.toNatClampNeg y → st_ok G n I J1 s H1 locs1 → W p l e R s m args below meth c H1 locs1 cells slots Q (F0 m (pc + 1) ls rest)) : W p l e R s m args below meth c H locs cells slots Q (F0 m pc ls (.int y :: .int x :: .ref (cx_b G + ly_loc 50 i) :: rest)) := r_iastJ X S (ly_ok_50 hi S.2.2.2) rfl (fun _ => rfl) hx hd kk
theorem ln_50 (X : cx_ok G p s m args meth c cc nL own ret) (S : st_ok G n I J s H locs) {i : Nat} (hi : i < 1) (hd : decode cc pc = .ok (.arraylength, 1)) (kk : W p l e R s m args below meth c H locs cells slots Q (F0 m (pc + 1) ls (.int (Int32.ofNat 160) :: rest))) : W p l e R s m args below meth c H locs cells slots Q (F0 m pc ls (.ref (cx_b G + ly_loc 50 i) :: rest)) := r_alen X S (ly_ok_50 hi S.2.2.2) rfl rfl hd kk
end RS
theorem cw_J0_charAt_5068e : Cond.code yJ0_charAt_5068e cJ0_charAt_5068e 2 (some .char) ∈ gw_t := gw_mem 340 (by decide +kernel) (by decide +kernel)
theorem ny_J0_charAt_5068e : yJ0_charAt_5068e.cls ≠ "java/lang/invoke/MethodHandle" ∧ yJ0_charAt_5068e.cls ≠ "java/lang/invoke/VarHandle" ∧ (parseMethodDescriptor yJ0_charAt_5068e.desc).map (fun d => d.parameters.length) = some 1 := by decide +kernel
theorem cw_J0_checkBoundsBeginEnd_23922 : Cond.code yJ0_checkBoundsBeginEnd_23922 cJ0_checkBoundsBeginEnd_23922 3 none ∈ gw_t := gw_mem 458 (by decide +kernel) (by decide +kernel)
theorem ny_J0_checkBoundsBeginEnd_23922 : yJ0_checkBoundsBeginEnd_23922.cls ≠ "java/lang/invoke/MethodHandle" ∧ yJ0_checkBoundsBeginEnd_23922.cls ≠ "java/lang/invoke/VarHandle" ∧ (parseMethodDescriptor yJ0_checkBoundsBeginEnd_23922.desc).map (fun d => d.parameters.length) = some 3 := by decide +kernel
theorem cw_J0_checkIndex_df160 : Cond.code yJ0_checkIndex_df160 cJ0_checkIndex_df160 2 none ∈ gw_t := gw_mem 350 (by decide +kernel) (by decide +kernel)
theorem ny_J0_checkIndex_df160 : yJ0_checkIndex_df160.cls ≠ "java/lang/invoke/MethodHandle" ∧ yJ0_checkIndex_df160.cls ≠ "java/lang/invoke/VarHandle" ∧ (parseMethodDescriptor yJ0_checkIndex_df160.desc).map (fun d => d.parameters.length) = some 2 := by decide +kernel
theorem cw_J0_coder_7d493 : Cond.code yJ0_coder_7d493 cJ0_coder_7d493 1 (some .byte) ∈ gw_t := gw_mem 334 (by decide +kernel) (by decide +kernel)
theorem ny_J0_coder_7d493 : yJ0_coder_7d493.cls ≠ "java/lang/invoke/MethodHandle" ∧ yJ0_coder_7d493.cls ≠ "java/lang/invoke/VarHandle" ∧ (parseMethodDescriptor yJ0_coder_7d493.desc).map (fun d => d.parameters.length) = some 0 := by decide +kernel
theorem cw_J0_indexOf_0f7a4 : Cond.code yJ0_indexOf_0f7a4 cJ0_indexOf_0f7a4 2 (some .int) ∈ gw_t := gw_mem 423 (by decide +kernel) (by decide +kernel)
theorem ny_J0_indexOf_0f7a4 : yJ0_indexOf_0f7a4.cls ≠ "java/lang/invoke/MethodHandle" ∧ yJ0_indexOf_0f7a4.cls ≠ "java/lang/invoke/VarHandle" ∧ (parseMethodDescriptor yJ0_indexOf_0f7a4.desc).map (fun d => d.parameters.length) = some 1 := by decide +kernel
theorem cw_J0_indexOf_7cf53 : Cond.code yJ0_indexOf_7cf53 cJ0_indexOf_7cf53 3 (some .int) ∈ gw_t := gw_mem 427 (by decide +kernel) (by decide +kernel)
theorem ny_J0_indexOf_7cf53 : yJ0_indexOf_7cf53.cls ≠ "java/lang/invoke/MethodHandle" ∧ yJ0_indexOf_7cf53.cls ≠ "java/lang/invoke/VarHandle" ∧ (parseMethodDescriptor yJ0_indexOf_7cf53.desc).map (fun d => d.parameters.length) = some 2 := by decide +kernel
theorem cw_J0_isLatin1_aae02 : Cond.code yJ0_isLatin1_aae02 cJ0_isLatin1_aae02 1 (some .boolean) ∈ gw_t := gw_mem 344 (by decide +kernel) (by decide +kernel)
theorem ny_J0_isLatin1_aae02 : yJ0_isLatin1_aae02.cls ≠ "java/lang/invoke/MethodHandle" ∧ yJ0_isLatin1_aae02.cls ≠ "java/lang/invoke/VarHandle" ∧ (parseMethodDescriptor yJ0_isLatin1_aae02.desc).map (fun d => d.parameters.length) = some 0 := by decide +kernel
theorem cw_J0_length_8abf5 : Cond.code yJ0_length_8abf5 cJ0_length_8abf5 1 (some .int) ∈ gw_t := gw_mem 330 (by decide +kernel) (by decide +kernel)
theorem ny_J0_length_8abf5 : yJ0_length_8abf5.cls ≠ "java/lang/invoke/MethodHandle" ∧ yJ0_length_8abf5.cls ≠ "java/lang/invoke/VarHandle" ∧ (parseMethodDescriptor yJ0_length_8abf5.desc).map (fun d => d.parameters.length) = some 0 := by decide +kernel
theorem cw_J11_highSurrogate_5068e : Cond.code yJ11_highSurrogate_5068e cJ11_highSurrogate_5068e 1 (some .char) ∈ gw_t := gw_mem 473 (by decide +kernel) (by decide +kernel)
theorem ny_J11_highSurrogate_5068e : yJ11_highSurrogate_5068e.cls ≠ "java/lang/invoke/MethodHandle" ∧ yJ11_highSurrogate_5068e.cls ≠ "java/lang/invoke/VarHandle" ∧ (parseMethodDescriptor yJ11_highSurrogate_5068e.desc).map (fun d => d.parameters.length) = some 1 := by decide +kernel
theorem cw_J11_isValidCodePoint_9a6ad : Cond.code yJ11_isValidCodePoint_9a6ad cJ11_isValidCodePoint_9a6ad 2 (some .boolean) ∈ gw_t := gw_mem 470 (by decide +kernel) (by decide +kernel)
theorem ny_J11_isValidCodePoint_9a6ad : yJ11_isValidCodePoint_9a6ad.cls ≠ "java/lang/invoke/MethodHandle" ∧ yJ11_isValidCodePoint_9a6ad.cls ≠ "java/lang/invoke/VarHandle" ∧ (parseMethodDescriptor yJ11_isValidCodePoint_9a6ad.desc).map (fun d => d.parameters.length) = some 1 := by decide +kernel
theorem cw_J11_lowSurrogate_5068e : Cond.code yJ11_lowSurrogate_5068e cJ11_lowSurrogate_5068e 1 (some .char) ∈ gw_t := gw_mem 477 (by decide +kernel) (by decide +kernel)
theorem ny_J11_lowSurrogate_5068e : yJ11_lowSurrogate_5068e.cls ≠ "java/lang/invoke/MethodHandle" ∧ yJ11_lowSurrogate_5068e.cls ≠ "java/lang/invoke/VarHandle" ∧ (parseMethodDescriptor yJ11_lowSurrogate_5068e.desc).map (fun d => d.parameters.length) = some 1 := by decide +kernel
theorem cw_J1_canEncode_9a6ad : Cond.code yJ1_canEncode_9a6ad cJ1_canEncode_9a6ad 1 (some .boolean) ∈ gw_t := gw_mem 434 (by decide +kernel) (by decide +kernel)
theorem ny_J1_canEncode_9a6ad : yJ1_canEncode_9a6ad.cls ≠ "java/lang/invoke/MethodHandle" ∧ yJ1_canEncode_9a6ad.cls ≠ "java/lang/invoke/VarHandle" ∧ (parseMethodDescriptor yJ1_canEncode_9a6ad.desc).map (fun d => d.parameters.length) = some 1 := by decide +kernel
theorem cw_J1_charAt_3b067 : Cond.code yJ1_charAt_3b067 cJ1_charAt_3b067 2 (some .char) ∈ gw_t := gw_mem 347 (by decide +kernel) (by decide +kernel)
theorem ny_J1_charAt_3b067 : yJ1_charAt_3b067.cls ≠ "java/lang/invoke/MethodHandle" ∧ yJ1_charAt_3b067.cls ≠ "java/lang/invoke/VarHandle" ∧ (parseMethodDescriptor yJ1_charAt_3b067.desc).map (fun d => d.parameters.length) = some 2 := by decide +kernel
theorem cw_J1_indexOfChar_4cfef : Cond.code yJ1_indexOfChar_4cfef cJ1_indexOfChar_4cfef 6 (some .int) ∈ gw_t := gw_mem 443 (by decide +kernel) (by decide +kernel)
theorem ny_J1_indexOfChar_4cfef : yJ1_indexOfChar_4cfef.cls ≠ "java/lang/invoke/MethodHandle" ∧ yJ1_indexOfChar_4cfef.cls ≠ "java/lang/invoke/VarHandle" ∧ (parseMethodDescriptor yJ1_indexOfChar_4cfef.desc).map (fun d => d.parameters.length) = some 4 := by decide +kernel
theorem cw_J1_indexOf_4cfef : Cond.code yJ1_indexOf_4cfef cJ1_indexOf_4cfef 4 (some .int) ∈ gw_t := gw_mem 431 (by decide +kernel) (by decide +kernel)
theorem ny_J1_indexOf_4cfef : yJ1_indexOf_4cfef.cls ≠ "java/lang/invoke/MethodHandle" ∧ yJ1_indexOf_4cfef.cls ≠ "java/lang/invoke/VarHandle" ∧ (parseMethodDescriptor yJ1_indexOf_4cfef.desc).map (fun d => d.parameters.length) = some 4 := by decide +kernel
theorem cw_J2_charAt_3b067 : Cond.code yJ2_charAt_3b067 cJ2_charAt_3b067 2 (some .char) ∈ gw_t := gw_mem 358 (by decide +kernel) (by decide +kernel)
theorem ny_J2_charAt_3b067 : yJ2_charAt_3b067.cls ≠ "java/lang/invoke/MethodHandle" ∧ yJ2_charAt_3b067.cls ≠ "java/lang/invoke/VarHandle" ∧ (parseMethodDescriptor yJ2_charAt_3b067.desc).map (fun d => d.parameters.length) = some 2 := by decide +kernel
theorem cw_J2_checkBoundsBeginEnd_d044e : Cond.code yJ2_checkBoundsBeginEnd_d044e cJ2_checkBoundsBeginEnd_d044e 3 none ∈ gw_t := gw_mem 455 (by decide +kernel) (by decide +kernel)
theorem ny_J2_checkBoundsBeginEnd_d044e : yJ2_checkBoundsBeginEnd_d044e.cls ≠ "java/lang/invoke/MethodHandle" ∧ yJ2_checkBoundsBeginEnd_d044e.cls ≠ "java/lang/invoke/VarHandle" ∧ (parseMethodDescriptor yJ2_checkBoundsBeginEnd_d044e.desc).map (fun d => d.parameters.length) = some 3 := by decide +kernel
theorem cw_J2_checkIndex_2214a : Cond.code yJ2_checkIndex_2214a cJ2_checkIndex_2214a 2 none ∈ gw_t := gw_mem 361 (by decide +kernel) (by decide +kernel)
theorem ny_J2_checkIndex_2214a : yJ2_checkIndex_2214a.cls ≠ "java/lang/invoke/MethodHandle" ∧ yJ2_checkIndex_2214a.cls ≠ "java/lang/invoke/VarHandle" ∧ (parseMethodDescriptor yJ2_checkIndex_2214a.desc).map (fun d => d.parameters.length) = some 2 := by decide +kernel
theorem cw_J2_getChar_3b067 : Cond.code yJ2_getChar_3b067 cJ2_getChar_3b067 2 (some .char) ∈ gw_t := gw_mem 368 (by decide +kernel) (by decide +kernel)
theorem ny_J2_getChar_3b067 : yJ2_getChar_3b067.cls ≠ "java/lang/invoke/MethodHandle" ∧ yJ2_getChar_3b067.cls ≠ "java/lang/invoke/VarHandle" ∧ (parseMethodDescriptor yJ2_getChar_3b067.desc).map (fun d => d.parameters.length) = some 2 := by decide +kernel
theorem cw_J2_indexOfCharUnsafe_4cfef : Cond.code yJ2_indexOfCharUnsafe_4cfef cJ2_indexOfCharUnsafe_4cfef 5 (some .int) ∈ gw_t := gw_mem 464 (by decide +kernel) (by decide +kernel)
theorem ny_J2_indexOfCharUnsafe_4cfef : yJ2_indexOfCharUnsafe_4cfef.cls ≠ "java/lang/invoke/MethodHandle" ∧ yJ2_indexOfCharUnsafe_4cfef.cls ≠ "java/lang/invoke/VarHandle" ∧ (parseMethodDescriptor yJ2_indexOfCharUnsafe_4cfef.desc).map (fun d => d.parameters.length) = some 4 := by decide +kernel
theorem cw_J2_indexOfChar_4cfef : Cond.code yJ2_indexOfChar_4cfef cJ2_indexOfChar_4cfef 4 (some .int) ∈ gw_t := gw_mem 452 (by decide +kernel) (by decide +kernel)
theorem ny_J2_indexOfChar_4cfef : yJ2_indexOfChar_4cfef.cls ≠ "java/lang/invoke/MethodHandle" ∧ yJ2_indexOfChar_4cfef.cls ≠ "java/lang/invoke/VarHandle" ∧ (parseMethodDescriptor yJ2_indexOfChar_4cfef.desc).map (fun d => d.parameters.length) = some 4 := by decide +kernel
theorem cw_J2_indexOfSupplementary_4cfef : Cond.code yJ2_indexOfSupplementary_4cfef cJ2_indexOfSupplementary_4cfef 7 (some .int) ∈ gw_t := gw_mem 467 (by decide +kernel) (by decide +kernel)
theorem ny_J2_indexOfSupplementary_4cfef : yJ2_indexOfSupplementary_4cfef.cls ≠ "java/lang/invoke/MethodHandle" ∧ yJ2_indexOfSupplementary_4cfef.cls ≠ "java/lang/invoke/VarHandle" ∧ (parseMethodDescriptor yJ2_indexOfSupplementary_4cfef.desc).map (fun d => d.parameters.length) = some 4 := by decide +kernel
theorem cw_J2_indexOf_4cfef : Cond.code yJ2_indexOf_4cfef cJ2_indexOf_4cfef 4 (some .int) ∈ gw_t := gw_mem 446 (by decide +kernel) (by decide +kernel)
theorem ny_J2_indexOf_4cfef : yJ2_indexOf_4cfef.cls ≠ "java/lang/invoke/MethodHandle" ∧ yJ2_indexOf_4cfef.cls ≠ "java/lang/invoke/VarHandle" ∧ (parseMethodDescriptor yJ2_indexOf_4cfef.desc).map (fun d => d.parameters.length) = some 4 := by decide +kernel
theorem cw_J2_length_9d52b : Cond.code yJ2_length_9d52b cJ2_length_9d52b 1 (some .int) ∈ gw_t := gw_mem 364 (by decide +kernel) (by decide +kernel)
theorem ny_J2_length_9d52b : yJ2_length_9d52b.cls ≠ "java/lang/invoke/MethodHandle" ∧ yJ2_length_9d52b.cls ≠ "java/lang/invoke/VarHandle" ∧ (parseMethodDescriptor yJ2_length_9d52b.desc).map (fun d => d.parameters.length) = some 1 := by decide +kernel
theorem cw_J3_checkFromToIndex_8c36e : Cond.code yJ3_checkFromToIndex_8c36e cJ3_checkFromToIndex_8c36e 4 (some .int) ∈ gw_t := gw_mem 461 (by decide +kernel) (by decide +kernel)
theorem ny_J3_checkFromToIndex_8c36e : yJ3_checkFromToIndex_8c36e.cls ≠ "java/lang/invoke/MethodHandle" ∧ yJ3_checkFromToIndex_8c36e.cls ≠ "java/lang/invoke/VarHandle" ∧ (parseMethodDescriptor yJ3_checkFromToIndex_8c36e.desc).map (fun d => d.parameters.length) = some 4 := by decide +kernel
theorem cw_J3_checkIndex_8e157 : Cond.code yJ3_checkIndex_8e157 cJ3_checkIndex_8e157 3 (some .int) ∈ gw_t := gw_mem 355 (by decide +kernel) (by decide +kernel)
theorem ny_J3_checkIndex_8e157 : yJ3_checkIndex_8e157.cls ≠ "java/lang/invoke/MethodHandle" ∧ yJ3_checkIndex_8e157.cls ≠ "java/lang/invoke/VarHandle" ∧ (parseMethodDescriptor yJ3_checkIndex_8e157.desc).map (fun d => d.parameters.length) = some 3 := by decide +kernel
theorem cw_J6_bitCount_0f7a4 : Cond.code yJ6_bitCount_0f7a4 cJ6_bitCount_0f7a4 1 (some .int) ∈ gw_t := gw_mem 729 (by decide +kernel) (by decide +kernel)
theorem ny_J6_bitCount_0f7a4 : yJ6_bitCount_0f7a4.cls ≠ "java/lang/invoke/MethodHandle" ∧ yJ6_bitCount_0f7a4.cls ≠ "java/lang/invoke/VarHandle" ∧ (parseMethodDescriptor yJ6_bitCount_0f7a4.desc).map (fun d => d.parameters.length) = some 1 := by decide +kernel
theorem cw_J7_copyOf_59c91 : Cond.code yJ7_copyOf_59c91 cJ7_copyOf_59c91 3 (some (.array .int)) ∈ gw_t := gw_mem 522 (by decide +kernel) (by decide +kernel)
theorem ny_J7_copyOf_59c91 : yJ7_copyOf_59c91.cls ≠ "java/lang/invoke/MethodHandle" ∧ yJ7_copyOf_59c91.cls ≠ "java/lang/invoke/VarHandle" ∧ (parseMethodDescriptor yJ7_copyOf_59c91.desc).map (fun d => d.parameters.length) = some 2 := by decide +kernel
theorem cw_J7_fill_53178 : Cond.code yJ7_fill_53178 cJ7_fill_53178 4 none ∈ gw_t := gw_mem 684 (by decide +kernel) (by decide +kernel)
theorem ny_J7_fill_53178 : yJ7_fill_53178.cls ≠ "java/lang/invoke/MethodHandle" ∧ yJ7_fill_53178.cls ≠ "java/lang/invoke/VarHandle" ∧ (parseMethodDescriptor yJ7_fill_53178.desc).map (fun d => d.parameters.length) = some 2 := by decide +kernel
theorem cw_J9_max_7cf53 : Cond.code yJ9_max_7cf53 cJ9_max_7cf53 2 (some .int) ∈ gw_t := gw_mem 437 (by decide +kernel) (by decide +kernel)
theorem ny_J9_max_7cf53 : yJ9_max_7cf53.cls ≠ "java/lang/invoke/MethodHandle" ∧ yJ9_max_7cf53.cls ≠ "java/lang/invoke/VarHandle" ∧ (parseMethodDescriptor yJ9_max_7cf53.desc).map (fun d => d.parameters.length) = some 2 := by decide +kernel
theorem cw_J9_min_7cf53 : Cond.code yJ9_min_7cf53 cJ9_min_7cf53 2 (some .int) ∈ gw_t := gw_mem 440 (by decide +kernel) (by decide +kernel)
theorem ny_J9_min_7cf53 : yJ9_min_7cf53.cls ≠ "java/lang/invoke/MethodHandle" ∧ yJ9_min_7cf53.cls ≠ "java/lang/invoke/VarHandle" ∧ (parseMethodDescriptor yJ9_min_7cf53.desc).map (fun d => d.parameters.length) = some 2 := by decide +kernel
theorem cw_X0_answer : Cond.code yX0_answer cX0_answer 2 (some .int) ∈ gw_t := gw_mem 745 (by decide +kernel) (by decide +kernel)
theorem ny_X0_answer : yX0_answer.cls ≠ "java/lang/invoke/MethodHandle" ∧ yX0_answer.cls ≠ "java/lang/invoke/VarHandle" ∧ (parseMethodDescriptor yX0_answer.desc).map (fun d => d.parameters.length) = some 1 := by decide +kernel
theorem cw_X0_begin : Cond.code yX0_begin cX0_begin 2 none ∈ gw_t := gw_mem 681 (by decide +kernel) (by decide +kernel)
theorem ny_X0_begin : yX0_begin.cls ≠ "java/lang/invoke/MethodHandle" ∧ yX0_begin.cls ≠ "java/lang/invoke/VarHandle" ∧ (parseMethodDescriptor yX0_begin.desc).map (fun d => d.parameters.length) = some 1 := by decide +kernel
theorem cw_X0_callByChance : Cond.code yX0_callByChance cX0_callByChance 4 none ∈ gw_t := gw_mem 849 (by decide +kernel) (by decide +kernel)
theorem ny_X0_callByChance : yX0_callByChance.cls ≠ "java/lang/invoke/MethodHandle" ∧ yX0_callByChance.cls ≠ "java/lang/invoke/VarHandle" ∧ (parseMethodDescriptor yX0_callByChance.desc).map (fun d => d.parameters.length) = some 1 := by decide +kernel
theorem cw_X0_callByDesk : Cond.code yX0_callByDesk cX0_callByDesk 2 none ∈ gw_t := gw_mem 797 (by decide +kernel) (by decide +kernel)
theorem ny_X0_callByDesk : yX0_callByDesk.cls ≠ "java/lang/invoke/MethodHandle" ∧ yX0_callByDesk.cls ≠ "java/lang/invoke/VarHandle" ∧ (parseMethodDescriptor yX0_callByDesk.desc).map (fun d => d.parameters.length) = some 0 := by decide +kernel
theorem cw_X0_callRow : Cond.code yX0_callRow cX0_callRow 3 none ∈ gw_t := gw_mem 688 (by decide +kernel) (by decide +kernel)
theorem ny_X0_callRow : yX0_callRow.cls ≠ "java/lang/invoke/MethodHandle" ∧ yX0_callRow.cls ≠ "java/lang/invoke/VarHandle" ∧ (parseMethodDescriptor yX0_callRow.desc).map (fun d => d.parameters.length) = some 1 := by decide +kernel
theorem cw_X0_callSlip : Cond.code yX0_callSlip cX0_callSlip 5 none ∈ gw_t := gw_mem 693 (by decide +kernel) (by decide +kernel)
theorem ny_X0_callSlip : yX0_callSlip.cls ≠ "java/lang/invoke/MethodHandle" ∧ yX0_callSlip.cls ≠ "java/lang/invoke/VarHandle" ∧ (parseMethodDescriptor yX0_callSlip.desc).map (fun d => d.parameters.length) = some 1 := by decide +kernel
theorem cw_X0_firstByDesk : Cond.code yX0_firstByDesk cX0_firstByDesk 7 (some .int) ∈ gw_t := gw_mem 801 (by decide +kernel) (by decide +kernel)
theorem ny_X0_firstByDesk : yX0_firstByDesk.cls ≠ "java/lang/invoke/MethodHandle" ∧ yX0_firstByDesk.cls ≠ "java/lang/invoke/VarHandle" ∧ (parseMethodDescriptor yX0_firstByDesk.desc).map (fun d => d.parameters.length) = some 0 := by decide +kernel
theorem cw_X0_goOnFrom : Cond.code yX0_goOnFrom cX0_goOnFrom 2 none ∈ gw_t := gw_mem 771 (by decide +kernel) (by decide +kernel)
theorem ny_X0_goOnFrom : yX0_goOnFrom.cls ≠ "java/lang/invoke/MethodHandle" ∧ yX0_goOnFrom.cls ≠ "java/lang/invoke/VarHandle" ∧ (parseMethodDescriptor yX0_goOnFrom.desc).map (fun d => d.parameters.length) = some 1 := by decide +kernel
theorem cw_X0_init : Cond.code yX0_init cX0_init 2 none ∈ gw_t := gw_mem 233 (by decide +kernel) (by decide +kernel)
theorem ny_X0_init : yX0_init.cls ≠ "java/lang/invoke/MethodHandle" ∧ yX0_init.cls ≠ "java/lang/invoke/VarHandle" ∧ (parseMethodDescriptor yX0_init.desc).map (fun d => d.parameters.length) = some 1 := by decide +kernel
theorem cw_X0_leaveOut : Cond.code yX0_leaveOut cX0_leaveOut 2 none ∈ gw_t := gw_mem 793 (by decide +kernel) (by decide +kernel)
theorem ny_X0_leaveOut : yX0_leaveOut.cls ≠ "java/lang/invoke/MethodHandle" ∧ yX0_leaveOut.cls ≠ "java/lang/invoke/VarHandle" ∧ (parseMethodDescriptor yX0_leaveOut.desc).map (fun d => d.parameters.length) = some 1 := by decide +kernel
theorem cw_X0_letLeave : Cond.code yX0_letLeave cX0_letLeave 5 none ∈ gw_t := gw_mem 741 (by decide +kernel) (by decide +kernel)
theorem ny_X0_letLeave : yX0_letLeave.cls ≠ "java/lang/invoke/MethodHandle" ∧ yX0_letLeave.cls ≠ "java/lang/invoke/VarHandle" ∧ (parseMethodDescriptor yX0_letLeave.desc).map (fun d => d.parameters.length) = some 0 := by decide +kernel
theorem cw_X0_nameAll : Cond.code yX0_nameAll cX0_nameAll 4 none ∈ gw_t := gw_mem 719 (by decide +kernel) (by decide +kernel)
theorem ny_X0_nameAll : yX0_nameAll.cls ≠ "java/lang/invoke/MethodHandle" ∧ yX0_nameAll.cls ≠ "java/lang/invoke/VarHandle" ∧ (parseMethodDescriptor yX0_nameAll.desc).map (fun d => d.parameters.length) = some 3 := by decide +kernel
theorem cw_X0_rowAsDigits : Cond.code yX0_rowAsDigits cX0_rowAsDigits 3 (some .int) ∈ gw_t := gw_mem 749 (by decide +kernel) (by decide +kernel)
theorem ny_X0_rowAsDigits : yX0_rowAsDigits.cls ≠ "java/lang/invoke/MethodHandle" ∧ yX0_rowAsDigits.cls ≠ "java/lang/invoke/VarHandle" ∧ (parseMethodDescriptor yX0_rowAsDigits.desc).map (fun d => d.parameters.length) = some 0 := by decide +kernel
theorem cw_X0_uncalled : Cond.code yX0_uncalled cX0_uncalled 4 (some .int) ∈ gw_t := gw_mem 854 (by decide +kernel) (by decide +kernel)
theorem ny_X0_uncalled : yX0_uncalled.cls ≠ "java/lang/invoke/MethodHandle" ∧ yX0_uncalled.cls ≠ "java/lang/invoke/VarHandle" ∧ (parseMethodDescriptor yX0_uncalled.desc).map (fun d => d.parameters.length) = some 1 := by decide +kernel
theorem cw_X0_wasCalled : Cond.code yX0_wasCalled cX0_wasCalled 2 (some .boolean) ∈ gw_t := gw_mem 698 (by decide +kernel) (by decide +kernel)
theorem ny_X0_wasCalled : yX0_wasCalled.cls ≠ "java/lang/invoke/MethodHandle" ∧ yX0_wasCalled.cls ≠ "java/lang/invoke/VarHandle" ∧ (parseMethodDescriptor yX0_wasCalled.desc).map (fun d => d.parameters.length) = some 1 := by decide +kernel
theorem cw_X0_wouldBeSung : Cond.code yX0_wouldBeSung cX0_wouldBeSung 3 (some .boolean) ∈ gw_t := gw_mem 702 (by decide +kernel) (by decide +kernel)
theorem ny_X0_wouldBeSung : yX0_wouldBeSung.cls ≠ "java/lang/invoke/MethodHandle" ∧ yX0_wouldBeSung.cls ≠ "java/lang/invoke/VarHandle" ∧ (parseMethodDescriptor yX0_wouldBeSung.desc).map (fun d => d.parameters.length) = some 1 := by decide +kernel
theorem cw_X1_addPerson : Cond.code yX1_addPerson cX1_addPerson 3 (some .int) ∈ gw_t := gw_mem 613 (by decide +kernel) (by decide +kernel)
theorem ny_X1_addPerson : yX1_addPerson.cls ≠ "java/lang/invoke/MethodHandle" ∧ yX1_addPerson.cls ≠ "java/lang/invoke/VarHandle" ∧ (parseMethodDescriptor yX1_addPerson.desc).map (fun d => d.parameters.length) = some 2 := by decide +kernel
theorem cw_X1_addSlip : Cond.code yX1_addSlip cX1_addSlip 5 (some .int) ∈ gw_t := gw_mem 621 (by decide +kernel) (by decide +kernel)
theorem ny_X1_addSlip : yX1_addSlip.cls ≠ "java/lang/invoke/MethodHandle" ∧ yX1_addSlip.cls ≠ "java/lang/invoke/VarHandle" ∧ (parseMethodDescriptor yX1_addSlip.desc).map (fun d => d.parameters.length) = some 3 := by decide +kernel
theorem cw_X1_allows : Cond.code yX1_allows cX1_allows 3 (some .boolean) ∈ gw_t := gw_mem 605 (by decide +kernel) (by decide +kernel)
theorem ny_X1_allows : yX1_allows.cls ≠ "java/lang/invoke/MethodHandle" ∧ yX1_allows.cls ≠ "java/lang/invoke/VarHandle" ∧ (parseMethodDescriptor yX1_allows.desc).map (fun d => d.parameters.length) = some 2 := by decide +kernel
theorem cw_X1_become : Cond.code yX1_become cX1_become 3 none ∈ gw_t := gw_mem 870 (by decide +kernel) (by decide +kernel)
theorem ny_X1_become : yX1_become.cls ≠ "java/lang/invoke/MethodHandle" ∧ yX1_become.cls ≠ "java/lang/invoke/VarHandle" ∧ (parseMethodDescriptor yX1_become.desc).map (fun d => d.parameters.length) = some 1 := by decide +kernel
theorem cw_X1_change : Cond.code yX1_change cX1_change 4 none ∈ gw_t := gw_mem 643 (by decide +kernel) (by decide +kernel)
theorem ny_X1_change : yX1_change.cls ≠ "java/lang/invoke/MethodHandle" ∧ yX1_change.cls ≠ "java/lang/invoke/VarHandle" ∧ (parseMethodDescriptor yX1_change.desc).map (fun d => d.parameters.length) = some 3 := by decide +kernel
theorem cw_X1_follow : Cond.code yX1_follow cX1_follow 2 none ∈ gw_t := gw_mem 665 (by decide +kernel) (by decide +kernel)
theorem ny_X1_follow : yX1_follow.cls ≠ "java/lang/invoke/MethodHandle" ∧ yX1_follow.cls ≠ "java/lang/invoke/VarHandle" ∧ (parseMethodDescriptor yX1_follow.desc).map (fun d => d.parameters.length) = some 1 := by decide +kernel
theorem cw_X1_groupOf : Cond.code yX1_groupOf cX1_groupOf 2 (some .int) ∈ gw_t := gw_mem 706 (by decide +kernel) (by decide +kernel)
theorem ny_X1_groupOf : yX1_groupOf.cls ≠ "java/lang/invoke/MethodHandle" ∧ yX1_groupOf.cls ≠ "java/lang/invoke/VarHandle" ∧ (parseMethodDescriptor yX1_groupOf.desc).map (fun d => d.parameters.length) = some 1 := by decide +kernel
theorem cw_X1_hasPerson : Cond.code yX1_hasPerson cX1_hasPerson 2 (some .boolean) ∈ gw_t := gw_mem 609 (by decide +kernel) (by decide +kernel)
theorem ny_X1_hasPerson : yX1_hasPerson.cls ≠ "java/lang/invoke/MethodHandle" ∧ yX1_hasPerson.cls ≠ "java/lang/invoke/VarHandle" ∧ (parseMethodDescriptor yX1_hasPerson.desc).map (fun d => d.parameters.length) = some 1 := by decide +kernel
theorem cw_X1_hasSlip : Cond.code yX1_hasSlip cX1_hasSlip 2 (some .boolean) ∈ gw_t := gw_mem 633 (by decide +kernel) (by decide +kernel)
theorem ny_X1_hasSlip : yX1_hasSlip.cls ≠ "java/lang/invoke/MethodHandle" ∧ yX1_hasSlip.cls ≠ "java/lang/invoke/VarHandle" ∧ (parseMethodDescriptor yX1_hasSlip.desc).map (fun d => d.parameters.length) = some 1 := by decide +kernel
theorem cw_X1_hasValue : Cond.code yX1_hasValue cX1_hasValue 3 (some .boolean) ∈ gw_t := gw_mem 629 (by decide +kernel) (by decide +kernel)
theorem ny_X1_hasValue : yX1_hasValue.cls ≠ "java/lang/invoke/MethodHandle" ∧ yX1_hasValue.cls ≠ "java/lang/invoke/VarHandle" ∧ (parseMethodDescriptor yX1_hasValue.desc).map (fun d => d.parameters.length) = some 2 := by decide +kernel
theorem cw_X1_init : Cond.code yX1_init cX1_init 2 none ∈ gw_t := gw_mem 95 (by decide +kernel) (by decide +kernel)
theorem ny_X1_init : yX1_init.cls ≠ "java/lang/invoke/MethodHandle" ∧ yX1_init.cls ≠ "java/lang/invoke/VarHandle" ∧ (parseMethodDescriptor yX1_init.desc).map (fun d => d.parameters.length) = some 0 := by decide +kernel
theorem cw_X1_isRow : Cond.code yX1_isRow cX1_isRow 5 (some .boolean) ∈ gw_t := gw_mem 673 (by decide +kernel) (by decide +kernel)
theorem ny_X1_isRow : yX1_isRow.cls ≠ "java/lang/invoke/MethodHandle" ∧ yX1_isRow.cls ≠ "java/lang/invoke/VarHandle" ∧ (parseMethodDescriptor yX1_isRow.desc).map (fun d => d.parameters.length) = some 1 := by decide +kernel
theorem cw_X1_valueOf : Cond.code yX1_valueOf cX1_valueOf 3 (some .int) ∈ gw_t := gw_mem 638 (by decide +kernel) (by decide +kernel)
theorem ny_X1_valueOf : yX1_valueOf.cls ≠ "java/lang/invoke/MethodHandle" ∧ yX1_valueOf.cls ≠ "java/lang/invoke/VarHandle" ∧ (parseMethodDescriptor yX1_valueOf.desc).map (fun d => d.parameters.length) = some 2 := by decide +kernel
theorem cw_X2_become : Cond.code yX2_become cX2_become 2 none ∈ gw_t := gw_mem 874 (by decide +kernel) (by decide +kernel)
theorem ny_X2_become : yX2_become.cls ≠ "java/lang/invoke/MethodHandle" ∧ yX2_become.cls ≠ "java/lang/invoke/VarHandle" ∧ (parseMethodDescriptor yX2_become.desc).map (fun d => d.parameters.length) = some 1 := by decide +kernel
theorem cw_X2_init : Cond.code yX2_init cX2_init 1 none ∈ gw_t := gw_mem 104 (by decide +kernel) (by decide +kernel)
theorem ny_X2_init : yX2_init.cls ≠ "java/lang/invoke/MethodHandle" ∧ yX2_init.cls ≠ "java/lang/invoke/VarHandle" ∧ (parseMethodDescriptor yX2_init.desc).map (fun d => d.parameters.length) = some 0 := by decide +kernel
theorem cw_X3_add : Cond.code yX3_add cX3_add 2 (some .boolean) ∈ gw_t := gw_mem 378 (by decide +kernel) (by decide +kernel)
theorem ny_X3_add : yX3_add.cls ≠ "java/lang/invoke/MethodHandle" ∧ yX3_add.cls ≠ "java/lang/invoke/VarHandle" ∧ (parseMethodDescriptor yX3_add.desc).map (fun d => d.parameters.length) = some 1 := by decide +kernel
theorem cw_X3_emit : Cond.code yX3_emit cX3_emit 2 none ∈ gw_t := gw_mem 502 (by decide +kernel) (by decide +kernel)
theorem ny_X3_emit : yX3_emit.cls ≠ "java/lang/invoke/MethodHandle" ∧ yX3_emit.cls ≠ "java/lang/invoke/VarHandle" ∧ (parseMethodDescriptor yX3_emit.desc).map (fun d => d.parameters.length) = some 1 := by decide +kernel
theorem cw_X3_fail : Cond.code yX3_fail cX3_fail 1 none ∈ gw_t := gw_mem 490 (by decide +kernel) (by decide +kernel)
theorem ny_X3_fail : yX3_fail.cls ≠ "java/lang/invoke/MethodHandle" ∧ yX3_fail.cls ≠ "java/lang/invoke/VarHandle" ∧ (parseMethodDescriptor yX3_fail.desc).map (fun d => d.parameters.length) = some 0 := by decide +kernel
theorem cw_X3_init : Cond.code yX3_init cX3_init 1 none ∈ gw_t := gw_mem 188 (by decide +kernel) (by decide +kernel)
theorem ny_X3_init : yX3_init.cls ≠ "java/lang/invoke/MethodHandle" ∧ yX3_init.cls ≠ "java/lang/invoke/VarHandle" ∧ (parseMethodDescriptor yX3_init.desc).map (fun d => d.parameters.length) = some 0 := by decide +kernel
theorem cw_X3_isDigit : Cond.code yX3_isDigit cX3_isDigit 1 (some .boolean) ∈ gw_t := gw_mem 414 (by decide +kernel) (by decide +kernel)
theorem ny_X3_isDigit : yX3_isDigit.cls ≠ "java/lang/invoke/MethodHandle" ∧ yX3_isDigit.cls ≠ "java/lang/invoke/VarHandle" ∧ (parseMethodDescriptor yX3_isDigit.desc).map (fun d => d.parameters.length) = some 1 := by decide +kernel
theorem cw_X3_isLetter : Cond.code yX3_isLetter cX3_isLetter 1 (some .boolean) ∈ gw_t := gw_mem 389 (by decide +kernel) (by decide +kernel)
theorem ny_X3_isLetter : yX3_isLetter.cls ≠ "java/lang/invoke/MethodHandle" ∧ yX3_isLetter.cls ≠ "java/lang/invoke/VarHandle" ∧ (parseMethodDescriptor yX3_isLetter.desc).map (fun d => d.parameters.length) = some 1 := by decide +kernel
theorem cw_X3_isName : Cond.code yX3_isName cX3_isName 1 (some .boolean) ∈ gw_t := gw_mem 505 (by decide +kernel) (by decide +kernel)
theorem ny_X3_isName : yX3_isName.cls ≠ "java/lang/invoke/MethodHandle" ∧ yX3_isName.cls ≠ "java/lang/invoke/VarHandle" ∧ (parseMethodDescriptor yX3_isName.desc).map (fun d => d.parameters.length) = some 1 := by decide +kernel
theorem cw_X3_joins : Cond.code yX3_joins cX3_joins 2 (some .boolean) ∈ gw_t := gw_mem 513 (by decide +kernel) (by decide +kernel)
theorem ny_X3_joins : yX3_joins.cls ≠ "java/lang/invoke/MethodHandle" ∧ yX3_joins.cls ≠ "java/lang/invoke/VarHandle" ∧ (parseMethodDescriptor yX3_joins.desc).map (fun d => d.parameters.length) = some 1 := by decide +kernel
theorem cw_X3_made : Cond.code yX3_made cX3_made 1 (some (.object "WhoSingsNext$Text")) ∈ gw_t := gw_mem 517 (by decide +kernel) (by decide +kernel)
theorem ny_X3_made : yX3_made.cls ≠ "java/lang/invoke/MethodHandle" ∧ yX3_made.cls ≠ "java/lang/invoke/VarHandle" ∧ (parseMethodDescriptor yX3_made.desc).map (fun d => d.parameters.length) = some 0 := by decide +kernel
theorem cw_X3_pass : Cond.code yX3_pass cX3_pass 2 none ∈ gw_t := gw_mem 486 (by decide +kernel) (by decide +kernel)
theorem ny_X3_pass : yX3_pass.cls ≠ "java/lang/invoke/MethodHandle" ∧ yX3_pass.cls ≠ "java/lang/invoke/VarHandle" ∧ (parseMethodDescriptor yX3_pass.desc).map (fun d => d.parameters.length) = some 1 := by decide +kernel
theorem cw_X3_readLevel : Cond.code yX3_readLevel cX3_readLevel 6 none ∈ gw_t := gw_mem 494 (by decide +kernel) (by decide +kernel)
theorem ny_X3_readLevel : yX3_readLevel.cls ≠ "java/lang/invoke/MethodHandle" ∧ yX3_readLevel.cls ≠ "java/lang/invoke/VarHandle" ∧ (parseMethodDescriptor yX3_readLevel.desc).map (fun d => d.parameters.length) = some 2 := by decide +kernel
theorem cw_X3_readNot : Cond.code yX3_readNot cX3_readNot 2 none ∈ gw_t := gw_mem 509 (by decide +kernel) (by decide +kernel)
theorem ny_X3_readNot : yX3_readNot.cls ≠ "java/lang/invoke/MethodHandle" ∧ yX3_readNot.cls ≠ "java/lang/invoke/VarHandle" ∧ (parseMethodDescriptor yX3_readNot.desc).map (fun d => d.parameters.length) = some 1 := by decide +kernel
theorem cw_X3_readNumber : Cond.code yX3_readNumber cX3_readNumber 1 none ∈ gw_t := gw_mem 418 (by decide +kernel) (by decide +kernel)
theorem ny_X3_readNumber : yX3_readNumber.cls ≠ "java/lang/invoke/MethodHandle" ∧ yX3_readNumber.cls ≠ "java/lang/invoke/VarHandle" ∧ (parseMethodDescriptor yX3_readNumber.desc).map (fun d => d.parameters.length) = some 0 := by decide +kernel
theorem cw_X3_readOne : Cond.code yX3_readOne cX3_readOne 2 none ∈ gw_t := gw_mem 498 (by decide +kernel) (by decide +kernel)
theorem ny_X3_readOne : yX3_readOne.cls ≠ "java/lang/invoke/MethodHandle" ∧ yX3_readOne.cls ≠ "java/lang/invoke/VarHandle" ∧ (parseMethodDescriptor yX3_readOne.desc).map (fun d => d.parameters.length) = some 1 := by decide +kernel
theorem cw_X3_readPart : Cond.code yX3_readPart cX3_readPart 2 none ∈ gw_t := gw_mem 482 (by decide +kernel) (by decide +kernel)
theorem ny_X3_readPart : yX3_readPart.cls ≠ "java/lang/invoke/MethodHandle" ∧ yX3_readPart.cls ≠ "java/lang/invoke/VarHandle" ∧ (parseMethodDescriptor yX3_readPart.desc).map (fun d => d.parameters.length) = some 1 := by decide +kernel
theorem cw_X3_readTape : Cond.code yX3_readTape cX3_readTape 1 (some .boolean) ∈ gw_t := gw_mem 382 (by decide +kernel) (by decide +kernel)
theorem ny_X3_readTape : yX3_readTape.cls ≠ "java/lang/invoke/MethodHandle" ∧ yX3_readTape.cls ≠ "java/lang/invoke/VarHandle" ∧ (parseMethodDescriptor yX3_readTape.desc).map (fun d => d.parameters.length) = some 0 := by decide +kernel
theorem cw_X3_readToken : Cond.code yX3_readToken cX3_readToken 1 none ∈ gw_t := gw_mem 386 (by decide +kernel) (by decide +kernel)
theorem ny_X3_readToken : yX3_readToken.cls ≠ "java/lang/invoke/MethodHandle" ∧ yX3_readToken.cls ≠ "java/lang/invoke/VarHandle" ∧ (parseMethodDescriptor yX3_readToken.desc).map (fun d => d.parameters.length) = some 0 := by decide +kernel
theorem cw_X3_readWord : Cond.code yX3_readWord cX3_readWord 1 none ∈ gw_t := gw_mem 393 (by decide +kernel) (by decide +kernel)
theorem ny_X3_readWord : yX3_readWord.cls ≠ "java/lang/invoke/MethodHandle" ∧ yX3_readWord.cls ≠ "java/lang/invoke/VarHandle" ∧ (parseMethodDescriptor yX3_readWord.desc).map (fun d => d.parameters.length) = some 0 := by decide +kernel
theorem cw_X3_spells : Cond.code yX3_spells cX3_spells 3 (some .boolean) ∈ gw_t := gw_mem 398 (by decide +kernel) (by decide +kernel)
theorem ny_X3_spells : yX3_spells.cls ≠ "java/lang/invoke/MethodHandle" ∧ yX3_spells.cls ≠ "java/lang/invoke/VarHandle" ∧ (parseMethodDescriptor yX3_spells.desc).map (fun d => d.parameters.length) = some 1 := by decide +kernel
theorem cw_X4_answer : Cond.code yX4_answer cX4_answer 3 (some .int) ∈ gw_t := gw_mem 781 (by decide +kernel) (by decide +kernel)
theorem ny_X4_answer : yX4_answer.cls ≠ "java/lang/invoke/MethodHandle" ∧ yX4_answer.cls ≠ "java/lang/invoke/VarHandle" ∧ (parseMethodDescriptor yX4_answer.desc).map (fun d => d.parameters.length) = some 2 := by decide +kernel
theorem cw_X4_goOn : Cond.code yX4_goOn cX4_goOn 6 none ∈ gw_t := gw_mem 766 (by decide +kernel) (by decide +kernel)
theorem ny_X4_goOn : yX4_goOn.cls ≠ "java/lang/invoke/MethodHandle" ∧ yX4_goOn.cls ≠ "java/lang/invoke/VarHandle" ∧ (parseMethodDescriptor yX4_goOn.desc).map (fun d => d.parameters.length) = some 2 := by decide +kernel
theorem cw_X4_init : Cond.code yX4_init cX4_init 3 none ∈ gw_t := gw_mem 297 (by decide +kernel) (by decide +kernel)
theorem ny_X4_init : yX4_init.cls ≠ "java/lang/invoke/MethodHandle" ∧ yX4_init.cls ≠ "java/lang/invoke/VarHandle" ∧ (parseMethodDescriptor yX4_init.desc).map (fun d => d.parameters.length) = some 1 := by decide +kernel
theorem cw_X4_look : Cond.code yX4_look cX4_look 2 none ∈ gw_t := gw_mem 757 (by decide +kernel) (by decide +kernel)
theorem ny_X4_look : yX4_look.cls ≠ "java/lang/invoke/MethodHandle" ∧ yX4_look.cls ≠ "java/lang/invoke/VarHandle" ∧ (parseMethodDescriptor yX4_look.desc).map (fun d => d.parameters.length) = some 1 := by decide +kernel
theorem cw_X4_losesFewer : Cond.code yX4_losesFewer cX4_losesFewer 2 (some .boolean) ∈ gw_t := gw_mem 777 (by decide +kernel) (by decide +kernel)
theorem ny_X4_losesFewer : yX4_losesFewer.cls ≠ "java/lang/invoke/MethodHandle" ∧ yX4_losesFewer.cls ≠ "java/lang/invoke/VarHandle" ∧ (parseMethodDescriptor yX4_losesFewer.desc).map (fun d => d.parameters.length) = some 1 := by decide +kernel
theorem cw_X4_note : Cond.code yX4_note cX4_note 4 none ∈ gw_t := gw_mem 762 (by decide +kernel) (by decide +kernel)
theorem ny_X4_note : yX4_note.cls ≠ "java/lang/invoke/MethodHandle" ∧ yX4_note.cls ≠ "java/lang/invoke/VarHandle" ∧ (parseMethodDescriptor yX4_note.desc).map (fun d => d.parameters.length) = some 3 := by decide +kernel
theorem cw_X5_holds : Cond.code yX5_holds cX5_holds 3 (some .boolean) ∈ gw_t := gw_mem 903 (by decide +kernel) (by decide +kernel)
theorem ny_X5_holds : yX5_holds.cls ≠ "java/lang/invoke/MethodHandle" ∧ yX5_holds.cls ≠ "java/lang/invoke/VarHandle" ∧ (parseMethodDescriptor yX5_holds.desc).map (fun d => d.parameters.length) = some 2 := by decide +kernel
theorem cw_X5_init : Cond.code yX5_init cX5_init 1 none ∈ gw_t := gw_mem 555 (by decide +kernel) (by decide +kernel)
theorem ny_X5_init : yX5_init.cls ≠ "java/lang/invoke/MethodHandle" ∧ yX5_init.cls ≠ "java/lang/invoke/VarHandle" ∧ (parseMethodDescriptor yX5_init.desc).map (fun d => d.parameters.length) = some 0 := by decide +kernel
theorem cw_X5_put : Cond.code yX5_put cX5_put 3 none ∈ gw_t := gw_mem 907 (by decide +kernel) (by decide +kernel)
theorem ny_X5_put : yX5_put.cls ≠ "java/lang/invoke/MethodHandle" ∧ yX5_put.cls ≠ "java/lang/invoke/VarHandle" ∧ (parseMethodDescriptor yX5_put.desc).map (fun d => d.parameters.length) = some 2 := by decide +kernel
theorem cw_X5_remake : Cond.code yX5_remake cX5_remake 3 none ∈ gw_t := gw_mem 894 (by decide +kernel) (by decide +kernel)
theorem ny_X5_remake : yX5_remake.cls ≠ "java/lang/invoke/MethodHandle" ∧ yX5_remake.cls ≠ "java/lang/invoke/VarHandle" ∧ (parseMethodDescriptor yX5_remake.desc).map (fun d => d.parameters.length) = some 2 := by decide +kernel
theorem cw_X6_become : Cond.code yX6_become cX6_become 2 none ∈ gw_t := gw_mem 878 (by decide +kernel) (by decide +kernel)
theorem ny_X6_become : yX6_become.cls ≠ "java/lang/invoke/MethodHandle" ∧ yX6_become.cls ≠ "java/lang/invoke/VarHandle" ∧ (parseMethodDescriptor yX6_become.desc).map (fun d => d.parameters.length) = some 1 := by decide +kernel
theorem cw_X6_init : Cond.code yX6_init cX6_init 1 none ∈ gw_t := gw_mem 120 (by decide +kernel) (by decide +kernel)
theorem ny_X6_init : yX6_init.cls ≠ "java/lang/invoke/MethodHandle" ∧ yX6_init.cls ≠ "java/lang/invoke/VarHandle" ∧ (parseMethodDescriptor yX6_init.desc).map (fun d => d.parameters.length) = some 0 := by decide +kernel
theorem cw_X6_isOf : Cond.code yX6_isOf cX6_isOf 2 (some .boolean) ∈ gw_t := gw_mem 924 (by decide +kernel) (by decide +kernel)
theorem ny_X6_isOf : yX6_isOf.cls ≠ "java/lang/invoke/MethodHandle" ∧ yX6_isOf.cls ≠ "java/lang/invoke/VarHandle" ∧ (parseMethodDescriptor yX6_isOf.desc).map (fun d => d.parameters.length) = some 1 := by decide +kernel
theorem cw_X6_moves : Cond.code yX6_moves cX6_moves 2 (some .int) ∈ gw_t := gw_mem 710 (by decide +kernel) (by decide +kernel)
theorem ny_X6_moves : yX6_moves.cls ≠ "java/lang/invoke/MethodHandle" ∧ yX6_moves.cls ≠ "java/lang/invoke/VarHandle" ∧ (parseMethodDescriptor yX6_moves.desc).map (fun d => d.parameters.length) = some 1 := by decide +kernel
theorem cw_X6_thirst : Cond.code yX6_thirst cX6_thirst 2 (some .int) ∈ gw_t := gw_mem 736 (by decide +kernel) (by decide +kernel)
theorem ny_X6_thirst : yX6_thirst.cls ≠ "java/lang/invoke/MethodHandle" ∧ yX6_thirst.cls ≠ "java/lang/invoke/VarHandle" ∧ (parseMethodDescriptor yX6_thirst.desc).map (fun d => d.parameters.length) = some 1 := by decide +kernel
theorem cw_X7_init : Cond.code yX7_init cX7_init 4 none ∈ gw_t := gw_mem 536 (by decide +kernel) (by decide +kernel)
theorem ny_X7_init : yX7_init.cls ≠ "java/lang/invoke/MethodHandle" ∧ yX7_init.cls ≠ "java/lang/invoke/VarHandle" ∧ (parseMethodDescriptor yX7_init.desc).map (fun d => d.parameters.length) = some 3 := by decide +kernel
theorem cw_X7_joined : Cond.code yX7_joined cX7_joined 3 (some .int) ∈ gw_t := gw_mem 726 (by decide +kernel) (by decide +kernel)
theorem ny_X7_joined : yX7_joined.cls ≠ "java/lang/invoke/MethodHandle" ∧ yX7_joined.cls ≠ "java/lang/invoke/VarHandle" ∧ (parseMethodDescriptor yX7_joined.desc).map (fun d => d.parameters.length) = some 3 := by decide +kernel
theorem cw_X7_worth : Cond.code yX7_worth cX7_worth 9 (some .int) ∈ gw_t := gw_mem 723 (by decide +kernel) (by decide +kernel)
theorem ny_X7_worth : yX7_worth.cls ≠ "java/lang/invoke/MethodHandle" ∧ yX7_worth.cls ≠ "java/lang/invoke/VarHandle" ∧ (parseMethodDescriptor yX7_worth.desc).map (fun d => d.parameters.length) = some 2 := by decide +kernel
theorem cw_X8_back : Cond.code yX8_back cX8_back 1 (some .int) ∈ gw_t := gw_mem 882 (by decide +kernel) (by decide +kernel)
theorem ny_X8_back : yX8_back.cls ≠ "java/lang/invoke/MethodHandle" ∧ yX8_back.cls ≠ "java/lang/invoke/VarHandle" ∧ (parseMethodDescriptor yX8_back.desc).map (fun d => d.parameters.length) = some 0 := by decide +kernel
theorem cw_X8_behind : Cond.code yX8_behind cX8_behind 5 (some .int) ∈ gw_t := gw_mem 841 (by decide +kernel) (by decide +kernel)
theorem ny_X8_behind : yX8_behind.cls ≠ "java/lang/invoke/MethodHandle" ∧ yX8_behind.cls ≠ "java/lang/invoke/VarHandle" ∧ (parseMethodDescriptor yX8_behind.desc).map (fun d => d.parameters.length) = some 0 := by decide +kernel
theorem cw_X8_best : Cond.code yX8_best cX8_best 3 (some .int) ∈ gw_t := gw_mem 753 (by decide +kernel) (by decide +kernel)
theorem ny_X8_best : yX8_best.cls ≠ "java/lang/invoke/MethodHandle" ∧ yX8_best.cls ≠ "java/lang/invoke/VarHandle" ∧ (parseMethodDescriptor yX8_best.desc).map (fun d => d.parameters.length) = some 2 := by decide +kernel
theorem cw_X8_cell : Cond.code yX8_cell cX8_cell 5 (some .int) ∈ gw_t := gw_mem 899 (by decide +kernel) (by decide +kernel)
theorem ny_X8_cell : yX8_cell.cls ≠ "java/lang/invoke/MethodHandle" ∧ yX8_cell.cls ≠ "java/lang/invoke/VarHandle" ∧ (parseMethodDescriptor yX8_cell.desc).map (fun d => d.parameters.length) = some 3 := by decide +kernel
theorem cw_X8_chance : Cond.code yX8_chance cX8_chance 6 (some .long) ∈ gw_t := gw_mem 858 (by decide +kernel) (by decide +kernel)
theorem ny_X8_chance : yX8_chance.cls ≠ "java/lang/invoke/MethodHandle" ∧ yX8_chance.cls ≠ "java/lang/invoke/VarHandle" ∧ (parseMethodDescriptor yX8_chance.desc).map (fun d => d.parameters.length) = some 3 := by decide +kernel
theorem cw_X8_coin : Cond.code yX8_coin cX8_coin 3 (some .int) ∈ gw_t := gw_mem 817 (by decide +kernel) (by decide +kernel)
theorem ny_X8_coin : yX8_coin.cls ≠ "java/lang/invoke/MethodHandle" ∧ yX8_coin.cls ≠ "java/lang/invoke/VarHandle" ∧ (parseMethodDescriptor yX8_coin.desc).map (fun d => d.parameters.length) = some 1 := by decide +kernel
theorem cw_X8_come : Cond.code yX8_come cX8_come 3 (some .int) ∈ gw_t := gw_mem 601 (by decide +kernel) (by decide +kernel)
theorem ny_X8_come : yX8_come.cls ≠ "java/lang/invoke/MethodHandle" ∧ yX8_come.cls ≠ "java/lang/invoke/VarHandle" ∧ (parseMethodDescriptor yX8_come.desc).map (fun d => d.parameters.length) = some 2 := by decide +kernel
theorem cw_X8_commonDivisor : Cond.code yX8_commonDivisor cX8_commonDivisor 3 (some .int) ∈ gw_t := gw_mem 862 (by decide +kernel) (by decide +kernel)
theorem ny_X8_commonDivisor : yX8_commonDivisor.cls ≠ "java/lang/invoke/MethodHandle" ∧ yX8_commonDivisor.cls ≠ "java/lang/invoke/VarHandle" ∧ (parseMethodDescriptor yX8_commonDivisor.desc).map (fun d => d.parameters.length) = some 2 := by decide +kernel
theorem cw_X8_copy : Cond.code yX8_copy cX8_copy 8 (some .int) ∈ gw_t := gw_mem 911 (by decide +kernel) (by decide +kernel)
theorem ny_X8_copy : yX8_copy.cls ≠ "java/lang/invoke/MethodHandle" ∧ yX8_copy.cls ≠ "java/lang/invoke/VarHandle" ∧ (parseMethodDescriptor yX8_copy.desc).map (fun d => d.parameters.length) = some 5 := by decide +kernel
theorem cw_X8_count : Cond.code yX8_count cX8_count 2 (some .int) ∈ gw_t := gw_mem 886 (by decide +kernel) (by decide +kernel)
theorem ny_X8_count : yX8_count.cls ≠ "java/lang/invoke/MethodHandle" ∧ yX8_count.cls ≠ "java/lang/invoke/VarHandle" ∧ (parseMethodDescriptor yX8_count.desc).map (fun d => d.parameters.length) = some 1 := by decide +kernel
theorem cw_X8_desk : Cond.code yX8_desk cX8_desk 2 (some .int) ∈ gw_t := gw_mem 785 (by decide +kernel) (by decide +kernel)
theorem ny_X8_desk : yX8_desk.cls ≠ "java/lang/invoke/MethodHandle" ∧ yX8_desk.cls ≠ "java/lang/invoke/VarHandle" ∧ (parseMethodDescriptor yX8_desk.desc).map (fun d => d.parameters.length) = some 1 := by decide +kernel
theorem cw_X8_drawn : Cond.code yX8_drawn cX8_drawn 2 (some .int) ∈ gw_t := gw_mem 845 (by decide +kernel) (by decide +kernel)
theorem ny_X8_drawn : yX8_drawn.cls ≠ "java/lang/invoke/MethodHandle" ∧ yX8_drawn.cls ≠ "java/lang/invoke/VarHandle" ∧ (parseMethodDescriptor yX8_drawn.desc).map (fun d => d.parameters.length) = some 1 := by decide +kernel
theorem cw_X8_evening : Cond.code yX8_evening cX8_evening 3 (some .int) ∈ gw_t := gw_mem 669 (by decide +kernel) (by decide +kernel)
theorem ny_X8_evening : yX8_evening.cls ≠ "java/lang/invoke/MethodHandle" ∧ yX8_evening.cls ≠ "java/lang/invoke/VarHandle" ∧ (parseMethodDescriptor yX8_evening.desc).map (fun d => d.parameters.length) = some 2 := by decide +kernel
theorem cw_X8_feed : Cond.code yX8_feed cX8_feed 2 (some .int) ∈ gw_t := gw_mem 653 (by decide +kernel) (by decide +kernel)
theorem ny_X8_feed : yX8_feed.cls ≠ "java/lang/invoke/MethodHandle" ∧ yX8_feed.cls ≠ "java/lang/invoke/VarHandle" ∧ (parseMethodDescriptor yX8_feed.desc).map (fun d => d.parameters.length) = some 1 := by decide +kernel
theorem cw_X8_force : Cond.code yX8_force cX8_force 3 (some .int) ∈ gw_t := gw_mem 661 (by decide +kernel) (by decide +kernel)
theorem ny_X8_force : yX8_force.cls ≠ "java/lang/invoke/MethodHandle" ∧ yX8_force.cls ≠ "java/lang/invoke/VarHandle" ∧ (parseMethodDescriptor yX8_force.desc).map (fun d => d.parameters.length) = some 1 := by decide +kernel
theorem cw_X8_harm : Cond.code yX8_harm cX8_harm 3 (some .int) ∈ gw_t := gw_mem 822 (by decide +kernel) (by decide +kernel)
theorem ny_X8_harm : yX8_harm.cls ≠ "java/lang/invoke/MethodHandle" ∧ yX8_harm.cls ≠ "java/lang/invoke/VarHandle" ∧ (parseMethodDescriptor yX8_harm.desc).map (fun d => d.parameters.length) = some 1 := by decide +kernel
theorem cw_X8_hold : Cond.code yX8_hold cX8_hold 2 (some .int) ∈ gw_t := gw_mem 805 (by decide +kernel) (by decide +kernel)
theorem ny_X8_hold : yX8_hold.cls ≠ "java/lang/invoke/MethodHandle" ∧ yX8_hold.cls ≠ "java/lang/invoke/VarHandle" ∧ (parseMethodDescriptor yX8_hold.desc).map (fun d => d.parameters.length) = some 1 := by decide +kernel
theorem cw_X8_image : Cond.code yX8_image cX8_image 1 (some .int) ∈ gw_t := gw_mem 866 (by decide +kernel) (by decide +kernel)
theorem ny_X8_image : yX8_image.cls ≠ "java/lang/invoke/MethodHandle" ∧ yX8_image.cls ≠ "java/lang/invoke/VarHandle" ∧ (parseMethodDescriptor yX8_image.desc).map (fun d => d.parameters.length) = some 0 := by decide +kernel
theorem cw_X8_init : Cond.code yX8_init cX8_init 3 none ∈ gw_t := gw_mem 87 (by decide +kernel) (by decide +kernel)
theorem ny_X8_init : yX8_init.cls ≠ "java/lang/invoke/MethodHandle" ∧ yX8_init.cls ≠ "java/lang/invoke/VarHandle" ∧ (parseMethodDescriptor yX8_init.desc).map (fun d => d.parameters.length) = some 0 := by decide +kernel
theorem cw_X8_isSheet : Cond.code yX8_isSheet cX8_isSheet 1 (some .boolean) ∈ gw_t := gw_mem 829 (by decide +kernel) (by decide +kernel)
theorem ny_X8_isSheet : yX8_isSheet.cls ≠ "java/lang/invoke/MethodHandle" ∧ yX8_isSheet.cls ≠ "java/lang/invoke/VarHandle" ∧ (parseMethodDescriptor yX8_isSheet.desc).map (fun d => d.parameters.length) = some 1 := by decide +kernel
theorem cw_X8_judge : Cond.code yX8_judge cX8_judge 2 (some .int) ∈ gw_t := gw_mem 826 (by decide +kernel) (by decide +kernel)
theorem ny_X8_judge : yX8_judge.cls ≠ "java/lang/invoke/MethodHandle" ∧ yX8_judge.cls ≠ "java/lang/invoke/VarHandle" ∧ (parseMethodDescriptor yX8_judge.desc).map (fun d => d.parameters.length) = some 1 := by decide +kernel
theorem cw_X8_judged : Cond.code yX8_judged cX8_judged 4 (some .int) ∈ gw_t := gw_mem 833 (by decide +kernel) (by decide +kernel)
theorem ny_X8_judged : yX8_judged.cls ≠ "java/lang/invoke/MethodHandle" ∧ yX8_judged.cls ≠ "java/lang/invoke/VarHandle" ∧ (parseMethodDescriptor yX8_judged.desc).map (fun d => d.parameters.length) = some 2 := by decide +kernel
theorem cw_X8_refuse : Cond.code yX8_refuse cX8_refuse 5 (some .int) ∈ gw_t := gw_mem 813 (by decide +kernel) (by decide +kernel)
theorem ny_X8_refuse : yX8_refuse.cls ≠ "java/lang/invoke/MethodHandle" ∧ yX8_refuse.cls ≠ "java/lang/invoke/VarHandle" ∧ (parseMethodDescriptor yX8_refuse.desc).map (fun d => d.parameters.length) = some 1 := by decide +kernel
theorem cw_X8_rule : Cond.code yX8_rule cX8_rule 1 (some (.object "WhoSingsNext$Text")) ∈ gw_t := gw_mem 677 (by decide +kernel) (by decide +kernel)
theorem ny_X8_rule : yX8_rule.cls ≠ "java/lang/invoke/MethodHandle" ∧ yX8_rule.cls ≠ "java/lang/invoke/VarHandle" ∧ (parseMethodDescriptor yX8_rule.desc).map (fun d => d.parameters.length) = some 0 := by decide +kernel
theorem cw_X8_runDesk : Cond.code yX8_runDesk cX8_runDesk 3 none ∈ gw_t := gw_mem 789 (by decide +kernel) (by decide +kernel)
theorem ny_X8_runDesk : yX8_runDesk.cls ≠ "java/lang/invoke/MethodHandle" ∧ yX8_runDesk.cls ≠ "java/lang/invoke/VarHandle" ∧ (parseMethodDescriptor yX8_runDesk.desc).map (fun d => d.parameters.length) = some 2 := by decide +kernel
theorem cw_X8_set : Cond.code yX8_set cX8_set 5 (some .int) ∈ gw_t := gw_mem 625 (by decide +kernel) (by decide +kernel)
theorem ny_X8_set : yX8_set.cls ≠ "java/lang/invoke/MethodHandle" ∧ yX8_set.cls ≠ "java/lang/invoke/VarHandle" ∧ (parseMethodDescriptor yX8_set.desc).map (fun d => d.parameters.length) = some 3 := by decide +kernel
theorem cw_X8_sheet : Cond.code yX8_sheet cX8_sheet 4 (some .int) ∈ gw_t := gw_mem 890 (by decide +kernel) (by decide +kernel)
theorem ny_X8_sheet : yX8_sheet.cls ≠ "java/lang/invoke/MethodHandle" ∧ yX8_sheet.cls ≠ "java/lang/invoke/VarHandle" ∧ (parseMethodDescriptor yX8_sheet.desc).map (fun d => d.parameters.length) = some 3 := by decide +kernel
theorem cw_X8_slip : Cond.code yX8_slip cX8_slip 4 (some .int) ∈ gw_t := gw_mem 617 (by decide +kernel) (by decide +kernel)
theorem ny_X8_slip : yX8_slip.cls ≠ "java/lang/invoke/MethodHandle" ∧ yX8_slip.cls ≠ "java/lang/invoke/VarHandle" ∧ (parseMethodDescriptor yX8_slip.desc).map (fun d => d.parameters.length) = some 3 := by decide +kernel
theorem cw_X8_slips : Cond.code yX8_slips cX8_slips 9 (some .int) ∈ gw_t := gw_mem 916 (by decide +kernel) (by decide +kernel)
theorem ny_X8_slips : yX8_slips.cls ≠ "java/lang/invoke/MethodHandle" ∧ yX8_slips.cls ≠ "java/lang/invoke/VarHandle" ∧ (parseMethodDescriptor yX8_slips.desc).map (fun d => d.parameters.length) = some 4 := by decide +kernel
theorem cw_X8_taken : Cond.code yX8_taken cX8_taken 3 (some .int) ∈ gw_t := gw_mem 920 (by decide +kernel) (by decide +kernel)
theorem ny_X8_taken : yX8_taken.cls ≠ "java/lang/invoke/MethodHandle" ∧ yX8_taken.cls ≠ "java/lang/invoke/VarHandle" ∧ (parseMethodDescriptor yX8_taken.desc).map (fun d => d.parameters.length) = some 2 := by decide +kernel
theorem cw_X8_text : Cond.code yX8_text cX8_text 1 (some .int) ∈ gw_t := gw_mem 657 (by decide +kernel) (by decide +kernel)
theorem ny_X8_text : yX8_text.cls ≠ "java/lang/invoke/MethodHandle" ∧ yX8_text.cls ≠ "java/lang/invoke/VarHandle" ∧ (parseMethodDescriptor yX8_text.desc).map (fun d => d.parameters.length) = some 0 := by decide +kernel
theorem cw_X8_told : Cond.code yX8_told cX8_told 3 (some .int) ∈ gw_t := gw_mem 648 (by decide +kernel) (by decide +kernel)
theorem ny_X8_told : yX8_told.cls ≠ "java/lang/invoke/MethodHandle" ∧ yX8_told.cls ≠ "java/lang/invoke/VarHandle" ∧ (parseMethodDescriptor yX8_told.desc).map (fun d => d.parameters.length) = some 2 := by decide +kernel
theorem cw_X8_wait : Cond.code yX8_wait cX8_wait 2 (some .int) ∈ gw_t := gw_mem 809 (by decide +kernel) (by decide +kernel)
theorem ny_X8_wait : yX8_wait.cls ≠ "java/lang/invoke/MethodHandle" ∧ yX8_wait.cls ≠ "java/lang/invoke/VarHandle" ∧ (parseMethodDescriptor yX8_wait.desc).map (fun d => d.parameters.length) = some 1 := by decide +kernel
theorem cw_X8_which : Cond.code yX8_which cX8_which 4 (some .int) ∈ gw_t := gw_mem 837 (by decide +kernel) (by decide +kernel)
theorem ny_X8_which : yX8_which.cls ≠ "java/lang/invoke/MethodHandle" ∧ yX8_which.cls ≠ "java/lang/invoke/VarHandle" ∧ (parseMethodDescriptor yX8_which.desc).map (fun d => d.parameters.length) = some 1 := by decide +kernel
theorem cw_X8_within : Cond.code yX8_within cX8_within 3 (some .int) ∈ gw_t := gw_mem 713 (by decide +kernel) (by decide +kernel)
theorem ny_X8_within : yX8_within.cls ≠ "java/lang/invoke/MethodHandle" ∧ yX8_within.cls ≠ "java/lang/invoke/VarHandle" ∧ (parseMethodDescriptor yX8_within.desc).map (fun d => d.parameters.length) = some 3 := by decide +kernel
theorem cw_X9_added : Cond.code yX9_added cX9_added 4 (some .int) ∈ gw_t := gw_mem 1216 (by decide +kernel) (by decide +kernel)
theorem ny_X9_added : yX9_added.cls ≠ "java/lang/invoke/MethodHandle" ∧ yX9_added.cls ≠ "java/lang/invoke/VarHandle" ∧ (parseMethodDescriptor yX9_added.desc).map (fun d => d.parameters.length) = some 0 := by decide +kernel
theorem cw_X9_atom : Cond.code yX9_atom cX9_atom 2 (some .int) ∈ gw_t := gw_mem 1224 (by decide +kernel) (by decide +kernel)
theorem ny_X9_atom : yX9_atom.cls ≠ "java/lang/invoke/MethodHandle" ∧ yX9_atom.cls ≠ "java/lang/invoke/VarHandle" ∧ (parseMethodDescriptor yX9_atom.desc).map (fun d => d.parameters.length) = some 0 := by decide +kernel
theorem cw_X9_back : Cond.code yX9_back cX9_back 2 (some .int) ∈ gw_t := gw_mem 1394 (by decide +kernel) (by decide +kernel)
theorem ny_X9_back : yX9_back.cls ≠ "java/lang/invoke/MethodHandle" ∧ yX9_back.cls ≠ "java/lang/invoke/VarHandle" ∧ (parseMethodDescriptor yX9_back.desc).map (fun d => d.parameters.length) = some 0 := by decide +kernel
theorem cw_X9_begins : Cond.code yX9_begins cX9_begins 2 none ∈ gw_t := gw_mem 1254 (by decide +kernel) (by decide +kernel)
theorem ny_X9_begins : yX9_begins.cls ≠ "java/lang/invoke/MethodHandle" ∧ yX9_begins.cls ≠ "java/lang/invoke/VarHandle" ∧ (parseMethodDescriptor yX9_begins.desc).map (fun d => d.parameters.length) = some 0 := by decide +kernel
theorem cw_X9_behind : Cond.code yX9_behind cX9_behind 4 (some .int) ∈ gw_t := gw_mem 1371 (by decide +kernel) (by decide +kernel)
theorem ny_X9_behind : yX9_behind.cls ≠ "java/lang/invoke/MethodHandle" ∧ yX9_behind.cls ≠ "java/lang/invoke/VarHandle" ∧ (parseMethodDescriptor yX9_behind.desc).map (fun d => d.parameters.length) = some 0 := by decide +kernel
theorem cw_X9_best : Cond.code yX9_best cX9_best 3 (some .int) ∈ gw_t := gw_mem 1299 (by decide +kernel) (by decide +kernel)
theorem ny_X9_best : yX9_best.cls ≠ "java/lang/invoke/MethodHandle" ∧ yX9_best.cls ≠ "java/lang/invoke/VarHandle" ∧ (parseMethodDescriptor yX9_best.desc).map (fun d => d.parameters.length) = some 2 := by decide +kernel
theorem cw_X9_bitsOf : Cond.code yX9_bitsOf cX9_bitsOf 3 (some .int) ∈ gw_t := gw_mem 1275 (by decide +kernel) (by decide +kernel)
theorem ny_X9_bitsOf : yX9_bitsOf.cls ≠ "java/lang/invoke/MethodHandle" ∧ yX9_bitsOf.cls ≠ "java/lang/invoke/VarHandle" ∧ (parseMethodDescriptor yX9_bitsOf.desc).map (fun d => d.parameters.length) = some 1 := by decide +kernel
theorem cw_X9_both : Cond.code yX9_both cX9_both 3 (some .int) ∈ gw_t := gw_mem 1204 (by decide +kernel) (by decide +kernel)
theorem ny_X9_both : yX9_both.cls ≠ "java/lang/invoke/MethodHandle" ∧ yX9_both.cls ≠ "java/lang/invoke/VarHandle" ∧ (parseMethodDescriptor yX9_both.desc).map (fun d => d.parameters.length) = some 0 := by decide +kernel
theorem cw_X9_byteAt : Cond.code yX9_byteAt cX9_byteAt 2 (some .int) ∈ gw_t := gw_mem 1176 (by decide +kernel) (by decide +kernel)
theorem ny_X9_byteAt : yX9_byteAt.cls ≠ "java/lang/invoke/MethodHandle" ∧ yX9_byteAt.cls ≠ "java/lang/invoke/VarHandle" ∧ (parseMethodDescriptor yX9_byteAt.desc).map (fun d => d.parameters.length) = some 1 := by decide +kernel
theorem cw_X9_calls : Cond.code yX9_calls cX9_calls 6 none ∈ gw_t := gw_mem 1261 (by decide +kernel) (by decide +kernel)
theorem ny_X9_calls : yX9_calls.cls ≠ "java/lang/invoke/MethodHandle" ∧ yX9_calls.cls ≠ "java/lang/invoke/VarHandle" ∧ (parseMethodDescriptor yX9_calls.desc).map (fun d => d.parameters.length) = some 1 := by decide +kernel
theorem cw_X9_canSing : Cond.code yX9_canSing cX9_canSing 2 (some .boolean) ∈ gw_t := gw_mem 1265 (by decide +kernel) (by decide +kernel)
theorem ny_X9_canSing : yX9_canSing.cls ≠ "java/lang/invoke/MethodHandle" ∧ yX9_canSing.cls ≠ "java/lang/invoke/VarHandle" ∧ (parseMethodDescriptor yX9_canSing.desc).map (fun d => d.parameters.length) = some 1 := by decide +kernel
theorem cw_X9_cell : Cond.code yX9_cell cX9_cell 4 (some .int) ∈ gw_t := gw_mem 1407 (by decide +kernel) (by decide +kernel)
theorem ny_X9_cell : yX9_cell.cls ≠ "java/lang/invoke/MethodHandle" ∧ yX9_cell.cls ≠ "java/lang/invoke/VarHandle" ∧ (parseMethodDescriptor yX9_cell.desc).map (fun d => d.parameters.length) = some 3 := by decide +kernel
theorem cw_X9_chance : Cond.code yX9_chance cX9_chance 12 (some .long) ∈ gw_t := gw_mem 1384 (by decide +kernel) (by decide +kernel)
theorem ny_X9_chance : yX9_chance.cls ≠ "java/lang/invoke/MethodHandle" ∧ yX9_chance.cls ≠ "java/lang/invoke/VarHandle" ∧ (parseMethodDescriptor yX9_chance.desc).map (fun d => d.parameters.length) = some 3 := by decide +kernel
theorem cw_X9_coin : Cond.code yX9_coin cX9_coin 3 (some .int) ∈ gw_t := gw_mem 1344 (by decide +kernel) (by decide +kernel)
theorem ny_X9_coin : yX9_coin.cls ≠ "java/lang/invoke/MethodHandle" ∧ yX9_coin.cls ≠ "java/lang/invoke/VarHandle" ∧ (parseMethodDescriptor yX9_coin.desc).map (fun d => d.parameters.length) = some 1 := by decide +kernel
theorem cw_X9_come : Cond.code yX9_come cX9_come 3 (some .int) ∈ gw_t := gw_mem 1122 (by decide +kernel) (by decide +kernel)
theorem ny_X9_come : yX9_come.cls ≠ "java/lang/invoke/MethodHandle" ∧ yX9_come.cls ≠ "java/lang/invoke/VarHandle" ∧ (parseMethodDescriptor yX9_come.desc).map (fun d => d.parameters.length) = some 2 := by decide +kernel
theorem cw_X9_copy : Cond.code yX9_copy cX9_copy 9 (some .int) ∈ gw_t := gw_mem 1411 (by decide +kernel) (by decide +kernel)
theorem ny_X9_copy : yX9_copy.cls ≠ "java/lang/invoke/MethodHandle" ∧ yX9_copy.cls ≠ "java/lang/invoke/VarHandle" ∧ (parseMethodDescriptor yX9_copy.desc).map (fun d => d.parameters.length) = some 5 := by decide +kernel
theorem cw_X9_count : Cond.code yX9_count cX9_count 2 (some .int) ∈ gw_t := gw_mem 1398 (by decide +kernel) (by decide +kernel)
theorem ny_X9_count : yX9_count.cls ≠ "java/lang/invoke/MethodHandle" ∧ yX9_count.cls ≠ "java/lang/invoke/VarHandle" ∧ (parseMethodDescriptor yX9_count.desc).map (fun d => d.parameters.length) = some 1 := by decide +kernel
theorem cw_X9_desk : Cond.code yX9_desk cX9_desk 2 (some .int) ∈ gw_t := gw_mem 1320 (by decide +kernel) (by decide +kernel)
theorem ny_X9_desk : yX9_desk.cls ≠ "java/lang/invoke/MethodHandle" ∧ yX9_desk.cls ≠ "java/lang/invoke/VarHandle" ∧ (parseMethodDescriptor yX9_desk.desc).map (fun d => d.parameters.length) = some 1 := by decide +kernel
theorem cw_X9_deskCalls : Cond.code yX9_deskCalls cX9_deskCalls 7 (some .int) ∈ gw_t := gw_mem 1332 (by decide +kernel) (by decide +kernel)
theorem ny_X9_deskCalls : yX9_deskCalls.cls ≠ "java/lang/invoke/MethodHandle" ∧ yX9_deskCalls.cls ≠ "java/lang/invoke/VarHandle" ∧ (parseMethodDescriptor yX9_deskCalls.desc).map (fun d => d.parameters.length) = some 1 := by decide +kernel
theorem cw_X9_desks : Cond.code yX9_desks cX9_desks 2 none ∈ gw_t := gw_mem 1324 (by decide +kernel) (by decide +kernel)
theorem ny_X9_desks : yX9_desks.cls ≠ "java/lang/invoke/MethodHandle" ∧ yX9_desks.cls ≠ "java/lang/invoke/VarHandle" ∧ (parseMethodDescriptor yX9_desks.desc).map (fun d => d.parameters.length) = some 1 := by decide +kernel
theorem cw_X9_drawn : Cond.code yX9_drawn cX9_drawn 2 (some .int) ∈ gw_t := gw_mem 1375 (by decide +kernel) (by decide +kernel)
theorem ny_X9_drawn : yX9_drawn.cls ≠ "java/lang/invoke/MethodHandle" ∧ yX9_drawn.cls ≠ "java/lang/invoke/VarHandle" ∧ (parseMethodDescriptor yX9_drawn.desc).map (fun d => d.parameters.length) = some 1 := by decide +kernel
theorem cw_X9_draws : Cond.code yX9_draws cX9_draws 6 none ∈ gw_t := gw_mem 1379 (by decide +kernel) (by decide +kernel)
theorem ny_X9_draws : yX9_draws.cls ≠ "java/lang/invoke/MethodHandle" ∧ yX9_draws.cls ≠ "java/lang/invoke/VarHandle" ∧ (parseMethodDescriptor yX9_draws.desc).map (fun d => d.parameters.length) = some 1 := by decide +kernel
theorem cw_X9_either : Cond.code yX9_either cX9_either 3 (some .int) ∈ gw_t := gw_mem 1200 (by decide +kernel) (by decide +kernel)
theorem ny_X9_either : yX9_either.cls ≠ "java/lang/invoke/MethodHandle" ∧ yX9_either.cls ≠ "java/lang/invoke/VarHandle" ∧ (parseMethodDescriptor yX9_either.desc).map (fun d => d.parameters.length) = some 0 := by decide +kernel
theorem cw_X9_evening : Cond.code yX9_evening cX9_evening 3 (some .int) ∈ gw_t := gw_mem 1242 (by decide +kernel) (by decide +kernel)
theorem ny_X9_evening : yX9_evening.cls ≠ "java/lang/invoke/MethodHandle" ∧ yX9_evening.cls ≠ "java/lang/invoke/VarHandle" ∧ (parseMethodDescriptor yX9_evening.desc).map (fun d => d.parameters.length) = some 2 := by decide +kernel
theorem cw_X9_fail : Cond.code yX9_fail cX9_fail 1 none ∈ gw_t := gw_mem 1196 (by decide +kernel) (by decide +kernel)
theorem ny_X9_fail : yX9_fail.cls ≠ "java/lang/invoke/MethodHandle" ∧ yX9_fail.cls ≠ "java/lang/invoke/VarHandle" ∧ (parseMethodDescriptor yX9_fail.desc).map (fun d => d.parameters.length) = some 0 := by decide +kernel
theorem cw_X9_feed : Cond.code yX9_feed cX9_feed 2 (some .int) ∈ gw_t := gw_mem 1159 (by decide +kernel) (by decide +kernel)
theorem ny_X9_feed : yX9_feed.cls ≠ "java/lang/invoke/MethodHandle" ∧ yX9_feed.cls ≠ "java/lang/invoke/VarHandle" ∧ (parseMethodDescriptor yX9_feed.desc).map (fun d => d.parameters.length) = some 1 := by decide +kernel
theorem cw_X9_force : Cond.code yX9_force cX9_force 3 (some .int) ∈ gw_t := gw_mem 1238 (by decide +kernel) (by decide +kernel)
theorem ny_X9_force : yX9_force.cls ≠ "java/lang/invoke/MethodHandle" ∧ yX9_force.cls ≠ "java/lang/invoke/VarHandle" ∧ (parseMethodDescriptor yX9_force.desc).map (fun d => d.parameters.length) = some 1 := by decide +kernel
theorem cw_X9_goes : Cond.code yX9_goes cX9_goes 4 none ∈ gw_t := gw_mem 1250 (by decide +kernel) (by decide +kernel)
theorem ny_X9_goes : yX9_goes.cls ≠ "java/lang/invoke/MethodHandle" ∧ yX9_goes.cls ≠ "java/lang/invoke/VarHandle" ∧ (parseMethodDescriptor yX9_goes.desc).map (fun d => d.parameters.length) = some 1 := by decide +kernel
theorem cw_X9_goesOn : Cond.code yX9_goesOn cX9_goesOn 3 none ∈ gw_t := gw_mem 1328 (by decide +kernel) (by decide +kernel)
theorem ny_X9_goesOn : yX9_goesOn.cls ≠ "java/lang/invoke/MethodHandle" ∧ yX9_goesOn.cls ≠ "java/lang/invoke/VarHandle" ∧ (parseMethodDescriptor yX9_goesOn.desc).map (fun d => d.parameters.length) = some 1 := by decide +kernel
theorem cw_X9_harm : Cond.code yX9_harm cX9_harm 3 (some .int) ∈ gw_t := gw_mem 1348 (by decide +kernel) (by decide +kernel)
theorem ny_X9_harm : yX9_harm.cls ≠ "java/lang/invoke/MethodHandle" ∧ yX9_harm.cls ≠ "java/lang/invoke/VarHandle" ∧ (parseMethodDescriptor yX9_harm.desc).map (fun d => d.parameters.length) = some 1 := by decide +kernel
theorem cw_X9_hold : Cond.code yX9_hold cX9_hold 2 (some .int) ∈ gw_t := gw_mem 1295 (by decide +kernel) (by decide +kernel)
theorem ny_X9_hold : yX9_hold.cls ≠ "java/lang/invoke/MethodHandle" ∧ yX9_hold.cls ≠ "java/lang/invoke/VarHandle" ∧ (parseMethodDescriptor yX9_hold.desc).map (fun d => d.parameters.length) = some 1 := by decide +kernel
theorem cw_X9_image : Cond.code yX9_image cX9_image 2 (some .int) ∈ gw_t := gw_mem 1390 (by decide +kernel) (by decide +kernel)
theorem ny_X9_image : yX9_image.cls ≠ "java/lang/invoke/MethodHandle" ∧ yX9_image.cls ≠ "java/lang/invoke/VarHandle" ∧ (parseMethodDescriptor yX9_image.desc).map (fun d => d.parameters.length) = some 0 := by decide +kernel
theorem cw_X9_in : Cond.code yX9_in cX9_in 6 (some .boolean) ∈ gw_t := gw_mem 1126 (by decide +kernel) (by decide +kernel)
theorem ny_X9_in : yX9_in.cls ≠ "java/lang/invoke/MethodHandle" ∧ yX9_in.cls ≠ "java/lang/invoke/VarHandle" ∧ (parseMethodDescriptor yX9_in.desc).map (fun d => d.parameters.length) = some 3 := by decide +kernel
theorem cw_X9_init : Cond.code yX9_init cX9_init 1 none ∈ gw_t := gw_mem 929 (by decide +kernel) (by decide +kernel)
theorem ny_X9_init : yX9_init.cls ≠ "java/lang/invoke/MethodHandle" ∧ yX9_init.cls ≠ "java/lang/invoke/VarHandle" ∧ (parseMethodDescriptor yX9_init.desc).map (fun d => d.parameters.length) = some 0 := by decide +kernel
theorem cw_X9_isBetter : Cond.code yX9_isBetter cX9_isBetter 2 (some .boolean) ∈ gw_t := gw_mem 1308 (by decide +kernel) (by decide +kernel)
theorem ny_X9_isBetter : yX9_isBetter.cls ≠ "java/lang/invoke/MethodHandle" ∧ yX9_isBetter.cls ≠ "java/lang/invoke/VarHandle" ∧ (parseMethodDescriptor yX9_isBetter.desc).map (fun d => d.parameters.length) = some 1 := by decide +kernel
theorem cw_X9_isLetter : Cond.code yX9_isLetter cX9_isLetter 3 (some .boolean) ∈ gw_t := gw_mem 1188 (by decide +kernel) (by decide +kernel)
theorem ny_X9_isLetter : yX9_isLetter.cls ≠ "java/lang/invoke/MethodHandle" ∧ yX9_isLetter.cls ≠ "java/lang/invoke/VarHandle" ∧ (parseMethodDescriptor yX9_isLetter.desc).map (fun d => d.parameters.length) = some 2 := by decide +kernel
theorem cw_X9_isOne : Cond.code yX9_isOne cX9_isOne 2 (some .boolean) ∈ gw_t := gw_mem 1137 (by decide +kernel) (by decide +kernel)
theorem ny_X9_isOne : yX9_isOne.cls ≠ "java/lang/invoke/MethodHandle" ∧ yX9_isOne.cls ≠ "java/lang/invoke/VarHandle" ∧ (parseMethodDescriptor yX9_isOne.desc).map (fun d => d.parameters.length) = some 1 := by decide +kernel
theorem cw_X9_isRow : Cond.code yX9_isRow cX9_isRow 5 (some .boolean) ∈ gw_t := gw_mem 1246 (by decide +kernel) (by decide +kernel)
theorem ny_X9_isRow : yX9_isRow.cls ≠ "java/lang/invoke/MethodHandle" ∧ yX9_isRow.cls ≠ "java/lang/invoke/VarHandle" ∧ (parseMethodDescriptor yX9_isRow.desc).map (fun d => d.parameters.length) = some 1 := by decide +kernel
theorem cw_X9_isSheet : Cond.code yX9_isSheet cX9_isSheet 1 (some .boolean) ∈ gw_t := gw_mem 1359 (by decide +kernel) (by decide +kernel)
theorem ny_X9_isSheet : yX9_isSheet.cls ≠ "java/lang/invoke/MethodHandle" ∧ yX9_isSheet.cls ≠ "java/lang/invoke/VarHandle" ∧ (parseMethodDescriptor yX9_isSheet.desc).map (fun d => d.parameters.length) = some 1 := by decide +kernel
theorem cw_X9_isSign : Cond.code yX9_isSign cX9_isSign 2 (some .boolean) ∈ gw_t := gw_mem 1228 (by decide +kernel) (by decide +kernel)
theorem ny_X9_isSign : yX9_isSign.cls ≠ "java/lang/invoke/MethodHandle" ∧ yX9_isSign.cls ≠ "java/lang/invoke/VarHandle" ∧ (parseMethodDescriptor yX9_isSign.desc).map (fun d => d.parameters.length) = some 1 := by decide +kernel
theorem cw_X9_isSlip : Cond.code yX9_isSlip cX9_isSlip 2 (some .boolean) ∈ gw_t := gw_mem 1148 (by decide +kernel) (by decide +kernel)
theorem ny_X9_isSlip : yX9_isSlip.cls ≠ "java/lang/invoke/MethodHandle" ∧ yX9_isSlip.cls ≠ "java/lang/invoke/VarHandle" ∧ (parseMethodDescriptor yX9_isSlip.desc).map (fun d => d.parameters.length) = some 1 := by decide +kernel
theorem cw_X9_isWord : Cond.code yX9_isWord cX9_isWord 9 (some .boolean) ∈ gw_t := gw_mem 1184 (by decide +kernel) (by decide +kernel)
theorem ny_X9_isWord : yX9_isWord.cls ≠ "java/lang/invoke/MethodHandle" ∧ yX9_isWord.cls ≠ "java/lang/invoke/VarHandle" ∧ (parseMethodDescriptor yX9_isWord.desc).map (fun d => d.parameters.length) = some 8 := by decide +kernel
theorem cw_X9_judge : Cond.code yX9_judge cX9_judge 3 (some .int) ∈ gw_t := gw_mem 1352 (by decide +kernel) (by decide +kernel)
theorem ny_X9_judge : yX9_judge.cls ≠ "java/lang/invoke/MethodHandle" ∧ yX9_judge.cls ≠ "java/lang/invoke/VarHandle" ∧ (parseMethodDescriptor yX9_judge.desc).map (fun d => d.parameters.length) = some 1 := by decide +kernel
theorem cw_X9_lays : Cond.code yX9_lays cX9_lays 4 none ∈ gw_t := gw_mem 1312 (by decide +kernel) (by decide +kernel)
theorem ny_X9_lays : yX9_lays.cls ≠ "java/lang/invoke/MethodHandle" ∧ yX9_lays.cls ≠ "java/lang/invoke/VarHandle" ∧ (parseMethodDescriptor yX9_lays.desc).map (fun d => d.parameters.length) = some 1 := by decide +kernel
theorem cw_X9_laysBack : Cond.code yX9_laysBack cX9_laysBack 4 none ∈ gw_t := gw_mem 1316 (by decide +kernel) (by decide +kernel)
theorem ny_X9_laysBack : yX9_laysBack.cls ≠ "java/lang/invoke/MethodHandle" ∧ yX9_laysBack.cls ≠ "java/lang/invoke/VarHandle" ∧ (parseMethodDescriptor yX9_laysBack.desc).map (fun d => d.parameters.length) = some 1 := by decide +kernel
theorem cw_X9_leftMany : Cond.code yX9_leftMany cX9_leftMany 1 (some .int) ∈ gw_t := gw_mem 1291 (by decide +kernel) (by decide +kernel)
theorem ny_X9_leftMany : yX9_leftMany.cls ≠ "java/lang/invoke/MethodHandle" ∧ yX9_leftMany.cls ≠ "java/lang/invoke/VarHandle" ∧ (parseMethodDescriptor yX9_leftMany.desc).map (fun d => d.parameters.length) = some 0 := by decide +kernel
theorem cw_X9_moves : Cond.code yX9_moves cX9_moves 6 (some .int) ∈ gw_t := gw_mem 1269 (by decide +kernel) (by decide +kernel)
theorem ny_X9_moves : yX9_moves.cls ≠ "java/lang/invoke/MethodHandle" ∧ yX9_moves.cls ≠ "java/lang/invoke/VarHandle" ∧ (parseMethodDescriptor yX9_moves.desc).map (fun d => d.parameters.length) = some 2 := by decide +kernel
theorem cw_X9_name : Cond.code yX9_name cX9_name 1 (some .int) ∈ gw_t := gw_mem 1232 (by decide +kernel) (by decide +kernel)
theorem ny_X9_name : yX9_name.cls ≠ "java/lang/invoke/MethodHandle" ∧ yX9_name.cls ≠ "java/lang/invoke/VarHandle" ∧ (parseMethodDescriptor yX9_name.desc).map (fun d => d.parameters.length) = some 0 := by decide +kernel
theorem cw_X9_next : Cond.code yX9_next cX9_next 3 none ∈ gw_t := gw_mem 1172 (by decide +kernel) (by decide +kernel)
theorem ny_X9_next : yX9_next.cls ≠ "java/lang/invoke/MethodHandle" ∧ yX9_next.cls ≠ "java/lang/invoke/VarHandle" ∧ (parseMethodDescriptor yX9_next.desc).map (fun d => d.parameters.length) = some 0 := by decide +kernel
theorem cw_X9_not : Cond.code yX9_not cX9_not 4 (some .int) ∈ gw_t := gw_mem 1208 (by decide +kernel) (by decide +kernel)
theorem ny_X9_not : yX9_not.cls ≠ "java/lang/invoke/MethodHandle" ∧ yX9_not.cls ≠ "java/lang/invoke/VarHandle" ∧ (parseMethodDescriptor yX9_not.desc).map (fun d => d.parameters.length) = some 0 := by decide +kernel
theorem cw_X9_opens : Cond.code yX9_opens cX9_opens 1 (some .boolean) ∈ gw_t := gw_mem 1212 (by decide +kernel) (by decide +kernel)
theorem ny_X9_opens : yX9_opens.cls ≠ "java/lang/invoke/MethodHandle" ∧ yX9_opens.cls ≠ "java/lang/invoke/VarHandle" ∧ (parseMethodDescriptor yX9_opens.desc).map (fun d => d.parameters.length) = some 0 := by decide +kernel
theorem cw_X9_over : Cond.code yX9_over cX9_over 1 (some .int) ∈ gw_t := gw_mem 1423 (by decide +kernel) (by decide +kernel)
theorem ny_X9_over : yX9_over.cls ≠ "java/lang/invoke/MethodHandle" ∧ yX9_over.cls ≠ "java/lang/invoke/VarHandle" ∧ (parseMethodDescriptor yX9_over.desc).map (fun d => d.parameters.length) = some 1 := by decide +kernel
theorem cw_X9_part : Cond.code yX9_part cX9_part 3 (some .int) ∈ gw_t := gw_mem 1192 (by decide +kernel) (by decide +kernel)
theorem ny_X9_part : yX9_part.cls ≠ "java/lang/invoke/MethodHandle" ∧ yX9_part.cls ≠ "java/lang/invoke/VarHandle" ∧ (parseMethodDescriptor yX9_part.desc).map (fun d => d.parameters.length) = some 1 := by decide +kernel
theorem cw_X9_read : Cond.code yX9_read cX9_read 6 (some .int) ∈ gw_t := gw_mem 1168 (by decide +kernel) (by decide +kernel)
theorem ny_X9_read : yX9_read.cls ≠ "java/lang/invoke/MethodHandle" ∧ yX9_read.cls ≠ "java/lang/invoke/VarHandle" ∧ (parseMethodDescriptor yX9_read.desc).map (fun d => d.parameters.length) = some 2 := by decide +kernel
theorem cw_X9_refuse : Cond.code yX9_refuse cX9_refuse 5 (some .int) ∈ gw_t := gw_mem 1340 (by decide +kernel) (by decide +kernel)
theorem ny_X9_refuse : yX9_refuse.cls ≠ "java/lang/invoke/MethodHandle" ∧ yX9_refuse.cls ≠ "java/lang/invoke/VarHandle" ∧ (parseMethodDescriptor yX9_refuse.desc).map (fun d => d.parameters.length) = some 1 := by decide +kernel
theorem cw_X9_rows : Cond.code yX9_rows cX9_rows 5 none ∈ gw_t := gw_mem 1304 (by decide +kernel) (by decide +kernel)
theorem ny_X9_rows : yX9_rows.cls ≠ "java/lang/invoke/MethodHandle" ∧ yX9_rows.cls ≠ "java/lang/invoke/VarHandle" ∧ (parseMethodDescriptor yX9_rows.desc).map (fun d => d.parameters.length) = some 3 := by decide +kernel
theorem cw_X9_says : Cond.code yX9_says cX9_says 6 (some .int) ∈ gw_t := gw_mem 1283 (by decide +kernel) (by decide +kernel)
theorem ny_X9_says : yX9_says.cls ≠ "java/lang/invoke/MethodHandle" ∧ yX9_says.cls ≠ "java/lang/invoke/VarHandle" ∧ (parseMethodDescriptor yX9_says.desc).map (fun d => d.parameters.length) = some 4 := by decide +kernel
theorem cw_X9_set : Cond.code yX9_set cX9_set 5 (some .int) ∈ gw_t := gw_mem 1141 (by decide +kernel) (by decide +kernel)
theorem ny_X9_set : yX9_set.cls ≠ "java/lang/invoke/MethodHandle" ∧ yX9_set.cls ≠ "java/lang/invoke/VarHandle" ∧ (parseMethodDescriptor yX9_set.desc).map (fun d => d.parameters.length) = some 3 := by decide +kernel
theorem cw_X9_sheet : Cond.code yX9_sheet cX9_sheet 5 (some .int) ∈ gw_t := gw_mem 1402 (by decide +kernel) (by decide +kernel)
theorem ny_X9_sheet : yX9_sheet.cls ≠ "java/lang/invoke/MethodHandle" ∧ yX9_sheet.cls ≠ "java/lang/invoke/VarHandle" ∧ (parseMethodDescriptor yX9_sheet.desc).map (fun d => d.parameters.length) = some 3 := by decide +kernel
theorem cw_X9_sizeOf : Cond.code yX9_sizeOf cX9_sizeOf 3 (some .int) ∈ gw_t := gw_mem 1257 (by decide +kernel) (by decide +kernel)
theorem ny_X9_sizeOf : yX9_sizeOf.cls ≠ "java/lang/invoke/MethodHandle" ∧ yX9_sizeOf.cls ≠ "java/lang/invoke/VarHandle" ∧ (parseMethodDescriptor yX9_sizeOf.desc).map (fun d => d.parameters.length) = some 1 := by decide +kernel
theorem cw_X9_slip : Cond.code yX9_slip cX9_slip 4 (some .int) ∈ gw_t := gw_mem 1131 (by decide +kernel) (by decide +kernel)
theorem ny_X9_slip : yX9_slip.cls ≠ "java/lang/invoke/MethodHandle" ∧ yX9_slip.cls ≠ "java/lang/invoke/VarHandle" ∧ (parseMethodDescriptor yX9_slip.desc).map (fun d => d.parameters.length) = some 3 := by decide +kernel
theorem cw_X9_slips : Cond.code yX9_slips cX9_slips 8 (some .int) ∈ gw_t := gw_mem 1415 (by decide +kernel) (by decide +kernel)
theorem ny_X9_slips : yX9_slips.cls ≠ "java/lang/invoke/MethodHandle" ∧ yX9_slips.cls ≠ "java/lang/invoke/VarHandle" ∧ (parseMethodDescriptor yX9_slips.desc).map (fun d => d.parameters.length) = some 4 := by decide +kernel
theorem cw_X9_spell : Cond.code yX9_spell cX9_spell 10 none ∈ gw_t := gw_mem 934 (by decide +kernel) (by decide +kernel)
theorem ny_X9_spell : yX9_spell.cls ≠ "java/lang/invoke/MethodHandle" ∧ yX9_spell.cls ≠ "java/lang/invoke/VarHandle" ∧ (parseMethodDescriptor yX9_spell.desc).map (fun d => d.parameters.length) = some 9 := by decide +kernel
theorem cw_X9_taken : Cond.code yX9_taken cX9_taken 4 (some .int) ∈ gw_t := gw_mem 1420 (by decide +kernel) (by decide +kernel)
theorem ny_X9_taken : yX9_taken.cls ≠ "java/lang/invoke/MethodHandle" ∧ yX9_taken.cls ≠ "java/lang/invoke/VarHandle" ∧ (parseMethodDescriptor yX9_taken.desc).map (fun d => d.parameters.length) = some 2 := by decide +kernel
theorem cw_X9_tellBad : Cond.code yX9_tellBad cX9_tellBad 2 (some .int) ∈ gw_t := gw_mem 1356 (by decide +kernel) (by decide +kernel)
theorem ny_X9_tellBad : yX9_tellBad.cls ≠ "java/lang/invoke/MethodHandle" ∧ yX9_tellBad.cls ≠ "java/lang/invoke/VarHandle" ∧ (parseMethodDescriptor yX9_tellBad.desc).map (fun d => d.parameters.length) = some 1 := by decide +kernel
theorem cw_X9_tells : Cond.code yX9_tells cX9_tells 2 (some .int) ∈ gw_t := gw_mem 1287 (by decide +kernel) (by decide +kernel)
theorem ny_X9_tells : yX9_tells.cls ≠ "java/lang/invoke/MethodHandle" ∧ yX9_tells.cls ≠ "java/lang/invoke/VarHandle" ∧ (parseMethodDescriptor yX9_tells.desc).map (fun d => d.parameters.length) = some 1 := by decide +kernel
theorem cw_X9_term : Cond.code yX9_term cX9_term 2 (some .int) ∈ gw_t := gw_mem 1220 (by decide +kernel) (by decide +kernel)
theorem ny_X9_term : yX9_term.cls ≠ "java/lang/invoke/MethodHandle" ∧ yX9_term.cls ≠ "java/lang/invoke/VarHandle" ∧ (parseMethodDescriptor yX9_term.desc).map (fun d => d.parameters.length) = some 0 := by decide +kernel
theorem cw_X9_text : Cond.code yX9_text cX9_text 2 (some .int) ∈ gw_t := gw_mem 1164 (by decide +kernel) (by decide +kernel)
theorem ny_X9_text : yX9_text.cls ≠ "java/lang/invoke/MethodHandle" ∧ yX9_text.cls ≠ "java/lang/invoke/VarHandle" ∧ (parseMethodDescriptor yX9_text.desc).map (fun d => d.parameters.length) = some 0 := by decide +kernel
theorem cw_X9_thirst : Cond.code yX9_thirst cX9_thirst 5 (some .int) ∈ gw_t := gw_mem 1279 (by decide +kernel) (by decide +kernel)
theorem ny_X9_thirst : yX9_thirst.cls ≠ "java/lang/invoke/MethodHandle" ∧ yX9_thirst.cls ≠ "java/lang/invoke/VarHandle" ∧ (parseMethodDescriptor yX9_thirst.desc).map (fun d => d.parameters.length) = some 2 := by decide +kernel
theorem cw_X9_told : Cond.code yX9_told cX9_told 3 (some .int) ∈ gw_t := gw_mem 1155 (by decide +kernel) (by decide +kernel)
theorem ny_X9_told : yX9_told.cls ≠ "java/lang/invoke/MethodHandle" ∧ yX9_told.cls ≠ "java/lang/invoke/VarHandle" ∧ (parseMethodDescriptor yX9_told.desc).map (fun d => d.parameters.length) = some 2 := by decide +kernel
theorem cw_X9_wait : Cond.code yX9_wait cX9_wait 2 (some .int) ∈ gw_t := gw_mem 1336 (by decide +kernel) (by decide +kernel)
theorem ny_X9_wait : yX9_wait.cls ≠ "java/lang/invoke/MethodHandle" ∧ yX9_wait.cls ≠ "java/lang/invoke/VarHandle" ∧ (parseMethodDescriptor yX9_wait.desc).map (fun d => d.parameters.length) = some 1 := by decide +kernel
theorem cw_X9_which : Cond.code yX9_which cX9_which 5 (some .int) ∈ gw_t := gw_mem 1367 (by decide +kernel) (by decide +kernel)
theorem ny_X9_which : yX9_which.cls ≠ "java/lang/invoke/MethodHandle" ∧ yX9_which.cls ≠ "java/lang/invoke/VarHandle" ∧ (parseMethodDescriptor yX9_which.desc).map (fun d => d.parameters.length) = some 1 := by decide +kernel
theorem cw_X9_within : Cond.code yX9_within cX9_within 3 (some .int) ∈ gw_t := gw_mem 1272 (by decide +kernel) (by decide +kernel)
theorem ny_X9_within : yX9_within.cls ≠ "java/lang/invoke/MethodHandle" ∧ yX9_within.cls ≠ "java/lang/invoke/VarHandle" ∧ (parseMethodDescriptor yX9_within.desc).map (fun d => d.parameters.length) = some 3 := by decide +kernel
theorem cw_X9_wrongAt : Cond.code yX9_wrongAt cX9_wrongAt 4 (some .int) ∈ gw_t := gw_mem 1363 (by decide +kernel) (by decide +kernel)
theorem ny_X9_wrongAt : yX9_wrongAt.cls ≠ "java/lang/invoke/MethodHandle" ∧ yX9_wrongAt.cls ≠ "java/lang/invoke/VarHandle" ∧ (parseMethodDescriptor yX9_wrongAt.desc).map (fun d => d.parameters.length) = some 1 := by decide +kernel
theorem ml_J0_492 : Cond.methodLink RJ0 492 yJ0_isLatin1_aae02 ∈ gw_t := gw_mem 341 (by decide +kernel) (by decide +kernel)
theorem gd_J0_492 : GoodIn gw_t (wsV RJ0 492 RJ0 yJ0_isLatin1_aae02 (.code yJ0_isLatin1_aae02 cJ0_isLatin1_aae02 1 (some .boolean) :: gw_t)) := gw_wsV ml_J0_492 (gw_mem 342 (by decide +kernel) (by decide +kernel)) (gw_mem 343 (by decide +kernel) (by decide +kernel)) (gw_mem 71 (by decide +kernel) (by decide +kernel)) cw_J0_isLatin1_aae02
theorem ml_J0_495 : Cond.methodLink RJ0 495 yJ1_charAt_3b067 ∈ gw_t := gw_mem 345 (by decide +kernel) (by decide +kernel)
theorem gd_J0_495 : GoodIn gw_t (va_wsS RJ0 495 yJ1_charAt_3b067 (.code yJ1_charAt_3b067 cJ1_charAt_3b067 2 (some .char) :: gw_t)) := gw_wsS ml_J0_495 (gw_mem 346 (by decide +kernel) (by decide +kernel)) (gw_mem 72 (by decide +kernel) (by decide +kernel)) cw_J1_charAt_3b067
theorem ml_J0_498 : Cond.methodLink RJ0 498 yJ2_charAt_3b067 ∈ gw_t := gw_mem 356 (by decide +kernel) (by decide +kernel)
theorem gd_J0_498 : GoodIn gw_t (va_wsS RJ0 498 yJ2_charAt_3b067 (.code yJ2_charAt_3b067 cJ2_charAt_3b067 2 (some .char) :: gw_t)) := gw_wsS ml_J0_498 (gw_mem 357 (by decide +kernel) (by decide +kernel)) (gw_mem 74 (by decide +kernel) (by decide +kernel)) cw_J2_charAt_3b067
theorem ml_J0_1062 : Cond.methodLink RJ0 1062 yJ3_checkFromToIndex_8c36e ∈ gw_t := gw_mem 459 (by decide +kernel) (by decide +kernel)
theorem gd_J0_1062 : GoodIn gw_t (va_wsS RJ0 1062 yJ3_checkFromToIndex_8c36e (.code yJ3_checkFromToIndex_8c36e cJ3_checkFromToIndex_8c36e 4 (some .int) :: gw_t)) := gw_wsS ml_J0_1062 (gw_mem 460 (by decide +kernel) (by decide +kernel)) (gw_mem 73 (by decide +kernel) (by decide +kernel)) cw_J3_checkFromToIndex_8c36e
theorem ml_J0_1059 : Cond.methodLink RJ0 1059 yJ3_checkIndex_8e157 ∈ gw_t := gw_mem 353 (by decide +kernel) (by decide +kernel)
theorem gd_J0_1059 : GoodIn gw_t (va_wsS RJ0 1059 yJ3_checkIndex_8e157 (.code yJ3_checkIndex_8e157 cJ3_checkIndex_8e157 3 (some .int) :: gw_t)) := gw_wsS ml_J0_1059 (gw_mem 354 (by decide +kernel) (by decide +kernel)) (gw_mem 73 (by decide +kernel) (by decide +kernel)) cw_J3_checkIndex_8e157
theorem ml_J0_633 : Cond.methodLink RJ0 633 yJ0_indexOf_7cf53 ∈ gw_t := gw_mem 424 (by decide +kernel) (by decide +kernel)
theorem gd_J0_633 : GoodIn gw_t (wsV RJ0 633 RJ0 yJ0_indexOf_7cf53 (.code yJ0_indexOf_7cf53 cJ0_indexOf_7cf53 3 (some .int) :: gw_t)) := gw_wsV ml_J0_633 (gw_mem 425 (by decide +kernel) (by decide +kernel)) (gw_mem 426 (by decide +kernel) (by decide +kernel)) (gw_mem 71 (by decide +kernel) (by decide +kernel)) cw_J0_indexOf_7cf53
theorem ml_J0_505 : Cond.methodLink RJ0 505 yJ0_length_8abf5 ∈ gw_t := gw_mem 428 (by decide +kernel) (by decide +kernel)
theorem gd_J0_505 : GoodIn gw_t (wsV RJ0 505 RJ0 yJ0_length_8abf5 (.code yJ0_length_8abf5 cJ0_length_8abf5 1 (some .int) :: gw_t)) := gw_wsV ml_J0_505 (gw_mem 328 (by decide +kernel) (by decide +kernel)) (gw_mem 329 (by decide +kernel) (by decide +kernel)) (gw_mem 71 (by decide +kernel) (by decide +kernel)) cw_J0_length_8abf5
theorem ml_J0_637 : Cond.methodLink RJ0 637 yJ1_indexOf_4cfef ∈ gw_t := gw_mem 429 (by decide +kernel) (by decide +kernel)
theorem gd_J0_637 : GoodIn gw_t (va_wsS RJ0 637 yJ1_indexOf_4cfef (.code yJ1_indexOf_4cfef cJ1_indexOf_4cfef 4 (some .int) :: gw_t)) := gw_wsS ml_J0_637 (gw_mem 430 (by decide +kernel) (by decide +kernel)) (gw_mem 72 (by decide +kernel) (by decide +kernel)) cw_J1_indexOf_4cfef
theorem ml_J0_640 : Cond.methodLink RJ0 640 yJ2_indexOf_4cfef ∈ gw_t := gw_mem 444 (by decide +kernel) (by decide +kernel)
theorem gd_J0_640 : GoodIn gw_t (va_wsS RJ0 640 yJ2_indexOf_4cfef (.code yJ2_indexOf_4cfef cJ2_indexOf_4cfef 4 (some .int) :: gw_t)) := gw_wsS ml_J0_640 (gw_mem 445 (by decide +kernel) (by decide +kernel)) (gw_mem 74 (by decide +kernel) (by decide +kernel)) cw_J2_indexOf_4cfef
theorem ml_J0_335 : Cond.methodLink RJ0 335 yJ0_coder_7d493 ∈ gw_t := gw_mem 331 (by decide +kernel) (by decide +kernel)
theorem gd_J0_335 : GoodIn gw_t (wsV RJ0 335 RJ0 yJ0_coder_7d493 (.code yJ0_coder_7d493 cJ0_coder_7d493 1 (some .byte) :: gw_t)) := gw_wsV ml_J0_335 (gw_mem 332 (by decide +kernel) (by decide +kernel)) (gw_mem 333 (by decide +kernel) (by decide +kernel)) (gw_mem 71 (by decide +kernel) (by decide +kernel)) cw_J0_coder_7d493
theorem ml_J1_9 : Cond.methodLink RJ1 9 yJ0_checkIndex_df160 ∈ gw_t := gw_mem 348 (by decide +kernel) (by decide +kernel)
theorem gd_J1_9 : GoodIn gw_t (va_wsS RJ1 9 yJ0_checkIndex_df160 (.code yJ0_checkIndex_df160 cJ0_checkIndex_df160 2 none :: gw_t)) := gw_wsS ml_J1_9 (gw_mem 349 (by decide +kernel) (by decide +kernel)) (gw_mem 71 (by decide +kernel) (by decide +kernel)) cw_J0_checkIndex_df160
theorem ml_J1_88 : Cond.methodLink RJ1 88 yJ1_canEncode_9a6ad ∈ gw_t := gw_mem 432 (by decide +kernel) (by decide +kernel)
theorem gd_J1_88 : GoodIn gw_t (va_wsS RJ1 88 yJ1_canEncode_9a6ad (.code yJ1_canEncode_9a6ad cJ1_canEncode_9a6ad 1 (some .boolean) :: gw_t)) := gw_wsS ml_J1_88 (gw_mem 433 (by decide +kernel) (by decide +kernel)) (gw_mem 72 (by decide +kernel) (by decide +kernel)) cw_J1_canEncode_9a6ad
theorem ml_J1_92 : Cond.methodLink RJ1 92 yJ9_max_7cf53 ∈ gw_t := gw_mem 435 (by decide +kernel) (by decide +kernel)
theorem gd_J1_92 : GoodIn gw_t (va_wsS RJ1 92 yJ9_max_7cf53 (.code yJ9_max_7cf53 cJ9_max_7cf53 2 (some .int) :: gw_t)) := gw_wsS ml_J1_92 (gw_mem 436 (by decide +kernel) (by decide +kernel)) (gw_mem 75 (by decide +kernel) (by decide +kernel)) cw_J9_max_7cf53
theorem ml_J1_38 : Cond.methodLink RJ1 38 yJ9_min_7cf53 ∈ gw_t := gw_mem 438 (by decide +kernel) (by decide +kernel)
theorem gd_J1_38 : GoodIn gw_t (va_wsS RJ1 38 yJ9_min_7cf53 (.code yJ9_min_7cf53 cJ9_min_7cf53 2 (some .int) :: gw_t)) := gw_wsS ml_J1_38 (gw_mem 439 (by decide +kernel) (by decide +kernel)) (gw_mem 75 (by decide +kernel) (by decide +kernel)) cw_J9_min_7cf53
theorem ml_J1_95 : Cond.methodLink RJ1 95 yJ1_indexOfChar_4cfef ∈ gw_t := gw_mem 441 (by decide +kernel) (by decide +kernel)
theorem gd_J1_95 : GoodIn gw_t (va_wsS RJ1 95 yJ1_indexOfChar_4cfef (.code yJ1_indexOfChar_4cfef cJ1_indexOfChar_4cfef 6 (some .int) :: gw_t)) := gw_wsS ml_J1_95 (gw_mem 442 (by decide +kernel) (by decide +kernel)) (gw_mem 72 (by decide +kernel) (by decide +kernel)) cw_J1_indexOfChar_4cfef
theorem ml_J2_67 : Cond.methodLink RJ2 67 yJ2_checkIndex_2214a ∈ gw_t := gw_mem 359 (by decide +kernel) (by decide +kernel)
theorem gd_J2_67 : GoodIn gw_t (va_wsS RJ2 67 yJ2_checkIndex_2214a (.code yJ2_checkIndex_2214a cJ2_checkIndex_2214a 2 none :: gw_t)) := gw_wsS ml_J2_67 (gw_mem 360 (by decide +kernel) (by decide +kernel)) (gw_mem 74 (by decide +kernel) (by decide +kernel)) cw_J2_checkIndex_2214a
theorem ml_J2_71 : Cond.methodLink RJ2 71 yJ2_getChar_3b067 ∈ gw_t := gw_mem 366 (by decide +kernel) (by decide +kernel)
theorem gd_J2_71 : GoodIn gw_t (va_wsS RJ2 71 yJ2_getChar_3b067 (.code yJ2_getChar_3b067 cJ2_getChar_3b067 2 (some .char) :: gw_t)) := gw_wsS ml_J2_71 (gw_mem 367 (by decide +kernel) (by decide +kernel)) (gw_mem 74 (by decide +kernel) (by decide +kernel)) cw_J2_getChar_3b067
theorem ml_J2_48 : Cond.methodLink RJ2 48 yJ2_length_9d52b ∈ gw_t := gw_mem 362 (by decide +kernel) (by decide +kernel)
theorem gd_J2_48 : GoodIn gw_t (va_wsS RJ2 48 yJ2_length_9d52b (.code yJ2_length_9d52b cJ2_length_9d52b 1 (some .int) :: gw_t)) := gw_wsS ml_J2_48 (gw_mem 363 (by decide +kernel) (by decide +kernel)) (gw_mem 74 (by decide +kernel) (by decide +kernel)) cw_J2_length_9d52b
theorem ml_J2_241 : Cond.methodLink RJ2 241 yJ0_checkBoundsBeginEnd_23922 ∈ gw_t := gw_mem 456 (by decide +kernel) (by decide +kernel)
theorem gd_J2_241 : GoodIn gw_t (va_wsS RJ2 241 yJ0_checkBoundsBeginEnd_23922 (.code yJ0_checkBoundsBeginEnd_23922 cJ0_checkBoundsBeginEnd_23922 3 none :: gw_t)) := gw_wsS ml_J2_241 (gw_mem 457 (by decide +kernel) (by decide +kernel)) (gw_mem 71 (by decide +kernel) (by decide +kernel)) cw_J0_checkBoundsBeginEnd_23922
theorem ml_J2_414 : Cond.methodLink RJ2 414 yJ0_checkIndex_df160 ∈ gw_t := gw_mem 365 (by decide +kernel) (by decide +kernel)
theorem gd_J2_414 : GoodIn gw_t (va_wsS RJ2 414 yJ0_checkIndex_df160 (.code yJ0_checkIndex_df160 cJ0_checkIndex_df160 2 none :: gw_t)) := gw_wsS ml_J2_414 (gw_mem 349 (by decide +kernel) (by decide +kernel)) (gw_mem 71 (by decide +kernel) (by decide +kernel)) cw_J0_checkIndex_df160
theorem ml_J2_96 : Cond.methodLink RJ2 96 yJ2_checkBoundsBeginEnd_d044e ∈ gw_t := gw_mem 453 (by decide +kernel) (by decide +kernel)
theorem gd_J2_96 : GoodIn gw_t (va_wsS RJ2 96 yJ2_checkBoundsBeginEnd_d044e (.code yJ2_checkBoundsBeginEnd_d044e cJ2_checkBoundsBeginEnd_d044e 3 none :: gw_t)) := gw_wsS ml_J2_96 (gw_mem 454 (by decide +kernel) (by decide +kernel)) (gw_mem 74 (by decide +kernel) (by decide +kernel)) cw_J2_checkBoundsBeginEnd_d044e
theorem ml_J2_244 : Cond.methodLink RJ2 244 yJ2_indexOfCharUnsafe_4cfef ∈ gw_t := gw_mem 462 (by decide +kernel) (by decide +kernel)
theorem gd_J2_244 : GoodIn gw_t (va_wsS RJ2 244 yJ2_indexOfCharUnsafe_4cfef (.code yJ2_indexOfCharUnsafe_4cfef cJ2_indexOfCharUnsafe_4cfef 5 (some .int) :: gw_t)) := gw_wsS ml_J2_244 (gw_mem 463 (by decide +kernel) (by decide +kernel)) (gw_mem 74 (by decide +kernel) (by decide +kernel)) cw_J2_indexOfCharUnsafe_4cfef
theorem ml_J2_164 : Cond.methodLink RJ2 164 yJ11_isValidCodePoint_9a6ad ∈ gw_t := gw_mem 468 (by decide +kernel) (by decide +kernel)
theorem gd_J2_164 : GoodIn gw_t (va_wsS RJ2 164 yJ11_isValidCodePoint_9a6ad (.code yJ11_isValidCodePoint_9a6ad cJ11_isValidCodePoint_9a6ad 2 (some .boolean) :: gw_t)) := gw_wsS ml_J2_164 (gw_mem 469 (by decide +kernel) (by decide +kernel)) (gw_mem 76 (by decide +kernel) (by decide +kernel)) cw_J11_isValidCodePoint_9a6ad
theorem ml_J2_157 : Cond.methodLink RJ2 157 yJ11_highSurrogate_5068e ∈ gw_t := gw_mem 471 (by decide +kernel) (by decide +kernel)
theorem gd_J2_157 : GoodIn gw_t (va_wsS RJ2 157 yJ11_highSurrogate_5068e (.code yJ11_highSurrogate_5068e cJ11_highSurrogate_5068e 1 (some .char) :: gw_t)) := gw_wsS ml_J2_157 (gw_mem 472 (by decide +kernel) (by decide +kernel)) (gw_mem 76 (by decide +kernel) (by decide +kernel)) cw_J11_highSurrogate_5068e
theorem ml_J2_161 : Cond.methodLink RJ2 161 yJ11_lowSurrogate_5068e ∈ gw_t := gw_mem 475 (by decide +kernel) (by decide +kernel)
theorem gd_J2_161 : GoodIn gw_t (va_wsS RJ2 161 yJ11_lowSurrogate_5068e (.code yJ11_lowSurrogate_5068e cJ11_lowSurrogate_5068e 1 (some .char) :: gw_t)) := gw_wsS ml_J2_161 (gw_mem 476 (by decide +kernel) (by decide +kernel)) (gw_mem 76 (by decide +kernel) (by decide +kernel)) cw_J11_lowSurrogate_5068e
theorem ml_J2_224 : Cond.methodLink RJ2 224 yJ9_max_7cf53 ∈ gw_t := gw_mem 447 (by decide +kernel) (by decide +kernel)
theorem gd_J2_224 : GoodIn gw_t (va_wsS RJ2 224 yJ9_max_7cf53 (.code yJ9_max_7cf53 cJ9_max_7cf53 2 (some .int) :: gw_t)) := gw_wsS ml_J2_224 (gw_mem 436 (by decide +kernel) (by decide +kernel)) (gw_mem 75 (by decide +kernel) (by decide +kernel)) cw_J9_max_7cf53
theorem ml_J2_183 : Cond.methodLink RJ2 183 yJ9_min_7cf53 ∈ gw_t := gw_mem 448 (by decide +kernel) (by decide +kernel)
theorem gd_J2_183 : GoodIn gw_t (va_wsS RJ2 183 yJ9_min_7cf53 (.code yJ9_min_7cf53 cJ9_min_7cf53 2 (some .int) :: gw_t)) := gw_wsS ml_J2_183 (gw_mem 439 (by decide +kernel) (by decide +kernel)) (gw_mem 75 (by decide +kernel) (by decide +kernel)) cw_J9_min_7cf53
theorem ml_J2_228 : Cond.methodLink RJ2 228 yJ2_indexOfChar_4cfef ∈ gw_t := gw_mem 450 (by decide +kernel) (by decide +kernel)
theorem gd_J2_228 : GoodIn gw_t (va_wsS RJ2 228 yJ2_indexOfChar_4cfef (.code yJ2_indexOfChar_4cfef cJ2_indexOfChar_4cfef 4 (some .int) :: gw_t)) := gw_wsS ml_J2_228 (gw_mem 451 (by decide +kernel) (by decide +kernel)) (gw_mem 74 (by decide +kernel) (by decide +kernel)) cw_J2_indexOfChar_4cfef
theorem ml_J2_232 : Cond.methodLink RJ2 232 yJ2_indexOfSupplementary_4cfef ∈ gw_t := gw_mem 465 (by decide +kernel) (by decide +kernel)
theorem gd_J2_232 : GoodIn gw_t (va_wsS RJ2 232 yJ2_indexOfSupplementary_4cfef (.code yJ2_indexOfSupplementary_4cfef cJ2_indexOfSupplementary_4cfef 7 (some .int) :: gw_t)) := gw_wsS ml_J2_232 (gw_mem 466 (by decide +kernel) (by decide +kernel)) (gw_mem 74 (by decide +kernel) (by decide +kernel)) cw_J2_indexOfSupplementary_4cfef
theorem ml_J7_304 : Cond.methodLink RJ7 304 yJ9_min_7cf53 ∈ gw_t := gw_mem 530 (by decide +kernel) (by decide +kernel)
theorem gd_J7_304 : GoodIn gw_t (va_wsS RJ7 304 yJ9_min_7cf53 (.code yJ9_min_7cf53 cJ9_min_7cf53 2 (some .int) :: gw_t)) := gw_wsS ml_J7_304 (gw_mem 439 (by decide +kernel) (by decide +kernel)) (gw_mem 75 (by decide +kernel) (by decide +kernel)) cw_J9_min_7cf53
theorem ml_L_13 : Cond.methodLink RL 13 yX8_come ∈ gw_t := gw_mem 598 (by decide +kernel) (by decide +kernel)
theorem gd_L_13 : GoodIn gw_t (wsV RL 13 RX8 yX8_come (.code yX8_come cX8_come 3 (some .int) :: gw_t)) := gw_wsV ml_L_13 (gw_mem 599 (by decide +kernel) (by decide +kernel)) (gw_mem 600 (by decide +kernel) (by decide +kernel)) (gw_mem 64 (by decide +kernel) (by decide +kernel)) cw_X8_come
theorem ml_L_17 : Cond.methodLink RL 17 yX9_come ∈ gw_t := gw_mem 1119 (by decide +kernel) (by decide +kernel)
theorem gd_L_17 : GoodIn gw_t (wsV RL 17 RX9 yX9_come (.code yX9_come cX9_come 3 (some .int) :: gw_t)) := gw_wsV ml_L_17 (gw_mem 1120 (by decide +kernel) (by decide +kernel)) (gw_mem 1121 (by decide +kernel) (by decide +kernel)) (gw_mem 81 (by decide +kernel) (by decide +kernel)) cw_X9_come
theorem ml_L_18 : Cond.methodLink RL 18 yX8_slip ∈ gw_t := gw_mem 614 (by decide +kernel) (by decide +kernel)
theorem gd_L_18 : GoodIn gw_t (wsV RL 18 RX8 yX8_slip (.code yX8_slip cX8_slip 4 (some .int) :: gw_t)) := gw_wsV ml_L_18 (gw_mem 615 (by decide +kernel) (by decide +kernel)) (gw_mem 616 (by decide +kernel) (by decide +kernel)) (gw_mem 64 (by decide +kernel) (by decide +kernel)) cw_X8_slip
theorem ml_L_22 : Cond.methodLink RL 22 yX9_slip ∈ gw_t := gw_mem 1128 (by decide +kernel) (by decide +kernel)
theorem gd_L_22 : GoodIn gw_t (wsV RL 22 RX9 yX9_slip (.code yX9_slip cX9_slip 4 (some .int) :: gw_t)) := gw_wsV ml_L_22 (gw_mem 1129 (by decide +kernel) (by decide +kernel)) (gw_mem 1130 (by decide +kernel) (by decide +kernel)) (gw_mem 81 (by decide +kernel) (by decide +kernel)) cw_X9_slip
theorem ml_L_23 : Cond.methodLink RL 23 yX8_set ∈ gw_t := gw_mem 622 (by decide +kernel) (by decide +kernel)
theorem gd_L_23 : GoodIn gw_t (wsV RL 23 RX8 yX8_set (.code yX8_set cX8_set 5 (some .int) :: gw_t)) := gw_wsV ml_L_23 (gw_mem 623 (by decide +kernel) (by decide +kernel)) (gw_mem 624 (by decide +kernel) (by decide +kernel)) (gw_mem 64 (by decide +kernel) (by decide +kernel)) cw_X8_set
theorem ml_L_26 : Cond.methodLink RL 26 yX9_set ∈ gw_t := gw_mem 1138 (by decide +kernel) (by decide +kernel)
theorem gd_L_26 : GoodIn gw_t (wsV RL 26 RX9 yX9_set (.code yX9_set cX9_set 5 (some .int) :: gw_t)) := gw_wsV ml_L_26 (gw_mem 1139 (by decide +kernel) (by decide +kernel)) (gw_mem 1140 (by decide +kernel) (by decide +kernel)) (gw_mem 81 (by decide +kernel) (by decide +kernel)) cw_X9_set
theorem ml_L_27 : Cond.methodLink RL 27 yX8_told ∈ gw_t := gw_mem 645 (by decide +kernel) (by decide +kernel)
theorem gd_L_27 : GoodIn gw_t (wsV RL 27 RX8 yX8_told (.code yX8_told cX8_told 3 (some .int) :: gw_t)) := gw_wsV ml_L_27 (gw_mem 646 (by decide +kernel) (by decide +kernel)) (gw_mem 647 (by decide +kernel) (by decide +kernel)) (gw_mem 64 (by decide +kernel) (by decide +kernel)) cw_X8_told
theorem ml_L_30 : Cond.methodLink RL 30 yX9_told ∈ gw_t := gw_mem 1152 (by decide +kernel) (by decide +kernel)
theorem gd_L_30 : GoodIn gw_t (wsV RL 30 RX9 yX9_told (.code yX9_told cX9_told 3 (some .int) :: gw_t)) := gw_wsV ml_L_30 (gw_mem 1153 (by decide +kernel) (by decide +kernel)) (gw_mem 1154 (by decide +kernel) (by decide +kernel)) (gw_mem 81 (by decide +kernel) (by decide +kernel)) cw_X9_told
theorem ml_L_31 : Cond.methodLink RL 31 yX8_feed ∈ gw_t := gw_mem 650 (by decide +kernel) (by decide +kernel)
theorem gd_L_31 : GoodIn gw_t (wsV RL 31 RX8 yX8_feed (.code yX8_feed cX8_feed 2 (some .int) :: gw_t)) := gw_wsV ml_L_31 (gw_mem 651 (by decide +kernel) (by decide +kernel)) (gw_mem 652 (by decide +kernel) (by decide +kernel)) (gw_mem 64 (by decide +kernel) (by decide +kernel)) cw_X8_feed
theorem ml_L_35 : Cond.methodLink RL 35 yX9_feed ∈ gw_t := gw_mem 1156 (by decide +kernel) (by decide +kernel)
theorem gd_L_35 : GoodIn gw_t (wsV RL 35 RX9 yX9_feed (.code yX9_feed cX9_feed 2 (some .int) :: gw_t)) := gw_wsV ml_L_35 (gw_mem 1157 (by decide +kernel) (by decide +kernel)) (gw_mem 1158 (by decide +kernel) (by decide +kernel)) (gw_mem 81 (by decide +kernel) (by decide +kernel)) cw_X9_feed
theorem ml_L_36 : Cond.methodLink RL 36 yX8_text ∈ gw_t := gw_mem 654 (by decide +kernel) (by decide +kernel)
theorem gd_L_36 : GoodIn gw_t (wsV RL 36 RX8 yX8_text (.code yX8_text cX8_text 1 (some .int) :: gw_t)) := gw_wsV ml_L_36 (gw_mem 655 (by decide +kernel) (by decide +kernel)) (gw_mem 656 (by decide +kernel) (by decide +kernel)) (gw_mem 64 (by decide +kernel) (by decide +kernel)) cw_X8_text
theorem ml_L_40 : Cond.methodLink RL 40 yX9_text ∈ gw_t := gw_mem 1161 (by decide +kernel) (by decide +kernel)
theorem gd_L_40 : GoodIn gw_t (wsV RL 40 RX9 yX9_text (.code yX9_text cX9_text 2 (some .int) :: gw_t)) := gw_wsV ml_L_40 (gw_mem 1162 (by decide +kernel) (by decide +kernel)) (gw_mem 1163 (by decide +kernel) (by decide +kernel)) (gw_mem 81 (by decide +kernel) (by decide +kernel)) cw_X9_text
theorem ml_L_41 : Cond.methodLink RL 41 yX8_force ∈ gw_t := gw_mem 658 (by decide +kernel) (by decide +kernel)
theorem gd_L_41 : GoodIn gw_t (wsV RL 41 RX8 yX8_force (.code yX8_force cX8_force 3 (some .int) :: gw_t)) := gw_wsV ml_L_41 (gw_mem 659 (by decide +kernel) (by decide +kernel)) (gw_mem 660 (by decide +kernel) (by decide +kernel)) (gw_mem 64 (by decide +kernel) (by decide +kernel)) cw_X8_force
theorem ml_L_44 : Cond.methodLink RL 44 yX9_force ∈ gw_t := gw_mem 1235 (by decide +kernel) (by decide +kernel)
theorem gd_L_44 : GoodIn gw_t (wsV RL 44 RX9 yX9_force (.code yX9_force cX9_force 3 (some .int) :: gw_t)) := gw_wsV ml_L_44 (gw_mem 1236 (by decide +kernel) (by decide +kernel)) (gw_mem 1237 (by decide +kernel) (by decide +kernel)) (gw_mem 81 (by decide +kernel) (by decide +kernel)) cw_X9_force
theorem ml_L_45 : Cond.methodLink RL 45 yX8_evening ∈ gw_t := gw_mem 666 (by decide +kernel) (by decide +kernel)
theorem gd_L_45 : GoodIn gw_t (wsV RL 45 RX8 yX8_evening (.code yX8_evening cX8_evening 3 (some .int) :: gw_t)) := gw_wsV ml_L_45 (gw_mem 667 (by decide +kernel) (by decide +kernel)) (gw_mem 668 (by decide +kernel) (by decide +kernel)) (gw_mem 64 (by decide +kernel) (by decide +kernel)) cw_X8_evening
theorem ml_L_48 : Cond.methodLink RL 48 yX9_evening ∈ gw_t := gw_mem 1239 (by decide +kernel) (by decide +kernel)
theorem gd_L_48 : GoodIn gw_t (wsV RL 48 RX9 yX9_evening (.code yX9_evening cX9_evening 3 (some .int) :: gw_t)) := gw_wsV ml_L_48 (gw_mem 1240 (by decide +kernel) (by decide +kernel)) (gw_mem 1241 (by decide +kernel) (by decide +kernel)) (gw_mem 81 (by decide +kernel) (by decide +kernel)) cw_X9_evening
theorem ml_L_49 : Cond.methodLink RL 49 yX8_best ∈ gw_t := gw_mem 750 (by decide +kernel) (by decide +kernel)
theorem gd_L_49 : GoodIn gw_t (wsV RL 49 RX8 yX8_best (.code yX8_best cX8_best 3 (some .int) :: gw_t)) := gw_wsV ml_L_49 (gw_mem 751 (by decide +kernel) (by decide +kernel)) (gw_mem 752 (by decide +kernel) (by decide +kernel)) (gw_mem 64 (by decide +kernel) (by decide +kernel)) cw_X8_best
theorem ml_L_52 : Cond.methodLink RL 52 yX9_best ∈ gw_t := gw_mem 1296 (by decide +kernel) (by decide +kernel)
theorem gd_L_52 : GoodIn gw_t (wsV RL 52 RX9 yX9_best (.code yX9_best cX9_best 3 (some .int) :: gw_t)) := gw_wsV ml_L_52 (gw_mem 1297 (by decide +kernel) (by decide +kernel)) (gw_mem 1298 (by decide +kernel) (by decide +kernel)) (gw_mem 81 (by decide +kernel) (by decide +kernel)) cw_X9_best
theorem ml_L_53 : Cond.methodLink RL 53 yX8_desk ∈ gw_t := gw_mem 782 (by decide +kernel) (by decide +kernel)
theorem gd_L_53 : GoodIn gw_t (wsV RL 53 RX8 yX8_desk (.code yX8_desk cX8_desk 2 (some .int) :: gw_t)) := gw_wsV ml_L_53 (gw_mem 783 (by decide +kernel) (by decide +kernel)) (gw_mem 784 (by decide +kernel) (by decide +kernel)) (gw_mem 64 (by decide +kernel) (by decide +kernel)) cw_X8_desk
theorem ml_L_56 : Cond.methodLink RL 56 yX9_desk ∈ gw_t := gw_mem 1317 (by decide +kernel) (by decide +kernel)
theorem gd_L_56 : GoodIn gw_t (wsV RL 56 RX9 yX9_desk (.code yX9_desk cX9_desk 2 (some .int) :: gw_t)) := gw_wsV ml_L_56 (gw_mem 1318 (by decide +kernel) (by decide +kernel)) (gw_mem 1319 (by decide +kernel) (by decide +kernel)) (gw_mem 81 (by decide +kernel) (by decide +kernel)) cw_X9_desk
theorem ml_L_57 : Cond.methodLink RL 57 yX8_hold ∈ gw_t := gw_mem 802 (by decide +kernel) (by decide +kernel)
theorem gd_L_57 : GoodIn gw_t (wsV RL 57 RX8 yX8_hold (.code yX8_hold cX8_hold 2 (some .int) :: gw_t)) := gw_wsV ml_L_57 (gw_mem 803 (by decide +kernel) (by decide +kernel)) (gw_mem 804 (by decide +kernel) (by decide +kernel)) (gw_mem 64 (by decide +kernel) (by decide +kernel)) cw_X8_hold
theorem ml_L_60 : Cond.methodLink RL 60 yX9_hold ∈ gw_t := gw_mem 1292 (by decide +kernel) (by decide +kernel)
theorem gd_L_60 : GoodIn gw_t (wsV RL 60 RX9 yX9_hold (.code yX9_hold cX9_hold 2 (some .int) :: gw_t)) := gw_wsV ml_L_60 (gw_mem 1293 (by decide +kernel) (by decide +kernel)) (gw_mem 1294 (by decide +kernel) (by decide +kernel)) (gw_mem 81 (by decide +kernel) (by decide +kernel)) cw_X9_hold
theorem ml_L_61 : Cond.methodLink RL 61 yX8_wait ∈ gw_t := gw_mem 806 (by decide +kernel) (by decide +kernel)
theorem gd_L_61 : GoodIn gw_t (wsV RL 61 RX8 yX8_wait (.code yX8_wait cX8_wait 2 (some .int) :: gw_t)) := gw_wsV ml_L_61 (gw_mem 807 (by decide +kernel) (by decide +kernel)) (gw_mem 808 (by decide +kernel) (by decide +kernel)) (gw_mem 64 (by decide +kernel) (by decide +kernel)) cw_X8_wait
theorem ml_L_64 : Cond.methodLink RL 64 yX9_wait ∈ gw_t := gw_mem 1333 (by decide +kernel) (by decide +kernel)
theorem gd_L_64 : GoodIn gw_t (wsV RL 64 RX9 yX9_wait (.code yX9_wait cX9_wait 2 (some .int) :: gw_t)) := gw_wsV ml_L_64 (gw_mem 1334 (by decide +kernel) (by decide +kernel)) (gw_mem 1335 (by decide +kernel) (by decide +kernel)) (gw_mem 81 (by decide +kernel) (by decide +kernel)) cw_X9_wait
theorem ml_L_65 : Cond.methodLink RL 65 yX8_refuse ∈ gw_t := gw_mem 810 (by decide +kernel) (by decide +kernel)
theorem gd_L_65 : GoodIn gw_t (wsV RL 65 RX8 yX8_refuse (.code yX8_refuse cX8_refuse 5 (some .int) :: gw_t)) := gw_wsV ml_L_65 (gw_mem 811 (by decide +kernel) (by decide +kernel)) (gw_mem 812 (by decide +kernel) (by decide +kernel)) (gw_mem 64 (by decide +kernel) (by decide +kernel)) cw_X8_refuse
theorem ml_L_68 : Cond.methodLink RL 68 yX9_refuse ∈ gw_t := gw_mem 1337 (by decide +kernel) (by decide +kernel)
theorem gd_L_68 : GoodIn gw_t (wsV RL 68 RX9 yX9_refuse (.code yX9_refuse cX9_refuse 5 (some .int) :: gw_t)) := gw_wsV ml_L_68 (gw_mem 1338 (by decide +kernel) (by decide +kernel)) (gw_mem 1339 (by decide +kernel) (by decide +kernel)) (gw_mem 81 (by decide +kernel) (by decide +kernel)) cw_X9_refuse
theorem ml_L_69 : Cond.methodLink RL 69 yX8_coin ∈ gw_t := gw_mem 814 (by decide +kernel) (by decide +kernel)
theorem gd_L_69 : GoodIn gw_t (wsV RL 69 RX8 yX8_coin (.code yX8_coin cX8_coin 3 (some .int) :: gw_t)) := gw_wsV ml_L_69 (gw_mem 815 (by decide +kernel) (by decide +kernel)) (gw_mem 816 (by decide +kernel) (by decide +kernel)) (gw_mem 64 (by decide +kernel) (by decide +kernel)) cw_X8_coin
theorem ml_L_72 : Cond.methodLink RL 72 yX9_coin ∈ gw_t := gw_mem 1341 (by decide +kernel) (by decide +kernel)
theorem gd_L_72 : GoodIn gw_t (wsV RL 72 RX9 yX9_coin (.code yX9_coin cX9_coin 3 (some .int) :: gw_t)) := gw_wsV ml_L_72 (gw_mem 1342 (by decide +kernel) (by decide +kernel)) (gw_mem 1343 (by decide +kernel) (by decide +kernel)) (gw_mem 81 (by decide +kernel) (by decide +kernel)) cw_X9_coin
theorem ml_L_73 : Cond.methodLink RL 73 yX8_harm ∈ gw_t := gw_mem 819 (by decide +kernel) (by decide +kernel)
theorem gd_L_73 : GoodIn gw_t (wsV RL 73 RX8 yX8_harm (.code yX8_harm cX8_harm 3 (some .int) :: gw_t)) := gw_wsV ml_L_73 (gw_mem 820 (by decide +kernel) (by decide +kernel)) (gw_mem 821 (by decide +kernel) (by decide +kernel)) (gw_mem 64 (by decide +kernel) (by decide +kernel)) cw_X8_harm
theorem ml_L_76 : Cond.methodLink RL 76 yX9_harm ∈ gw_t := gw_mem 1345 (by decide +kernel) (by decide +kernel)
theorem gd_L_76 : GoodIn gw_t (wsV RL 76 RX9 yX9_harm (.code yX9_harm cX9_harm 3 (some .int) :: gw_t)) := gw_wsV ml_L_76 (gw_mem 1346 (by decide +kernel) (by decide +kernel)) (gw_mem 1347 (by decide +kernel) (by decide +kernel)) (gw_mem 81 (by decide +kernel) (by decide +kernel)) cw_X9_harm
theorem ml_L_77 : Cond.methodLink RL 77 yX8_judge ∈ gw_t := gw_mem 823 (by decide +kernel) (by decide +kernel)
theorem gd_L_77 : GoodIn gw_t (wsV RL 77 RX8 yX8_judge (.code yX8_judge cX8_judge 2 (some .int) :: gw_t)) := gw_wsV ml_L_77 (gw_mem 824 (by decide +kernel) (by decide +kernel)) (gw_mem 825 (by decide +kernel) (by decide +kernel)) (gw_mem 64 (by decide +kernel) (by decide +kernel)) cw_X8_judge
theorem ml_L_80 : Cond.methodLink RL 80 yX9_judge ∈ gw_t := gw_mem 1349 (by decide +kernel) (by decide +kernel)
theorem gd_L_80 : GoodIn gw_t (wsV RL 80 RX9 yX9_judge (.code yX9_judge cX9_judge 3 (some .int) :: gw_t)) := gw_wsV ml_L_80 (gw_mem 1350 (by decide +kernel) (by decide +kernel)) (gw_mem 1351 (by decide +kernel) (by decide +kernel)) (gw_mem 81 (by decide +kernel) (by decide +kernel)) cw_X9_judge
theorem ml_L_81 : Cond.methodLink RL 81 yX8_which ∈ gw_t := gw_mem 834 (by decide +kernel) (by decide +kernel)
theorem gd_L_81 : GoodIn gw_t (wsV RL 81 RX8 yX8_which (.code yX8_which cX8_which 4 (some .int) :: gw_t)) := gw_wsV ml_L_81 (gw_mem 835 (by decide +kernel) (by decide +kernel)) (gw_mem 836 (by decide +kernel) (by decide +kernel)) (gw_mem 64 (by decide +kernel) (by decide +kernel)) cw_X8_which
theorem ml_L_84 : Cond.methodLink RL 84 yX9_which ∈ gw_t := gw_mem 1364 (by decide +kernel) (by decide +kernel)
theorem gd_L_84 : GoodIn gw_t (wsV RL 84 RX9 yX9_which (.code yX9_which cX9_which 5 (some .int) :: gw_t)) := gw_wsV ml_L_84 (gw_mem 1365 (by decide +kernel) (by decide +kernel)) (gw_mem 1366 (by decide +kernel) (by decide +kernel)) (gw_mem 81 (by decide +kernel) (by decide +kernel)) cw_X9_which
theorem ml_L_85 : Cond.methodLink RL 85 yX8_behind ∈ gw_t := gw_mem 838 (by decide +kernel) (by decide +kernel)
theorem gd_L_85 : GoodIn gw_t (wsV RL 85 RX8 yX8_behind (.code yX8_behind cX8_behind 5 (some .int) :: gw_t)) := gw_wsV ml_L_85 (gw_mem 839 (by decide +kernel) (by decide +kernel)) (gw_mem 840 (by decide +kernel) (by decide +kernel)) (gw_mem 64 (by decide +kernel) (by decide +kernel)) cw_X8_behind
theorem ml_L_88 : Cond.methodLink RL 88 yX9_behind ∈ gw_t := gw_mem 1368 (by decide +kernel) (by decide +kernel)
theorem gd_L_88 : GoodIn gw_t (wsV RL 88 RX9 yX9_behind (.code yX9_behind cX9_behind 4 (some .int) :: gw_t)) := gw_wsV ml_L_88 (gw_mem 1369 (by decide +kernel) (by decide +kernel)) (gw_mem 1370 (by decide +kernel) (by decide +kernel)) (gw_mem 81 (by decide +kernel) (by decide +kernel)) cw_X9_behind
theorem ml_L_89 : Cond.methodLink RL 89 yX8_drawn ∈ gw_t := gw_mem 842 (by decide +kernel) (by decide +kernel)
theorem gd_L_89 : GoodIn gw_t (wsV RL 89 RX8 yX8_drawn (.code yX8_drawn cX8_drawn 2 (some .int) :: gw_t)) := gw_wsV ml_L_89 (gw_mem 843 (by decide +kernel) (by decide +kernel)) (gw_mem 844 (by decide +kernel) (by decide +kernel)) (gw_mem 64 (by decide +kernel) (by decide +kernel)) cw_X8_drawn
theorem ml_L_92 : Cond.methodLink RL 92 yX9_drawn ∈ gw_t := gw_mem 1372 (by decide +kernel) (by decide +kernel)
theorem gd_L_92 : GoodIn gw_t (wsV RL 92 RX9 yX9_drawn (.code yX9_drawn cX9_drawn 2 (some .int) :: gw_t)) := gw_wsV ml_L_92 (gw_mem 1373 (by decide +kernel) (by decide +kernel)) (gw_mem 1374 (by decide +kernel) (by decide +kernel)) (gw_mem 81 (by decide +kernel) (by decide +kernel)) cw_X9_drawn
theorem ml_L_93 : Cond.methodLink RL 93 yX8_chance ∈ gw_t := gw_mem 855 (by decide +kernel) (by decide +kernel)
theorem gd_L_93 : GoodIn gw_t (wsV RL 93 RX8 yX8_chance (.code yX8_chance cX8_chance 6 (some .long) :: gw_t)) := gw_wsV ml_L_93 (gw_mem 856 (by decide +kernel) (by decide +kernel)) (gw_mem 857 (by decide +kernel) (by decide +kernel)) (gw_mem 64 (by decide +kernel) (by decide +kernel)) cw_X8_chance
theorem ml_L_97 : Cond.methodLink RL 97 yX9_chance ∈ gw_t := gw_mem 1381 (by decide +kernel) (by decide +kernel)
theorem gd_L_97 : GoodIn gw_t (wsV RL 97 RX9 yX9_chance (.code yX9_chance cX9_chance 12 (some .long) :: gw_t)) := gw_wsV ml_L_97 (gw_mem 1382 (by decide +kernel) (by decide +kernel)) (gw_mem 1383 (by decide +kernel) (by decide +kernel)) (gw_mem 81 (by decide +kernel) (by decide +kernel)) cw_X9_chance
theorem ml_L_98 : Cond.methodLink RL 98 yX8_image ∈ gw_t := gw_mem 863 (by decide +kernel) (by decide +kernel)
theorem gd_L_98 : GoodIn gw_t (wsV RL 98 RX8 yX8_image (.code yX8_image cX8_image 1 (some .int) :: gw_t)) := gw_wsV ml_L_98 (gw_mem 864 (by decide +kernel) (by decide +kernel)) (gw_mem 865 (by decide +kernel) (by decide +kernel)) (gw_mem 64 (by decide +kernel) (by decide +kernel)) cw_X8_image
theorem ml_L_101 : Cond.methodLink RL 101 yX9_image ∈ gw_t := gw_mem 1387 (by decide +kernel) (by decide +kernel)
theorem gd_L_101 : GoodIn gw_t (wsV RL 101 RX9 yX9_image (.code yX9_image cX9_image 2 (some .int) :: gw_t)) := gw_wsV ml_L_101 (gw_mem 1388 (by decide +kernel) (by decide +kernel)) (gw_mem 1389 (by decide +kernel) (by decide +kernel)) (gw_mem 81 (by decide +kernel) (by decide +kernel)) cw_X9_image
theorem ml_L_102 : Cond.methodLink RL 102 yX8_back ∈ gw_t := gw_mem 879 (by decide +kernel) (by decide +kernel)
theorem gd_L_102 : GoodIn gw_t (wsV RL 102 RX8 yX8_back (.code yX8_back cX8_back 1 (some .int) :: gw_t)) := gw_wsV ml_L_102 (gw_mem 880 (by decide +kernel) (by decide +kernel)) (gw_mem 881 (by decide +kernel) (by decide +kernel)) (gw_mem 64 (by decide +kernel) (by decide +kernel)) cw_X8_back
theorem ml_L_105 : Cond.methodLink RL 105 yX9_back ∈ gw_t := gw_mem 1391 (by decide +kernel) (by decide +kernel)
theorem gd_L_105 : GoodIn gw_t (wsV RL 105 RX9 yX9_back (.code yX9_back cX9_back 2 (some .int) :: gw_t)) := gw_wsV ml_L_105 (gw_mem 1392 (by decide +kernel) (by decide +kernel)) (gw_mem 1393 (by decide +kernel) (by decide +kernel)) (gw_mem 81 (by decide +kernel) (by decide +kernel)) cw_X9_back
theorem ml_L_106 : Cond.methodLink RL 106 yX8_count ∈ gw_t := gw_mem 883 (by decide +kernel) (by decide +kernel)
theorem gd_L_106 : GoodIn gw_t (wsV RL 106 RX8 yX8_count (.code yX8_count cX8_count 2 (some .int) :: gw_t)) := gw_wsV ml_L_106 (gw_mem 884 (by decide +kernel) (by decide +kernel)) (gw_mem 885 (by decide +kernel) (by decide +kernel)) (gw_mem 64 (by decide +kernel) (by decide +kernel)) cw_X8_count
theorem ml_L_109 : Cond.methodLink RL 109 yX9_count ∈ gw_t := gw_mem 1395 (by decide +kernel) (by decide +kernel)
theorem gd_L_109 : GoodIn gw_t (wsV RL 109 RX9 yX9_count (.code yX9_count cX9_count 2 (some .int) :: gw_t)) := gw_wsV ml_L_109 (gw_mem 1396 (by decide +kernel) (by decide +kernel)) (gw_mem 1397 (by decide +kernel) (by decide +kernel)) (gw_mem 81 (by decide +kernel) (by decide +kernel)) cw_X9_count
theorem ml_L_110 : Cond.methodLink RL 110 yX8_sheet ∈ gw_t := gw_mem 887 (by decide +kernel) (by decide +kernel)
theorem gd_L_110 : GoodIn gw_t (wsV RL 110 RX8 yX8_sheet (.code yX8_sheet cX8_sheet 4 (some .int) :: gw_t)) := gw_wsV ml_L_110 (gw_mem 888 (by decide +kernel) (by decide +kernel)) (gw_mem 889 (by decide +kernel) (by decide +kernel)) (gw_mem 64 (by decide +kernel) (by decide +kernel)) cw_X8_sheet
theorem ml_L_113 : Cond.methodLink RL 113 yX9_sheet ∈ gw_t := gw_mem 1399 (by decide +kernel) (by decide +kernel)
theorem gd_L_113 : GoodIn gw_t (wsV RL 113 RX9 yX9_sheet (.code yX9_sheet cX9_sheet 5 (some .int) :: gw_t)) := gw_wsV ml_L_113 (gw_mem 1400 (by decide +kernel) (by decide +kernel)) (gw_mem 1401 (by decide +kernel) (by decide +kernel)) (gw_mem 81 (by decide +kernel) (by decide +kernel)) cw_X9_sheet
theorem ml_L_114 : Cond.methodLink RL 114 yX8_cell ∈ gw_t := gw_mem 896 (by decide +kernel) (by decide +kernel)
theorem gd_L_114 : GoodIn gw_t (wsV RL 114 RX8 yX8_cell (.code yX8_cell cX8_cell 5 (some .int) :: gw_t)) := gw_wsV ml_L_114 (gw_mem 897 (by decide +kernel) (by decide +kernel)) (gw_mem 898 (by decide +kernel) (by decide +kernel)) (gw_mem 64 (by decide +kernel) (by decide +kernel)) cw_X8_cell
theorem ml_L_117 : Cond.methodLink RL 117 yX9_cell ∈ gw_t := gw_mem 1404 (by decide +kernel) (by decide +kernel)
theorem gd_L_117 : GoodIn gw_t (wsV RL 117 RX9 yX9_cell (.code yX9_cell cX9_cell 4 (some .int) :: gw_t)) := gw_wsV ml_L_117 (gw_mem 1405 (by decide +kernel) (by decide +kernel)) (gw_mem 1406 (by decide +kernel) (by decide +kernel)) (gw_mem 81 (by decide +kernel) (by decide +kernel)) cw_X9_cell
theorem ml_L_118 : Cond.methodLink RL 118 yX8_copy ∈ gw_t := gw_mem 908 (by decide +kernel) (by decide +kernel)
theorem gd_L_118 : GoodIn gw_t (wsV RL 118 RX8 yX8_copy (.code yX8_copy cX8_copy 8 (some .int) :: gw_t)) := gw_wsV ml_L_118 (gw_mem 909 (by decide +kernel) (by decide +kernel)) (gw_mem 910 (by decide +kernel) (by decide +kernel)) (gw_mem 64 (by decide +kernel) (by decide +kernel)) cw_X8_copy
theorem ml_L_122 : Cond.methodLink RL 122 yX9_copy ∈ gw_t := gw_mem 1408 (by decide +kernel) (by decide +kernel)
theorem gd_L_122 : GoodIn gw_t (wsV RL 122 RX9 yX9_copy (.code yX9_copy cX9_copy 9 (some .int) :: gw_t)) := gw_wsV ml_L_122 (gw_mem 1409 (by decide +kernel) (by decide +kernel)) (gw_mem 1410 (by decide +kernel) (by decide +kernel)) (gw_mem 81 (by decide +kernel) (by decide +kernel)) cw_X9_copy
theorem ml_L_123 : Cond.methodLink RL 123 yX8_slips ∈ gw_t := gw_mem 913 (by decide +kernel) (by decide +kernel)
theorem gd_L_123 : GoodIn gw_t (wsV RL 123 RX8 yX8_slips (.code yX8_slips cX8_slips 9 (some .int) :: gw_t)) := gw_wsV ml_L_123 (gw_mem 914 (by decide +kernel) (by decide +kernel)) (gw_mem 915 (by decide +kernel) (by decide +kernel)) (gw_mem 64 (by decide +kernel) (by decide +kernel)) cw_X8_slips
theorem ml_L_127 : Cond.methodLink RL 127 yX9_slips ∈ gw_t := gw_mem 1412 (by decide +kernel) (by decide +kernel)
theorem gd_L_127 : GoodIn gw_t (wsV RL 127 RX9 yX9_slips (.code yX9_slips cX9_slips 8 (some .int) :: gw_t)) := gw_wsV ml_L_127 (gw_mem 1413 (by decide +kernel) (by decide +kernel)) (gw_mem 1414 (by decide +kernel) (by decide +kernel)) (gw_mem 81 (by decide +kernel) (by decide +kernel)) cw_X9_slips
theorem ml_L_128 : Cond.methodLink RL 128 yX8_taken ∈ gw_t := gw_mem 917 (by decide +kernel) (by decide +kernel)
theorem gd_L_128 : GoodIn gw_t (wsV RL 128 RX8 yX8_taken (.code yX8_taken cX8_taken 3 (some .int) :: gw_t)) := gw_wsV ml_L_128 (gw_mem 918 (by decide +kernel) (by decide +kernel)) (gw_mem 919 (by decide +kernel) (by decide +kernel)) (gw_mem 64 (by decide +kernel) (by decide +kernel)) cw_X8_taken
theorem ml_L_131 : Cond.methodLink RL 131 yX9_taken ∈ gw_t := gw_mem 1417 (by decide +kernel) (by decide +kernel)
theorem gd_L_131 : GoodIn gw_t (wsV RL 131 RX9 yX9_taken (.code yX9_taken cX9_taken 4 (some .int) :: gw_t)) := gw_wsV ml_L_131 (gw_mem 1418 (by decide +kernel) (by decide +kernel)) (gw_mem 1419 (by decide +kernel) (by decide +kernel)) (gw_mem 81 (by decide +kernel) (by decide +kernel)) cw_X9_taken
theorem ml_X0_81 : Cond.methodLink RX0 81 yX0_rowAsDigits ∈ gw_t := gw_mem 746 (by decide +kernel) (by decide +kernel)
theorem gd_X0_81 : GoodIn gw_t (wsV RX0 81 RX0 yX0_rowAsDigits (.code yX0_rowAsDigits cX0_rowAsDigits 3 (some .int) :: gw_t)) := gw_wsV ml_X0_81 (gw_mem 748 (by decide +kernel) (by decide +kernel)) (gw_mem 16 (by decide +kernel) (by decide +kernel)) (gw_mem 69 (by decide +kernel) (by decide +kernel)) cw_X0_rowAsDigits
theorem ml_X0_38 : Cond.methodLink RX0 38 yJ7_fill_53178 ∈ gw_t := gw_mem 682 (by decide +kernel) (by decide +kernel)
theorem gd_X0_38 : GoodIn gw_t (va_wsS RX0 38 yJ7_fill_53178 (.code yJ7_fill_53178 cJ7_fill_53178 4 none :: gw_t)) := gw_wsS ml_X0_38 (gw_mem 683 (by decide +kernel) (by decide +kernel)) (gw_mem 78 (by decide +kernel) (by decide +kernel)) cw_J7_fill_53178
theorem ml_X0_176 : Cond.methodLink RX0 176 yX0_uncalled ∈ gw_t := gw_mem 851 (by decide +kernel) (by decide +kernel)
theorem gd_X0_176 : GoodIn gw_t (wsV RX0 176 RX0 yX0_uncalled (.code yX0_uncalled cX0_uncalled 4 (some .int) :: gw_t)) := gw_wsV ml_X0_176 (gw_mem 853 (by decide +kernel) (by decide +kernel)) (gw_mem 23 (by decide +kernel) (by decide +kernel)) (gw_mem 69 (by decide +kernel) (by decide +kernel)) cw_X0_uncalled
theorem ml_X0_165 : Cond.methodLink RX0 165 yX0_callSlip ∈ gw_t := gw_mem 690 (by decide +kernel) (by decide +kernel)
theorem gd_X0_165 : GoodIn gw_t (wsV RX0 165 RX0 yX0_callSlip (.code yX0_callSlip cX0_callSlip 5 none :: gw_t)) := gw_wsV ml_X0_165 (gw_mem 691 (by decide +kernel) (by decide +kernel)) (gw_mem 692 (by decide +kernel) (by decide +kernel)) (gw_mem 69 (by decide +kernel) (by decide +kernel)) cw_X0_callSlip
theorem ml_X0_169 : Cond.methodLink RX0 169 yX0_firstByDesk ∈ gw_t := gw_mem 798 (by decide +kernel) (by decide +kernel)
theorem gd_X0_169 : GoodIn gw_t (wsV RX0 169 RX0 yX0_firstByDesk (.code yX0_firstByDesk cX0_firstByDesk 7 (some .int) :: gw_t)) := gw_wsV ml_X0_169 (gw_mem 800 (by decide +kernel) (by decide +kernel)) (gw_mem 21 (by decide +kernel) (by decide +kernel)) (gw_mem 69 (by decide +kernel) (by decide +kernel)) cw_X0_firstByDesk
theorem ml_X0_85 : Cond.methodLink RX0 85 yX1_hasSlip ∈ gw_t := gw_mem 694 (by decide +kernel) (by decide +kernel)
theorem gd_X0_85 : GoodIn gw_t (wsV RX0 85 RX1 yX1_hasSlip (.code yX1_hasSlip cX1_hasSlip 2 (some .boolean) :: gw_t)) := gw_wsV ml_X0_85 (gw_mem 631 (by decide +kernel) (by decide +kernel)) (gw_mem 632 (by decide +kernel) (by decide +kernel)) (gw_mem 65 (by decide +kernel) (by decide +kernel)) cw_X1_hasSlip
theorem ml_X0_104 : Cond.methodLink RX0 104 yX0_wasCalled ∈ gw_t := gw_mem 695 (by decide +kernel) (by decide +kernel)
theorem gd_X0_104 : GoodIn gw_t (wsV RX0 104 RX0 yX0_wasCalled (.code yX0_wasCalled cX0_wasCalled 2 (some .boolean) :: gw_t)) := gw_wsV ml_X0_104 (gw_mem 696 (by decide +kernel) (by decide +kernel)) (gw_mem 697 (by decide +kernel) (by decide +kernel)) (gw_mem 69 (by decide +kernel) (by decide +kernel)) cw_X0_wasCalled
theorem ml_X0_107 : Cond.methodLink RX0 107 yX0_wouldBeSung ∈ gw_t := gw_mem 699 (by decide +kernel) (by decide +kernel)
theorem gd_X0_107 : GoodIn gw_t (wsV RX0 107 RX0 yX0_wouldBeSung (.code yX0_wouldBeSung cX0_wouldBeSung 3 (some .boolean) :: gw_t)) := gw_wsV ml_X0_107 (gw_mem 701 (by decide +kernel) (by decide +kernel)) (gw_mem 13 (by decide +kernel) (by decide +kernel)) (gw_mem 69 (by decide +kernel) (by decide +kernel)) cw_X0_wouldBeSung
theorem ml_X0_110 : Cond.methodLink RX0 110 yX1_groupOf ∈ gw_t := gw_mem 703 (by decide +kernel) (by decide +kernel)
theorem gd_X0_110 : GoodIn gw_t (wsV RX0 110 RX1 yX1_groupOf (.code yX1_groupOf cX1_groupOf 2 (some .int) :: gw_t)) := gw_wsV ml_X0_110 (gw_mem 704 (by decide +kernel) (by decide +kernel)) (gw_mem 705 (by decide +kernel) (by decide +kernel)) (gw_mem 65 (by decide +kernel) (by decide +kernel)) cw_X1_groupOf
theorem ml_X0_114 : Cond.methodLink RX0 114 yX6_moves ∈ gw_t := gw_mem 707 (by decide +kernel) (by decide +kernel)
theorem gd_X0_114 : GoodIn gw_t (wsV RX0 114 RX6 yX6_moves (.code yX6_moves cX6_moves 2 (some .int) :: gw_t)) := gw_wsV ml_X0_114 (gw_mem 708 (by decide +kernel) (by decide +kernel)) (gw_mem 709 (by decide +kernel) (by decide +kernel)) (gw_mem 67 (by decide +kernel) (by decide +kernel)) cw_X6_moves
theorem ml_X0_118 : Cond.methodLinkNest RX0 118 yX8_within "WhoSingsNext" ∈ nw_t := nw_mem 711 (by decide +kernel) (by decide +kernel)
theorem gs_X0_118 : Cond.static yX8_within ∈ gw_t ∧ Cond.initialized yX8_within.cls ∈ gw_t := ⟨gw_mem 712 (by decide +kernel) (by decide +kernel), gw_mem 64 (by decide +kernel) (by decide +kernel)⟩
theorem ml_X0_125 : Cond.methodLink RX0 125 yX0_nameAll ∈ gw_t := gw_mem 716 (by decide +kernel) (by decide +kernel)
theorem gd_X0_125 : GoodIn gw_t (wsV RX0 125 RX0 yX0_nameAll (.code yX0_nameAll cX0_nameAll 4 none :: gw_t)) := gw_wsV ml_X0_125 (gw_mem 718 (by decide +kernel) (by decide +kernel)) (gw_mem 14 (by decide +kernel) (by decide +kernel)) (gw_mem 69 (by decide +kernel) (by decide +kernel)) cw_X0_nameAll
theorem ml_X0_131 : Cond.methodLink RX0 131 yX7_worth ∈ gw_t := gw_mem 720 (by decide +kernel) (by decide +kernel)
theorem gd_X0_131 : GoodIn gw_t (wsV RX0 131 RX7 yX7_worth (.code yX7_worth cX7_worth 9 (some .int) :: gw_t)) := gw_wsV ml_X0_131 (gw_mem 721 (by decide +kernel) (by decide +kernel)) (gw_mem 722 (by decide +kernel) (by decide +kernel)) (gw_mem 77 (by decide +kernel) (by decide +kernel)) cw_X7_worth
theorem ml_X0_135 : Cond.methodLink RX0 135 yJ6_bitCount_0f7a4 ∈ gw_t := gw_mem 727 (by decide +kernel) (by decide +kernel)
theorem gd_X0_135 : GoodIn gw_t (va_wsS RX0 135 yJ6_bitCount_0f7a4 (.code yJ6_bitCount_0f7a4 cJ6_bitCount_0f7a4 1 (some .int) :: gw_t)) := gw_wsS ml_X0_135 (gw_mem 728 (by decide +kernel) (by decide +kernel)) (gw_mem 82 (by decide +kernel) (by decide +kernel)) cw_J6_bitCount_0f7a4
theorem ml_X0_140 : Cond.methodLink RX0 140 yX6_thirst ∈ gw_t := gw_mem 733 (by decide +kernel) (by decide +kernel)
theorem gd_X0_140 : GoodIn gw_t (wsV RX0 140 RX6 yX6_thirst (.code yX6_thirst cX6_thirst 2 (some .int) :: gw_t)) := gw_wsV ml_X0_140 (gw_mem 734 (by decide +kernel) (by decide +kernel)) (gw_mem 735 (by decide +kernel) (by decide +kernel)) (gw_mem 67 (by decide +kernel) (by decide +kernel)) cw_X6_thirst
theorem ml_X0_143 : Cond.methodLink RX0 143 yJ9_max_7cf53 ∈ gw_t := gw_mem 737 (by decide +kernel) (by decide +kernel)
theorem gd_X0_143 : GoodIn gw_t (va_wsS RX0 143 yJ9_max_7cf53 (.code yJ9_max_7cf53 cJ9_max_7cf53 2 (some .int) :: gw_t)) := gw_wsS ml_X0_143 (gw_mem 436 (by decide +kernel) (by decide +kernel)) (gw_mem 75 (by decide +kernel) (by decide +kernel)) cw_J9_max_7cf53
theorem ml_X0_149 : Cond.methodLink RX0 149 yX0_letLeave ∈ gw_t := gw_mem 738 (by decide +kernel) (by decide +kernel)
theorem gd_X0_149 : GoodIn gw_t (wsV RX0 149 RX0 yX0_letLeave (.code yX0_letLeave cX0_letLeave 5 none :: gw_t)) := gw_wsV ml_X0_149 (gw_mem 740 (by decide +kernel) (by decide +kernel)) (gw_mem 15 (by decide +kernel) (by decide +kernel)) (gw_mem 69 (by decide +kernel) (by decide +kernel)) cw_X0_letLeave
theorem ml_X1_47 : Cond.methodLink RX1 47 yX1_hasPerson ∈ gw_t := gw_mem 606 (by decide +kernel) (by decide +kernel)
theorem gd_X1_47 : GoodIn gw_t (wsV RX1 47 RX1 yX1_hasPerson (.code yX1_hasPerson cX1_hasPerson 2 (some .boolean) :: gw_t)) := gw_wsV ml_X1_47 (gw_mem 607 (by decide +kernel) (by decide +kernel)) (gw_mem 608 (by decide +kernel) (by decide +kernel)) (gw_mem 65 (by decide +kernel) (by decide +kernel)) cw_X1_hasPerson
theorem ml_X1_76 : Cond.methodLink RX1 76 yX2_become ∈ gw_t := gw_mem 871 (by decide +kernel) (by decide +kernel)
theorem gd_X1_76 : GoodIn gw_t (wsV RX1 76 RX2 yX2_become (.code yX2_become cX2_become 2 none :: gw_t)) := gw_wsV ml_X1_76 (gw_mem 872 (by decide +kernel) (by decide +kernel)) (gw_mem 873 (by decide +kernel) (by decide +kernel)) (gw_mem 66 (by decide +kernel) (by decide +kernel)) cw_X2_become
theorem ml_X1_80 : Cond.methodLink RX1 80 yX6_become ∈ gw_t := gw_mem 875 (by decide +kernel) (by decide +kernel)
theorem gd_X1_80 : GoodIn gw_t (wsV RX1 80 RX6 yX6_become (.code yX6_become cX6_become 2 none :: gw_t)) := gw_wsV ml_X1_80 (gw_mem 876 (by decide +kernel) (by decide +kernel)) (gw_mem 877 (by decide +kernel) (by decide +kernel)) (gw_mem 67 (by decide +kernel) (by decide +kernel)) cw_X6_become
theorem ml_X1_63 : Cond.methodLink RX1 63 yX1_hasValue ∈ gw_t := gw_mem 639 (by decide +kernel) (by decide +kernel)
theorem gd_X1_63 : GoodIn gw_t (wsV RX1 63 RX1 yX1_hasValue (.code yX1_hasValue cX1_hasValue 3 (some .boolean) :: gw_t)) := gw_wsV ml_X1_63 (gw_mem 627 (by decide +kernel) (by decide +kernel)) (gw_mem 628 (by decide +kernel) (by decide +kernel)) (gw_mem 65 (by decide +kernel) (by decide +kernel)) cw_X1_hasValue
theorem ml_X1_70 : Cond.methodLink RX1 70 yX1_allows ∈ gw_t := gw_mem 644 (by decide +kernel) (by decide +kernel)
theorem gd_X1_70 : GoodIn gw_t (wsV RX1 70 RX1 yX1_allows (.code yX1_allows cX1_allows 3 (some .boolean) :: gw_t)) := gw_wsV ml_X1_70 (gw_mem 603 (by decide +kernel) (by decide +kernel)) (gw_mem 604 (by decide +kernel) (by decide +kernel)) (gw_mem 65 (by decide +kernel) (by decide +kernel)) cw_X1_allows
theorem ml_X1_60 : Cond.methodLink RX1 60 yX1_hasSlip ∈ gw_t := gw_mem 630 (by decide +kernel) (by decide +kernel)
theorem gd_X1_60 : GoodIn gw_t (wsV RX1 60 RX1 yX1_hasSlip (.code yX1_hasSlip cX1_hasSlip 2 (some .boolean) :: gw_t)) := gw_wsV ml_X1_60 (gw_mem 631 (by decide +kernel) (by decide +kernel)) (gw_mem 632 (by decide +kernel) (by decide +kernel)) (gw_mem 65 (by decide +kernel) (by decide +kernel)) cw_X1_hasSlip
theorem ml_X3_52 : Cond.methodLink RX3 52 yJ7_copyOf_59c91 ∈ gw_t := gw_mem 520 (by decide +kernel) (by decide +kernel)
theorem gd_X3_52 : GoodIn gw_t (va_wsS RX3 52 yJ7_copyOf_59c91 (.code yJ7_copyOf_59c91 cJ7_copyOf_59c91 3 (some (.array .int)) :: gw_t)) := gw_wsS ml_X3_52 (gw_mem 521 (by decide +kernel) (by decide +kernel)) (gw_mem 78 (by decide +kernel) (by decide +kernel)) cw_J7_copyOf_59c91
theorem ml_X3_31 : Cond.methodLink RX3 31 yX3_readToken ∈ gw_t := gw_mem 383 (by decide +kernel) (by decide +kernel)
theorem gd_X3_31 : GoodIn gw_t (wsV RX3 31 RX3 yX3_readToken (.code yX3_readToken cX3_readToken 1 none :: gw_t)) := gw_wsV ml_X3_31 (gw_mem 385 (by decide +kernel) (by decide +kernel)) (gw_mem 0 (by decide +kernel) (by decide +kernel)) (gw_mem 68 (by decide +kernel) (by decide +kernel)) cw_X3_readToken
theorem ml_X3_47 : Cond.methodLink RX3 47 yX3_fail ∈ gw_t := gw_mem 487 (by decide +kernel) (by decide +kernel)
theorem gd_X3_47 : GoodIn gw_t (wsV RX3 47 RX3 yX3_fail (.code yX3_fail cX3_fail 1 none :: gw_t)) := gw_wsV ml_X3_47 (gw_mem 489 (by decide +kernel) (by decide +kernel)) (gw_mem 6 (by decide +kernel) (by decide +kernel)) (gw_mem 68 (by decide +kernel) (by decide +kernel)) cw_X3_fail
theorem ml_X3_71 : Cond.methodLink RX3 71 yX3_readOne ∈ gw_t := gw_mem 495 (by decide +kernel) (by decide +kernel)
theorem gd_X3_71 : GoodIn gw_t (wsV RX3 71 RX3 yX3_readOne (.code yX3_readOne cX3_readOne 2 none :: gw_t)) := gw_wsV ml_X3_71 (gw_mem 497 (by decide +kernel) (by decide +kernel)) (gw_mem 8 (by decide +kernel) (by decide +kernel)) (gw_mem 68 (by decide +kernel) (by decide +kernel)) cw_X3_readOne
theorem ml_X3_74 : Cond.methodLink RX3 74 yX3_readNot ∈ gw_t := gw_mem 506 (by decide +kernel) (by decide +kernel)
theorem gd_X3_74 : GoodIn gw_t (wsV RX3 74 RX3 yX3_readNot (.code yX3_readNot cX3_readNot 2 none :: gw_t)) := gw_wsV ml_X3_74 (gw_mem 508 (by decide +kernel) (by decide +kernel)) (gw_mem 10 (by decide +kernel) (by decide +kernel)) (gw_mem 68 (by decide +kernel) (by decide +kernel)) cw_X3_readNot
theorem ml_X3_64 : Cond.methodLink RX3 64 yX3_readLevel ∈ gw_t := gw_mem 491 (by decide +kernel) (by decide +kernel)
theorem gd_X3_64 : GoodIn gw_t (wsV RX3 64 RX3 yX3_readLevel (.code yX3_readLevel cX3_readLevel 6 none :: gw_t)) := gw_wsV ml_X3_64 (gw_mem 493 (by decide +kernel) (by decide +kernel)) (gw_mem 7 (by decide +kernel) (by decide +kernel)) (gw_mem 68 (by decide +kernel) (by decide +kernel)) cw_X3_readLevel
theorem ml_X3_77 : Cond.methodLink RX3 77 yX3_joins ∈ gw_t := gw_mem 510 (by decide +kernel) (by decide +kernel)
theorem gd_X3_77 : GoodIn gw_t (wsV RX3 77 RX3 yX3_joins (.code yX3_joins cX3_joins 2 (some .boolean) :: gw_t)) := gw_wsV ml_X3_77 (gw_mem 512 (by decide +kernel) (by decide +kernel)) (gw_mem 11 (by decide +kernel) (by decide +kernel)) (gw_mem 68 (by decide +kernel) (by decide +kernel)) cw_X3_joins
theorem ml_X3_81 : Cond.methodLink RX3 81 yX3_emit ∈ gw_t := gw_mem 499 (by decide +kernel) (by decide +kernel)
theorem gd_X3_81 : GoodIn gw_t (wsV RX3 81 RX3 yX3_emit (.code yX3_emit cX3_emit 2 none :: gw_t)) := gw_wsV ml_X3_81 (gw_mem 501 (by decide +kernel) (by decide +kernel)) (gw_mem 9 (by decide +kernel) (by decide +kernel)) (gw_mem 68 (by decide +kernel) (by decide +kernel)) cw_X3_emit
theorem ml_X3_96 : Cond.methodLink RX3 96 yX3_isDigit ∈ gw_t := gw_mem 412 (by decide +kernel) (by decide +kernel)
theorem gd_X3_96 : GoodIn gw_t (va_wsS RX3 96 yX3_isDigit (.code yX3_isDigit cX3_isDigit 1 (some .boolean) :: gw_t)) := gw_wsS ml_X3_96 (gw_mem 413 (by decide +kernel) (by decide +kernel)) (gw_mem 68 (by decide +kernel) (by decide +kernel)) cw_X3_isDigit
theorem ml_X3_87 : Cond.methodLink RX3 87 yX3_isName ∈ gw_t := gw_mem 503 (by decide +kernel) (by decide +kernel)
theorem gd_X3_87 : GoodIn gw_t (va_wsS RX3 87 yX3_isName (.code yX3_isName cX3_isName 1 (some .boolean) :: gw_t)) := gw_wsS ml_X3_87 (gw_mem 504 (by decide +kernel) (by decide +kernel)) (gw_mem 68 (by decide +kernel) (by decide +kernel)) cw_X3_isName
theorem ml_X3_61 : Cond.methodLink RX3 61 yX3_pass ∈ gw_t := gw_mem 483 (by decide +kernel) (by decide +kernel)
theorem gd_X3_61 : GoodIn gw_t (wsV RX3 61 RX3 yX3_pass (.code yX3_pass cX3_pass 2 none :: gw_t)) := gw_wsV ml_X3_61 (gw_mem 485 (by decide +kernel) (by decide +kernel)) (gw_mem 5 (by decide +kernel) (by decide +kernel)) (gw_mem 68 (by decide +kernel) (by decide +kernel)) cw_X3_pass
theorem ml_X3_34 : Cond.methodLink RX3 34 yX3_readPart ∈ gw_t := gw_mem 479 (by decide +kernel) (by decide +kernel)
theorem gd_X3_34 : GoodIn gw_t (wsV RX3 34 RX3 yX3_readPart (.code yX3_readPart cX3_readPart 2 none :: gw_t)) := gw_wsV ml_X3_34 (gw_mem 481 (by decide +kernel) (by decide +kernel)) (gw_mem 4 (by decide +kernel) (by decide +kernel)) (gw_mem 68 (by decide +kernel) (by decide +kernel)) cw_X3_readPart
theorem ml_X3_90 : Cond.methodLink RX3 90 yX3_isLetter ∈ gw_t := gw_mem 387 (by decide +kernel) (by decide +kernel)
theorem gd_X3_90 : GoodIn gw_t (va_wsS RX3 90 yX3_isLetter (.code yX3_isLetter cX3_isLetter 1 (some .boolean) :: gw_t)) := gw_wsS ml_X3_90 (gw_mem 388 (by decide +kernel) (by decide +kernel)) (gw_mem 68 (by decide +kernel) (by decide +kernel)) cw_X3_isLetter
theorem ml_X3_93 : Cond.methodLink RX3 93 yX3_readWord ∈ gw_t := gw_mem 390 (by decide +kernel) (by decide +kernel)
theorem gd_X3_93 : GoodIn gw_t (wsV RX3 93 RX3 yX3_readWord (.code yX3_readWord cX3_readWord 1 none :: gw_t)) := gw_wsV ml_X3_93 (gw_mem 392 (by decide +kernel) (by decide +kernel)) (gw_mem 1 (by decide +kernel) (by decide +kernel)) (gw_mem 68 (by decide +kernel) (by decide +kernel)) cw_X3_readWord
theorem ml_X3_99 : Cond.methodLink RX3 99 yX3_readNumber ∈ gw_t := gw_mem 415 (by decide +kernel) (by decide +kernel)
theorem gd_X3_99 : GoodIn gw_t (wsV RX3 99 RX3 yX3_readNumber (.code yX3_readNumber cX3_readNumber 1 none :: gw_t)) := gw_wsV ml_X3_99 (gw_mem 417 (by decide +kernel) (by decide +kernel)) (gw_mem 3 (by decide +kernel) (by decide +kernel)) (gw_mem 68 (by decide +kernel) (by decide +kernel)) cw_X3_readNumber
theorem ml_X3_104 : Cond.methodLink RX3 104 yJ0_indexOf_0f7a4 ∈ gw_t := gw_mem 420 (by decide +kernel) (by decide +kernel)
theorem gd_X3_104 : GoodIn gw_t (wsV RX3 104 RJ0 yJ0_indexOf_0f7a4 (.code yJ0_indexOf_0f7a4 cJ0_indexOf_0f7a4 2 (some .int) :: gw_t)) := gw_wsV ml_X3_104 (gw_mem 421 (by decide +kernel) (by decide +kernel)) (gw_mem 422 (by decide +kernel) (by decide +kernel)) (gw_mem 71 (by decide +kernel) (by decide +kernel)) cw_J0_indexOf_0f7a4
theorem ml_X3_112 : Cond.methodLink RX3 112 yX3_spells ∈ gw_t := gw_mem 395 (by decide +kernel) (by decide +kernel)
theorem gd_X3_112 : GoodIn gw_t (wsV RX3 112 RX3 yX3_spells (.code yX3_spells cX3_spells 3 (some .boolean) :: gw_t)) := gw_wsV ml_X3_112 (gw_mem 397 (by decide +kernel) (by decide +kernel)) (gw_mem 2 (by decide +kernel) (by decide +kernel)) (gw_mem 68 (by decide +kernel) (by decide +kernel)) cw_X3_spells
theorem ml_X3_138 : Cond.methodLink RX3 138 yJ0_length_8abf5 ∈ gw_t := gw_mem 399 (by decide +kernel) (by decide +kernel)
theorem gd_X3_138 : GoodIn gw_t (wsV RX3 138 RJ0 yJ0_length_8abf5 (.code yJ0_length_8abf5 cJ0_length_8abf5 1 (some .int) :: gw_t)) := gw_wsV ml_X3_138 (gw_mem 328 (by decide +kernel) (by decide +kernel)) (gw_mem 329 (by decide +kernel) (by decide +kernel)) (gw_mem 71 (by decide +kernel) (by decide +kernel)) cw_J0_length_8abf5
theorem ml_X3_142 : Cond.methodLink RX3 142 yJ0_charAt_5068e ∈ gw_t := gw_mem 400 (by decide +kernel) (by decide +kernel)
theorem gd_X3_142 : GoodIn gw_t (wsV RX3 142 RJ0 yJ0_charAt_5068e (.code yJ0_charAt_5068e cJ0_charAt_5068e 2 (some .char) :: gw_t)) := gw_wsV ml_X3_142 (gw_mem 338 (by decide +kernel) (by decide +kernel)) (gw_mem 339 (by decide +kernel) (by decide +kernel)) (gw_mem 71 (by decide +kernel) (by decide +kernel)) cw_J0_charAt_5068e
theorem ml_X4_68 : Cond.methodLink RX4 68 yX0_wasCalled ∈ gw_t := gw_mem 767 (by decide +kernel) (by decide +kernel)
theorem gd_X4_68 : GoodIn gw_t (wsV RX4 68 RX0 yX0_wasCalled (.code yX0_wasCalled cX0_wasCalled 2 (some .boolean) :: gw_t)) := gw_wsV ml_X4_68 (gw_mem 696 (by decide +kernel) (by decide +kernel)) (gw_mem 697 (by decide +kernel) (by decide +kernel)) (gw_mem 69 (by decide +kernel) (by decide +kernel)) cw_X0_wasCalled
theorem ml_X4_72 : Cond.methodLink RX4 72 yX0_goOnFrom ∈ gw_t := gw_mem 768 (by decide +kernel) (by decide +kernel)
theorem gd_X4_72 : GoodIn gw_t (wsV RX4 72 RX0 yX0_goOnFrom (.code yX0_goOnFrom cX0_goOnFrom 2 none :: gw_t)) := gw_wsV ml_X4_72 (gw_mem 769 (by decide +kernel) (by decide +kernel)) (gw_mem 770 (by decide +kernel) (by decide +kernel)) (gw_mem 69 (by decide +kernel) (by decide +kernel)) cw_X0_goOnFrom
theorem ml_X4_76 : Cond.methodLink RX4 76 yX0_callSlip ∈ gw_t := gw_mem 773 (by decide +kernel) (by decide +kernel)
theorem gd_X4_76 : GoodIn gw_t (wsV RX4 76 RX0 yX0_callSlip (.code yX0_callSlip cX0_callSlip 5 none :: gw_t)) := gw_wsV ml_X4_76 (gw_mem 691 (by decide +kernel) (by decide +kernel)) (gw_mem 692 (by decide +kernel) (by decide +kernel)) (gw_mem 69 (by decide +kernel) (by decide +kernel)) cw_X0_callSlip
theorem ml_X4_50 : Cond.methodLink RX4 50 yX4_note ∈ gw_t := gw_mem 759 (by decide +kernel) (by decide +kernel)
theorem gd_X4_50 : GoodIn gw_t (wsV RX4 50 RX4 yX4_note (.code yX4_note cX4_note 4 none :: gw_t)) := gw_wsV ml_X4_50 (gw_mem 761 (by decide +kernel) (by decide +kernel)) (gw_mem 17 (by decide +kernel) (by decide +kernel)) (gw_mem 70 (by decide +kernel) (by decide +kernel)) cw_X4_note
theorem ml_X4_80 : Cond.methodLink RX4 80 yX4_losesFewer ∈ gw_t := gw_mem 774 (by decide +kernel) (by decide +kernel)
theorem gd_X4_80 : GoodIn gw_t (wsV RX4 80 RX4 yX4_losesFewer (.code yX4_losesFewer cX4_losesFewer 2 (some .boolean) :: gw_t)) := gw_wsV ml_X4_80 (gw_mem 776 (by decide +kernel) (by decide +kernel)) (gw_mem 19 (by decide +kernel) (by decide +kernel)) (gw_mem 70 (by decide +kernel) (by decide +kernel)) cw_X4_losesFewer
theorem ml_X4_54 : Cond.methodLink RX4 54 yX4_goOn ∈ gw_t := gw_mem 763 (by decide +kernel) (by decide +kernel)
theorem gd_X4_54 : GoodIn gw_t (wsV RX4 54 RX4 yX4_goOn (.code yX4_goOn cX4_goOn 6 none :: gw_t)) := gw_wsV ml_X4_54 (gw_mem 765 (by decide +kernel) (by decide +kernel)) (gw_mem 18 (by decide +kernel) (by decide +kernel)) (gw_mem 70 (by decide +kernel) (by decide +kernel)) cw_X4_goOn
theorem ml_X4_46 : Cond.methodLink RX4 46 yX0_begin ∈ gw_t := gw_mem 758 (by decide +kernel) (by decide +kernel)
theorem gd_X4_46 : GoodIn gw_t (wsV RX4 46 RX0 yX0_begin (.code yX0_begin cX0_begin 2 none :: gw_t)) := gw_wsV ml_X4_46 (gw_mem 679 (by decide +kernel) (by decide +kernel)) (gw_mem 680 (by decide +kernel) (by decide +kernel)) (gw_mem 69 (by decide +kernel) (by decide +kernel)) cw_X0_begin
theorem ml_X5_22 : Cond.methodLink RX5 22 yJ7_fill_53178 ∈ gw_t := gw_mem 895 (by decide +kernel) (by decide +kernel)
theorem gd_X5_22 : GoodIn gw_t (va_wsS RX5 22 yJ7_fill_53178 (.code yJ7_fill_53178 cJ7_fill_53178 4 none :: gw_t)) := gw_wsS ml_X5_22 (gw_mem 683 (by decide +kernel) (by decide +kernel)) (gw_mem 78 (by decide +kernel) (by decide +kernel)) cw_J7_fill_53178
theorem ml_X7_25 : Cond.methodLink RX7 25 yX7_joined ∈ gw_t := gw_mem 724 (by decide +kernel) (by decide +kernel)
theorem gd_X7_25 : GoodIn gw_t (va_wsS RX7 25 yX7_joined (.code yX7_joined cX7_joined 3 (some .int) :: gw_t)) := gw_wsS ml_X7_25 (gw_mem 725 (by decide +kernel) (by decide +kernel)) (gw_mem 77 (by decide +kernel) (by decide +kernel)) cw_X7_joined
theorem ml_X8_199 : Cond.methodLink RX8 199 yX1_become ∈ gw_t := gw_mem 867 (by decide +kernel) (by decide +kernel)
theorem gd_X8_199 : GoodIn gw_t (wsV RX8 199 RX1 yX1_become (.code yX1_become cX1_become 3 none :: gw_t)) := gw_wsV ml_X8_199 (gw_mem 868 (by decide +kernel) (by decide +kernel)) (gw_mem 869 (by decide +kernel) (by decide +kernel)) (gw_mem 65 (by decide +kernel) (by decide +kernel)) cw_X1_become
theorem ml_X8_134 : Cond.methodLink RX8 134 yX8_rule ∈ gw_t := gw_mem 674 (by decide +kernel) (by decide +kernel)
theorem gd_X8_134 : GoodIn gw_t (wsV RX8 134 RX8 yX8_rule (.code yX8_rule cX8_rule 1 (some (.object "WhoSingsNext$Text")) :: gw_t)) := gw_wsV ml_X8_134 (gw_mem 676 (by decide +kernel) (by decide +kernel)) (gw_mem 12 (by decide +kernel) (by decide +kernel)) (gw_mem 64 (by decide +kernel) (by decide +kernel)) cw_X8_rule
theorem ml_X8_152 : Cond.methodLink RX8 152 yX8_runDesk ∈ gw_t := gw_mem 786 (by decide +kernel) (by decide +kernel)
theorem gd_X8_152 : GoodIn gw_t (wsV RX8 152 RX8 yX8_runDesk (.code yX8_runDesk cX8_runDesk 3 none :: gw_t)) := gw_wsV ml_X8_152 (gw_mem 788 (by decide +kernel) (by decide +kernel)) (gw_mem 20 (by decide +kernel) (by decide +kernel)) (gw_mem 64 (by decide +kernel) (by decide +kernel)) cw_X8_runDesk
theorem ml_X8_147 : Cond.methodLink RX8 147 yX4_look ∈ gw_t := gw_mem 754 (by decide +kernel) (by decide +kernel)
theorem gd_X8_147 : GoodIn gw_t (wsV RX8 147 RX4 yX4_look (.code yX4_look cX4_look 2 none :: gw_t)) := gw_wsV ml_X8_147 (gw_mem 755 (by decide +kernel) (by decide +kernel)) (gw_mem 756 (by decide +kernel) (by decide +kernel)) (gw_mem 70 (by decide +kernel) (by decide +kernel)) cw_X4_look
theorem ml_X8_150 : Cond.methodLink RX8 150 yX4_answer ∈ gw_t := gw_mem 778 (by decide +kernel) (by decide +kernel)
theorem gd_X8_150 : GoodIn gw_t (wsV RX8 150 RX4 yX4_answer (.code yX4_answer cX4_answer 3 (some .int) :: gw_t)) := gw_wsV ml_X8_150 (gw_mem 779 (by decide +kernel) (by decide +kernel)) (gw_mem 780 (by decide +kernel) (by decide +kernel)) (gw_mem 70 (by decide +kernel) (by decide +kernel)) cw_X4_answer
theorem ml_X8_178 : Cond.methodLink RX8 178 yX8_isSheet ∈ gw_t := gw_mem 827 (by decide +kernel) (by decide +kernel)
theorem gd_X8_178 : GoodIn gw_t (va_wsS RX8 178 yX8_isSheet (.code yX8_isSheet cX8_isSheet 1 (some .boolean) :: gw_t)) := gw_wsS ml_X8_178 (gw_mem 828 (by decide +kernel) (by decide +kernel)) (gw_mem 64 (by decide +kernel) (by decide +kernel)) cw_X8_isSheet
theorem ml_X8_217 : Cond.methodLink RX8 217 yX5_holds ∈ gw_t := gw_mem 900 (by decide +kernel) (by decide +kernel)
theorem gd_X8_217 : GoodIn gw_t (wsV RX8 217 RX5 yX5_holds (.code yX5_holds cX5_holds 3 (some .boolean) :: gw_t)) := gw_wsV ml_X8_217 (gw_mem 901 (by decide +kernel) (by decide +kernel)) (gw_mem 902 (by decide +kernel) (by decide +kernel)) (gw_mem 80 (by decide +kernel) (by decide +kernel)) cw_X5_holds
theorem ml_X8_220 : Cond.methodLink RX8 220 yX5_put ∈ gw_t := gw_mem 904 (by decide +kernel) (by decide +kernel)
theorem gd_X8_220 : GoodIn gw_t (wsV RX8 220 RX5 yX5_put (.code yX5_put cX5_put 3 none :: gw_t)) := gw_wsV ml_X8_220 (gw_mem 905 (by decide +kernel) (by decide +kernel)) (gw_mem 906 (by decide +kernel) (by decide +kernel)) (gw_mem 80 (by decide +kernel) (by decide +kernel)) cw_X5_put
theorem ml_X8_136 : Cond.methodLink RX8 136 yX0_begin ∈ gw_t := gw_mem 678 (by decide +kernel) (by decide +kernel)
theorem gd_X8_136 : GoodIn gw_t (wsV RX8 136 RX0 yX0_begin (.code yX0_begin cX0_begin 2 none :: gw_t)) := gw_wsV ml_X8_136 (gw_mem 679 (by decide +kernel) (by decide +kernel)) (gw_mem 680 (by decide +kernel) (by decide +kernel)) (gw_mem 69 (by decide +kernel) (by decide +kernel)) cw_X0_begin
theorem ml_X8_191 : Cond.methodLink RX8 191 yX0_callByChance ∈ gw_t := gw_mem 846 (by decide +kernel) (by decide +kernel)
theorem gd_X8_191 : GoodIn gw_t (wsV RX8 191 RX0 yX0_callByChance (.code yX0_callByChance cX0_callByChance 4 none :: gw_t)) := gw_wsV ml_X8_191 (gw_mem 847 (by decide +kernel) (by decide +kernel)) (gw_mem 848 (by decide +kernel) (by decide +kernel)) (gw_mem 69 (by decide +kernel) (by decide +kernel)) cw_X0_callByChance
theorem ml_X8_196 : Cond.methodLink RX8 196 yX8_commonDivisor ∈ gw_t := gw_mem 860 (by decide +kernel) (by decide +kernel)
theorem gd_X8_196 : GoodIn gw_t (va_wsS RX8 196 yX8_commonDivisor (.code yX8_commonDivisor cX8_commonDivisor 3 (some .int) :: gw_t)) := gw_wsS ml_X8_196 (gw_mem 861 (by decide +kernel) (by decide +kernel)) (gw_mem 64 (by decide +kernel) (by decide +kernel)) cw_X8_commonDivisor
theorem ml_X8_106 : Cond.methodLink RX8 106 yX1_hasSlip ∈ gw_t := gw_mem 649 (by decide +kernel) (by decide +kernel)
theorem gd_X8_106 : GoodIn gw_t (wsV RX8 106 RX1 yX1_hasSlip (.code yX1_hasSlip cX1_hasSlip 2 (some .boolean) :: gw_t)) := gw_wsV ml_X8_106 (gw_mem 631 (by decide +kernel) (by decide +kernel)) (gw_mem 632 (by decide +kernel) (by decide +kernel)) (gw_mem 65 (by decide +kernel) (by decide +kernel)) cw_X1_hasSlip
theorem ml_X8_169 : Cond.methodLink RX8 169 yX0_callSlip ∈ gw_t := gw_mem 818 (by decide +kernel) (by decide +kernel)
theorem gd_X8_169 : GoodIn gw_t (wsV RX8 169 RX0 yX0_callSlip (.code yX0_callSlip cX0_callSlip 5 none :: gw_t)) := gw_wsV ml_X8_169 (gw_mem 691 (by decide +kernel) (by decide +kernel)) (gw_mem 692 (by decide +kernel) (by decide +kernel)) (gw_mem 69 (by decide +kernel) (by decide +kernel)) cw_X0_callSlip
theorem ml_X8_172 : Cond.methodLink RX8 172 yX0_callByDesk ∈ gw_t := gw_mem 794 (by decide +kernel) (by decide +kernel)
theorem gd_X8_172 : GoodIn gw_t (wsV RX8 172 RX0 yX0_callByDesk (.code yX0_callByDesk cX0_callByDesk 2 none :: gw_t)) := gw_wsV ml_X8_172 (gw_mem 795 (by decide +kernel) (by decide +kernel)) (gw_mem 796 (by decide +kernel) (by decide +kernel)) (gw_mem 69 (by decide +kernel) (by decide +kernel)) cw_X0_callByDesk
theorem ml_X8_83 : Cond.methodLink RX8 83 yX1_allows ∈ gw_t := gw_mem 602 (by decide +kernel) (by decide +kernel)
theorem gd_X8_83 : GoodIn gw_t (wsV RX8 83 RX1 yX1_allows (.code yX1_allows cX1_allows 3 (some .boolean) :: gw_t)) := gw_wsV ml_X8_83 (gw_mem 603 (by decide +kernel) (by decide +kernel)) (gw_mem 604 (by decide +kernel) (by decide +kernel)) (gw_mem 65 (by decide +kernel) (by decide +kernel)) cw_X1_allows
theorem ml_X8_87 : Cond.methodLink RX8 87 yX1_addPerson ∈ gw_t := gw_mem 610 (by decide +kernel) (by decide +kernel)
theorem gd_X8_87 : GoodIn gw_t (wsV RX8 87 RX1 yX1_addPerson (.code yX1_addPerson cX1_addPerson 3 (some .int) :: gw_t)) := gw_wsV ml_X8_87 (gw_mem 611 (by decide +kernel) (by decide +kernel)) (gw_mem 612 (by decide +kernel) (by decide +kernel)) (gw_mem 65 (by decide +kernel) (by decide +kernel)) cw_X1_addPerson
theorem ml_X8_143 : Cond.methodLink RX8 143 yX0_answer ∈ gw_t := gw_mem 742 (by decide +kernel) (by decide +kernel)
theorem gd_X8_143 : GoodIn gw_t (wsV RX8 143 RX0 yX0_answer (.code yX0_answer cX0_answer 2 (some .int) :: gw_t)) := gw_wsV ml_X8_143 (gw_mem 743 (by decide +kernel) (by decide +kernel)) (gw_mem 744 (by decide +kernel) (by decide +kernel)) (gw_mem 69 (by decide +kernel) (by decide +kernel)) cw_X0_answer
theorem ml_X8_131 : Cond.methodLink RX8 131 yX1_isRow ∈ gw_t := gw_mem 670 (by decide +kernel) (by decide +kernel)
theorem gd_X8_131 : GoodIn gw_t (wsV RX8 131 RX1 yX1_isRow (.code yX1_isRow cX1_isRow 5 (some .boolean) :: gw_t)) := gw_wsV ml_X8_131 (gw_mem 671 (by decide +kernel) (by decide +kernel)) (gw_mem 672 (by decide +kernel) (by decide +kernel)) (gw_mem 65 (by decide +kernel) (by decide +kernel)) cw_X1_isRow
theorem ml_X8_140 : Cond.methodLink RX8 140 yX0_callRow ∈ gw_t := gw_mem 685 (by decide +kernel) (by decide +kernel)
theorem gd_X8_140 : GoodIn gw_t (wsV RX8 140 RX0 yX0_callRow (.code yX0_callRow cX0_callRow 3 none :: gw_t)) := gw_wsV ml_X8_140 (gw_mem 686 (by decide +kernel) (by decide +kernel)) (gw_mem 687 (by decide +kernel) (by decide +kernel)) (gw_mem 69 (by decide +kernel) (by decide +kernel)) cw_X0_callRow
theorem ml_X8_66 : Cond.methodLink RX8 66 yX3_add ∈ gw_t := gw_mem 375 (by decide +kernel) (by decide +kernel)
theorem gd_X8_66 : GoodIn gw_t (wsV RX8 66 RX3 yX3_add (.code yX3_add cX3_add 2 (some .boolean) :: gw_t)) := gw_wsV ml_X8_66 (gw_mem 376 (by decide +kernel) (by decide +kernel)) (gw_mem 377 (by decide +kernel) (by decide +kernel)) (gw_mem 68 (by decide +kernel) (by decide +kernel)) cw_X3_add
theorem ml_X8_127 : Cond.methodLink RX8 127 yX1_follow ∈ gw_t := gw_mem 662 (by decide +kernel) (by decide +kernel)
theorem gd_X8_127 : GoodIn gw_t (wsV RX8 127 RX1 yX1_follow (.code yX1_follow cX1_follow 2 none :: gw_t)) := gw_wsV ml_X8_127 (gw_mem 663 (by decide +kernel) (by decide +kernel)) (gw_mem 664 (by decide +kernel) (by decide +kernel)) (gw_mem 65 (by decide +kernel) (by decide +kernel)) cw_X1_follow
theorem ml_X8_102 : Cond.methodLink RX8 102 yX1_change ∈ gw_t := gw_mem 640 (by decide +kernel) (by decide +kernel)
theorem gd_X8_102 : GoodIn gw_t (wsV RX8 102 RX1 yX1_change (.code yX1_change cX1_change 4 none :: gw_t)) := gw_wsV ml_X8_102 (gw_mem 641 (by decide +kernel) (by decide +kernel)) (gw_mem 642 (by decide +kernel) (by decide +kernel)) (gw_mem 65 (by decide +kernel) (by decide +kernel)) cw_X1_change
theorem ml_X8_56 : Cond.methodLink RX8 56 yJ0_length_8abf5 ∈ gw_t := gw_mem 327 (by decide +kernel) (by decide +kernel)
theorem gd_X8_56 : GoodIn gw_t (wsV RX8 56 RJ0 yJ0_length_8abf5 (.code yJ0_length_8abf5 cJ0_length_8abf5 1 (some .int) :: gw_t)) := gw_wsV ml_X8_56 (gw_mem 328 (by decide +kernel) (by decide +kernel)) (gw_mem 329 (by decide +kernel) (by decide +kernel)) (gw_mem 71 (by decide +kernel) (by decide +kernel)) cw_J0_length_8abf5
theorem ml_X8_62 : Cond.methodLink RX8 62 yJ0_charAt_5068e ∈ gw_t := gw_mem 337 (by decide +kernel) (by decide +kernel)
theorem gd_X8_62 : GoodIn gw_t (wsV RX8 62 RJ0 yJ0_charAt_5068e (.code yJ0_charAt_5068e cJ0_charAt_5068e 2 (some .char) :: gw_t)) := gw_wsV ml_X8_62 (gw_mem 338 (by decide +kernel) (by decide +kernel)) (gw_mem 339 (by decide +kernel) (by decide +kernel)) (gw_mem 71 (by decide +kernel) (by decide +kernel)) cw_J0_charAt_5068e
theorem ml_X8_70 : Cond.methodLink RX8 70 yX3_readTape ∈ gw_t := gw_mem 379 (by decide +kernel) (by decide +kernel)
theorem gd_X8_70 : GoodIn gw_t (wsV RX8 70 RX3 yX3_readTape (.code yX3_readTape cX3_readTape 1 (some .boolean) :: gw_t)) := gw_wsV ml_X8_70 (gw_mem 380 (by decide +kernel) (by decide +kernel)) (gw_mem 381 (by decide +kernel) (by decide +kernel)) (gw_mem 68 (by decide +kernel) (by decide +kernel)) cw_X3_readTape
theorem ml_X8_74 : Cond.methodLink RX8 74 yX3_made ∈ gw_t := gw_mem 514 (by decide +kernel) (by decide +kernel)
theorem gd_X8_74 : GoodIn gw_t (wsV RX8 74 RX3 yX3_made (.code yX3_made cX3_made 1 (some (.object "WhoSingsNext$Text")) :: gw_t)) := gw_wsV ml_X8_74 (gw_mem 515 (by decide +kernel) (by decide +kernel)) (gw_mem 516 (by decide +kernel) (by decide +kernel)) (gw_mem 68 (by decide +kernel) (by decide +kernel)) cw_X3_made
theorem ml_X8_184 : Cond.methodLink RX8 184 yX8_judged ∈ gw_t := gw_mem 830 (by decide +kernel) (by decide +kernel)
theorem gd_X8_184 : GoodIn gw_t (wsV RX8 184 RX8 yX8_judged (.code yX8_judged cX8_judged 4 (some .int) :: gw_t)) := gw_wsV ml_X8_184 (gw_mem 832 (by decide +kernel) (by decide +kernel)) (gw_mem 22 (by decide +kernel) (by decide +kernel)) (gw_mem 64 (by decide +kernel) (by decide +kernel)) cw_X8_judged
theorem ml_X8_238 : Cond.methodLink RX8 238 yX0_leaveOut ∈ gw_t := gw_mem 790 (by decide +kernel) (by decide +kernel)
theorem gd_X8_238 : GoodIn gw_t (wsV RX8 238 RX0 yX0_leaveOut (.code yX0_leaveOut cX0_leaveOut 2 none :: gw_t)) := gw_wsV ml_X8_238 (gw_mem 791 (by decide +kernel) (by decide +kernel)) (gw_mem 792 (by decide +kernel) (by decide +kernel)) (gw_mem 69 (by decide +kernel) (by decide +kernel)) cw_X0_leaveOut
theorem ml_X8_95 : Cond.methodLink RX8 95 yX1_hasValue ∈ gw_t := gw_mem 626 (by decide +kernel) (by decide +kernel)
theorem gd_X8_95 : GoodIn gw_t (wsV RX8 95 RX1 yX1_hasValue (.code yX1_hasValue cX1_hasValue 3 (some .boolean) :: gw_t)) := gw_wsV ml_X8_95 (gw_mem 627 (by decide +kernel) (by decide +kernel)) (gw_mem 628 (by decide +kernel) (by decide +kernel)) (gw_mem 65 (by decide +kernel) (by decide +kernel)) cw_X1_hasValue
theorem ml_X8_99 : Cond.methodLink RX8 99 yX1_valueOf ∈ gw_t := gw_mem 635 (by decide +kernel) (by decide +kernel)
theorem gd_X8_99 : GoodIn gw_t (wsV RX8 99 RX1 yX1_valueOf (.code yX1_valueOf cX1_valueOf 3 (some .int) :: gw_t)) := gw_wsV ml_X8_99 (gw_mem 636 (by decide +kernel) (by decide +kernel)) (gw_mem 637 (by decide +kernel) (by decide +kernel)) (gw_mem 65 (by decide +kernel) (by decide +kernel)) cw_X1_valueOf
theorem ml_X8_213 : Cond.methodLink RX8 213 yX5_remake ∈ gw_t := gw_mem 891 (by decide +kernel) (by decide +kernel)
theorem gd_X8_213 : GoodIn gw_t (wsV RX8 213 RX5 yX5_remake (.code yX5_remake cX5_remake 3 none :: gw_t)) := gw_wsV ml_X8_213 (gw_mem 892 (by decide +kernel) (by decide +kernel)) (gw_mem 893 (by decide +kernel) (by decide +kernel)) (gw_mem 80 (by decide +kernel) (by decide +kernel)) cw_X5_remake
theorem ml_X8_91 : Cond.methodLink RX8 91 yX1_addSlip ∈ gw_t := gw_mem 618 (by decide +kernel) (by decide +kernel)
theorem gd_X8_91 : GoodIn gw_t (wsV RX8 91 RX1 yX1_addSlip (.code yX1_addSlip cX1_addSlip 5 (some .int) :: gw_t)) := gw_wsV ml_X8_91 (gw_mem 619 (by decide +kernel) (by decide +kernel)) (gw_mem 620 (by decide +kernel) (by decide +kernel)) (gw_mem 65 (by decide +kernel) (by decide +kernel)) cw_X1_addSlip
theorem ml_X8_232 : Cond.methodLink RX8 232 yX6_isOf ∈ gw_t := gw_mem 921 (by decide +kernel) (by decide +kernel)
theorem gd_X8_232 : GoodIn gw_t (wsV RX8 232 RX6 yX6_isOf (.code yX6_isOf cX6_isOf 2 (some .boolean) :: gw_t)) := gw_wsV ml_X8_232 (gw_mem 922 (by decide +kernel) (by decide +kernel)) (gw_mem 923 (by decide +kernel) (by decide +kernel)) (gw_mem 67 (by decide +kernel) (by decide +kernel)) cw_X6_isOf
theorem ml_X8_250 : Cond.methodLink RX8 250 yJ9_min_7cf53 ∈ gw_t := gw_mem 714 (by decide +kernel) (by decide +kernel)
theorem gd_X8_250 : GoodIn gw_t (va_wsS RX8 250 yJ9_min_7cf53 (.code yJ9_min_7cf53 cJ9_min_7cf53 2 (some .int) :: gw_t)) := gw_wsS ml_X8_250 (gw_mem 439 (by decide +kernel) (by decide +kernel)) (gw_mem 75 (by decide +kernel) (by decide +kernel)) cw_J9_min_7cf53
theorem ml_X8_255 : Cond.methodLink RX8 255 yJ9_max_7cf53 ∈ gw_t := gw_mem 715 (by decide +kernel) (by decide +kernel)
theorem gd_X8_255 : GoodIn gw_t (va_wsS RX8 255 yJ9_max_7cf53 (.code yJ9_max_7cf53 cJ9_max_7cf53 2 (some .int) :: gw_t)) := gw_wsS ml_X8_255 (gw_mem 436 (by decide +kernel) (by decide +kernel)) (gw_mem 75 (by decide +kernel) (by decide +kernel)) cw_J9_max_7cf53
theorem ml_X9_225 : Cond.methodLink RX9 225 yX9_term ∈ gw_t := gw_mem 1217 (by decide +kernel) (by decide +kernel)
theorem gd_X9_225 : GoodIn gw_t (wsV RX9 225 RX9 yX9_term (.code yX9_term cX9_term 2 (some .int) :: gw_t)) := gw_wsV ml_X9_225 (gw_mem 1219 (by decide +kernel) (by decide +kernel)) (gw_mem 39 (by decide +kernel) (by decide +kernel)) (gw_mem 81 (by decide +kernel) (by decide +kernel)) cw_X9_term
theorem ml_X9_208 : Cond.methodLink RX9 208 yX9_isSign ∈ gw_t := gw_mem 1225 (by decide +kernel) (by decide +kernel)
theorem gd_X9_208 : GoodIn gw_t (wsV RX9 208 RX9 yX9_isSign (.code yX9_isSign cX9_isSign 2 (some .boolean) :: gw_t)) := gw_wsV ml_X9_208 (gw_mem 1227 (by decide +kernel) (by decide +kernel)) (gw_mem 41 (by decide +kernel) (by decide +kernel)) (gw_mem 81 (by decide +kernel) (by decide +kernel)) cw_X9_isSign
theorem ml_X9_183 : Cond.methodLink RX9 183 yX9_next ∈ gw_t := gw_mem 1169 (by decide +kernel) (by decide +kernel)
theorem gd_X9_183 : GoodIn gw_t (wsV RX9 183 RX9 yX9_next (.code yX9_next cX9_next 3 none :: gw_t)) := gw_wsV ml_X9_183 (gw_mem 1171 (by decide +kernel) (by decide +kernel)) (gw_mem 28 (by decide +kernel) (by decide +kernel)) (gw_mem 81 (by decide +kernel) (by decide +kernel)) cw_X9_next
theorem ml_X9_211 : Cond.methodLink RX9 211 yX9_opens ∈ gw_t := gw_mem 1209 (by decide +kernel) (by decide +kernel)
theorem gd_X9_211 : GoodIn gw_t (wsV RX9 211 RX9 yX9_opens (.code yX9_opens cX9_opens 1 (some .boolean) :: gw_t)) := gw_wsV ml_X9_211 (gw_mem 1211 (by decide +kernel) (by decide +kernel)) (gw_mem 37 (by decide +kernel) (by decide +kernel)) (gw_mem 81 (by decide +kernel) (by decide +kernel)) cw_X9_opens
theorem ml_X9_215 : Cond.methodLink RX9 215 yX9_atom ∈ gw_t := gw_mem 1221 (by decide +kernel) (by decide +kernel)
theorem gd_X9_215 : GoodIn gw_t (wsV RX9 215 RX9 yX9_atom (.code yX9_atom cX9_atom 2 (some .int) :: gw_t)) := gw_wsV ml_X9_215 (gw_mem 1223 (by decide +kernel) (by decide +kernel)) (gw_mem 40 (by decide +kernel) (by decide +kernel)) (gw_mem 81 (by decide +kernel) (by decide +kernel)) cw_X9_atom
theorem ml_X9_219 : Cond.methodLink RX9 219 yX9_either ∈ gw_t := gw_mem 1197 (by decide +kernel) (by decide +kernel)
theorem gd_X9_219 : GoodIn gw_t (wsV RX9 219 RX9 yX9_either (.code yX9_either cX9_either 3 (some .int) :: gw_t)) := gw_wsV ml_X9_219 (gw_mem 1199 (by decide +kernel) (by decide +kernel)) (gw_mem 34 (by decide +kernel) (by decide +kernel)) (gw_mem 81 (by decide +kernel) (by decide +kernel)) cw_X9_either
theorem ml_X9_180 : Cond.methodLink RX9 180 yX9_fail ∈ gw_t := gw_mem 1193 (by decide +kernel) (by decide +kernel)
theorem gd_X9_180 : GoodIn gw_t (wsV RX9 180 RX9 yX9_fail (.code yX9_fail cX9_fail 1 none :: gw_t)) := gw_wsV ml_X9_180 (gw_mem 1195 (by decide +kernel) (by decide +kernel)) (gw_mem 33 (by decide +kernel) (by decide +kernel)) (gw_mem 81 (by decide +kernel) (by decide +kernel)) cw_X9_fail
theorem ml_X9_222 : Cond.methodLink RX9 222 yX9_name ∈ gw_t := gw_mem 1229 (by decide +kernel) (by decide +kernel)
theorem gd_X9_222 : GoodIn gw_t (wsV RX9 222 RX9 yX9_name (.code yX9_name cX9_name 1 (some .int) :: gw_t)) := gw_wsV ml_X9_222 (gw_mem 1231 (by decide +kernel) (by decide +kernel)) (gw_mem 42 (by decide +kernel) (by decide +kernel)) (gw_mem 81 (by decide +kernel) (by decide +kernel)) cw_X9_name
theorem ml_X9_351 : Cond.methodLink RX9 351 yX9_desks ∈ gw_t := gw_mem 1321 (by decide +kernel) (by decide +kernel)
theorem gd_X9_351 : GoodIn gw_t (wsV RX9 351 RX9 yX9_desks (.code yX9_desks cX9_desks 2 none :: gw_t)) := gw_wsV ml_X9_351 (gw_mem 1323 (by decide +kernel) (by decide +kernel)) (gw_mem 57 (by decide +kernel) (by decide +kernel)) (gw_mem 81 (by decide +kernel) (by decide +kernel)) cw_X9_desks
theorem ml_X9_94 : Cond.methodLink RX9 94 yX9_in ∈ gw_t := gw_mem 1124 (by decide +kernel) (by decide +kernel)
theorem gd_X9_94 : GoodIn gw_t (va_wsS RX9 94 yX9_in (.code yX9_in cX9_in 6 (some .boolean) :: gw_t)) := gw_wsS ml_X9_94 (gw_mem 1125 (by decide +kernel) (by decide +kernel)) (gw_mem 81 (by decide +kernel) (by decide +kernel)) cw_X9_in
theorem ml_X9_296 : Cond.methodLink RX9 296 yX9_begins ∈ gw_t := gw_mem 1251 (by decide +kernel) (by decide +kernel)
theorem gd_X9_296 : GoodIn gw_t (wsV RX9 296 RX9 yX9_begins (.code yX9_begins cX9_begins 2 none :: gw_t)) := gw_wsV ml_X9_296 (gw_mem 1253 (by decide +kernel) (by decide +kernel)) (gw_mem 45 (by decide +kernel) (by decide +kernel)) (gw_mem 81 (by decide +kernel) (by decide +kernel)) cw_X9_begins
theorem ml_X9_333 : Cond.methodLink RX9 333 yX9_rows ∈ gw_t := gw_mem 1301 (by decide +kernel) (by decide +kernel)
theorem gd_X9_333 : GoodIn gw_t (wsV RX9 333 RX9 yX9_rows (.code yX9_rows cX9_rows 5 none :: gw_t)) := gw_wsV ml_X9_333 (gw_mem 1303 (by decide +kernel) (by decide +kernel)) (gw_mem 53 (by decide +kernel) (by decide +kernel)) (gw_mem 81 (by decide +kernel) (by decide +kernel)) cw_X9_rows
theorem ml_X9_230 : Cond.methodLink RX9 230 yX9_not ∈ gw_t := gw_mem 1205 (by decide +kernel) (by decide +kernel)
theorem gd_X9_230 : GoodIn gw_t (wsV RX9 230 RX9 yX9_not (.code yX9_not cX9_not 4 (some .int) :: gw_t)) := gw_wsV ml_X9_230 (gw_mem 1207 (by decide +kernel) (by decide +kernel)) (gw_mem 36 (by decide +kernel) (by decide +kernel)) (gw_mem 81 (by decide +kernel) (by decide +kernel)) cw_X9_not
theorem ml_X9_186 : Cond.methodLink RX9 186 yX9_isWord ∈ gw_t := gw_mem 1181 (by decide +kernel) (by decide +kernel)
theorem gd_X9_186 : GoodIn gw_t (wsV RX9 186 RX9 yX9_isWord (.code yX9_isWord cX9_isWord 9 (some .boolean) :: gw_t)) := gw_wsV ml_X9_186 (gw_mem 1183 (by decide +kernel) (by decide +kernel)) (gw_mem 30 (by decide +kernel) (by decide +kernel)) (gw_mem 81 (by decide +kernel) (by decide +kernel)) cw_X9_isWord
theorem ml_X9_277 : Cond.methodLink RX9 277 yX9_canSing ∈ gw_t := gw_mem 1262 (by decide +kernel) (by decide +kernel)
theorem gd_X9_277 : GoodIn gw_t (wsV RX9 277 RX9 yX9_canSing (.code yX9_canSing cX9_canSing 2 (some .boolean) :: gw_t)) := gw_wsV ml_X9_277 (gw_mem 1264 (by decide +kernel) (by decide +kernel)) (gw_mem 47 (by decide +kernel) (by decide +kernel)) (gw_mem 81 (by decide +kernel) (by decide +kernel)) cw_X9_canSing
theorem ml_X9_280 : Cond.methodLink RX9 280 yX9_moves ∈ gw_t := gw_mem 1266 (by decide +kernel) (by decide +kernel)
theorem gd_X9_280 : GoodIn gw_t (wsV RX9 280 RX9 yX9_moves (.code yX9_moves cX9_moves 6 (some .int) :: gw_t)) := gw_wsV ml_X9_280 (gw_mem 1268 (by decide +kernel) (by decide +kernel)) (gw_mem 48 (by decide +kernel) (by decide +kernel)) (gw_mem 81 (by decide +kernel) (by decide +kernel)) cw_X9_moves
theorem ml_X9_261 : Cond.methodLink RX9 261 yX9_within ∈ gw_t := gw_mem 1270 (by decide +kernel) (by decide +kernel)
theorem gd_X9_261 : GoodIn gw_t (va_wsS RX9 261 yX9_within (.code yX9_within cX9_within 3 (some .int) :: gw_t)) := gw_wsS ml_X9_261 (gw_mem 1271 (by decide +kernel) (by decide +kernel)) (gw_mem 81 (by decide +kernel) (by decide +kernel)) cw_X9_within
theorem ml_X9_283 : Cond.methodLink RX9 283 yX9_bitsOf ∈ gw_t := gw_mem 1273 (by decide +kernel) (by decide +kernel)
theorem gd_X9_283 : GoodIn gw_t (va_wsS RX9 283 yX9_bitsOf (.code yX9_bitsOf cX9_bitsOf 3 (some .int) :: gw_t)) := gw_wsS ml_X9_283 (gw_mem 1274 (by decide +kernel) (by decide +kernel)) (gw_mem 81 (by decide +kernel) (by decide +kernel)) cw_X9_bitsOf
theorem ml_X9_286 : Cond.methodLink RX9 286 yX9_thirst ∈ gw_t := gw_mem 1276 (by decide +kernel) (by decide +kernel)
theorem gd_X9_286 : GoodIn gw_t (wsV RX9 286 RX9 yX9_thirst (.code yX9_thirst cX9_thirst 5 (some .int) :: gw_t)) := gw_wsV ml_X9_286 (gw_mem 1278 (by decide +kernel) (by decide +kernel)) (gw_mem 49 (by decide +kernel) (by decide +kernel)) (gw_mem 81 (by decide +kernel) (by decide +kernel)) cw_X9_thirst
theorem ml_X9_289 : Cond.methodLink RX9 289 yX9_says ∈ gw_t := gw_mem 1280 (by decide +kernel) (by decide +kernel)
theorem gd_X9_289 : GoodIn gw_t (wsV RX9 289 RX9 yX9_says (.code yX9_says cX9_says 6 (some .int) :: gw_t)) := gw_wsV ml_X9_289 (gw_mem 1282 (by decide +kernel) (by decide +kernel)) (gw_mem 50 (by decide +kernel) (by decide +kernel)) (gw_mem 81 (by decide +kernel) (by decide +kernel)) cw_X9_says
theorem ml_X9_354 : Cond.methodLink RX9 354 yX9_isSheet ∈ gw_t := gw_mem 1357 (by decide +kernel) (by decide +kernel)
theorem gd_X9_354 : GoodIn gw_t (va_wsS RX9 354 yX9_isSheet (.code yX9_isSheet cX9_isSheet 1 (some .boolean) :: gw_t)) := gw_wsS ml_X9_354 (gw_mem 1358 (by decide +kernel) (by decide +kernel)) (gw_mem 81 (by decide +kernel) (by decide +kernel)) cw_X9_isSheet
theorem ml_X9_364 : Cond.methodLink RX9 364 yX9_draws ∈ gw_t := gw_mem 1376 (by decide +kernel) (by decide +kernel)
theorem gd_X9_364 : GoodIn gw_t (wsV RX9 364 RX9 yX9_draws (.code yX9_draws cX9_draws 6 none :: gw_t)) := gw_wsV ml_X9_364 (gw_mem 1378 (by decide +kernel) (by decide +kernel)) (gw_mem 62 (by decide +kernel) (by decide +kernel)) (gw_mem 81 (by decide +kernel) (by decide +kernel)) cw_X9_draws
theorem ml_X9_293 : Cond.methodLink RX9 293 yX9_leftMany ∈ gw_t := gw_mem 1288 (by decide +kernel) (by decide +kernel)
theorem gd_X9_293 : GoodIn gw_t (wsV RX9 293 RX9 yX9_leftMany (.code yX9_leftMany cX9_leftMany 1 (some .int) :: gw_t)) := gw_wsV ml_X9_293 (gw_mem 1290 (by decide +kernel) (by decide +kernel)) (gw_mem 52 (by decide +kernel) (by decide +kernel)) (gw_mem 81 (by decide +kernel) (by decide +kernel)) cw_X9_leftMany
theorem ml_X9_119 : Cond.methodLink RX9 119 yX9_isSlip ∈ gw_t := gw_mem 1145 (by decide +kernel) (by decide +kernel)
theorem gd_X9_119 : GoodIn gw_t (wsV RX9 119 RX9 yX9_isSlip (.code yX9_isSlip cX9_isSlip 2 (some .boolean) :: gw_t)) := gw_wsV ml_X9_119 (gw_mem 1147 (by decide +kernel) (by decide +kernel)) (gw_mem 26 (by decide +kernel) (by decide +kernel)) (gw_mem 81 (by decide +kernel) (by decide +kernel)) cw_X9_isSlip
theorem ml_X9_302 : Cond.methodLink RX9 302 yX9_calls ∈ gw_t := gw_mem 1258 (by decide +kernel) (by decide +kernel)
theorem gd_X9_302 : GoodIn gw_t (wsV RX9 302 RX9 yX9_calls (.code yX9_calls cX9_calls 6 none :: gw_t)) := gw_wsV ml_X9_302 (gw_mem 1260 (by decide +kernel) (by decide +kernel)) (gw_mem 46 (by decide +kernel) (by decide +kernel)) (gw_mem 81 (by decide +kernel) (by decide +kernel)) cw_X9_calls
theorem ml_X9_348 : Cond.methodLink RX9 348 yX9_goesOn ∈ gw_t := gw_mem 1325 (by decide +kernel) (by decide +kernel)
theorem gd_X9_348 : GoodIn gw_t (wsV RX9 348 RX9 yX9_goesOn (.code yX9_goesOn cX9_goesOn 3 none :: gw_t)) := gw_wsV ml_X9_348 (gw_mem 1327 (by decide +kernel) (by decide +kernel)) (gw_mem 58 (by decide +kernel) (by decide +kernel)) (gw_mem 81 (by decide +kernel) (by decide +kernel)) cw_X9_goesOn
theorem ml_X9_312 : Cond.methodLink RX9 312 yX9_tells ∈ gw_t := gw_mem 1284 (by decide +kernel) (by decide +kernel)
theorem gd_X9_312 : GoodIn gw_t (wsV RX9 312 RX9 yX9_tells (.code yX9_tells cX9_tells 2 (some .int) :: gw_t)) := gw_wsV ml_X9_312 (gw_mem 1286 (by decide +kernel) (by decide +kernel)) (gw_mem 51 (by decide +kernel) (by decide +kernel)) (gw_mem 81 (by decide +kernel) (by decide +kernel)) cw_X9_tells
theorem ml_X9_238 : Cond.methodLink RX9 238 yX9_both ∈ gw_t := gw_mem 1201 (by decide +kernel) (by decide +kernel)
theorem gd_X9_238 : GoodIn gw_t (wsV RX9 238 RX9 yX9_both (.code yX9_both cX9_both 3 (some .int) :: gw_t)) := gw_wsV ml_X9_238 (gw_mem 1203 (by decide +kernel) (by decide +kernel)) (gw_mem 35 (by decide +kernel) (by decide +kernel)) (gw_mem 81 (by decide +kernel) (by decide +kernel)) cw_X9_both
theorem ml_X9_306 : Cond.methodLink RX9 306 yX9_isRow ∈ gw_t := gw_mem 1243 (by decide +kernel) (by decide +kernel)
theorem gd_X9_306 : GoodIn gw_t (wsV RX9 306 RX9 yX9_isRow (.code yX9_isRow cX9_isRow 5 (some .boolean) :: gw_t)) := gw_wsV ml_X9_306 (gw_mem 1245 (by decide +kernel) (by decide +kernel)) (gw_mem 43 (by decide +kernel) (by decide +kernel)) (gw_mem 81 (by decide +kernel) (by decide +kernel)) cw_X9_isRow
theorem ml_X9_309 : Cond.methodLink RX9 309 yX9_goes ∈ gw_t := gw_mem 1247 (by decide +kernel) (by decide +kernel)
theorem gd_X9_309 : GoodIn gw_t (wsV RX9 309 RX9 yX9_goes (.code yX9_goes cX9_goes 4 none :: gw_t)) := gw_wsV ml_X9_309 (gw_mem 1249 (by decide +kernel) (by decide +kernel)) (gw_mem 44 (by decide +kernel) (by decide +kernel)) (gw_mem 81 (by decide +kernel) (by decide +kernel)) cw_X9_goes
theorem ml_X9_299 : Cond.methodLink RX9 299 yX9_sizeOf ∈ gw_t := gw_mem 1255 (by decide +kernel) (by decide +kernel)
theorem gd_X9_299 : GoodIn gw_t (va_wsS RX9 299 yX9_sizeOf (.code yX9_sizeOf cX9_sizeOf 3 (some .int) :: gw_t)) := gw_wsS ml_X9_299 (gw_mem 1256 (by decide +kernel) (by decide +kernel)) (gw_mem 81 (by decide +kernel) (by decide +kernel)) cw_X9_sizeOf
theorem ml_X9_345 : Cond.methodLink RX9 345 yX9_deskCalls ∈ gw_t := gw_mem 1329 (by decide +kernel) (by decide +kernel)
theorem gd_X9_345 : GoodIn gw_t (wsV RX9 345 RX9 yX9_deskCalls (.code yX9_deskCalls cX9_deskCalls 7 (some .int) :: gw_t)) := gw_wsV ml_X9_345 (gw_mem 1331 (by decide +kernel) (by decide +kernel)) (gw_mem 59 (by decide +kernel) (by decide +kernel)) (gw_mem 81 (by decide +kernel) (by decide +kernel)) cw_X9_deskCalls
theorem ml_X9_84 : Cond.methodLink RX9 84 yX9_spell ∈ gw_t := gw_mem 931 (by decide +kernel) (by decide +kernel)
theorem gd_X9_84 : GoodIn gw_t (wsV RX9 84 RX9 yX9_spell (.code yX9_spell cX9_spell 10 none :: gw_t)) := gw_wsV ml_X9_84 (gw_mem 933 (by decide +kernel) (by decide +kernel)) (gw_mem 24 (by decide +kernel) (by decide +kernel)) (gw_mem 81 (by decide +kernel) (by decide +kernel)) cw_X9_spell
theorem ml_X9_144 : Cond.methodLink RX9 144 yX9_byteAt ∈ gw_t := gw_mem 1173 (by decide +kernel) (by decide +kernel)
theorem gd_X9_144 : GoodIn gw_t (wsV RX9 144 RX9 yX9_byteAt (.code yX9_byteAt cX9_byteAt 2 (some .int) :: gw_t)) := gw_wsV ml_X9_144 (gw_mem 1175 (by decide +kernel) (by decide +kernel)) (gw_mem 29 (by decide +kernel) (by decide +kernel)) (gw_mem 81 (by decide +kernel) (by decide +kernel)) cw_X9_byteAt
theorem ml_X9_173 : Cond.methodLink RX9 173 yX9_isLetter ∈ gw_t := gw_mem 1185 (by decide +kernel) (by decide +kernel)
theorem gd_X9_173 : GoodIn gw_t (wsV RX9 173 RX9 yX9_isLetter (.code yX9_isLetter cX9_isLetter 3 (some .boolean) :: gw_t)) := gw_wsV ml_X9_173 (gw_mem 1187 (by decide +kernel) (by decide +kernel)) (gw_mem 31 (by decide +kernel) (by decide +kernel)) (gw_mem 81 (by decide +kernel) (by decide +kernel)) cw_X9_isLetter
theorem ml_X9_357 : Cond.methodLink RX9 357 yX9_tellBad ∈ gw_t := gw_mem 1353 (by decide +kernel) (by decide +kernel)
theorem gd_X9_357 : GoodIn gw_t (wsV RX9 357 RX9 yX9_tellBad (.code yX9_tellBad cX9_tellBad 2 (some .int) :: gw_t)) := gw_wsV ml_X9_357 (gw_mem 1355 (by decide +kernel) (by decide +kernel)) (gw_mem 60 (by decide +kernel) (by decide +kernel)) (gw_mem 81 (by decide +kernel) (by decide +kernel)) cw_X9_tellBad
theorem ml_X9_360 : Cond.methodLink RX9 360 yX9_wrongAt ∈ gw_t := gw_mem 1360 (by decide +kernel) (by decide +kernel)
theorem gd_X9_360 : GoodIn gw_t (wsV RX9 360 RX9 yX9_wrongAt (.code yX9_wrongAt cX9_wrongAt 4 (some .int) :: gw_t)) := gw_wsV ml_X9_360 (gw_mem 1362 (by decide +kernel) (by decide +kernel)) (gw_mem 61 (by decide +kernel) (by decide +kernel)) (gw_mem 81 (by decide +kernel) (by decide +kernel)) cw_X9_wrongAt
theorem ml_X9_233 : Cond.methodLink RX9 233 yX9_added ∈ gw_t := gw_mem 1213 (by decide +kernel) (by decide +kernel)
theorem gd_X9_233 : GoodIn gw_t (wsV RX9 233 RX9 yX9_added (.code yX9_added cX9_added 4 (some .int) :: gw_t)) := gw_wsV ml_X9_233 (gw_mem 1215 (by decide +kernel) (by decide +kernel)) (gw_mem 38 (by decide +kernel) (by decide +kernel)) (gw_mem 81 (by decide +kernel) (by decide +kernel)) cw_X9_added
theorem ml_X9_241 : Cond.methodLink RX9 241 yX9_part ∈ gw_t := gw_mem 1189 (by decide +kernel) (by decide +kernel)
theorem gd_X9_241 : GoodIn gw_t (wsV RX9 241 RX9 yX9_part (.code yX9_part cX9_part 3 (some .int) :: gw_t)) := gw_wsV ml_X9_241 (gw_mem 1191 (by decide +kernel) (by decide +kernel)) (gw_mem 32 (by decide +kernel) (by decide +kernel)) (gw_mem 81 (by decide +kernel) (by decide +kernel)) cw_X9_part
theorem ml_X9_324 : Cond.methodLink RX9 324 yX9_isBetter ∈ gw_t := gw_mem 1305 (by decide +kernel) (by decide +kernel)
theorem gd_X9_324 : GoodIn gw_t (wsV RX9 324 RX9 yX9_isBetter (.code yX9_isBetter cX9_isBetter 2 (some .boolean) :: gw_t)) := gw_wsV ml_X9_324 (gw_mem 1307 (by decide +kernel) (by decide +kernel)) (gw_mem 54 (by decide +kernel) (by decide +kernel)) (gw_mem 81 (by decide +kernel) (by decide +kernel)) cw_X9_isBetter
theorem ml_X9_330 : Cond.methodLink RX9 330 yX9_lays ∈ gw_t := gw_mem 1309 (by decide +kernel) (by decide +kernel)
theorem gd_X9_330 : GoodIn gw_t (wsV RX9 330 RX9 yX9_lays (.code yX9_lays cX9_lays 4 none :: gw_t)) := gw_wsV ml_X9_330 (gw_mem 1311 (by decide +kernel) (by decide +kernel)) (gw_mem 55 (by decide +kernel) (by decide +kernel)) (gw_mem 81 (by decide +kernel) (by decide +kernel)) cw_X9_lays
theorem ml_X9_337 : Cond.methodLink RX9 337 yX9_laysBack ∈ gw_t := gw_mem 1313 (by decide +kernel) (by decide +kernel)
theorem gd_X9_337 : GoodIn gw_t (wsV RX9 337 RX9 yX9_laysBack (.code yX9_laysBack cX9_laysBack 4 none :: gw_t)) := gw_wsV ml_X9_337 (gw_mem 1315 (by decide +kernel) (by decide +kernel)) (gw_mem 56 (by decide +kernel) (by decide +kernel)) (gw_mem 81 (by decide +kernel) (by decide +kernel)) cw_X9_laysBack
theorem ml_X9_245 : Cond.methodLink RX9 245 yX9_read ∈ gw_t := gw_mem 1165 (by decide +kernel) (by decide +kernel)
theorem gd_X9_245 : GoodIn gw_t (wsV RX9 245 RX9 yX9_read (.code yX9_read cX9_read 6 (some .int) :: gw_t)) := gw_wsV ml_X9_245 (gw_mem 1167 (by decide +kernel) (by decide +kernel)) (gw_mem 27 (by decide +kernel) (by decide +kernel)) (gw_mem 81 (by decide +kernel) (by decide +kernel)) cw_X9_read
theorem ml_X9_109 : Cond.methodLink RX9 109 yX9_isOne ∈ gw_t := gw_mem 1134 (by decide +kernel) (by decide +kernel)
theorem gd_X9_109 : GoodIn gw_t (wsV RX9 109 RX9 yX9_isOne (.code yX9_isOne cX9_isOne 2 (some .boolean) :: gw_t)) := gw_wsV ml_X9_109 (gw_mem 1136 (by decide +kernel) (by decide +kernel)) (gw_mem 25 (by decide +kernel) (by decide +kernel)) (gw_mem 81 (by decide +kernel) (by decide +kernel)) cw_X9_isOne
theorem ml_X9_385 : Cond.methodLink RX9 385 yX9_slip ∈ gw_t := gw_mem 1416 (by decide +kernel) (by decide +kernel)
theorem gd_X9_385 : GoodIn gw_t (wsV RX9 385 RX9 yX9_slip (.code yX9_slip cX9_slip 4 (some .int) :: gw_t)) := gw_wsV ml_X9_385 (gw_mem 1129 (by decide +kernel) (by decide +kernel)) (gw_mem 1130 (by decide +kernel) (by decide +kernel)) (gw_mem 81 (by decide +kernel) (by decide +kernel)) cw_X9_slip
theorem ml_X9_388 : Cond.methodLink RX9 388 yX9_over ∈ gw_t := gw_mem 1421 (by decide +kernel) (by decide +kernel)
theorem gd_X9_388 : GoodIn gw_t (va_wsS RX9 388 yX9_over (.code yX9_over cX9_over 1 (some .int) :: gw_t)) := gw_wsS ml_X9_388 (gw_mem 1422 (by decide +kernel) (by decide +kernel)) (gw_mem 81 (by decide +kernel) (by decide +kernel)) cw_X9_over
theorem kw_J11_76 : Cond.constant RJ11 76 (56320) ∈ gw_t := gw_mem 478 (by decide +kernel) (by decide +kernel)
theorem kw_J11_110 : Cond.constant RJ11 110 (55232) ∈ gw_t := gw_mem 474 (by decide +kernel) (by decide +kernel)
theorem kw_J2_227 : Cond.constant RJ2 227 (65536) ∈ gw_t := gw_mem 449 (by decide +kernel) (by decide +kernel)
theorem kw_J6_265 : Cond.constant RJ6 265 (1431655765) ∈ gw_t := gw_mem 730 (by decide +kernel) (by decide +kernel)
theorem kw_J6_266 : Cond.constant RJ6 266 (858993459) ∈ gw_t := gw_mem 731 (by decide +kernel) (by decide +kernel)
theorem kw_J6_267 : Cond.constant RJ6 267 (252645135) ∈ gw_t := gw_mem 732 (by decide +kernel) (by decide +kernel)
theorem kw_X0_164 : Cond.constant RX0 164 (1000000) ∈ gw_t := gw_mem 689 (by decide +kernel) (by decide +kernel)
theorem kw_X0_175 : Cond.constant RX0 175 (1103515245) ∈ gw_t := gw_mem 850 (by decide +kernel) (by decide +kernel)
theorem kw_X8_98 : Cond.constant RX8 98 (-100000) ∈ gw_t := gw_mem 634 (by decide +kernel) (by decide +kernel)
theorem kw_X8_194 : Cond.constantLong RX8 194 (-4611686018427387904) ∈ gw_t := gw_mem 859 (by decide +kernel) (by decide +kernel)
theorem kw_X9_101 : Cond.constantLong RX9 101 (99) ∈ gw_t := gw_mem 1123 (by decide +kernel) (by decide +kernel)
theorem kw_X9_103 : Cond.constantLong RX9 103 (7) ∈ gw_t := gw_mem 1127 (by decide +kernel) (by decide +kernel)
theorem kw_X9_105 : Cond.constantLong RX9 105 (5) ∈ gw_t := gw_mem 1132 (by decide +kernel) (by decide +kernel)
theorem kw_X9_107 : Cond.constantLong RX9 107 (10) ∈ gw_t := gw_mem 1133 (by decide +kernel) (by decide +kernel)
theorem kw_X9_113 : Cond.constantLong RX9 113 (6) ∈ gw_t := gw_mem 1142 (by decide +kernel) (by decide +kernel)
theorem kw_X9_115 : Cond.constantLong RX9 115 (2) ∈ gw_t := gw_mem 1143 (by decide +kernel) (by decide +kernel)
theorem kw_X9_117 : Cond.constantLong RX9 117 (4) ∈ gw_t := gw_mem 1144 (by decide +kernel) (by decide +kernel)
theorem kw_X9_122 : Cond.constant RX9 122 (-100000) ∈ gw_t := gw_mem 1149 (by decide +kernel) (by decide +kernel)
theorem kw_X9_123 : Cond.constantLong RX9 123 (-99) ∈ gw_t := gw_mem 1150 (by decide +kernel) (by decide +kernel)
theorem kw_X9_125 : Cond.constantLong RX9 125 (9) ∈ gw_t := gw_mem 1151 (by decide +kernel) (by decide +kernel)
theorem kw_X9_130 : Cond.constantLong RX9 130 (255) ∈ gw_t := gw_mem 1160 (by decide +kernel) (by decide +kernel)
theorem kw_X9_154 : Cond.constantLong RX9 154 (97) ∈ gw_t := gw_mem 1177 (by decide +kernel) (by decide +kernel)
theorem kw_X9_156 : Cond.constantLong RX9 156 (122) ∈ gw_t := gw_mem 1178 (by decide +kernel) (by decide +kernel)
theorem kw_X9_158 : Cond.constantLong RX9 158 (48) ∈ gw_t := gw_mem 1179 (by decide +kernel) (by decide +kernel)
theorem kw_X9_160 : Cond.constantLong RX9 160 (57) ∈ gw_t := gw_mem 1180 (by decide +kernel) (by decide +kernel)
theorem kw_X9_228 : Cond.constantLong RX9 228 (43) ∈ gw_t := gw_mem 1233 (by decide +kernel) (by decide +kernel)
theorem kw_X9_236 : Cond.constantLong RX9 236 (60) ∈ gw_t := gw_mem 1234 (by decide +kernel) (by decide +kernel)
theorem kw_X9_340 : Cond.constantLong RX9 340 (3) ∈ gw_t := gw_mem 1300 (by decide +kernel) (by decide +kernel)
theorem kw_X9_363 : Cond.constant RX9 363 (1103515245) ∈ gw_t := gw_mem 1380 (by decide +kernel) (by decide +kernel)
theorem kw_X9_367 : Cond.constantLong RX9 367 (20) ∈ gw_t := gw_mem 1385 (by decide +kernel) (by decide +kernel)
theorem kw_X9_369 : Cond.constantLong RX9 369 (-4611686018427387904) ∈ gw_t := gw_mem 1386 (by decide +kernel) (by decide +kernel)
theorem kw_X9_383 : Cond.constantLong RX9 383 (-1) ∈ gw_t := gw_mem 1403 (by decide +kernel) (by decide +kernel)
end
section
/-! ===== words of pure code ===== -/
def pz_lt {α β : Type} (a : α) (f : α → β) : β := f a
def pz_gd {α : Type} (c : Bool) (x : Option α) : Option α := if c = true then x else none
def pz_bd {α β : Type} (x : Option α) (f : α → Option β) : Option β := match x with
  | none => none
  | some y => f y
theorem pz_lt_e {α β : Type} {a x : α} {f : α → β} {z : β} (h : pz_lt a f = z) (e : x = a) : f x = z := by subst e; exact h
theorem pz_gd_e {α : Type} {c : Bool} {x : Option α} {z : α} (h : pz_gd c x = some z) : c = true ∧ x = some z := by
  unfold pz_gd at h
  by_cases hc : c = true
  · rw [if_pos hc] at h; exact ⟨hc, h⟩
  · rw [if_neg hc] at h; cases h
theorem pz_bd_e {α β : Type} {x : Option α} {f : α → Option β} {z : β} (h : pz_bd x f = some z) : ∃ y, x = some y ∧ f y = some z := by
  cases x with
  | none => cases h
  | some y => exact ⟨y, rfl, h⟩
theorem pz_t {α : Type} {c : Prop} [Decidable c] {a b z : α} (hc : c) (h : (if c then a else b) = z) : a = z := by rw [if_pos hc] at h; exact h
theorem pz_f {α : Type} {c : Prop} [Decidable c] {a b z : α} (hc : ¬ c) (h : (if c then a else b) = z) : b = z := by rw [if_neg hc] at h; exact h
def pz_z (v : Int32) : Bool := decide (v &&& 1 = v)
theorem pz_zn {v : Int32} (h : pz_z v = true) : narrow .boolean (.int v) = .int v := by
  unfold pz_z at h
  have h := of_decide_eq_true h
  simp only [narrow, h]
theorem ix_lt {x : Int32} {n : Nat} (h : ix_in x n = true) : x.toNatClampNeg < n := by
  unfold ix_in at h
  have h := of_decide_eq_true h
  exact Nat.not_le.mp fun q => h (Or.inr q)
theorem el_16 {i : Nat} {x : Int32} (h : i < 2) (g : ix_in x 8 = true) : 8 * i + x.toNatClampNeg < 16 := by have := ix_lt g; omega
theorem el_17 {i : Nat} {x : Int32} (h : i < 2) (g : ix_in x 7 = true) : 7 * i + x.toNatClampNeg < 14 := by have := ix_lt g; omega
theorem el_21 {x : Int32} (g : ix_in x 8 = true) : x.toNatClampNeg + 1 < 9 := by have := ix_lt g; omega
theorem ly_tx_ne {G : cx_T} {v : Int32} (h : ¬ v = -1) : ly_tx G v = .ref (cx_b G + ly_loc 7 v.toNatClampNeg) := if_neg h
theorem pz_neT {x k : Int32} (h : ¬ x = k) : x.toInt ≠ k.toInt := fun e => h (Int32.toInt_inj.mp e)
/-- outside a table: the value is none of those that stand in it -/
theorem pz_out {x : Int32} (lo hi : Int) (ks : List Int32) (hk : (List.range (hi - lo + 1).toNat).all (fun j => ks.any (fun k => k.toInt == lo + (j : Int))) = true) (h : ∀ k ∈ ks, ¬ x = k) : x.toInt < lo ∨ hi < x.toInt := by
  rcases Int.lt_or_le x.toInt lo with h1 | h1
  · exact Or.inl h1
  · rcases Int.lt_or_le hi x.toInt with h2 | h2
    · exact Or.inr h2
    · exfalso
      have hj : (x.toInt - lo).toNat < (hi - lo + 1).toNat := by omega
      have h3 := List.all_eq_true.mp hk (x.toInt - lo).toNat (List.mem_range.mpr hj)
      obtain ⟨k, hm, he⟩ := List.any_eq_true.mp h3
      have he := eq_of_beq he
      exact pz_neT (h k hm) (by omega)
section RM
variable {p : Program} {l : Launch} {e : Env} {R : Room} {s : State} {m : MethodId} {args : Array Value} {below : List Frame} {meth : Method} {c : Code} {H : Heap} {locs : List Loc} {cells slots : Nat} {Q : State → Prop}
variable {cc : ByteArray} {pc : Nat} {ls : Array Slot} {rest : List Value} {G : cx_T} {n nL : Nat} {I J : mm_T} {own : String} {ret : Option FieldType}
theorem mq_max : Cond.static Lib.Math.max.name ∈ gw_t ∧ Cond.initialized "java/lang/Math" ∈ gw_t ∧ Cond.code Lib.Math.max.name Lib.Math.max.code 2 (some .int) ∈ gw_t := ⟨gw_mem 436 (by decide +kernel) (by decide +kernel), gw_mem 75 (by decide +kernel) (by decide +kernel), gw_mem 437 (by decide +kernel) (by decide +kernel)⟩
theorem r_max (X : cx_ok G p s m args meth c cc nL own ret) (S : st_ok G n I J s H locs) (hls : ls.size = nL) {idx : Nat} (hk : Cond.methodLink own idx Lib.Math.max.name ∈ gw_t) (hf : 1 ≤ R.frames) (hlo : (rest.map fun v => v.category).sum + 13 ≤ R.locals) {x y : Int32} (hd : decode cc pc = .ok (.invokestatic idx, 3))
    (kk : W p l e R s m args below meth c H locs 0 0 Q (F0 m (pc + 3) ls (.int (if x < y then y else x) :: rest))) : W p l e R s m args below meth c H locs 0 0 Q (F0 m pc ls (.int y :: .int x :: rest)) :=
  va_mmax X.1 X.2.1 (X.2.2.1.trans hls.symm) X.2.2.2.1 (X.2.2.2.2.1 _ hk) (X.2.2.2.2.1 _ mq_max.1) (X.2.2.2.2.1 _ mq_max.2.1) (X.2.2.2.2.1 _ mq_max.2.2) hf hlo (Nat.zero_le _) (Nat.zero_le _) hd kk
theorem mq_min : Cond.static Lib.Math.min.name ∈ gw_t ∧ Cond.initialized "java/lang/Math" ∈ gw_t ∧ Cond.code Lib.Math.min.name Lib.Math.min.code 2 (some .int) ∈ gw_t := ⟨gw_mem 439 (by decide +kernel) (by decide +kernel), gw_mem 75 (by decide +kernel) (by decide +kernel), gw_mem 440 (by decide +kernel) (by decide +kernel)⟩
theorem r_min (X : cx_ok G p s m args meth c cc nL own ret) (S : st_ok G n I J s H locs) (hls : ls.size = nL) {idx : Nat} (hk : Cond.methodLink own idx Lib.Math.min.name ∈ gw_t) (hf : 1 ≤ R.frames) (hlo : (rest.map fun v => v.category).sum + 13 ≤ R.locals) {x y : Int32} (hd : decode cc pc = .ok (.invokestatic idx, 3))
    (kk : W p l e R s m args below meth c H locs 0 0 Q (F0 m (pc + 3) ls (.int (if y < x then y else x) :: rest))) : W p l e R s m args below meth c H locs 0 0 Q (F0 m pc ls (.int y :: .int x :: rest)) :=
  va_mmin X.1 X.2.1 (X.2.2.1.trans hls.symm) X.2.2.2.1 (X.2.2.2.2.1 _ hk) (X.2.2.2.2.1 _ mq_min.1) (X.2.2.2.2.1 _ mq_min.2.1) (X.2.2.2.2.1 _ mq_min.2.2) hf hlo (Nat.zero_le _) (Nat.zero_le _) hd kk
end RM
theorem mk_J1_38 : Cond.methodLink RJ1 38 Lib.Math.min.name ∈ gw_t := gw_mem 438 (by decide +kernel) (by decide +kernel)
theorem mk_J1_92 : Cond.methodLink RJ1 92 Lib.Math.max.name ∈ gw_t := gw_mem 435 (by decide +kernel) (by decide +kernel)
theorem mk_J2_183 : Cond.methodLink RJ2 183 Lib.Math.min.name ∈ gw_t := gw_mem 448 (by decide +kernel) (by decide +kernel)
theorem mk_J2_224 : Cond.methodLink RJ2 224 Lib.Math.max.name ∈ gw_t := gw_mem 447 (by decide +kernel) (by decide +kernel)
theorem mk_J7_304 : Cond.methodLink RJ7 304 Lib.Math.min.name ∈ gw_t := gw_mem 530 (by decide +kernel) (by decide +kernel)
theorem mk_X0_143 : Cond.methodLink RX0 143 Lib.Math.max.name ∈ gw_t := gw_mem 737 (by decide +kernel) (by decide +kernel)
theorem mk_X8_250 : Cond.methodLink RX8 250 Lib.Math.min.name ∈ gw_t := gw_mem 714 (by decide +kernel) (by decide +kernel)
theorem mk_X8_255 : Cond.methodLink RX8 255 Lib.Math.max.name ∈ gw_t := gw_mem 715 (by decide +kernel) (by decide +kernel)
end
section
theorem dJ7_fill_53178_0 : decode cJ7_fill_53178 0 = .ok (.iconst 0, 1) := by decide +kernel
theorem dJ7_fill_53178_1 : decode cJ7_fill_53178 1 = .ok (.istore_n 2, 1) := by decide +kernel
theorem dJ7_fill_53178_2 : decode cJ7_fill_53178 2 = .ok (.aload_n 0, 1) := by decide +kernel
theorem dJ7_fill_53178_3 : decode cJ7_fill_53178 3 = .ok (.arraylength, 1) := by decide +kernel
theorem dJ7_fill_53178_4 : decode cJ7_fill_53178 4 = .ok (.istore_n 3, 1) := by decide +kernel
theorem dJ7_fill_53178_5 : decode cJ7_fill_53178 5 = .ok (.iload_n 2, 1) := by decide +kernel
theorem dJ7_fill_53178_6 : decode cJ7_fill_53178 6 = .ok (.iload_n 3, 1) := by decide +kernel
theorem dJ7_fill_53178_7 : decode cJ7_fill_53178 7 = .ok (.if_icmp .ge 13, 3) := by decide +kernel
theorem dJ7_fill_53178_10 : decode cJ7_fill_53178 10 = .ok (.aload_n 0, 1) := by decide +kernel
theorem dJ7_fill_53178_11 : decode cJ7_fill_53178 11 = .ok (.iload_n 2, 1) := by decide +kernel
theorem dJ7_fill_53178_12 : decode cJ7_fill_53178 12 = .ok (.iload_n 1, 1) := by decide +kernel
theorem dJ7_fill_53178_13 : decode cJ7_fill_53178 13 = .ok (.iastore, 1) := by decide +kernel
theorem dJ7_fill_53178_14 : decode cJ7_fill_53178 14 = .ok (.iinc 2 1, 3) := by decide +kernel
theorem dJ7_fill_53178_17 : decode cJ7_fill_53178 17 = .ok (.goto (-12), 3) := by decide +kernel
theorem dJ7_fill_53178_20 : decode cJ7_fill_53178 20 = .ok (.return_, 1) := by decide +kernel
theorem dJ7_copyOf_59c91_0 : decode cJ7_copyOf_59c91 0 = .ok (.iload_n 1, 1) := by decide +kernel
theorem dJ7_copyOf_59c91_1 : decode cJ7_copyOf_59c91 1 = .ok (.aload_n 0, 1) := by decide +kernel
theorem dJ7_copyOf_59c91_2 : decode cJ7_copyOf_59c91 2 = .ok (.arraylength, 1) := by decide +kernel
theorem dJ7_copyOf_59c91_3 : decode cJ7_copyOf_59c91 3 = .ok (.if_icmp .ne 11, 3) := by decide +kernel
theorem dJ7_copyOf_59c91_6 : decode cJ7_copyOf_59c91 6 = .ok (.aload_n 0, 1) := by decide +kernel
theorem dJ7_copyOf_59c91_7 : decode cJ7_copyOf_59c91 7 = .ok (.invokevirtual 316, 3) := by decide +kernel
theorem dJ7_copyOf_59c91_10 : decode cJ7_copyOf_59c91 10 = .ok (.checkcast 317, 3) := by decide +kernel
theorem dJ7_copyOf_59c91_13 : decode cJ7_copyOf_59c91 13 = .ok (.areturn, 1) := by decide +kernel
theorem dJ7_copyOf_59c91_14 : decode cJ7_copyOf_59c91 14 = .ok (.iload_n 1, 1) := by decide +kernel
theorem dJ7_copyOf_59c91_15 : decode cJ7_copyOf_59c91 15 = .ok (.newarray .int, 2) := by decide +kernel
theorem dJ7_copyOf_59c91_17 : decode cJ7_copyOf_59c91 17 = .ok (.astore_n 2, 1) := by decide +kernel
theorem dJ7_copyOf_59c91_18 : decode cJ7_copyOf_59c91 18 = .ok (.aload_n 0, 1) := by decide +kernel
theorem dJ7_copyOf_59c91_19 : decode cJ7_copyOf_59c91 19 = .ok (.iconst 0, 1) := by decide +kernel
theorem dJ7_copyOf_59c91_20 : decode cJ7_copyOf_59c91 20 = .ok (.aload_n 2, 1) := by decide +kernel
theorem dJ7_copyOf_59c91_21 : decode cJ7_copyOf_59c91 21 = .ok (.iconst 0, 1) := by decide +kernel
theorem dJ7_copyOf_59c91_22 : decode cJ7_copyOf_59c91 22 = .ok (.aload_n 0, 1) := by decide +kernel
theorem dJ7_copyOf_59c91_23 : decode cJ7_copyOf_59c91 23 = .ok (.arraylength, 1) := by decide +kernel
theorem dJ7_copyOf_59c91_24 : decode cJ7_copyOf_59c91 24 = .ok (.iload_n 1, 1) := by decide +kernel
theorem dJ7_copyOf_59c91_25 : decode cJ7_copyOf_59c91 25 = .ok (.invokestatic 304, 3) := by decide +kernel
theorem dJ7_copyOf_59c91_28 : decode cJ7_copyOf_59c91 28 = .ok (.invokestatic 150, 3) := by decide +kernel
theorem dJ7_copyOf_59c91_31 : decode cJ7_copyOf_59c91 31 = .ok (.aload_n 2, 1) := by decide +kernel
theorem dJ7_copyOf_59c91_32 : decode cJ7_copyOf_59c91 32 = .ok (.areturn, 1) := by decide +kernel
theorem dJ0_length_8abf5_0 : decode cJ0_length_8abf5 0 = .ok (.aload_n 0, 1) := by decide +kernel
theorem dJ0_length_8abf5_1 : decode cJ0_length_8abf5 1 = .ok (.getfield 9, 3) := by decide +kernel
theorem dJ0_length_8abf5_4 : decode cJ0_length_8abf5 4 = .ok (.arraylength, 1) := by decide +kernel
theorem dJ0_length_8abf5_5 : decode cJ0_length_8abf5 5 = .ok (.aload_n 0, 1) := by decide +kernel
theorem dJ0_length_8abf5_6 : decode cJ0_length_8abf5 6 = .ok (.invokevirtual 335, 3) := by decide +kernel
theorem dJ0_length_8abf5_9 : decode cJ0_length_8abf5 9 = .ok (.ishr, 1) := by decide +kernel
theorem dJ0_length_8abf5_10 : decode cJ0_length_8abf5 10 = .ok (.ireturn, 1) := by decide +kernel
theorem dJ0_charAt_5068e_0 : decode cJ0_charAt_5068e 0 = .ok (.aload_n 0, 1) := by decide +kernel
theorem dJ0_charAt_5068e_1 : decode cJ0_charAt_5068e 1 = .ok (.invokevirtual 492, 3) := by decide +kernel
theorem dJ0_charAt_5068e_4 : decode cJ0_charAt_5068e 4 = .ok (.ifCond .eq 12, 3) := by decide +kernel
theorem dJ0_charAt_5068e_7 : decode cJ0_charAt_5068e 7 = .ok (.aload_n 0, 1) := by decide +kernel
theorem dJ0_charAt_5068e_8 : decode cJ0_charAt_5068e 8 = .ok (.getfield 9, 3) := by decide +kernel
theorem dJ0_charAt_5068e_11 : decode cJ0_charAt_5068e 11 = .ok (.iload_n 1, 1) := by decide +kernel
theorem dJ0_charAt_5068e_12 : decode cJ0_charAt_5068e 12 = .ok (.invokestatic 495, 3) := by decide +kernel
theorem dJ0_charAt_5068e_15 : decode cJ0_charAt_5068e 15 = .ok (.ireturn, 1) := by decide +kernel
theorem dJ0_charAt_5068e_16 : decode cJ0_charAt_5068e 16 = .ok (.aload_n 0, 1) := by decide +kernel
theorem dJ0_charAt_5068e_17 : decode cJ0_charAt_5068e 17 = .ok (.getfield 9, 3) := by decide +kernel
theorem dJ0_charAt_5068e_20 : decode cJ0_charAt_5068e 20 = .ok (.iload_n 1, 1) := by decide +kernel
theorem dJ0_charAt_5068e_21 : decode cJ0_charAt_5068e 21 = .ok (.invokestatic 498, 3) := by decide +kernel
theorem dJ0_charAt_5068e_24 : decode cJ0_charAt_5068e 24 = .ok (.ireturn, 1) := by decide +kernel
theorem dJ0_indexOf_0f7a4_0 : decode cJ0_indexOf_0f7a4 0 = .ok (.aload_n 0, 1) := by decide +kernel
theorem dJ0_indexOf_0f7a4_1 : decode cJ0_indexOf_0f7a4 1 = .ok (.iload_n 1, 1) := by decide +kernel
theorem dJ0_indexOf_0f7a4_2 : decode cJ0_indexOf_0f7a4 2 = .ok (.iconst 0, 1) := by decide +kernel
theorem dJ0_indexOf_0f7a4_3 : decode cJ0_indexOf_0f7a4 3 = .ok (.invokevirtual 633, 3) := by decide +kernel
theorem dJ0_indexOf_0f7a4_6 : decode cJ0_indexOf_0f7a4 6 = .ok (.ireturn, 1) := by decide +kernel
theorem dJ0_indexOf_7cf53_0 : decode cJ0_indexOf_7cf53 0 = .ok (.aload_n 0, 1) := by decide +kernel
theorem dJ0_indexOf_7cf53_1 : decode cJ0_indexOf_7cf53 1 = .ok (.invokevirtual 492, 3) := by decide +kernel
theorem dJ0_indexOf_7cf53_4 : decode cJ0_indexOf_7cf53 4 = .ok (.ifCond .eq 19, 3) := by decide +kernel
theorem dJ0_indexOf_7cf53_7 : decode cJ0_indexOf_7cf53 7 = .ok (.aload_n 0, 1) := by decide +kernel
theorem dJ0_indexOf_7cf53_8 : decode cJ0_indexOf_7cf53 8 = .ok (.getfield 9, 3) := by decide +kernel
theorem dJ0_indexOf_7cf53_11 : decode cJ0_indexOf_7cf53 11 = .ok (.iload_n 1, 1) := by decide +kernel
theorem dJ0_indexOf_7cf53_12 : decode cJ0_indexOf_7cf53 12 = .ok (.iload_n 2, 1) := by decide +kernel
theorem dJ0_indexOf_7cf53_13 : decode cJ0_indexOf_7cf53 13 = .ok (.aload_n 0, 1) := by decide +kernel
theorem dJ0_indexOf_7cf53_14 : decode cJ0_indexOf_7cf53 14 = .ok (.invokevirtual 505, 3) := by decide +kernel
theorem dJ0_indexOf_7cf53_17 : decode cJ0_indexOf_7cf53 17 = .ok (.invokestatic 637, 3) := by decide +kernel
theorem dJ0_indexOf_7cf53_20 : decode cJ0_indexOf_7cf53 20 = .ok (.goto 16, 3) := by decide +kernel
theorem dJ0_indexOf_7cf53_23 : decode cJ0_indexOf_7cf53 23 = .ok (.aload_n 0, 1) := by decide +kernel
theorem dJ0_indexOf_7cf53_24 : decode cJ0_indexOf_7cf53 24 = .ok (.getfield 9, 3) := by decide +kernel
theorem dJ0_indexOf_7cf53_27 : decode cJ0_indexOf_7cf53 27 = .ok (.iload_n 1, 1) := by decide +kernel
theorem dJ0_indexOf_7cf53_28 : decode cJ0_indexOf_7cf53 28 = .ok (.iload_n 2, 1) := by decide +kernel
theorem dJ0_indexOf_7cf53_29 : decode cJ0_indexOf_7cf53 29 = .ok (.aload_n 0, 1) := by decide +kernel
theorem dJ0_indexOf_7cf53_30 : decode cJ0_indexOf_7cf53 30 = .ok (.invokevirtual 505, 3) := by decide +kernel
theorem dJ0_indexOf_7cf53_33 : decode cJ0_indexOf_7cf53 33 = .ok (.invokestatic 640, 3) := by decide +kernel
theorem dJ0_indexOf_7cf53_36 : decode cJ0_indexOf_7cf53 36 = .ok (.ireturn, 1) := by decide +kernel
theorem dJ0_coder_7d493_0 : decode cJ0_coder_7d493 0 = .ok (.getstatic 38, 3) := by decide +kernel
theorem dJ0_coder_7d493_3 : decode cJ0_coder_7d493 3 = .ok (.ifCond .eq 10, 3) := by decide +kernel
theorem dJ0_coder_7d493_6 : decode cJ0_coder_7d493 6 = .ok (.aload_n 0, 1) := by decide +kernel
theorem dJ0_coder_7d493_7 : decode cJ0_coder_7d493 7 = .ok (.getfield 15, 3) := by decide +kernel
theorem dJ0_coder_7d493_10 : decode cJ0_coder_7d493 10 = .ok (.goto 4, 3) := by decide +kernel
theorem dJ0_coder_7d493_13 : decode cJ0_coder_7d493 13 = .ok (.iconst 1, 1) := by decide +kernel
theorem dJ0_coder_7d493_14 : decode cJ0_coder_7d493 14 = .ok (.ireturn, 1) := by decide +kernel
theorem dJ0_isLatin1_aae02_0 : decode cJ0_isLatin1_aae02 0 = .ok (.getstatic 38, 3) := by decide +kernel
theorem dJ0_isLatin1_aae02_3 : decode cJ0_isLatin1_aae02 3 = .ok (.ifCond .eq 14, 3) := by decide +kernel
theorem dJ0_isLatin1_aae02_6 : decode cJ0_isLatin1_aae02 6 = .ok (.aload_n 0, 1) := by decide +kernel
theorem dJ0_isLatin1_aae02_7 : decode cJ0_isLatin1_aae02 7 = .ok (.getfield 15, 3) := by decide +kernel
theorem dJ0_isLatin1_aae02_10 : decode cJ0_isLatin1_aae02 10 = .ok (.ifCond .ne 7, 3) := by decide +kernel
theorem dJ0_isLatin1_aae02_13 : decode cJ0_isLatin1_aae02 13 = .ok (.iconst 1, 1) := by decide +kernel
theorem dJ0_isLatin1_aae02_14 : decode cJ0_isLatin1_aae02 14 = .ok (.goto 4, 3) := by decide +kernel
theorem dJ0_isLatin1_aae02_17 : decode cJ0_isLatin1_aae02 17 = .ok (.iconst 0, 1) := by decide +kernel
theorem dJ0_isLatin1_aae02_18 : decode cJ0_isLatin1_aae02 18 = .ok (.ireturn, 1) := by decide +kernel
theorem dJ0_checkIndex_df160_0 : decode cJ0_checkIndex_df160 0 = .ok (.iload_n 0, 1) := by decide +kernel
theorem dJ0_checkIndex_df160_1 : decode cJ0_checkIndex_df160 1 = .ok (.iload_n 1, 1) := by decide +kernel
theorem dJ0_checkIndex_df160_2 : decode cJ0_checkIndex_df160 2 = .ok (.getstatic 1053, 3) := by decide +kernel
theorem dJ0_checkIndex_df160_5 : decode cJ0_checkIndex_df160 5 = .ok (.invokestatic 1059, 3) := by decide +kernel
theorem dJ0_checkIndex_df160_8 : decode cJ0_checkIndex_df160 8 = .ok (.pop, 1) := by decide +kernel
theorem dJ0_checkIndex_df160_9 : decode cJ0_checkIndex_df160 9 = .ok (.return_, 1) := by decide +kernel
theorem dJ0_checkBoundsBeginEnd_23922_0 : decode cJ0_checkBoundsBeginEnd_23922 0 = .ok (.iload_n 0, 1) := by decide +kernel
theorem dJ0_checkBoundsBeginEnd_23922_1 : decode cJ0_checkBoundsBeginEnd_23922 1 = .ok (.iload_n 1, 1) := by decide +kernel
theorem dJ0_checkBoundsBeginEnd_23922_2 : decode cJ0_checkBoundsBeginEnd_23922 2 = .ok (.iload_n 2, 1) := by decide +kernel
theorem dJ0_checkBoundsBeginEnd_23922_3 : decode cJ0_checkBoundsBeginEnd_23922 3 = .ok (.getstatic 1053, 3) := by decide +kernel
theorem dJ0_checkBoundsBeginEnd_23922_6 : decode cJ0_checkBoundsBeginEnd_23922 6 = .ok (.invokestatic 1062, 3) := by decide +kernel
theorem dJ0_checkBoundsBeginEnd_23922_9 : decode cJ0_checkBoundsBeginEnd_23922 9 = .ok (.pop, 1) := by decide +kernel
theorem dJ0_checkBoundsBeginEnd_23922_10 : decode cJ0_checkBoundsBeginEnd_23922 10 = .ok (.return_, 1) := by decide +kernel
theorem dJ1_charAt_3b067_0 : decode cJ1_charAt_3b067 0 = .ok (.iload_n 1, 1) := by decide +kernel
theorem dJ1_charAt_3b067_1 : decode cJ1_charAt_3b067 1 = .ok (.aload_n 0, 1) := by decide +kernel
theorem dJ1_charAt_3b067_2 : decode cJ1_charAt_3b067 2 = .ok (.arraylength, 1) := by decide +kernel
theorem dJ1_charAt_3b067_3 : decode cJ1_charAt_3b067 3 = .ok (.invokestatic 9, 3) := by decide +kernel
theorem dJ1_charAt_3b067_6 : decode cJ1_charAt_3b067 6 = .ok (.aload_n 0, 1) := by decide +kernel
theorem dJ1_charAt_3b067_7 : decode cJ1_charAt_3b067 7 = .ok (.iload_n 1, 1) := by decide +kernel
theorem dJ1_charAt_3b067_8 : decode cJ1_charAt_3b067 8 = .ok (.baload, 1) := by decide +kernel
theorem dJ1_charAt_3b067_9 : decode cJ1_charAt_3b067 9 = .ok (.sipush 255, 3) := by decide +kernel
theorem dJ1_charAt_3b067_12 : decode cJ1_charAt_3b067 12 = .ok (.iand, 1) := by decide +kernel
theorem dJ1_charAt_3b067_13 : decode cJ1_charAt_3b067 13 = .ok (.i2c, 1) := by decide +kernel
theorem dJ1_charAt_3b067_14 : decode cJ1_charAt_3b067 14 = .ok (.ireturn, 1) := by decide +kernel
theorem dJ1_canEncode_9a6ad_0 : decode cJ1_canEncode_9a6ad 0 = .ok (.iload_n 0, 1) := by decide +kernel
theorem dJ1_canEncode_9a6ad_1 : decode cJ1_canEncode_9a6ad 1 = .ok (.ifCond .lt 14, 3) := by decide +kernel
theorem dJ1_canEncode_9a6ad_4 : decode cJ1_canEncode_9a6ad 4 = .ok (.iload_n 0, 1) := by decide +kernel
theorem dJ1_canEncode_9a6ad_5 : decode cJ1_canEncode_9a6ad 5 = .ok (.sipush 255, 3) := by decide +kernel
theorem dJ1_canEncode_9a6ad_8 : decode cJ1_canEncode_9a6ad 8 = .ok (.if_icmp .gt 7, 3) := by decide +kernel
theorem dJ1_canEncode_9a6ad_11 : decode cJ1_canEncode_9a6ad 11 = .ok (.iconst 1, 1) := by decide +kernel
theorem dJ1_canEncode_9a6ad_12 : decode cJ1_canEncode_9a6ad 12 = .ok (.goto 4, 3) := by decide +kernel
theorem dJ1_canEncode_9a6ad_15 : decode cJ1_canEncode_9a6ad 15 = .ok (.iconst 0, 1) := by decide +kernel
theorem dJ1_canEncode_9a6ad_16 : decode cJ1_canEncode_9a6ad 16 = .ok (.ireturn, 1) := by decide +kernel
theorem dJ1_indexOf_4cfef_0 : decode cJ1_indexOf_4cfef 0 = .ok (.iload_n 1, 1) := by decide +kernel
theorem dJ1_indexOf_4cfef_1 : decode cJ1_indexOf_4cfef 1 = .ok (.invokestatic 88, 3) := by decide +kernel
theorem dJ1_indexOf_4cfef_4 : decode cJ1_indexOf_4cfef 4 = .ok (.ifCond .ne 5, 3) := by decide +kernel
theorem dJ1_indexOf_4cfef_7 : decode cJ1_indexOf_4cfef 7 = .ok (.iconst (-1), 1) := by decide +kernel
theorem dJ1_indexOf_4cfef_8 : decode cJ1_indexOf_4cfef 8 = .ok (.ireturn, 1) := by decide +kernel
theorem dJ1_indexOf_4cfef_9 : decode cJ1_indexOf_4cfef 9 = .ok (.iload_n 2, 1) := by decide +kernel
theorem dJ1_indexOf_4cfef_10 : decode cJ1_indexOf_4cfef 10 = .ok (.iconst 0, 1) := by decide +kernel
theorem dJ1_indexOf_4cfef_11 : decode cJ1_indexOf_4cfef 11 = .ok (.invokestatic 92, 3) := by decide +kernel
theorem dJ1_indexOf_4cfef_14 : decode cJ1_indexOf_4cfef 14 = .ok (.istore_n 2, 1) := by decide +kernel
theorem dJ1_indexOf_4cfef_15 : decode cJ1_indexOf_4cfef 15 = .ok (.iload_n 3, 1) := by decide +kernel
theorem dJ1_indexOf_4cfef_16 : decode cJ1_indexOf_4cfef 16 = .ok (.aload_n 0, 1) := by decide +kernel
theorem dJ1_indexOf_4cfef_17 : decode cJ1_indexOf_4cfef 17 = .ok (.arraylength, 1) := by decide +kernel
theorem dJ1_indexOf_4cfef_18 : decode cJ1_indexOf_4cfef 18 = .ok (.invokestatic 38, 3) := by decide +kernel
theorem dJ1_indexOf_4cfef_21 : decode cJ1_indexOf_4cfef 21 = .ok (.istore_n 3, 1) := by decide +kernel
theorem dJ1_indexOf_4cfef_22 : decode cJ1_indexOf_4cfef 22 = .ok (.iload_n 2, 1) := by decide +kernel
theorem dJ1_indexOf_4cfef_23 : decode cJ1_indexOf_4cfef 23 = .ok (.iload_n 3, 1) := by decide +kernel
theorem dJ1_indexOf_4cfef_24 : decode cJ1_indexOf_4cfef 24 = .ok (.if_icmp .lt 5, 3) := by decide +kernel
theorem dJ1_indexOf_4cfef_27 : decode cJ1_indexOf_4cfef 27 = .ok (.iconst (-1), 1) := by decide +kernel
theorem dJ1_indexOf_4cfef_28 : decode cJ1_indexOf_4cfef 28 = .ok (.ireturn, 1) := by decide +kernel
theorem dJ1_indexOf_4cfef_29 : decode cJ1_indexOf_4cfef 29 = .ok (.aload_n 0, 1) := by decide +kernel
theorem dJ1_indexOf_4cfef_30 : decode cJ1_indexOf_4cfef 30 = .ok (.iload_n 1, 1) := by decide +kernel
theorem dJ1_indexOf_4cfef_31 : decode cJ1_indexOf_4cfef 31 = .ok (.iload_n 2, 1) := by decide +kernel
theorem dJ1_indexOf_4cfef_32 : decode cJ1_indexOf_4cfef 32 = .ok (.iload_n 3, 1) := by decide +kernel
theorem dJ1_indexOf_4cfef_33 : decode cJ1_indexOf_4cfef 33 = .ok (.invokestatic 95, 3) := by decide +kernel
theorem dJ1_indexOf_4cfef_36 : decode cJ1_indexOf_4cfef 36 = .ok (.ireturn, 1) := by decide +kernel
theorem dJ1_indexOfChar_4cfef_0 : decode cJ1_indexOfChar_4cfef 0 = .ok (.iload_n 1, 1) := by decide +kernel
theorem dJ1_indexOfChar_4cfef_1 : decode cJ1_indexOfChar_4cfef 1 = .ok (.i2b, 1) := by decide +kernel
theorem dJ1_indexOfChar_4cfef_2 : decode cJ1_indexOfChar_4cfef 2 = .ok (.istore 4, 2) := by decide +kernel
theorem dJ1_indexOfChar_4cfef_4 : decode cJ1_indexOfChar_4cfef 4 = .ok (.iload_n 2, 1) := by decide +kernel
theorem dJ1_indexOfChar_4cfef_5 : decode cJ1_indexOfChar_4cfef 5 = .ok (.istore 5, 2) := by decide +kernel
theorem dJ1_indexOfChar_4cfef_7 : decode cJ1_indexOfChar_4cfef 7 = .ok (.iload 5, 2) := by decide +kernel
theorem dJ1_indexOfChar_4cfef_9 : decode cJ1_indexOfChar_4cfef 9 = .ok (.iload_n 3, 1) := by decide +kernel
theorem dJ1_indexOfChar_4cfef_10 : decode cJ1_indexOfChar_4cfef 10 = .ok (.if_icmp .ge 21, 3) := by decide +kernel
theorem dJ1_indexOfChar_4cfef_13 : decode cJ1_indexOfChar_4cfef 13 = .ok (.aload_n 0, 1) := by decide +kernel
theorem dJ1_indexOfChar_4cfef_14 : decode cJ1_indexOfChar_4cfef 14 = .ok (.iload 5, 2) := by decide +kernel
theorem dJ1_indexOfChar_4cfef_16 : decode cJ1_indexOfChar_4cfef 16 = .ok (.baload, 1) := by decide +kernel
theorem dJ1_indexOfChar_4cfef_17 : decode cJ1_indexOfChar_4cfef 17 = .ok (.iload 4, 2) := by decide +kernel
theorem dJ1_indexOfChar_4cfef_19 : decode cJ1_indexOfChar_4cfef 19 = .ok (.if_icmp .ne 6, 3) := by decide +kernel
theorem dJ1_indexOfChar_4cfef_22 : decode cJ1_indexOfChar_4cfef 22 = .ok (.iload 5, 2) := by decide +kernel
theorem dJ1_indexOfChar_4cfef_24 : decode cJ1_indexOfChar_4cfef 24 = .ok (.ireturn, 1) := by decide +kernel
theorem dJ1_indexOfChar_4cfef_25 : decode cJ1_indexOfChar_4cfef 25 = .ok (.iinc 5 1, 3) := by decide +kernel
theorem dJ1_indexOfChar_4cfef_28 : decode cJ1_indexOfChar_4cfef 28 = .ok (.goto (-21), 3) := by decide +kernel
theorem dJ1_indexOfChar_4cfef_31 : decode cJ1_indexOfChar_4cfef 31 = .ok (.iconst (-1), 1) := by decide +kernel
theorem dJ1_indexOfChar_4cfef_32 : decode cJ1_indexOfChar_4cfef 32 = .ok (.ireturn, 1) := by decide +kernel
theorem dJ3_checkIndex_8e157_0 : decode cJ3_checkIndex_8e157 0 = .ok (.iload_n 0, 1) := by decide +kernel
theorem dJ3_checkIndex_8e157_1 : decode cJ3_checkIndex_8e157 1 = .ok (.ifCond .lt 8, 3) := by decide +kernel
theorem dJ3_checkIndex_8e157_4 : decode cJ3_checkIndex_8e157 4 = .ok (.iload_n 0, 1) := by decide +kernel
theorem dJ3_checkIndex_8e157_5 : decode cJ3_checkIndex_8e157 5 = .ok (.iload_n 1, 1) := by decide +kernel
theorem dJ3_checkIndex_8e157_6 : decode cJ3_checkIndex_8e157 6 = .ok (.if_icmp .lt 10, 3) := by decide +kernel
theorem dJ3_checkIndex_8e157_9 : decode cJ3_checkIndex_8e157 9 = .ok (.aload_n 2, 1) := by decide +kernel
theorem dJ3_checkIndex_8e157_10 : decode cJ3_checkIndex_8e157 10 = .ok (.iload_n 0, 1) := by decide +kernel
theorem dJ3_checkIndex_8e157_11 : decode cJ3_checkIndex_8e157 11 = .ok (.iload_n 1, 1) := by decide +kernel
theorem dJ3_checkIndex_8e157_12 : decode cJ3_checkIndex_8e157 12 = .ok (.invokestatic 95, 3) := by decide +kernel
theorem dJ3_checkIndex_8e157_15 : decode cJ3_checkIndex_8e157 15 = .ok (.athrow, 1) := by decide +kernel
theorem dJ3_checkIndex_8e157_16 : decode cJ3_checkIndex_8e157 16 = .ok (.iload_n 0, 1) := by decide +kernel
theorem dJ3_checkIndex_8e157_17 : decode cJ3_checkIndex_8e157 17 = .ok (.ireturn, 1) := by decide +kernel
theorem dJ3_checkFromToIndex_8c36e_0 : decode cJ3_checkFromToIndex_8c36e 0 = .ok (.iload_n 0, 1) := by decide +kernel
theorem dJ3_checkFromToIndex_8c36e_1 : decode cJ3_checkFromToIndex_8c36e 1 = .ok (.ifCond .lt 13, 3) := by decide +kernel
theorem dJ3_checkFromToIndex_8c36e_4 : decode cJ3_checkFromToIndex_8c36e 4 = .ok (.iload_n 0, 1) := by decide +kernel
theorem dJ3_checkFromToIndex_8c36e_5 : decode cJ3_checkFromToIndex_8c36e 5 = .ok (.iload_n 1, 1) := by decide +kernel
theorem dJ3_checkFromToIndex_8c36e_6 : decode cJ3_checkFromToIndex_8c36e 6 = .ok (.if_icmp .gt 8, 3) := by decide +kernel
theorem dJ3_checkFromToIndex_8c36e_9 : decode cJ3_checkFromToIndex_8c36e 9 = .ok (.iload_n 1, 1) := by decide +kernel
theorem dJ3_checkFromToIndex_8c36e_10 : decode cJ3_checkFromToIndex_8c36e 10 = .ok (.iload_n 2, 1) := by decide +kernel
theorem dJ3_checkFromToIndex_8c36e_11 : decode cJ3_checkFromToIndex_8c36e 11 = .ok (.if_icmp .le 11, 3) := by decide +kernel
theorem dJ3_checkFromToIndex_8c36e_14 : decode cJ3_checkFromToIndex_8c36e 14 = .ok (.aload_n 3, 1) := by decide +kernel
theorem dJ3_checkFromToIndex_8c36e_15 : decode cJ3_checkFromToIndex_8c36e 15 = .ok (.iload_n 0, 1) := by decide +kernel
theorem dJ3_checkFromToIndex_8c36e_16 : decode cJ3_checkFromToIndex_8c36e 16 = .ok (.iload_n 1, 1) := by decide +kernel
theorem dJ3_checkFromToIndex_8c36e_17 : decode cJ3_checkFromToIndex_8c36e 17 = .ok (.iload_n 2, 1) := by decide +kernel
theorem dJ3_checkFromToIndex_8c36e_18 : decode cJ3_checkFromToIndex_8c36e 18 = .ok (.invokestatic 99, 3) := by decide +kernel
theorem dJ3_checkFromToIndex_8c36e_21 : decode cJ3_checkFromToIndex_8c36e 21 = .ok (.athrow, 1) := by decide +kernel
theorem dJ3_checkFromToIndex_8c36e_22 : decode cJ3_checkFromToIndex_8c36e 22 = .ok (.iload_n 0, 1) := by decide +kernel
theorem dJ3_checkFromToIndex_8c36e_23 : decode cJ3_checkFromToIndex_8c36e 23 = .ok (.ireturn, 1) := by decide +kernel
theorem dJ6_bitCount_0f7a4_0 : decode cJ6_bitCount_0f7a4 0 = .ok (.iload_n 0, 1) := by decide +kernel
theorem dJ6_bitCount_0f7a4_1 : decode cJ6_bitCount_0f7a4 1 = .ok (.iload_n 0, 1) := by decide +kernel
theorem dJ6_bitCount_0f7a4_2 : decode cJ6_bitCount_0f7a4 2 = .ok (.iconst 1, 1) := by decide +kernel
theorem dJ6_bitCount_0f7a4_3 : decode cJ6_bitCount_0f7a4 3 = .ok (.iushr, 1) := by decide +kernel
theorem dJ6_bitCount_0f7a4_4 : decode cJ6_bitCount_0f7a4 4 = .ok (.ldc_w 265, 3) := by decide +kernel
theorem dJ6_bitCount_0f7a4_7 : decode cJ6_bitCount_0f7a4 7 = .ok (.iand, 1) := by decide +kernel
theorem dJ6_bitCount_0f7a4_8 : decode cJ6_bitCount_0f7a4 8 = .ok (.isub, 1) := by decide +kernel
theorem dJ6_bitCount_0f7a4_9 : decode cJ6_bitCount_0f7a4 9 = .ok (.istore_n 0, 1) := by decide +kernel
theorem dJ6_bitCount_0f7a4_10 : decode cJ6_bitCount_0f7a4 10 = .ok (.iload_n 0, 1) := by decide +kernel
theorem dJ6_bitCount_0f7a4_11 : decode cJ6_bitCount_0f7a4 11 = .ok (.ldc_w 266, 3) := by decide +kernel
theorem dJ6_bitCount_0f7a4_14 : decode cJ6_bitCount_0f7a4 14 = .ok (.iand, 1) := by decide +kernel
theorem dJ6_bitCount_0f7a4_15 : decode cJ6_bitCount_0f7a4 15 = .ok (.iload_n 0, 1) := by decide +kernel
theorem dJ6_bitCount_0f7a4_16 : decode cJ6_bitCount_0f7a4 16 = .ok (.iconst 2, 1) := by decide +kernel
theorem dJ6_bitCount_0f7a4_17 : decode cJ6_bitCount_0f7a4 17 = .ok (.iushr, 1) := by decide +kernel
theorem dJ6_bitCount_0f7a4_18 : decode cJ6_bitCount_0f7a4 18 = .ok (.ldc_w 266, 3) := by decide +kernel
theorem dJ6_bitCount_0f7a4_21 : decode cJ6_bitCount_0f7a4 21 = .ok (.iand, 1) := by decide +kernel
theorem dJ6_bitCount_0f7a4_22 : decode cJ6_bitCount_0f7a4 22 = .ok (.iadd, 1) := by decide +kernel
theorem dJ6_bitCount_0f7a4_23 : decode cJ6_bitCount_0f7a4 23 = .ok (.istore_n 0, 1) := by decide +kernel
theorem dJ6_bitCount_0f7a4_24 : decode cJ6_bitCount_0f7a4 24 = .ok (.iload_n 0, 1) := by decide +kernel
theorem dJ6_bitCount_0f7a4_25 : decode cJ6_bitCount_0f7a4 25 = .ok (.iload_n 0, 1) := by decide +kernel
theorem dJ6_bitCount_0f7a4_26 : decode cJ6_bitCount_0f7a4 26 = .ok (.iconst 4, 1) := by decide +kernel
theorem dJ6_bitCount_0f7a4_27 : decode cJ6_bitCount_0f7a4 27 = .ok (.iushr, 1) := by decide +kernel
theorem dJ6_bitCount_0f7a4_28 : decode cJ6_bitCount_0f7a4 28 = .ok (.iadd, 1) := by decide +kernel
theorem dJ6_bitCount_0f7a4_29 : decode cJ6_bitCount_0f7a4 29 = .ok (.ldc_w 267, 3) := by decide +kernel
theorem dJ6_bitCount_0f7a4_32 : decode cJ6_bitCount_0f7a4 32 = .ok (.iand, 1) := by decide +kernel
theorem dJ6_bitCount_0f7a4_33 : decode cJ6_bitCount_0f7a4 33 = .ok (.istore_n 0, 1) := by decide +kernel
theorem dJ6_bitCount_0f7a4_34 : decode cJ6_bitCount_0f7a4 34 = .ok (.iload_n 0, 1) := by decide +kernel
theorem dJ6_bitCount_0f7a4_35 : decode cJ6_bitCount_0f7a4 35 = .ok (.iload_n 0, 1) := by decide +kernel
theorem dJ6_bitCount_0f7a4_36 : decode cJ6_bitCount_0f7a4 36 = .ok (.bipush 8, 2) := by decide +kernel
theorem dJ6_bitCount_0f7a4_38 : decode cJ6_bitCount_0f7a4 38 = .ok (.iushr, 1) := by decide +kernel
theorem dJ6_bitCount_0f7a4_39 : decode cJ6_bitCount_0f7a4 39 = .ok (.iadd, 1) := by decide +kernel
theorem dJ6_bitCount_0f7a4_40 : decode cJ6_bitCount_0f7a4 40 = .ok (.istore_n 0, 1) := by decide +kernel
theorem dJ6_bitCount_0f7a4_41 : decode cJ6_bitCount_0f7a4 41 = .ok (.iload_n 0, 1) := by decide +kernel
theorem dJ6_bitCount_0f7a4_42 : decode cJ6_bitCount_0f7a4 42 = .ok (.iload_n 0, 1) := by decide +kernel
theorem dJ6_bitCount_0f7a4_43 : decode cJ6_bitCount_0f7a4 43 = .ok (.bipush 16, 2) := by decide +kernel
theorem dJ6_bitCount_0f7a4_45 : decode cJ6_bitCount_0f7a4 45 = .ok (.iushr, 1) := by decide +kernel
theorem dJ6_bitCount_0f7a4_46 : decode cJ6_bitCount_0f7a4 46 = .ok (.iadd, 1) := by decide +kernel
theorem dJ6_bitCount_0f7a4_47 : decode cJ6_bitCount_0f7a4 47 = .ok (.istore_n 0, 1) := by decide +kernel
theorem dJ6_bitCount_0f7a4_48 : decode cJ6_bitCount_0f7a4 48 = .ok (.iload_n 0, 1) := by decide +kernel
theorem dJ6_bitCount_0f7a4_49 : decode cJ6_bitCount_0f7a4 49 = .ok (.bipush 63, 2) := by decide +kernel
theorem dJ6_bitCount_0f7a4_51 : decode cJ6_bitCount_0f7a4 51 = .ok (.iand, 1) := by decide +kernel
theorem dJ6_bitCount_0f7a4_52 : decode cJ6_bitCount_0f7a4 52 = .ok (.ireturn, 1) := by decide +kernel
end
section
theorem dX1_init_0 : decode cX1_init 0 = .ok (.aload_n 0, 1) := by decide +kernel
theorem dX1_init_1 : decode cX1_init 1 = .ok (.invokespecial 3, 3) := by decide +kernel
theorem dX1_init_4 : decode cX1_init 4 = .ok (.aload_n 0, 1) := by decide +kernel
theorem dX1_init_5 : decode cX1_init 5 = .ok (.bipush 8, 2) := by decide +kernel
theorem dX1_init_7 : decode cX1_init 7 = .ok (.anewarray 9, 3) := by decide +kernel
theorem dX1_init_10 : decode cX1_init 10 = .ok (.putfield 11, 3) := by decide +kernel
theorem dX1_init_13 : decode cX1_init 13 = .ok (.aload_n 0, 1) := by decide +kernel
theorem dX1_init_14 : decode cX1_init 14 = .ok (.bipush 7, 2) := by decide +kernel
theorem dX1_init_16 : decode cX1_init 16 = .ok (.anewarray 17, 3) := by decide +kernel
theorem dX1_init_19 : decode cX1_init 19 = .ok (.putfield 19, 3) := by decide +kernel
theorem dX1_init_22 : decode cX1_init 22 = .ok (.aload_n 0, 1) := by decide +kernel
theorem dX1_init_23 : decode cX1_init 23 = .ok (.bipush 60, 2) := by decide +kernel
theorem dX1_init_25 : decode cX1_init 25 = .ok (.putfield 23, 3) := by decide +kernel
theorem dX1_init_28 : decode cX1_init 28 = .ok (.iconst 0, 1) := by decide +kernel
theorem dX1_init_29 : decode cX1_init 29 = .ok (.istore_n 1, 1) := by decide +kernel
theorem dX1_init_30 : decode cX1_init 30 = .ok (.iload_n 1, 1) := by decide +kernel
theorem dX1_init_31 : decode cX1_init 31 = .ok (.bipush 8, 2) := by decide +kernel
theorem dX1_init_33 : decode cX1_init 33 = .ok (.if_icmp .ge 22, 3) := by decide +kernel
theorem dX1_init_36 : decode cX1_init 36 = .ok (.aload_n 0, 1) := by decide +kernel
theorem dX1_init_37 : decode cX1_init 37 = .ok (.getfield 11, 3) := by decide +kernel
theorem dX1_init_40 : decode cX1_init 40 = .ok (.iload_n 1, 1) := by decide +kernel
theorem dX1_init_41 : decode cX1_init 41 = .ok (.new 9, 3) := by decide +kernel
theorem dX1_init_44 : decode cX1_init 44 = .ok (.dup, 1) := by decide +kernel
theorem dX1_init_45 : decode cX1_init 45 = .ok (.invokespecial 27, 3) := by decide +kernel
theorem dX1_init_48 : decode cX1_init 48 = .ok (.aastore, 1) := by decide +kernel
theorem dX1_init_49 : decode cX1_init 49 = .ok (.iinc 1 1, 3) := by decide +kernel
theorem dX1_init_52 : decode cX1_init 52 = .ok (.goto (-22), 3) := by decide +kernel
theorem dX1_init_55 : decode cX1_init 55 = .ok (.iconst 0, 1) := by decide +kernel
theorem dX1_init_56 : decode cX1_init 56 = .ok (.istore_n 1, 1) := by decide +kernel
theorem dX1_init_57 : decode cX1_init 57 = .ok (.iload_n 1, 1) := by decide +kernel
theorem dX1_init_58 : decode cX1_init 58 = .ok (.bipush 7, 2) := by decide +kernel
theorem dX1_init_60 : decode cX1_init 60 = .ok (.if_icmp .ge 22, 3) := by decide +kernel
theorem dX1_init_63 : decode cX1_init 63 = .ok (.aload_n 0, 1) := by decide +kernel
theorem dX1_init_64 : decode cX1_init 64 = .ok (.getfield 19, 3) := by decide +kernel
theorem dX1_init_67 : decode cX1_init 67 = .ok (.iload_n 1, 1) := by decide +kernel
theorem dX1_init_68 : decode cX1_init 68 = .ok (.new 17, 3) := by decide +kernel
theorem dX1_init_71 : decode cX1_init 71 = .ok (.dup, 1) := by decide +kernel
theorem dX1_init_72 : decode cX1_init 72 = .ok (.invokespecial 28, 3) := by decide +kernel
theorem dX1_init_75 : decode cX1_init 75 = .ok (.aastore, 1) := by decide +kernel
theorem dX1_init_76 : decode cX1_init 76 = .ok (.iinc 1 1, 3) := by decide +kernel
theorem dX1_init_79 : decode cX1_init 79 = .ok (.goto (-22), 3) := by decide +kernel
theorem dX1_init_82 : decode cX1_init 82 = .ok (.return_, 1) := by decide +kernel
theorem dX1_hasPerson_0 : decode cX1_hasPerson 0 = .ok (.iload_n 1, 1) := by decide +kernel
theorem dX1_hasPerson_1 : decode cX1_hasPerson 1 = .ok (.ifCond .lt 15, 3) := by decide +kernel
theorem dX1_hasPerson_4 : decode cX1_hasPerson 4 = .ok (.iload_n 1, 1) := by decide +kernel
theorem dX1_hasPerson_5 : decode cX1_hasPerson 5 = .ok (.aload_n 0, 1) := by decide +kernel
theorem dX1_hasPerson_6 : decode cX1_hasPerson 6 = .ok (.getfield 29, 3) := by decide +kernel
theorem dX1_hasPerson_9 : decode cX1_hasPerson 9 = .ok (.if_icmp .ge 7, 3) := by decide +kernel
theorem dX1_hasPerson_12 : decode cX1_hasPerson 12 = .ok (.iconst 1, 1) := by decide +kernel
theorem dX1_hasPerson_13 : decode cX1_hasPerson 13 = .ok (.goto 4, 3) := by decide +kernel
theorem dX1_hasPerson_16 : decode cX1_hasPerson 16 = .ok (.iconst 0, 1) := by decide +kernel
theorem dX1_hasPerson_17 : decode cX1_hasPerson 17 = .ok (.ireturn, 1) := by decide +kernel
theorem dX1_hasSlip_0 : decode cX1_hasSlip 0 = .ok (.iload_n 1, 1) := by decide +kernel
theorem dX1_hasSlip_1 : decode cX1_hasSlip 1 = .ok (.ifCond .lt 15, 3) := by decide +kernel
theorem dX1_hasSlip_4 : decode cX1_hasSlip 4 = .ok (.iload_n 1, 1) := by decide +kernel
theorem dX1_hasSlip_5 : decode cX1_hasSlip 5 = .ok (.aload_n 0, 1) := by decide +kernel
theorem dX1_hasSlip_6 : decode cX1_hasSlip 6 = .ok (.getfield 32, 3) := by decide +kernel
theorem dX1_hasSlip_9 : decode cX1_hasSlip 9 = .ok (.if_icmp .ge 7, 3) := by decide +kernel
theorem dX1_hasSlip_12 : decode cX1_hasSlip 12 = .ok (.iconst 1, 1) := by decide +kernel
theorem dX1_hasSlip_13 : decode cX1_hasSlip 13 = .ok (.goto 4, 3) := by decide +kernel
theorem dX1_hasSlip_16 : decode cX1_hasSlip 16 = .ok (.iconst 0, 1) := by decide +kernel
theorem dX1_hasSlip_17 : decode cX1_hasSlip 17 = .ok (.ireturn, 1) := by decide +kernel
theorem dX1_groupOf_0 : decode cX1_groupOf 0 = .ok (.aload_n 0, 1) := by decide +kernel
theorem dX1_groupOf_1 : decode cX1_groupOf 1 = .ok (.getfield 11, 3) := by decide +kernel
theorem dX1_groupOf_4 : decode cX1_groupOf 4 = .ok (.aload_n 1, 1) := by decide +kernel
theorem dX1_groupOf_5 : decode cX1_groupOf 5 = .ok (.getfield 35, 3) := by decide +kernel
theorem dX1_groupOf_8 : decode cX1_groupOf 8 = .ok (.aaload, 1) := by decide +kernel
theorem dX1_groupOf_9 : decode cX1_groupOf 9 = .ok (.getfield 38, 3) := by decide +kernel
theorem dX1_groupOf_12 : decode cX1_groupOf 12 = .ok (.ireturn, 1) := by decide +kernel
theorem dX1_addPerson_0 : decode cX1_addPerson 0 = .ok (.aload_n 0, 1) := by decide +kernel
theorem dX1_addPerson_1 : decode cX1_addPerson 1 = .ok (.getfield 29, 3) := by decide +kernel
theorem dX1_addPerson_4 : decode cX1_addPerson 4 = .ok (.bipush 8, 2) := by decide +kernel
theorem dX1_addPerson_6 : decode cX1_addPerson 6 = .ok (.if_icmp .lt 6, 3) := by decide +kernel
theorem dX1_addPerson_9 : decode cX1_addPerson 9 = .ok (.bipush (-4), 2) := by decide +kernel
theorem dX1_addPerson_11 : decode cX1_addPerson 11 = .ok (.ireturn, 1) := by decide +kernel
theorem dX1_addPerson_12 : decode cX1_addPerson 12 = .ok (.aload_n 0, 1) := by decide +kernel
theorem dX1_addPerson_13 : decode cX1_addPerson 13 = .ok (.getfield 11, 3) := by decide +kernel
theorem dX1_addPerson_16 : decode cX1_addPerson 16 = .ok (.aload_n 0, 1) := by decide +kernel
theorem dX1_addPerson_17 : decode cX1_addPerson 17 = .ok (.getfield 29, 3) := by decide +kernel
theorem dX1_addPerson_20 : decode cX1_addPerson 20 = .ok (.aaload, 1) := by decide +kernel
theorem dX1_addPerson_21 : decode cX1_addPerson 21 = .ok (.iload_n 1, 1) := by decide +kernel
theorem dX1_addPerson_22 : decode cX1_addPerson 22 = .ok (.putfield 41, 3) := by decide +kernel
theorem dX1_addPerson_25 : decode cX1_addPerson 25 = .ok (.aload_n 0, 1) := by decide +kernel
theorem dX1_addPerson_26 : decode cX1_addPerson 26 = .ok (.getfield 11, 3) := by decide +kernel
theorem dX1_addPerson_29 : decode cX1_addPerson 29 = .ok (.aload_n 0, 1) := by decide +kernel
theorem dX1_addPerson_30 : decode cX1_addPerson 30 = .ok (.getfield 29, 3) := by decide +kernel
theorem dX1_addPerson_33 : decode cX1_addPerson 33 = .ok (.aaload, 1) := by decide +kernel
theorem dX1_addPerson_34 : decode cX1_addPerson 34 = .ok (.iload_n 2, 1) := by decide +kernel
theorem dX1_addPerson_35 : decode cX1_addPerson 35 = .ok (.putfield 38, 3) := by decide +kernel
theorem dX1_addPerson_38 : decode cX1_addPerson 38 = .ok (.aload_n 0, 1) := by decide +kernel
theorem dX1_addPerson_39 : decode cX1_addPerson 39 = .ok (.dup, 1) := by decide +kernel
theorem dX1_addPerson_40 : decode cX1_addPerson 40 = .ok (.getfield 29, 3) := by decide +kernel
theorem dX1_addPerson_43 : decode cX1_addPerson 43 = .ok (.iconst 1, 1) := by decide +kernel
theorem dX1_addPerson_44 : decode cX1_addPerson 44 = .ok (.iadd, 1) := by decide +kernel
theorem dX1_addPerson_45 : decode cX1_addPerson 45 = .ok (.putfield 29, 3) := by decide +kernel
theorem dX1_addPerson_48 : decode cX1_addPerson 48 = .ok (.aload_n 0, 1) := by decide +kernel
theorem dX1_addPerson_49 : decode cX1_addPerson 49 = .ok (.dup, 1) := by decide +kernel
theorem dX1_addPerson_50 : decode cX1_addPerson 50 = .ok (.getfield 44, 3) := by decide +kernel
theorem dX1_addPerson_53 : decode cX1_addPerson 53 = .ok (.iconst 1, 1) := by decide +kernel
theorem dX1_addPerson_54 : decode cX1_addPerson 54 = .ok (.iadd, 1) := by decide +kernel
theorem dX1_addPerson_55 : decode cX1_addPerson 55 = .ok (.putfield 44, 3) := by decide +kernel
theorem dX1_addPerson_58 : decode cX1_addPerson 58 = .ok (.aload_n 0, 1) := by decide +kernel
theorem dX1_addPerson_59 : decode cX1_addPerson 59 = .ok (.getfield 29, 3) := by decide +kernel
theorem dX1_addPerson_62 : decode cX1_addPerson 62 = .ok (.iconst 1, 1) := by decide +kernel
theorem dX1_addPerson_63 : decode cX1_addPerson 63 = .ok (.isub, 1) := by decide +kernel
theorem dX1_addPerson_64 : decode cX1_addPerson 64 = .ok (.ireturn, 1) := by decide +kernel
theorem dX1_addSlip_0 : decode cX1_addSlip 0 = .ok (.iload_n 1, 1) := by decide +kernel
theorem dX1_addSlip_1 : decode cX1_addSlip 1 = .ok (.ifCond .lt 28, 3) := by decide +kernel
theorem dX1_addSlip_4 : decode cX1_addSlip 4 = .ok (.iload_n 1, 1) := by decide +kernel
theorem dX1_addSlip_5 : decode cX1_addSlip 5 = .ok (.iconst 5, 1) := by decide +kernel
theorem dX1_addSlip_6 : decode cX1_addSlip 6 = .ok (.if_icmp .gt 23, 3) := by decide +kernel
theorem dX1_addSlip_9 : decode cX1_addSlip 9 = .ok (.iload_n 2, 1) := by decide +kernel
theorem dX1_addSlip_10 : decode cX1_addSlip 10 = .ok (.bipush 10, 2) := by decide +kernel
theorem dX1_addSlip_12 : decode cX1_addSlip 12 = .ok (.if_icmp .lt 17, 3) := by decide +kernel
theorem dX1_addSlip_15 : decode cX1_addSlip 15 = .ok (.iload_n 2, 1) := by decide +kernel
theorem dX1_addSlip_16 : decode cX1_addSlip 16 = .ok (.bipush 99, 2) := by decide +kernel
theorem dX1_addSlip_18 : decode cX1_addSlip 18 = .ok (.if_icmp .gt 11, 3) := by decide +kernel
theorem dX1_addSlip_21 : decode cX1_addSlip 21 = .ok (.aload_n 0, 1) := by decide +kernel
theorem dX1_addSlip_22 : decode cX1_addSlip 22 = .ok (.iload_n 3, 1) := by decide +kernel
theorem dX1_addSlip_23 : decode cX1_addSlip 23 = .ok (.invokevirtual 47, 3) := by decide +kernel
theorem dX1_addSlip_26 : decode cX1_addSlip 26 = .ok (.ifCond .ne 6, 3) := by decide +kernel
theorem dX1_addSlip_29 : decode cX1_addSlip 29 = .ok (.bipush (-2), 2) := by decide +kernel
theorem dX1_addSlip_31 : decode cX1_addSlip 31 = .ok (.ireturn, 1) := by decide +kernel
theorem dX1_addSlip_32 : decode cX1_addSlip 32 = .ok (.aload_n 0, 1) := by decide +kernel
theorem dX1_addSlip_33 : decode cX1_addSlip 33 = .ok (.getfield 32, 3) := by decide +kernel
theorem dX1_addSlip_36 : decode cX1_addSlip 36 = .ok (.bipush 7, 2) := by decide +kernel
theorem dX1_addSlip_38 : decode cX1_addSlip 38 = .ok (.if_icmp .lt 6, 3) := by decide +kernel
theorem dX1_addSlip_41 : decode cX1_addSlip 41 = .ok (.bipush (-4), 2) := by decide +kernel
theorem dX1_addSlip_43 : decode cX1_addSlip 43 = .ok (.ireturn, 1) := by decide +kernel
theorem dX1_addSlip_44 : decode cX1_addSlip 44 = .ok (.aload_n 0, 1) := by decide +kernel
theorem dX1_addSlip_45 : decode cX1_addSlip 45 = .ok (.getfield 19, 3) := by decide +kernel
theorem dX1_addSlip_48 : decode cX1_addSlip 48 = .ok (.aload_n 0, 1) := by decide +kernel
theorem dX1_addSlip_49 : decode cX1_addSlip 49 = .ok (.getfield 32, 3) := by decide +kernel
theorem dX1_addSlip_52 : decode cX1_addSlip 52 = .ok (.aaload, 1) := by decide +kernel
theorem dX1_addSlip_53 : decode cX1_addSlip 53 = .ok (.astore 4, 2) := by decide +kernel
theorem dX1_addSlip_55 : decode cX1_addSlip 55 = .ok (.aload 4, 2) := by decide +kernel
theorem dX1_addSlip_57 : decode cX1_addSlip 57 = .ok (.iload_n 1, 1) := by decide +kernel
theorem dX1_addSlip_58 : decode cX1_addSlip 58 = .ok (.putfield 51, 3) := by decide +kernel
theorem dX1_addSlip_61 : decode cX1_addSlip 61 = .ok (.aload 4, 2) := by decide +kernel
theorem dX1_addSlip_63 : decode cX1_addSlip 63 = .ok (.iload_n 2, 1) := by decide +kernel
theorem dX1_addSlip_64 : decode cX1_addSlip 64 = .ok (.bipush 10, 2) := by decide +kernel
theorem dX1_addSlip_66 : decode cX1_addSlip 66 = .ok (.irem, 1) := by decide +kernel
theorem dX1_addSlip_67 : decode cX1_addSlip 67 = .ok (.putfield 54, 3) := by decide +kernel
theorem dX1_addSlip_70 : decode cX1_addSlip 70 = .ok (.aload 4, 2) := by decide +kernel
theorem dX1_addSlip_72 : decode cX1_addSlip 72 = .ok (.iload_n 2, 1) := by decide +kernel
theorem dX1_addSlip_73 : decode cX1_addSlip 73 = .ok (.bipush 10, 2) := by decide +kernel
theorem dX1_addSlip_75 : decode cX1_addSlip 75 = .ok (.idiv, 1) := by decide +kernel
theorem dX1_addSlip_76 : decode cX1_addSlip 76 = .ok (.putfield 57, 3) := by decide +kernel
theorem dX1_addSlip_79 : decode cX1_addSlip 79 = .ok (.aload 4, 2) := by decide +kernel
theorem dX1_addSlip_81 : decode cX1_addSlip 81 = .ok (.iload_n 3, 1) := by decide +kernel
theorem dX1_addSlip_82 : decode cX1_addSlip 82 = .ok (.putfield 35, 3) := by decide +kernel
theorem dX1_addSlip_85 : decode cX1_addSlip 85 = .ok (.aload_n 0, 1) := by decide +kernel
theorem dX1_addSlip_86 : decode cX1_addSlip 86 = .ok (.dup, 1) := by decide +kernel
theorem dX1_addSlip_87 : decode cX1_addSlip 87 = .ok (.getfield 32, 3) := by decide +kernel
theorem dX1_addSlip_90 : decode cX1_addSlip 90 = .ok (.iconst 1, 1) := by decide +kernel
theorem dX1_addSlip_91 : decode cX1_addSlip 91 = .ok (.iadd, 1) := by decide +kernel
theorem dX1_addSlip_92 : decode cX1_addSlip 92 = .ok (.putfield 32, 3) := by decide +kernel
theorem dX1_addSlip_95 : decode cX1_addSlip 95 = .ok (.aload_n 0, 1) := by decide +kernel
theorem dX1_addSlip_96 : decode cX1_addSlip 96 = .ok (.dup, 1) := by decide +kernel
theorem dX1_addSlip_97 : decode cX1_addSlip 97 = .ok (.getfield 44, 3) := by decide +kernel
theorem dX1_addSlip_100 : decode cX1_addSlip 100 = .ok (.iconst 1, 1) := by decide +kernel
theorem dX1_addSlip_101 : decode cX1_addSlip 101 = .ok (.iadd, 1) := by decide +kernel
theorem dX1_addSlip_102 : decode cX1_addSlip 102 = .ok (.putfield 44, 3) := by decide +kernel
theorem dX1_addSlip_105 : decode cX1_addSlip 105 = .ok (.aload_n 0, 1) := by decide +kernel
theorem dX1_addSlip_106 : decode cX1_addSlip 106 = .ok (.getfield 32, 3) := by decide +kernel
theorem dX1_addSlip_109 : decode cX1_addSlip 109 = .ok (.iconst 1, 1) := by decide +kernel
theorem dX1_addSlip_110 : decode cX1_addSlip 110 = .ok (.isub, 1) := by decide +kernel
theorem dX1_addSlip_111 : decode cX1_addSlip 111 = .ok (.ireturn, 1) := by decide +kernel
theorem dX1_hasValue_0 : decode cX1_hasValue 0 = .ok (.iload_n 1, 1) := by decide +kernel
theorem dX1_hasValue_1 : decode cX1_hasValue 1 = .ok (.tableswitch 57 0 6 #[43, 43, 49, 49, 49, 55, 55], 43) := by decide +kernel
theorem dX1_hasValue_44 : decode cX1_hasValue 44 = .ok (.aload_n 0, 1) := by decide +kernel
theorem dX1_hasValue_45 : decode cX1_hasValue 45 = .ok (.iload_n 2, 1) := by decide +kernel
theorem dX1_hasValue_46 : decode cX1_hasValue 46 = .ok (.invokevirtual 47, 3) := by decide +kernel
theorem dX1_hasValue_49 : decode cX1_hasValue 49 = .ok (.ireturn, 1) := by decide +kernel
theorem dX1_hasValue_50 : decode cX1_hasValue 50 = .ok (.aload_n 0, 1) := by decide +kernel
theorem dX1_hasValue_51 : decode cX1_hasValue 51 = .ok (.iload_n 2, 1) := by decide +kernel
theorem dX1_hasValue_52 : decode cX1_hasValue 52 = .ok (.invokevirtual 60, 3) := by decide +kernel
theorem dX1_hasValue_55 : decode cX1_hasValue 55 = .ok (.ireturn, 1) := by decide +kernel
theorem dX1_hasValue_56 : decode cX1_hasValue 56 = .ok (.iconst 1, 1) := by decide +kernel
theorem dX1_hasValue_57 : decode cX1_hasValue 57 = .ok (.ireturn, 1) := by decide +kernel
theorem dX1_hasValue_58 : decode cX1_hasValue 58 = .ok (.iconst 0, 1) := by decide +kernel
theorem dX1_hasValue_59 : decode cX1_hasValue 59 = .ok (.ireturn, 1) := by decide +kernel
theorem dX1_allows_0 : decode cX1_allows 0 = .ok (.iload_n 1, 1) := by decide +kernel
theorem dX1_allows_1 : decode cX1_allows 1 = .ok (.tableswitch 149 0 6 #[43, 59, 75, 91, 108, 114, 132], 43) := by decide +kernel
theorem dX1_allows_44 : decode cX1_allows 44 = .ok (.iload_n 2, 1) := by decide +kernel
theorem dX1_allows_45 : decode cX1_allows 45 = .ok (.ifCond .lt 13, 3) := by decide +kernel
theorem dX1_allows_48 : decode cX1_allows 48 = .ok (.iload_n 2, 1) := by decide +kernel
theorem dX1_allows_49 : decode cX1_allows 49 = .ok (.bipush 99, 2) := by decide +kernel
theorem dX1_allows_51 : decode cX1_allows 51 = .ok (.if_icmp .gt 7, 3) := by decide +kernel
theorem dX1_allows_54 : decode cX1_allows 54 = .ok (.iconst 1, 1) := by decide +kernel
theorem dX1_allows_55 : decode cX1_allows 55 = .ok (.goto 4, 3) := by decide +kernel
theorem dX1_allows_58 : decode cX1_allows 58 = .ok (.iconst 0, 1) := by decide +kernel
theorem dX1_allows_59 : decode cX1_allows 59 = .ok (.ireturn, 1) := by decide +kernel
theorem dX1_allows_60 : decode cX1_allows 60 = .ok (.iload_n 2, 1) := by decide +kernel
theorem dX1_allows_61 : decode cX1_allows 61 = .ok (.ifCond .lt 13, 3) := by decide +kernel
theorem dX1_allows_64 : decode cX1_allows 64 = .ok (.iload_n 2, 1) := by decide +kernel
theorem dX1_allows_65 : decode cX1_allows 65 = .ok (.bipush 8, 2) := by decide +kernel
theorem dX1_allows_67 : decode cX1_allows 67 = .ok (.if_icmp .ge 7, 3) := by decide +kernel
theorem dX1_allows_70 : decode cX1_allows 70 = .ok (.iconst 1, 1) := by decide +kernel
theorem dX1_allows_71 : decode cX1_allows 71 = .ok (.goto 4, 3) := by decide +kernel
theorem dX1_allows_74 : decode cX1_allows 74 = .ok (.iconst 0, 1) := by decide +kernel
theorem dX1_allows_75 : decode cX1_allows 75 = .ok (.ireturn, 1) := by decide +kernel
theorem dX1_allows_76 : decode cX1_allows 76 = .ok (.iload_n 2, 1) := by decide +kernel
theorem dX1_allows_77 : decode cX1_allows 77 = .ok (.ifCond .lt 13, 3) := by decide +kernel
theorem dX1_allows_80 : decode cX1_allows 80 = .ok (.iload_n 2, 1) := by decide +kernel
theorem dX1_allows_81 : decode cX1_allows 81 = .ok (.bipush 9, 2) := by decide +kernel
theorem dX1_allows_83 : decode cX1_allows 83 = .ok (.if_icmp .gt 7, 3) := by decide +kernel
theorem dX1_allows_86 : decode cX1_allows 86 = .ok (.iconst 1, 1) := by decide +kernel
theorem dX1_allows_87 : decode cX1_allows 87 = .ok (.goto 4, 3) := by decide +kernel
theorem dX1_allows_90 : decode cX1_allows 90 = .ok (.iconst 0, 1) := by decide +kernel
theorem dX1_allows_91 : decode cX1_allows 91 = .ok (.ireturn, 1) := by decide +kernel
theorem dX1_allows_92 : decode cX1_allows 92 = .ok (.iload_n 2, 1) := by decide +kernel
theorem dX1_allows_93 : decode cX1_allows 93 = .ok (.iconst 1, 1) := by decide +kernel
theorem dX1_allows_94 : decode cX1_allows 94 = .ok (.if_icmp .lt 13, 3) := by decide +kernel
theorem dX1_allows_97 : decode cX1_allows 97 = .ok (.iload_n 2, 1) := by decide +kernel
theorem dX1_allows_98 : decode cX1_allows 98 = .ok (.bipush 9, 2) := by decide +kernel
theorem dX1_allows_100 : decode cX1_allows 100 = .ok (.if_icmp .gt 7, 3) := by decide +kernel
theorem dX1_allows_103 : decode cX1_allows 103 = .ok (.iconst 1, 1) := by decide +kernel
theorem dX1_allows_104 : decode cX1_allows 104 = .ok (.goto 4, 3) := by decide +kernel
theorem dX1_allows_107 : decode cX1_allows 107 = .ok (.iconst 0, 1) := by decide +kernel
theorem dX1_allows_108 : decode cX1_allows 108 = .ok (.ireturn, 1) := by decide +kernel
theorem dX1_allows_109 : decode cX1_allows 109 = .ok (.aload_n 0, 1) := by decide +kernel
theorem dX1_allows_110 : decode cX1_allows 110 = .ok (.iload_n 2, 1) := by decide +kernel
theorem dX1_allows_111 : decode cX1_allows 111 = .ok (.invokevirtual 47, 3) := by decide +kernel
theorem dX1_allows_114 : decode cX1_allows 114 = .ok (.ireturn, 1) := by decide +kernel
theorem dX1_allows_115 : decode cX1_allows 115 = .ok (.iload_n 2, 1) := by decide +kernel
theorem dX1_allows_116 : decode cX1_allows 116 = .ok (.bipush (-99), 2) := by decide +kernel
theorem dX1_allows_118 : decode cX1_allows 118 = .ok (.if_icmp .lt 13, 3) := by decide +kernel
theorem dX1_allows_121 : decode cX1_allows 121 = .ok (.iload_n 2, 1) := by decide +kernel
theorem dX1_allows_122 : decode cX1_allows 122 = .ok (.bipush 99, 2) := by decide +kernel
theorem dX1_allows_124 : decode cX1_allows 124 = .ok (.if_icmp .gt 7, 3) := by decide +kernel
theorem dX1_allows_127 : decode cX1_allows 127 = .ok (.iconst 1, 1) := by decide +kernel
theorem dX1_allows_128 : decode cX1_allows 128 = .ok (.goto 4, 3) := by decide +kernel
theorem dX1_allows_131 : decode cX1_allows 131 = .ok (.iconst 0, 1) := by decide +kernel
theorem dX1_allows_132 : decode cX1_allows 132 = .ok (.ireturn, 1) := by decide +kernel
theorem dX1_allows_133 : decode cX1_allows 133 = .ok (.iload_n 2, 1) := by decide +kernel
theorem dX1_allows_134 : decode cX1_allows 134 = .ok (.iconst 1, 1) := by decide +kernel
theorem dX1_allows_135 : decode cX1_allows 135 = .ok (.if_icmp .lt 13, 3) := by decide +kernel
theorem dX1_allows_138 : decode cX1_allows 138 = .ok (.iload_n 2, 1) := by decide +kernel
theorem dX1_allows_139 : decode cX1_allows 139 = .ok (.bipush 99, 2) := by decide +kernel
theorem dX1_allows_141 : decode cX1_allows 141 = .ok (.if_icmp .gt 7, 3) := by decide +kernel
theorem dX1_allows_144 : decode cX1_allows 144 = .ok (.iconst 1, 1) := by decide +kernel
theorem dX1_allows_145 : decode cX1_allows 145 = .ok (.goto 4, 3) := by decide +kernel
theorem dX1_allows_148 : decode cX1_allows 148 = .ok (.iconst 0, 1) := by decide +kernel
theorem dX1_allows_149 : decode cX1_allows 149 = .ok (.ireturn, 1) := by decide +kernel
theorem dX1_allows_150 : decode cX1_allows 150 = .ok (.iconst 0, 1) := by decide +kernel
theorem dX1_allows_151 : decode cX1_allows 151 = .ok (.ireturn, 1) := by decide +kernel
theorem dX1_valueOf_0 : decode cX1_valueOf 0 = .ok (.aload_n 0, 1) := by decide +kernel
theorem dX1_valueOf_1 : decode cX1_valueOf 1 = .ok (.iload_n 1, 1) := by decide +kernel
theorem dX1_valueOf_2 : decode cX1_valueOf 2 = .ok (.iload_n 2, 1) := by decide +kernel
theorem dX1_valueOf_3 : decode cX1_valueOf 3 = .ok (.invokevirtual 63, 3) := by decide +kernel
theorem dX1_valueOf_6 : decode cX1_valueOf 6 = .ok (.ifCond .ne 6, 3) := by decide +kernel
theorem dX1_valueOf_9 : decode cX1_valueOf 9 = .ok (.bipush (-2), 2) := by decide +kernel
theorem dX1_valueOf_11 : decode cX1_valueOf 11 = .ok (.ireturn, 1) := by decide +kernel
theorem dX1_valueOf_12 : decode cX1_valueOf 12 = .ok (.iload_n 1, 1) := by decide +kernel
theorem dX1_valueOf_13 : decode cX1_valueOf 13 = .ok (.tableswitch 94 0 5 #[39, 49, 59, 69, 79, 89], 39) := by decide +kernel
theorem dX1_valueOf_52 : decode cX1_valueOf 52 = .ok (.aload_n 0, 1) := by decide +kernel
theorem dX1_valueOf_53 : decode cX1_valueOf 53 = .ok (.getfield 11, 3) := by decide +kernel
theorem dX1_valueOf_56 : decode cX1_valueOf 56 = .ok (.iload_n 2, 1) := by decide +kernel
theorem dX1_valueOf_57 : decode cX1_valueOf 57 = .ok (.aaload, 1) := by decide +kernel
theorem dX1_valueOf_58 : decode cX1_valueOf 58 = .ok (.getfield 41, 3) := by decide +kernel
theorem dX1_valueOf_61 : decode cX1_valueOf 61 = .ok (.ireturn, 1) := by decide +kernel
theorem dX1_valueOf_62 : decode cX1_valueOf 62 = .ok (.aload_n 0, 1) := by decide +kernel
theorem dX1_valueOf_63 : decode cX1_valueOf 63 = .ok (.getfield 11, 3) := by decide +kernel
theorem dX1_valueOf_66 : decode cX1_valueOf 66 = .ok (.iload_n 2, 1) := by decide +kernel
theorem dX1_valueOf_67 : decode cX1_valueOf 67 = .ok (.aaload, 1) := by decide +kernel
theorem dX1_valueOf_68 : decode cX1_valueOf 68 = .ok (.getfield 38, 3) := by decide +kernel
theorem dX1_valueOf_71 : decode cX1_valueOf 71 = .ok (.ireturn, 1) := by decide +kernel
theorem dX1_valueOf_72 : decode cX1_valueOf 72 = .ok (.aload_n 0, 1) := by decide +kernel
theorem dX1_valueOf_73 : decode cX1_valueOf 73 = .ok (.getfield 19, 3) := by decide +kernel
theorem dX1_valueOf_76 : decode cX1_valueOf 76 = .ok (.iload_n 2, 1) := by decide +kernel
theorem dX1_valueOf_77 : decode cX1_valueOf 77 = .ok (.aaload, 1) := by decide +kernel
theorem dX1_valueOf_78 : decode cX1_valueOf 78 = .ok (.getfield 54, 3) := by decide +kernel
theorem dX1_valueOf_81 : decode cX1_valueOf 81 = .ok (.ireturn, 1) := by decide +kernel
theorem dX1_valueOf_82 : decode cX1_valueOf 82 = .ok (.aload_n 0, 1) := by decide +kernel
theorem dX1_valueOf_83 : decode cX1_valueOf 83 = .ok (.getfield 19, 3) := by decide +kernel
theorem dX1_valueOf_86 : decode cX1_valueOf 86 = .ok (.iload_n 2, 1) := by decide +kernel
theorem dX1_valueOf_87 : decode cX1_valueOf 87 = .ok (.aaload, 1) := by decide +kernel
theorem dX1_valueOf_88 : decode cX1_valueOf 88 = .ok (.getfield 57, 3) := by decide +kernel
theorem dX1_valueOf_91 : decode cX1_valueOf 91 = .ok (.ireturn, 1) := by decide +kernel
theorem dX1_valueOf_92 : decode cX1_valueOf 92 = .ok (.aload_n 0, 1) := by decide +kernel
theorem dX1_valueOf_93 : decode cX1_valueOf 93 = .ok (.getfield 19, 3) := by decide +kernel
theorem dX1_valueOf_96 : decode cX1_valueOf 96 = .ok (.iload_n 2, 1) := by decide +kernel
theorem dX1_valueOf_97 : decode cX1_valueOf 97 = .ok (.aaload, 1) := by decide +kernel
theorem dX1_valueOf_98 : decode cX1_valueOf 98 = .ok (.getfield 35, 3) := by decide +kernel
theorem dX1_valueOf_101 : decode cX1_valueOf 101 = .ok (.ireturn, 1) := by decide +kernel
theorem dX1_valueOf_102 : decode cX1_valueOf 102 = .ok (.aload_n 0, 1) := by decide +kernel
theorem dX1_valueOf_103 : decode cX1_valueOf 103 = .ok (.getfield 67, 3) := by decide +kernel
theorem dX1_valueOf_106 : decode cX1_valueOf 106 = .ok (.ireturn, 1) := by decide +kernel
theorem dX1_valueOf_107 : decode cX1_valueOf 107 = .ok (.aload_n 0, 1) := by decide +kernel
theorem dX1_valueOf_108 : decode cX1_valueOf 108 = .ok (.getfield 23, 3) := by decide +kernel
theorem dX1_valueOf_111 : decode cX1_valueOf 111 = .ok (.ireturn, 1) := by decide +kernel
theorem dX1_change_0 : decode cX1_change 0 = .ok (.aload_n 0, 1) := by decide +kernel
theorem dX1_change_1 : decode cX1_change 1 = .ok (.iload_n 1, 1) := by decide +kernel
theorem dX1_change_2 : decode cX1_change 2 = .ok (.iload_n 2, 1) := by decide +kernel
theorem dX1_change_3 : decode cX1_change 3 = .ok (.invokevirtual 63, 3) := by decide +kernel
theorem dX1_change_6 : decode cX1_change 6 = .ok (.ifCond .eq 12, 3) := by decide +kernel
theorem dX1_change_9 : decode cX1_change 9 = .ok (.aload_n 0, 1) := by decide +kernel
theorem dX1_change_10 : decode cX1_change 10 = .ok (.iload_n 1, 1) := by decide +kernel
theorem dX1_change_11 : decode cX1_change 11 = .ok (.iload_n 3, 1) := by decide +kernel
theorem dX1_change_12 : decode cX1_change 12 = .ok (.invokevirtual 70, 3) := by decide +kernel
theorem dX1_change_15 : decode cX1_change 15 = .ok (.ifCond .ne 4, 3) := by decide +kernel
theorem dX1_change_18 : decode cX1_change 18 = .ok (.return_, 1) := by decide +kernel
theorem dX1_change_19 : decode cX1_change 19 = .ok (.iload_n 1, 1) := by decide +kernel
theorem dX1_change_20 : decode cX1_change 20 = .ok (.tableswitch 113 0 5 #[40, 53, 66, 79, 92, 105], 40) := by decide +kernel
theorem dX1_change_60 : decode cX1_change 60 = .ok (.aload_n 0, 1) := by decide +kernel
theorem dX1_change_61 : decode cX1_change 61 = .ok (.getfield 11, 3) := by decide +kernel
theorem dX1_change_64 : decode cX1_change 64 = .ok (.iload_n 2, 1) := by decide +kernel
theorem dX1_change_65 : decode cX1_change 65 = .ok (.aaload, 1) := by decide +kernel
theorem dX1_change_66 : decode cX1_change 66 = .ok (.iload_n 3, 1) := by decide +kernel
theorem dX1_change_67 : decode cX1_change 67 = .ok (.putfield 41, 3) := by decide +kernel
theorem dX1_change_70 : decode cX1_change 70 = .ok (.goto 68, 3) := by decide +kernel
theorem dX1_change_73 : decode cX1_change 73 = .ok (.aload_n 0, 1) := by decide +kernel
theorem dX1_change_74 : decode cX1_change 74 = .ok (.getfield 11, 3) := by decide +kernel
theorem dX1_change_77 : decode cX1_change 77 = .ok (.iload_n 2, 1) := by decide +kernel
theorem dX1_change_78 : decode cX1_change 78 = .ok (.aaload, 1) := by decide +kernel
theorem dX1_change_79 : decode cX1_change 79 = .ok (.iload_n 3, 1) := by decide +kernel
theorem dX1_change_80 : decode cX1_change 80 = .ok (.putfield 38, 3) := by decide +kernel
theorem dX1_change_83 : decode cX1_change 83 = .ok (.goto 55, 3) := by decide +kernel
theorem dX1_change_86 : decode cX1_change 86 = .ok (.aload_n 0, 1) := by decide +kernel
theorem dX1_change_87 : decode cX1_change 87 = .ok (.getfield 19, 3) := by decide +kernel
theorem dX1_change_90 : decode cX1_change 90 = .ok (.iload_n 2, 1) := by decide +kernel
theorem dX1_change_91 : decode cX1_change 91 = .ok (.aaload, 1) := by decide +kernel
theorem dX1_change_92 : decode cX1_change 92 = .ok (.iload_n 3, 1) := by decide +kernel
theorem dX1_change_93 : decode cX1_change 93 = .ok (.putfield 54, 3) := by decide +kernel
theorem dX1_change_96 : decode cX1_change 96 = .ok (.goto 42, 3) := by decide +kernel
theorem dX1_change_99 : decode cX1_change 99 = .ok (.aload_n 0, 1) := by decide +kernel
theorem dX1_change_100 : decode cX1_change 100 = .ok (.getfield 19, 3) := by decide +kernel
theorem dX1_change_103 : decode cX1_change 103 = .ok (.iload_n 2, 1) := by decide +kernel
theorem dX1_change_104 : decode cX1_change 104 = .ok (.aaload, 1) := by decide +kernel
theorem dX1_change_105 : decode cX1_change 105 = .ok (.iload_n 3, 1) := by decide +kernel
theorem dX1_change_106 : decode cX1_change 106 = .ok (.putfield 57, 3) := by decide +kernel
theorem dX1_change_109 : decode cX1_change 109 = .ok (.goto 29, 3) := by decide +kernel
theorem dX1_change_112 : decode cX1_change 112 = .ok (.aload_n 0, 1) := by decide +kernel
theorem dX1_change_113 : decode cX1_change 113 = .ok (.getfield 19, 3) := by decide +kernel
theorem dX1_change_116 : decode cX1_change 116 = .ok (.iload_n 2, 1) := by decide +kernel
theorem dX1_change_117 : decode cX1_change 117 = .ok (.aaload, 1) := by decide +kernel
theorem dX1_change_118 : decode cX1_change 118 = .ok (.iload_n 3, 1) := by decide +kernel
theorem dX1_change_119 : decode cX1_change 119 = .ok (.putfield 35, 3) := by decide +kernel
theorem dX1_change_122 : decode cX1_change 122 = .ok (.goto 16, 3) := by decide +kernel
theorem dX1_change_125 : decode cX1_change 125 = .ok (.aload_n 0, 1) := by decide +kernel
theorem dX1_change_126 : decode cX1_change 126 = .ok (.iload_n 3, 1) := by decide +kernel
theorem dX1_change_127 : decode cX1_change 127 = .ok (.putfield 67, 3) := by decide +kernel
theorem dX1_change_130 : decode cX1_change 130 = .ok (.goto 8, 3) := by decide +kernel
theorem dX1_change_133 : decode cX1_change 133 = .ok (.aload_n 0, 1) := by decide +kernel
theorem dX1_change_134 : decode cX1_change 134 = .ok (.iload_n 3, 1) := by decide +kernel
theorem dX1_change_135 : decode cX1_change 135 = .ok (.putfield 23, 3) := by decide +kernel
theorem dX1_change_138 : decode cX1_change 138 = .ok (.aload_n 0, 1) := by decide +kernel
theorem dX1_change_139 : decode cX1_change 139 = .ok (.dup, 1) := by decide +kernel
theorem dX1_change_140 : decode cX1_change 140 = .ok (.getfield 44, 3) := by decide +kernel
theorem dX1_change_143 : decode cX1_change 143 = .ok (.iconst 1, 1) := by decide +kernel
theorem dX1_change_144 : decode cX1_change 144 = .ok (.iadd, 1) := by decide +kernel
theorem dX1_change_145 : decode cX1_change 145 = .ok (.putfield 44, 3) := by decide +kernel
theorem dX1_change_148 : decode cX1_change 148 = .ok (.return_, 1) := by decide +kernel
theorem dX1_follow_0 : decode cX1_follow 0 = .ok (.aload_n 0, 1) := by decide +kernel
theorem dX1_follow_1 : decode cX1_follow 1 = .ok (.iload_n 1, 1) := by decide +kernel
theorem dX1_follow_2 : decode cX1_follow 2 = .ok (.putfield 73, 3) := by decide +kernel
theorem dX1_follow_5 : decode cX1_follow 5 = .ok (.aload_n 0, 1) := by decide +kernel
theorem dX1_follow_6 : decode cX1_follow 6 = .ok (.dup, 1) := by decide +kernel
theorem dX1_follow_7 : decode cX1_follow 7 = .ok (.getfield 44, 3) := by decide +kernel
theorem dX1_follow_10 : decode cX1_follow 10 = .ok (.iconst 1, 1) := by decide +kernel
theorem dX1_follow_11 : decode cX1_follow 11 = .ok (.iadd, 1) := by decide +kernel
theorem dX1_follow_12 : decode cX1_follow 12 = .ok (.putfield 44, 3) := by decide +kernel
theorem dX1_follow_15 : decode cX1_follow 15 = .ok (.return_, 1) := by decide +kernel
theorem dX1_become_0 : decode cX1_become 0 = .ok (.iconst 0, 1) := by decide +kernel
theorem dX1_become_1 : decode cX1_become 1 = .ok (.istore_n 2, 1) := by decide +kernel
theorem dX1_become_2 : decode cX1_become 2 = .ok (.iload_n 2, 1) := by decide +kernel
theorem dX1_become_3 : decode cX1_become 3 = .ok (.bipush 8, 2) := by decide +kernel
theorem dX1_become_5 : decode cX1_become 5 = .ok (.if_icmp .ge 24, 3) := by decide +kernel
theorem dX1_become_8 : decode cX1_become 8 = .ok (.aload_n 0, 1) := by decide +kernel
theorem dX1_become_9 : decode cX1_become 9 = .ok (.getfield 11, 3) := by decide +kernel
theorem dX1_become_12 : decode cX1_become 12 = .ok (.iload_n 2, 1) := by decide +kernel
theorem dX1_become_13 : decode cX1_become 13 = .ok (.aaload, 1) := by decide +kernel
theorem dX1_become_14 : decode cX1_become 14 = .ok (.aload_n 1, 1) := by decide +kernel
theorem dX1_become_15 : decode cX1_become 15 = .ok (.getfield 11, 3) := by decide +kernel
theorem dX1_become_18 : decode cX1_become 18 = .ok (.iload_n 2, 1) := by decide +kernel
theorem dX1_become_19 : decode cX1_become 19 = .ok (.aaload, 1) := by decide +kernel
theorem dX1_become_20 : decode cX1_become 20 = .ok (.invokevirtual 76, 3) := by decide +kernel
theorem dX1_become_23 : decode cX1_become 23 = .ok (.iinc 2 1, 3) := by decide +kernel
theorem dX1_become_26 : decode cX1_become 26 = .ok (.goto (-24), 3) := by decide +kernel
theorem dX1_become_29 : decode cX1_become 29 = .ok (.iconst 0, 1) := by decide +kernel
theorem dX1_become_30 : decode cX1_become 30 = .ok (.istore_n 2, 1) := by decide +kernel
theorem dX1_become_31 : decode cX1_become 31 = .ok (.iload_n 2, 1) := by decide +kernel
theorem dX1_become_32 : decode cX1_become 32 = .ok (.bipush 7, 2) := by decide +kernel
theorem dX1_become_34 : decode cX1_become 34 = .ok (.if_icmp .ge 24, 3) := by decide +kernel
theorem dX1_become_37 : decode cX1_become 37 = .ok (.aload_n 0, 1) := by decide +kernel
theorem dX1_become_38 : decode cX1_become 38 = .ok (.getfield 19, 3) := by decide +kernel
theorem dX1_become_41 : decode cX1_become 41 = .ok (.iload_n 2, 1) := by decide +kernel
theorem dX1_become_42 : decode cX1_become 42 = .ok (.aaload, 1) := by decide +kernel
theorem dX1_become_43 : decode cX1_become 43 = .ok (.aload_n 1, 1) := by decide +kernel
theorem dX1_become_44 : decode cX1_become 44 = .ok (.getfield 19, 3) := by decide +kernel
theorem dX1_become_47 : decode cX1_become 47 = .ok (.iload_n 2, 1) := by decide +kernel
theorem dX1_become_48 : decode cX1_become 48 = .ok (.aaload, 1) := by decide +kernel
theorem dX1_become_49 : decode cX1_become 49 = .ok (.invokevirtual 80, 3) := by decide +kernel
theorem dX1_become_52 : decode cX1_become 52 = .ok (.iinc 2 1, 3) := by decide +kernel
theorem dX1_become_55 : decode cX1_become 55 = .ok (.goto (-24), 3) := by decide +kernel
theorem dX1_become_58 : decode cX1_become 58 = .ok (.aload_n 0, 1) := by decide +kernel
theorem dX1_become_59 : decode cX1_become 59 = .ok (.aload_n 1, 1) := by decide +kernel
theorem dX1_become_60 : decode cX1_become 60 = .ok (.getfield 29, 3) := by decide +kernel
theorem dX1_become_63 : decode cX1_become 63 = .ok (.putfield 29, 3) := by decide +kernel
theorem dX1_become_66 : decode cX1_become 66 = .ok (.aload_n 0, 1) := by decide +kernel
theorem dX1_become_67 : decode cX1_become 67 = .ok (.aload_n 1, 1) := by decide +kernel
theorem dX1_become_68 : decode cX1_become 68 = .ok (.getfield 32, 3) := by decide +kernel
theorem dX1_become_71 : decode cX1_become 71 = .ok (.putfield 32, 3) := by decide +kernel
theorem dX1_become_74 : decode cX1_become 74 = .ok (.aload_n 0, 1) := by decide +kernel
theorem dX1_become_75 : decode cX1_become 75 = .ok (.aload_n 1, 1) := by decide +kernel
theorem dX1_become_76 : decode cX1_become 76 = .ok (.getfield 67, 3) := by decide +kernel
theorem dX1_become_79 : decode cX1_become 79 = .ok (.putfield 67, 3) := by decide +kernel
theorem dX1_become_82 : decode cX1_become 82 = .ok (.aload_n 0, 1) := by decide +kernel
theorem dX1_become_83 : decode cX1_become 83 = .ok (.aload_n 1, 1) := by decide +kernel
theorem dX1_become_84 : decode cX1_become 84 = .ok (.getfield 23, 3) := by decide +kernel
theorem dX1_become_87 : decode cX1_become 87 = .ok (.putfield 23, 3) := by decide +kernel
theorem dX1_become_90 : decode cX1_become 90 = .ok (.aload_n 0, 1) := by decide +kernel
theorem dX1_become_91 : decode cX1_become 91 = .ok (.aload_n 1, 1) := by decide +kernel
theorem dX1_become_92 : decode cX1_become 92 = .ok (.getfield 73, 3) := by decide +kernel
theorem dX1_become_95 : decode cX1_become 95 = .ok (.putfield 73, 3) := by decide +kernel
theorem dX1_become_98 : decode cX1_become 98 = .ok (.aload_n 0, 1) := by decide +kernel
theorem dX1_become_99 : decode cX1_become 99 = .ok (.dup, 1) := by decide +kernel
theorem dX1_become_100 : decode cX1_become 100 = .ok (.getfield 44, 3) := by decide +kernel
theorem dX1_become_103 : decode cX1_become 103 = .ok (.iconst 1, 1) := by decide +kernel
theorem dX1_become_104 : decode cX1_become 104 = .ok (.iadd, 1) := by decide +kernel
theorem dX1_become_105 : decode cX1_become 105 = .ok (.putfield 44, 3) := by decide +kernel
theorem dX1_become_108 : decode cX1_become 108 = .ok (.return_, 1) := by decide +kernel
theorem dX1_isRow_0 : decode cX1_isRow 0 = .ok (.iload_n 1, 1) := by decide +kernel
theorem dX1_isRow_1 : decode cX1_isRow 1 = .ok (.ifCond .ge 5, 3) := by decide +kernel
theorem dX1_isRow_4 : decode cX1_isRow 4 = .ok (.iconst 0, 1) := by decide +kernel
theorem dX1_isRow_5 : decode cX1_isRow 5 = .ok (.ireturn, 1) := by decide +kernel
theorem dX1_isRow_6 : decode cX1_isRow 6 = .ok (.iconst 0, 1) := by decide +kernel
theorem dX1_isRow_7 : decode cX1_isRow 7 = .ok (.istore_n 2, 1) := by decide +kernel
theorem dX1_isRow_8 : decode cX1_isRow 8 = .ok (.iload_n 1, 1) := by decide +kernel
theorem dX1_isRow_9 : decode cX1_isRow 9 = .ok (.istore_n 3, 1) := by decide +kernel
theorem dX1_isRow_10 : decode cX1_isRow 10 = .ok (.iload_n 3, 1) := by decide +kernel
theorem dX1_isRow_11 : decode cX1_isRow 11 = .ok (.ifCond .le 47, 3) := by decide +kernel
theorem dX1_isRow_14 : decode cX1_isRow 14 = .ok (.iload_n 3, 1) := by decide +kernel
theorem dX1_isRow_15 : decode cX1_isRow 15 = .ok (.bipush 10, 2) := by decide +kernel
theorem dX1_isRow_17 : decode cX1_isRow 17 = .ok (.irem, 1) := by decide +kernel
theorem dX1_isRow_18 : decode cX1_isRow 18 = .ok (.iconst 1, 1) := by decide +kernel
theorem dX1_isRow_19 : decode cX1_isRow 19 = .ok (.isub, 1) := by decide +kernel
theorem dX1_isRow_20 : decode cX1_isRow 20 = .ok (.istore 4, 2) := by decide +kernel
theorem dX1_isRow_22 : decode cX1_isRow 22 = .ok (.aload_n 0, 1) := by decide +kernel
theorem dX1_isRow_23 : decode cX1_isRow 23 = .ok (.iload 4, 2) := by decide +kernel
theorem dX1_isRow_25 : decode cX1_isRow 25 = .ok (.invokevirtual 60, 3) := by decide +kernel
theorem dX1_isRow_28 : decode cX1_isRow 28 = .ok (.ifCond .eq 13, 3) := by decide +kernel
theorem dX1_isRow_31 : decode cX1_isRow 31 = .ok (.iload_n 2, 1) := by decide +kernel
theorem dX1_isRow_32 : decode cX1_isRow 32 = .ok (.iload 4, 2) := by decide +kernel
theorem dX1_isRow_34 : decode cX1_isRow 34 = .ok (.ishr, 1) := by decide +kernel
theorem dX1_isRow_35 : decode cX1_isRow 35 = .ok (.iconst 1, 1) := by decide +kernel
theorem dX1_isRow_36 : decode cX1_isRow 36 = .ok (.iand, 1) := by decide +kernel
theorem dX1_isRow_37 : decode cX1_isRow 37 = .ok (.iconst 1, 1) := by decide +kernel
theorem dX1_isRow_38 : decode cX1_isRow 38 = .ok (.if_icmp .ne 5, 3) := by decide +kernel
theorem dX1_isRow_41 : decode cX1_isRow 41 = .ok (.iconst 0, 1) := by decide +kernel
theorem dX1_isRow_42 : decode cX1_isRow 42 = .ok (.ireturn, 1) := by decide +kernel
theorem dX1_isRow_43 : decode cX1_isRow 43 = .ok (.iload_n 2, 1) := by decide +kernel
theorem dX1_isRow_44 : decode cX1_isRow 44 = .ok (.iconst 1, 1) := by decide +kernel
theorem dX1_isRow_45 : decode cX1_isRow 45 = .ok (.iload 4, 2) := by decide +kernel
theorem dX1_isRow_47 : decode cX1_isRow 47 = .ok (.ishl, 1) := by decide +kernel
theorem dX1_isRow_48 : decode cX1_isRow 48 = .ok (.ior, 1) := by decide +kernel
theorem dX1_isRow_49 : decode cX1_isRow 49 = .ok (.istore_n 2, 1) := by decide +kernel
theorem dX1_isRow_50 : decode cX1_isRow 50 = .ok (.iload_n 3, 1) := by decide +kernel
theorem dX1_isRow_51 : decode cX1_isRow 51 = .ok (.bipush 10, 2) := by decide +kernel
theorem dX1_isRow_53 : decode cX1_isRow 53 = .ok (.idiv, 1) := by decide +kernel
theorem dX1_isRow_54 : decode cX1_isRow 54 = .ok (.istore_n 3, 1) := by decide +kernel
theorem dX1_isRow_55 : decode cX1_isRow 55 = .ok (.goto (-45), 3) := by decide +kernel
theorem dX1_isRow_58 : decode cX1_isRow 58 = .ok (.iconst 1, 1) := by decide +kernel
theorem dX1_isRow_59 : decode cX1_isRow 59 = .ok (.ireturn, 1) := by decide +kernel
end
section
theorem dX2_init_0 : decode cX2_init 0 = .ok (.aload_n 0, 1) := by decide +kernel
theorem dX2_init_1 : decode cX2_init 1 = .ok (.invokespecial 1, 3) := by decide +kernel
theorem dX2_init_4 : decode cX2_init 4 = .ok (.return_, 1) := by decide +kernel
theorem dX2_become_0 : decode cX2_become 0 = .ok (.aload_n 0, 1) := by decide +kernel
theorem dX2_become_1 : decode cX2_become 1 = .ok (.aload_n 1, 1) := by decide +kernel
theorem dX2_become_2 : decode cX2_become 2 = .ok (.getfield 7, 3) := by decide +kernel
theorem dX2_become_5 : decode cX2_become 5 = .ok (.putfield 7, 3) := by decide +kernel
theorem dX2_become_8 : decode cX2_become 8 = .ok (.aload_n 0, 1) := by decide +kernel
theorem dX2_become_9 : decode cX2_become 9 = .ok (.aload_n 1, 1) := by decide +kernel
theorem dX2_become_10 : decode cX2_become 10 = .ok (.getfield 13, 3) := by decide +kernel
theorem dX2_become_13 : decode cX2_become 13 = .ok (.putfield 13, 3) := by decide +kernel
theorem dX2_become_16 : decode cX2_become 16 = .ok (.return_, 1) := by decide +kernel
end
section
theorem dX6_init_0 : decode cX6_init 0 = .ok (.aload_n 0, 1) := by decide +kernel
theorem dX6_init_1 : decode cX6_init 1 = .ok (.invokespecial 3, 3) := by decide +kernel
theorem dX6_init_4 : decode cX6_init 4 = .ok (.return_, 1) := by decide +kernel
theorem dX6_become_0 : decode cX6_become 0 = .ok (.aload_n 0, 1) := by decide +kernel
theorem dX6_become_1 : decode cX6_become 1 = .ok (.aload_n 1, 1) := by decide +kernel
theorem dX6_become_2 : decode cX6_become 2 = .ok (.getfield 9, 3) := by decide +kernel
theorem dX6_become_5 : decode cX6_become 5 = .ok (.putfield 9, 3) := by decide +kernel
theorem dX6_become_8 : decode cX6_become 8 = .ok (.aload_n 0, 1) := by decide +kernel
theorem dX6_become_9 : decode cX6_become 9 = .ok (.aload_n 1, 1) := by decide +kernel
theorem dX6_become_10 : decode cX6_become 10 = .ok (.getfield 15, 3) := by decide +kernel
theorem dX6_become_13 : decode cX6_become 13 = .ok (.putfield 15, 3) := by decide +kernel
theorem dX6_become_16 : decode cX6_become 16 = .ok (.aload_n 0, 1) := by decide +kernel
theorem dX6_become_17 : decode cX6_become 17 = .ok (.aload_n 1, 1) := by decide +kernel
theorem dX6_become_18 : decode cX6_become 18 = .ok (.getfield 18, 3) := by decide +kernel
theorem dX6_become_21 : decode cX6_become 21 = .ok (.putfield 18, 3) := by decide +kernel
theorem dX6_become_24 : decode cX6_become 24 = .ok (.aload_n 0, 1) := by decide +kernel
theorem dX6_become_25 : decode cX6_become 25 = .ok (.aload_n 1, 1) := by decide +kernel
theorem dX6_become_26 : decode cX6_become 26 = .ok (.getfield 21, 3) := by decide +kernel
theorem dX6_become_29 : decode cX6_become 29 = .ok (.putfield 21, 3) := by decide +kernel
theorem dX6_become_32 : decode cX6_become 32 = .ok (.return_, 1) := by decide +kernel
theorem dX6_moves_0 : decode cX6_moves 0 = .ok (.aload_n 0, 1) := by decide +kernel
theorem dX6_moves_1 : decode cX6_moves 1 = .ok (.getfield 9, 3) := by decide +kernel
theorem dX6_moves_4 : decode cX6_moves 4 = .ok (.tableswitch 96 1 5 #[36, 43, 50, 65, 87], 36) := by decide +kernel
theorem dX6_moves_40 : decode cX6_moves 40 = .ok (.iconst 1, 1) := by decide +kernel
theorem dX6_moves_41 : decode cX6_moves 41 = .ok (.aload_n 0, 1) := by decide +kernel
theorem dX6_moves_42 : decode cX6_moves 42 = .ok (.getfield 15, 3) := by decide +kernel
theorem dX6_moves_45 : decode cX6_moves 45 = .ok (.isub, 1) := by decide +kernel
theorem dX6_moves_46 : decode cX6_moves 46 = .ok (.ireturn, 1) := by decide +kernel
theorem dX6_moves_47 : decode cX6_moves 47 = .ok (.iconst 1, 1) := by decide +kernel
theorem dX6_moves_48 : decode cX6_moves 48 = .ok (.aload_n 0, 1) := by decide +kernel
theorem dX6_moves_49 : decode cX6_moves 49 = .ok (.getfield 15, 3) := by decide +kernel
theorem dX6_moves_52 : decode cX6_moves 52 = .ok (.iadd, 1) := by decide +kernel
theorem dX6_moves_53 : decode cX6_moves 53 = .ok (.ireturn, 1) := by decide +kernel
theorem dX6_moves_54 : decode cX6_moves 54 = .ok (.iload_n 1, 1) := by decide +kernel
theorem dX6_moves_55 : decode cX6_moves 55 = .ok (.ifCond .ge 7, 3) := by decide +kernel
theorem dX6_moves_58 : decode cX6_moves 58 = .ok (.iconst 0, 1) := by decide +kernel
theorem dX6_moves_59 : decode cX6_moves 59 = .ok (.goto 9, 3) := by decide +kernel
theorem dX6_moves_62 : decode cX6_moves 62 = .ok (.iconst 1, 1) := by decide +kernel
theorem dX6_moves_63 : decode cX6_moves 63 = .ok (.aload_n 0, 1) := by decide +kernel
theorem dX6_moves_64 : decode cX6_moves 64 = .ok (.getfield 15, 3) := by decide +kernel
theorem dX6_moves_67 : decode cX6_moves 67 = .ok (.isub, 1) := by decide +kernel
theorem dX6_moves_68 : decode cX6_moves 68 = .ok (.ireturn, 1) := by decide +kernel
theorem dX6_moves_69 : decode cX6_moves 69 = .ok (.iload_n 1, 1) := by decide +kernel
theorem dX6_moves_70 : decode cX6_moves 70 = .ok (.ifCond .ge 14, 3) := by decide +kernel
theorem dX6_moves_73 : decode cX6_moves 73 = .ok (.iconst 2, 1) := by decide +kernel
theorem dX6_moves_74 : decode cX6_moves 74 = .ok (.iconst 1, 1) := by decide +kernel
theorem dX6_moves_75 : decode cX6_moves 75 = .ok (.aload_n 0, 1) := by decide +kernel
theorem dX6_moves_76 : decode cX6_moves 76 = .ok (.getfield 15, 3) := by decide +kernel
theorem dX6_moves_79 : decode cX6_moves 79 = .ok (.iadd, 1) := by decide +kernel
theorem dX6_moves_80 : decode cX6_moves 80 = .ok (.imul, 1) := by decide +kernel
theorem dX6_moves_81 : decode cX6_moves 81 = .ok (.goto 9, 3) := by decide +kernel
theorem dX6_moves_84 : decode cX6_moves 84 = .ok (.iconst 1, 1) := by decide +kernel
theorem dX6_moves_85 : decode cX6_moves 85 = .ok (.aload_n 0, 1) := by decide +kernel
theorem dX6_moves_86 : decode cX6_moves 86 = .ok (.getfield 15, 3) := by decide +kernel
theorem dX6_moves_89 : decode cX6_moves 89 = .ok (.iadd, 1) := by decide +kernel
theorem dX6_moves_90 : decode cX6_moves 90 = .ok (.ireturn, 1) := by decide +kernel
theorem dX6_moves_91 : decode cX6_moves 91 = .ok (.iconst 1, 1) := by decide +kernel
theorem dX6_moves_92 : decode cX6_moves 92 = .ok (.aload_n 0, 1) := by decide +kernel
theorem dX6_moves_93 : decode cX6_moves 93 = .ok (.getfield 15, 3) := by decide +kernel
theorem dX6_moves_96 : decode cX6_moves 96 = .ok (.iadd, 1) := by decide +kernel
theorem dX6_moves_97 : decode cX6_moves 97 = .ok (.iconst 2, 1) := by decide +kernel
theorem dX6_moves_98 : decode cX6_moves 98 = .ok (.idiv, 1) := by decide +kernel
theorem dX6_moves_99 : decode cX6_moves 99 = .ok (.ireturn, 1) := by decide +kernel
theorem dX6_moves_100 : decode cX6_moves 100 = .ok (.iconst 1, 1) := by decide +kernel
theorem dX6_moves_101 : decode cX6_moves 101 = .ok (.ireturn, 1) := by decide +kernel
theorem dX6_thirst_0 : decode cX6_thirst 0 = .ok (.aload_n 0, 1) := by decide +kernel
theorem dX6_thirst_1 : decode cX6_thirst 1 = .ok (.getfield 9, 3) := by decide +kernel
theorem dX6_thirst_4 : decode cX6_thirst 4 = .ok (.tableswitch 57 1 5 #[36, 57, 40, 49, 53], 36) := by decide +kernel
theorem dX6_thirst_40 : decode cX6_thirst 40 = .ok (.iload_n 1, 1) := by decide +kernel
theorem dX6_thirst_41 : decode cX6_thirst 41 = .ok (.iconst 2, 1) := by decide +kernel
theorem dX6_thirst_42 : decode cX6_thirst 42 = .ok (.idiv, 1) := by decide +kernel
theorem dX6_thirst_43 : decode cX6_thirst 43 = .ok (.ireturn, 1) := by decide +kernel
theorem dX6_thirst_44 : decode cX6_thirst 44 = .ok (.iload_n 1, 1) := by decide +kernel
theorem dX6_thirst_45 : decode cX6_thirst 45 = .ok (.iconst 2, 1) := by decide +kernel
theorem dX6_thirst_46 : decode cX6_thirst 46 = .ok (.idiv, 1) := by decide +kernel
theorem dX6_thirst_47 : decode cX6_thirst 47 = .ok (.aload_n 0, 1) := by decide +kernel
theorem dX6_thirst_48 : decode cX6_thirst 48 = .ok (.getfield 15, 3) := by decide +kernel
theorem dX6_thirst_51 : decode cX6_thirst 51 = .ok (.iadd, 1) := by decide +kernel
theorem dX6_thirst_52 : decode cX6_thirst 52 = .ok (.ireturn, 1) := by decide +kernel
theorem dX6_thirst_53 : decode cX6_thirst 53 = .ok (.iload_n 1, 1) := by decide +kernel
theorem dX6_thirst_54 : decode cX6_thirst 54 = .ok (.iconst 1, 1) := by decide +kernel
theorem dX6_thirst_55 : decode cX6_thirst 55 = .ok (.iadd, 1) := by decide +kernel
theorem dX6_thirst_56 : decode cX6_thirst 56 = .ok (.ireturn, 1) := by decide +kernel
theorem dX6_thirst_57 : decode cX6_thirst 57 = .ok (.iload_n 1, 1) := by decide +kernel
theorem dX6_thirst_58 : decode cX6_thirst 58 = .ok (.iconst 3, 1) := by decide +kernel
theorem dX6_thirst_59 : decode cX6_thirst 59 = .ok (.iadd, 1) := by decide +kernel
theorem dX6_thirst_60 : decode cX6_thirst 60 = .ok (.ireturn, 1) := by decide +kernel
theorem dX6_thirst_61 : decode cX6_thirst 61 = .ok (.iload_n 1, 1) := by decide +kernel
theorem dX6_thirst_62 : decode cX6_thirst 62 = .ok (.ireturn, 1) := by decide +kernel
theorem dX6_isOf_0 : decode cX6_isOf 0 = .ok (.iload_n 1, 1) := by decide +kernel
theorem dX6_isOf_1 : decode cX6_isOf 1 = .ok (.tableswitch 81 0 2 #[27, 29, 51], 27) := by decide +kernel
theorem dX6_isOf_28 : decode cX6_isOf 28 = .ok (.iconst 1, 1) := by decide +kernel
theorem dX6_isOf_29 : decode cX6_isOf 29 = .ok (.ireturn, 1) := by decide +kernel
theorem dX6_isOf_30 : decode cX6_isOf 30 = .ok (.aload_n 0, 1) := by decide +kernel
theorem dX6_isOf_31 : decode cX6_isOf 31 = .ok (.getfield 9, 3) := by decide +kernel
theorem dX6_isOf_34 : decode cX6_isOf 34 = .ok (.iconst 1, 1) := by decide +kernel
theorem dX6_isOf_35 : decode cX6_isOf 35 = .ok (.if_icmp .eq 11, 3) := by decide +kernel
theorem dX6_isOf_38 : decode cX6_isOf 38 = .ok (.aload_n 0, 1) := by decide +kernel
theorem dX6_isOf_39 : decode cX6_isOf 39 = .ok (.getfield 9, 3) := by decide +kernel
theorem dX6_isOf_42 : decode cX6_isOf 42 = .ok (.iconst 3, 1) := by decide +kernel
theorem dX6_isOf_43 : decode cX6_isOf 43 = .ok (.if_icmp .ne 7, 3) := by decide +kernel
theorem dX6_isOf_46 : decode cX6_isOf 46 = .ok (.iconst 1, 1) := by decide +kernel
theorem dX6_isOf_47 : decode cX6_isOf 47 = .ok (.goto 4, 3) := by decide +kernel
theorem dX6_isOf_50 : decode cX6_isOf 50 = .ok (.iconst 0, 1) := by decide +kernel
theorem dX6_isOf_51 : decode cX6_isOf 51 = .ok (.ireturn, 1) := by decide +kernel
theorem dX6_isOf_52 : decode cX6_isOf 52 = .ok (.aload_n 0, 1) := by decide +kernel
theorem dX6_isOf_53 : decode cX6_isOf 53 = .ok (.getfield 9, 3) := by decide +kernel
theorem dX6_isOf_56 : decode cX6_isOf 56 = .ok (.iconst 2, 1) := by decide +kernel
theorem dX6_isOf_57 : decode cX6_isOf 57 = .ok (.if_icmp .eq 19, 3) := by decide +kernel
theorem dX6_isOf_60 : decode cX6_isOf 60 = .ok (.aload_n 0, 1) := by decide +kernel
theorem dX6_isOf_61 : decode cX6_isOf 61 = .ok (.getfield 9, 3) := by decide +kernel
theorem dX6_isOf_64 : decode cX6_isOf 64 = .ok (.iconst 4, 1) := by decide +kernel
theorem dX6_isOf_65 : decode cX6_isOf 65 = .ok (.if_icmp .eq 11, 3) := by decide +kernel
theorem dX6_isOf_68 : decode cX6_isOf 68 = .ok (.aload_n 0, 1) := by decide +kernel
theorem dX6_isOf_69 : decode cX6_isOf 69 = .ok (.getfield 9, 3) := by decide +kernel
theorem dX6_isOf_72 : decode cX6_isOf 72 = .ok (.iconst 5, 1) := by decide +kernel
theorem dX6_isOf_73 : decode cX6_isOf 73 = .ok (.if_icmp .ne 7, 3) := by decide +kernel
theorem dX6_isOf_76 : decode cX6_isOf 76 = .ok (.iconst 1, 1) := by decide +kernel
theorem dX6_isOf_77 : decode cX6_isOf 77 = .ok (.goto 4, 3) := by decide +kernel
theorem dX6_isOf_80 : decode cX6_isOf 80 = .ok (.iconst 0, 1) := by decide +kernel
theorem dX6_isOf_81 : decode cX6_isOf 81 = .ok (.ireturn, 1) := by decide +kernel
theorem dX6_isOf_82 : decode cX6_isOf 82 = .ok (.aload_n 0, 1) := by decide +kernel
theorem dX6_isOf_83 : decode cX6_isOf 83 = .ok (.getfield 9, 3) := by decide +kernel
theorem dX6_isOf_86 : decode cX6_isOf 86 = .ok (.iload_n 1, 1) := by decide +kernel
theorem dX6_isOf_87 : decode cX6_isOf 87 = .ok (.if_icmp .ne 7, 3) := by decide +kernel
theorem dX6_isOf_90 : decode cX6_isOf 90 = .ok (.iconst 1, 1) := by decide +kernel
theorem dX6_isOf_91 : decode cX6_isOf 91 = .ok (.goto 4, 3) := by decide +kernel
theorem dX6_isOf_94 : decode cX6_isOf 94 = .ok (.iconst 0, 1) := by decide +kernel
theorem dX6_isOf_95 : decode cX6_isOf 95 = .ok (.ireturn, 1) := by decide +kernel
end
section
theorem dX9_in_0 : decode cX9_in 0 = .ok (.lload_n 0, 1) := by decide +kernel
theorem dX9_in_1 : decode cX9_in 1 = .ok (.lload_n 2, 1) := by decide +kernel
theorem dX9_in_2 : decode cX9_in 2 = .ok (.lcmp, 1) := by decide +kernel
theorem dX9_in_3 : decode cX9_in 3 = .ok (.ifCond .lt 14, 3) := by decide +kernel
theorem dX9_in_6 : decode cX9_in 6 = .ok (.lload_n 0, 1) := by decide +kernel
theorem dX9_in_7 : decode cX9_in 7 = .ok (.lload 4, 2) := by decide +kernel
theorem dX9_in_9 : decode cX9_in 9 = .ok (.lcmp, 1) := by decide +kernel
theorem dX9_in_10 : decode cX9_in 10 = .ok (.ifCond .gt 7, 3) := by decide +kernel
theorem dX9_in_13 : decode cX9_in 13 = .ok (.iconst 1, 1) := by decide +kernel
theorem dX9_in_14 : decode cX9_in 14 = .ok (.goto 4, 3) := by decide +kernel
theorem dX9_in_17 : decode cX9_in 17 = .ok (.iconst 0, 1) := by decide +kernel
theorem dX9_in_18 : decode cX9_in 18 = .ok (.ireturn, 1) := by decide +kernel
theorem dX9_within_0 : decode cX9_within 0 = .ok (.iload_n 0, 1) := by decide +kernel
theorem dX9_within_1 : decode cX9_within 1 = .ok (.iload_n 1, 1) := by decide +kernel
theorem dX9_within_2 : decode cX9_within 2 = .ok (.if_icmp .ge 7, 3) := by decide +kernel
theorem dX9_within_5 : decode cX9_within 5 = .ok (.iload_n 1, 1) := by decide +kernel
theorem dX9_within_6 : decode cX9_within 6 = .ok (.goto 13, 3) := by decide +kernel
theorem dX9_within_9 : decode cX9_within 9 = .ok (.iload_n 0, 1) := by decide +kernel
theorem dX9_within_10 : decode cX9_within 10 = .ok (.iload_n 2, 1) := by decide +kernel
theorem dX9_within_11 : decode cX9_within 11 = .ok (.if_icmp .le 7, 3) := by decide +kernel
theorem dX9_within_14 : decode cX9_within 14 = .ok (.iload_n 2, 1) := by decide +kernel
theorem dX9_within_15 : decode cX9_within 15 = .ok (.goto 4, 3) := by decide +kernel
theorem dX9_within_18 : decode cX9_within 18 = .ok (.iload_n 0, 1) := by decide +kernel
theorem dX9_within_19 : decode cX9_within 19 = .ok (.ireturn, 1) := by decide +kernel
theorem dX9_bitsOf_0 : decode cX9_bitsOf 0 = .ok (.iconst 0, 1) := by decide +kernel
theorem dX9_bitsOf_1 : decode cX9_bitsOf 1 = .ok (.istore_n 1, 1) := by decide +kernel
theorem dX9_bitsOf_2 : decode cX9_bitsOf 2 = .ok (.iload_n 0, 1) := by decide +kernel
theorem dX9_bitsOf_3 : decode cX9_bitsOf 3 = .ok (.istore_n 2, 1) := by decide +kernel
theorem dX9_bitsOf_4 : decode cX9_bitsOf 4 = .ok (.iload_n 2, 1) := by decide +kernel
theorem dX9_bitsOf_5 : decode cX9_bitsOf 5 = .ok (.ifCond .eq 15, 3) := by decide +kernel
theorem dX9_bitsOf_8 : decode cX9_bitsOf 8 = .ok (.iinc 1 1, 3) := by decide +kernel
theorem dX9_bitsOf_11 : decode cX9_bitsOf 11 = .ok (.iload_n 2, 1) := by decide +kernel
theorem dX9_bitsOf_12 : decode cX9_bitsOf 12 = .ok (.iload_n 2, 1) := by decide +kernel
theorem dX9_bitsOf_13 : decode cX9_bitsOf 13 = .ok (.iconst 1, 1) := by decide +kernel
theorem dX9_bitsOf_14 : decode cX9_bitsOf 14 = .ok (.isub, 1) := by decide +kernel
theorem dX9_bitsOf_15 : decode cX9_bitsOf 15 = .ok (.iand, 1) := by decide +kernel
theorem dX9_bitsOf_16 : decode cX9_bitsOf 16 = .ok (.istore_n 2, 1) := by decide +kernel
theorem dX9_bitsOf_17 : decode cX9_bitsOf 17 = .ok (.goto (-13), 3) := by decide +kernel
theorem dX9_bitsOf_20 : decode cX9_bitsOf 20 = .ok (.iload_n 1, 1) := by decide +kernel
theorem dX9_bitsOf_21 : decode cX9_bitsOf 21 = .ok (.ireturn, 1) := by decide +kernel
theorem dX9_init_0 : decode cX9_init 0 = .ok (.aload_n 0, 1) := by decide +kernel
theorem dX9_init_1 : decode cX9_init 1 = .ok (.invokespecial 7, 3) := by decide +kernel
theorem dX9_init_4 : decode cX9_init 4 = .ok (.aload_n 0, 1) := by decide +kernel
theorem dX9_init_5 : decode cX9_init 5 = .ok (.sipush 960, 3) := by decide +kernel
theorem dX9_init_8 : decode cX9_init 8 = .ok (.newarray .int, 2) := by decide +kernel
theorem dX9_init_10 : decode cX9_init 10 = .ok (.putfield 13, 3) := by decide +kernel
theorem dX9_init_13 : decode cX9_init 13 = .ok (.aload_n 0, 1) := by decide +kernel
theorem dX9_init_14 : decode cX9_init 14 = .ok (.bipush 6, 2) := by decide +kernel
theorem dX9_init_16 : decode cX9_init 16 = .ok (.newarray .int, 2) := by decide +kernel
theorem dX9_init_18 : decode cX9_init 18 = .ok (.putfield 17, 3) := by decide +kernel
theorem dX9_init_21 : decode cX9_init 21 = .ok (.aload_n 0, 1) := by decide +kernel
theorem dX9_init_22 : decode cX9_init 22 = .ok (.sipush 160, 3) := by decide +kernel
theorem dX9_init_25 : decode cX9_init 25 = .ok (.newarray .int, 2) := by decide +kernel
theorem dX9_init_27 : decode cX9_init 27 = .ok (.putfield 20, 3) := by decide +kernel
theorem dX9_init_30 : decode cX9_init 30 = .ok (.aload_n 0, 1) := by decide +kernel
theorem dX9_init_31 : decode cX9_init 31 = .ok (.bipush 8, 2) := by decide +kernel
theorem dX9_init_33 : decode cX9_init 33 = .ok (.newarray .int, 2) := by decide +kernel
theorem dX9_init_35 : decode cX9_init 35 = .ok (.putfield 23, 3) := by decide +kernel
theorem dX9_init_38 : decode cX9_init 38 = .ok (.aload_n 0, 1) := by decide +kernel
theorem dX9_init_39 : decode cX9_init 39 = .ok (.bipush 8, 2) := by decide +kernel
theorem dX9_init_41 : decode cX9_init 41 = .ok (.newarray .int, 2) := by decide +kernel
theorem dX9_init_43 : decode cX9_init 43 = .ok (.putfield 26, 3) := by decide +kernel
theorem dX9_init_46 : decode cX9_init 46 = .ok (.aload_n 0, 1) := by decide +kernel
theorem dX9_init_47 : decode cX9_init 47 = .ok (.bipush 7, 2) := by decide +kernel
theorem dX9_init_49 : decode cX9_init 49 = .ok (.newarray .int, 2) := by decide +kernel
theorem dX9_init_51 : decode cX9_init 51 = .ok (.putfield 29, 3) := by decide +kernel
theorem dX9_init_54 : decode cX9_init 54 = .ok (.aload_n 0, 1) := by decide +kernel
theorem dX9_init_55 : decode cX9_init 55 = .ok (.bipush 7, 2) := by decide +kernel
theorem dX9_init_57 : decode cX9_init 57 = .ok (.newarray .int, 2) := by decide +kernel
theorem dX9_init_59 : decode cX9_init 59 = .ok (.putfield 32, 3) := by decide +kernel
theorem dX9_init_62 : decode cX9_init 62 = .ok (.aload_n 0, 1) := by decide +kernel
theorem dX9_init_63 : decode cX9_init 63 = .ok (.bipush 7, 2) := by decide +kernel
theorem dX9_init_65 : decode cX9_init 65 = .ok (.newarray .int, 2) := by decide +kernel
theorem dX9_init_67 : decode cX9_init 67 = .ok (.putfield 35, 3) := by decide +kernel
theorem dX9_init_70 : decode cX9_init 70 = .ok (.aload_n 0, 1) := by decide +kernel
theorem dX9_init_71 : decode cX9_init 71 = .ok (.bipush 7, 2) := by decide +kernel
theorem dX9_init_73 : decode cX9_init 73 = .ok (.newarray .int, 2) := by decide +kernel
theorem dX9_init_75 : decode cX9_init 75 = .ok (.putfield 38, 3) := by decide +kernel
theorem dX9_init_78 : decode cX9_init 78 = .ok (.aload_n 0, 1) := by decide +kernel
theorem dX9_init_79 : decode cX9_init 79 = .ok (.bipush 60, 2) := by decide +kernel
theorem dX9_init_81 : decode cX9_init 81 = .ok (.putfield 41, 3) := by decide +kernel
theorem dX9_init_84 : decode cX9_init 84 = .ok (.aload_n 0, 1) := by decide +kernel
theorem dX9_init_85 : decode cX9_init 85 = .ok (.bipush 8, 2) := by decide +kernel
theorem dX9_init_87 : decode cX9_init 87 = .ok (.newarray .int, 2) := by decide +kernel
theorem dX9_init_89 : decode cX9_init 89 = .ok (.putfield 44, 3) := by decide +kernel
theorem dX9_init_92 : decode cX9_init 92 = .ok (.aload_n 0, 1) := by decide +kernel
theorem dX9_init_93 : decode cX9_init 93 = .ok (.bipush 8, 2) := by decide +kernel
theorem dX9_init_95 : decode cX9_init 95 = .ok (.newarray .int, 2) := by decide +kernel
theorem dX9_init_97 : decode cX9_init 97 = .ok (.putfield 47, 3) := by decide +kernel
theorem dX9_init_100 : decode cX9_init 100 = .ok (.aload_n 0, 1) := by decide +kernel
theorem dX9_init_101 : decode cX9_init 101 = .ok (.bipush 7, 2) := by decide +kernel
theorem dX9_init_103 : decode cX9_init 103 = .ok (.newarray .int, 2) := by decide +kernel
theorem dX9_init_105 : decode cX9_init 105 = .ok (.putfield 50, 3) := by decide +kernel
theorem dX9_init_108 : decode cX9_init 108 = .ok (.aload_n 0, 1) := by decide +kernel
theorem dX9_init_109 : decode cX9_init 109 = .ok (.bipush 56, 2) := by decide +kernel
theorem dX9_init_111 : decode cX9_init 111 = .ok (.newarray .int, 2) := by decide +kernel
theorem dX9_init_113 : decode cX9_init 113 = .ok (.putfield 53, 3) := by decide +kernel
theorem dX9_init_116 : decode cX9_init 116 = .ok (.aload_n 0, 1) := by decide +kernel
theorem dX9_init_117 : decode cX9_init 117 = .ok (.bipush 64, 2) := by decide +kernel
theorem dX9_init_119 : decode cX9_init 119 = .ok (.newarray .int, 2) := by decide +kernel
theorem dX9_init_121 : decode cX9_init 121 = .ok (.putfield 56, 3) := by decide +kernel
theorem dX9_init_124 : decode cX9_init 124 = .ok (.aload_n 0, 1) := by decide +kernel
theorem dX9_init_125 : decode cX9_init 125 = .ok (.bipush 64, 2) := by decide +kernel
theorem dX9_init_127 : decode cX9_init 127 = .ok (.newarray .int, 2) := by decide +kernel
theorem dX9_init_129 : decode cX9_init 129 = .ok (.putfield 59, 3) := by decide +kernel
theorem dX9_init_132 : decode cX9_init 132 = .ok (.aload_n 0, 1) := by decide +kernel
theorem dX9_init_133 : decode cX9_init 133 = .ok (.bipush 16, 2) := by decide +kernel
theorem dX9_init_135 : decode cX9_init 135 = .ok (.newarray .int, 2) := by decide +kernel
theorem dX9_init_137 : decode cX9_init 137 = .ok (.putfield 62, 3) := by decide +kernel
theorem dX9_init_140 : decode cX9_init 140 = .ok (.aload_n 0, 1) := by decide +kernel
theorem dX9_init_141 : decode cX9_init 141 = .ok (.bipush 21, 2) := by decide +kernel
theorem dX9_init_143 : decode cX9_init 143 = .ok (.newarray .int, 2) := by decide +kernel
theorem dX9_init_145 : decode cX9_init 145 = .ok (.putfield 65, 3) := by decide +kernel
theorem dX9_init_148 : decode cX9_init 148 = .ok (.aload_n 0, 1) := by decide +kernel
theorem dX9_init_149 : decode cX9_init 149 = .ok (.iconst (-1), 1) := by decide +kernel
theorem dX9_init_150 : decode cX9_init 150 = .ok (.putfield 68, 3) := by decide +kernel
theorem dX9_init_153 : decode cX9_init 153 = .ok (.aload_n 0, 1) := by decide +kernel
theorem dX9_init_154 : decode cX9_init 154 = .ok (.iconst 4, 1) := by decide +kernel
theorem dX9_init_155 : decode cX9_init 155 = .ok (.newarray .boolean, 2) := by decide +kernel
theorem dX9_init_157 : decode cX9_init 157 = .ok (.putfield 71, 3) := by decide +kernel
theorem dX9_init_160 : decode cX9_init 160 = .ok (.aload_n 0, 1) := by decide +kernel
theorem dX9_init_161 : decode cX9_init 161 = .ok (.iconst 4, 1) := by decide +kernel
theorem dX9_init_162 : decode cX9_init 162 = .ok (.newarray .int, 2) := by decide +kernel
theorem dX9_init_164 : decode cX9_init 164 = .ok (.putfield 75, 3) := by decide +kernel
theorem dX9_init_167 : decode cX9_init 167 = .ok (.aload_n 0, 1) := by decide +kernel
theorem dX9_init_168 : decode cX9_init 168 = .ok (.iconst 4, 1) := by decide +kernel
theorem dX9_init_169 : decode cX9_init 169 = .ok (.newarray .int, 2) := by decide +kernel
theorem dX9_init_171 : decode cX9_init 171 = .ok (.putfield 78, 3) := by decide +kernel
theorem dX9_init_174 : decode cX9_init 174 = .ok (.aload_n 0, 1) := by decide +kernel
theorem dX9_init_175 : decode cX9_init 175 = .ok (.sipush 160, 3) := by decide +kernel
theorem dX9_init_178 : decode cX9_init 178 = .ok (.newarray .int, 2) := by decide +kernel
theorem dX9_init_180 : decode cX9_init 180 = .ok (.putfield 81, 3) := by decide +kernel
theorem dX9_init_183 : decode cX9_init 183 = .ok (.aload_n 0, 1) := by decide +kernel
theorem dX9_init_184 : decode cX9_init 184 = .ok (.iconst 0, 1) := by decide +kernel
theorem dX9_init_185 : decode cX9_init 185 = .ok (.bipush 98, 2) := by decide +kernel
theorem dX9_init_187 : decode cX9_init 187 = .ok (.bipush 101, 2) := by decide +kernel
theorem dX9_init_189 : decode cX9_init 189 = .ok (.bipush 97, 2) := by decide +kernel
theorem dX9_init_191 : decode cX9_init 191 = .ok (.bipush 114, 2) := by decide +kernel
theorem dX9_init_193 : decode cX9_init 193 = .ok (.bipush 115, 2) := by decide +kernel
theorem dX9_init_195 : decode cX9_init 195 = .ok (.bipush 32, 2) := by decide +kernel
theorem dX9_init_197 : decode cX9_init 197 = .ok (.bipush 49, 2) := by decide +kernel
theorem dX9_init_199 : decode cX9_init 199 = .ok (.bipush 48, 2) := by decide +kernel
theorem dX9_init_201 : decode cX9_init 201 = .ok (.invokevirtual 84, 3) := by decide +kernel
theorem dX9_init_204 : decode cX9_init 204 = .ok (.aload_n 0, 1) := by decide +kernel
theorem dX9_init_205 : decode cX9_init 205 = .ok (.bipush 8, 2) := by decide +kernel
theorem dX9_init_207 : decode cX9_init 207 = .ok (.bipush 32, 2) := by decide +kernel
theorem dX9_init_209 : decode cX9_init 209 = .ok (.bipush 59, 2) := by decide +kernel
theorem dX9_init_211 : decode cX9_init 211 = .ok (.bipush 32, 2) := by decide +kernel
theorem dX9_init_213 : decode cX9_init 213 = .ok (.bipush 116, 2) := by decide +kernel
theorem dX9_init_215 : decode cX9_init 215 = .ok (.bipush 97, 2) := by decide +kernel
theorem dX9_init_217 : decode cX9_init 217 = .ok (.bipush 107, 2) := by decide +kernel
theorem dX9_init_219 : decode cX9_init 219 = .ok (.bipush 101, 2) := by decide +kernel
theorem dX9_init_221 : decode cX9_init 221 = .ok (.bipush 115, 2) := by decide +kernel
theorem dX9_init_223 : decode cX9_init 223 = .ok (.invokevirtual 84, 3) := by decide +kernel
theorem dX9_init_226 : decode cX9_init 226 = .ok (.aload_n 0, 1) := by decide +kernel
theorem dX9_init_227 : decode cX9_init 227 = .ok (.bipush 16, 2) := by decide +kernel
theorem dX9_init_229 : decode cX9_init 229 = .ok (.bipush 32, 2) := by decide +kernel
theorem dX9_init_231 : decode cX9_init 231 = .ok (.bipush 50, 2) := by decide +kernel
theorem dX9_init_233 : decode cX9_init 233 = .ok (.bipush 32, 2) := by decide +kernel
theorem dX9_init_235 : decode cX9_init 235 = .ok (.bipush 43, 2) := by decide +kernel
theorem dX9_init_237 : decode cX9_init 237 = .ok (.bipush 32, 2) := by decide +kernel
theorem dX9_init_239 : decode cX9_init 239 = .ok (.bipush 109, 2) := by decide +kernel
theorem dX9_init_241 : decode cX9_init 241 = .ok (.bipush 111, 2) := by decide +kernel
theorem dX9_init_243 : decode cX9_init 243 = .ok (.bipush 111, 2) := by decide +kernel
theorem dX9_init_245 : decode cX9_init 245 = .ok (.invokevirtual 84, 3) := by decide +kernel
theorem dX9_init_248 : decode cX9_init 248 = .ok (.aload_n 0, 1) := by decide +kernel
theorem dX9_init_249 : decode cX9_init 249 = .ok (.bipush 24, 2) := by decide +kernel
theorem dX9_init_251 : decode cX9_init 251 = .ok (.bipush 100, 2) := by decide +kernel
theorem dX9_init_253 : decode cX9_init 253 = .ok (.bipush 32, 2) := by decide +kernel
theorem dX9_init_255 : decode cX9_init 255 = .ok (.bipush 59, 2) := by decide +kernel
theorem dX9_init_257 : decode cX9_init 257 = .ok (.bipush 32, 2) := by decide +kernel
theorem dX9_init_259 : decode cX9_init 259 = .ok (.bipush 102, 2) := by decide +kernel
theorem dX9_init_261 : decode cX9_init 261 = .ok (.bipush 105, 2) := by decide +kernel
theorem dX9_init_263 : decode cX9_init 263 = .ok (.bipush 114, 2) := by decide +kernel
theorem dX9_init_265 : decode cX9_init 265 = .ok (.bipush 115, 2) := by decide +kernel
theorem dX9_init_267 : decode cX9_init 267 = .ok (.invokevirtual 84, 3) := by decide +kernel
theorem dX9_init_270 : decode cX9_init 270 = .ok (.aload_n 0, 1) := by decide +kernel
theorem dX9_init_271 : decode cX9_init 271 = .ok (.bipush 32, 2) := by decide +kernel
theorem dX9_init_273 : decode cX9_init 273 = .ok (.bipush 116, 2) := by decide +kernel
theorem dX9_init_275 : decode cX9_init 275 = .ok (.bipush 32, 2) := by decide +kernel
theorem dX9_init_277 : decode cX9_init 277 = .ok (.bipush 119, 2) := by decide +kernel
theorem dX9_init_279 : decode cX9_init 279 = .ok (.bipush 97, 2) := by decide +kernel
theorem dX9_init_281 : decode cX9_init 281 = .ok (.bipush 105, 2) := by decide +kernel
theorem dX9_init_283 : decode cX9_init 283 = .ok (.bipush 116, 2) := by decide +kernel
theorem dX9_init_285 : decode cX9_init 285 = .ok (.bipush 101, 2) := by decide +kernel
theorem dX9_init_287 : decode cX9_init 287 = .ok (.bipush 100, 2) := by decide +kernel
theorem dX9_init_289 : decode cX9_init 289 = .ok (.invokevirtual 84, 3) := by decide +kernel
theorem dX9_init_292 : decode cX9_init 292 = .ok (.aload_n 0, 1) := by decide +kernel
theorem dX9_init_293 : decode cX9_init 293 = .ok (.bipush 40, 2) := by decide +kernel
theorem dX9_init_295 : decode cX9_init 295 = .ok (.bipush 32, 2) := by decide +kernel
theorem dX9_init_297 : decode cX9_init 297 = .ok (.bipush 45, 2) := by decide +kernel
theorem dX9_init_299 : decode cX9_init 299 = .ok (.bipush 32, 2) := by decide +kernel
theorem dX9_init_301 : decode cX9_init 301 = .ok (.bipush 115, 2) := by decide +kernel
theorem dX9_init_303 : decode cX9_init 303 = .ok (.bipush 117, 2) := by decide +kernel
theorem dX9_init_305 : decode cX9_init 305 = .ok (.bipush 110, 2) := by decide +kernel
theorem dX9_init_307 : decode cX9_init 307 = .ok (.bipush 103, 2) := by decide +kernel
theorem dX9_init_309 : decode cX9_init 309 = .ok (.bipush 32, 2) := by decide +kernel
theorem dX9_init_311 : decode cX9_init 311 = .ok (.invokevirtual 84, 3) := by decide +kernel
theorem dX9_init_314 : decode cX9_init 314 = .ok (.aload_n 0, 1) := by decide +kernel
theorem dX9_init_315 : decode cX9_init 315 = .ok (.bipush 48, 2) := by decide +kernel
theorem dX9_init_317 : decode cX9_init 317 = .ok (.bipush 42, 2) := by decide +kernel
theorem dX9_init_319 : decode cX9_init 319 = .ok (.bipush 32, 2) := by decide +kernel
theorem dX9_init_321 : decode cX9_init 321 = .ok (.bipush 57, 2) := by decide +kernel
theorem dX9_init_323 : decode cX9_init 323 = .ok (.bipush 32, 2) := by decide +kernel
theorem dX9_init_325 : decode cX9_init 325 = .ok (.bipush 59, 2) := by decide +kernel
theorem dX9_init_327 : decode cX9_init 327 = .ok (.bipush 32, 2) := by decide +kernel
theorem dX9_init_329 : decode cX9_init 329 = .ok (.bipush 32, 2) := by decide +kernel
theorem dX9_init_331 : decode cX9_init 331 = .ok (.bipush 32, 2) := by decide +kernel
theorem dX9_init_333 : decode cX9_init 333 = .ok (.invokevirtual 84, 3) := by decide +kernel
theorem dX9_init_336 : decode cX9_init 336 = .ok (.aload_n 0, 1) := by decide +kernel
theorem dX9_init_337 : decode cX9_init 337 = .ok (.getfield 17, 3) := by decide +kernel
theorem dX9_init_340 : decode cX9_init 340 = .ok (.iconst 0, 1) := by decide +kernel
theorem dX9_init_341 : decode cX9_init 341 = .ok (.bipush 56, 2) := by decide +kernel
theorem dX9_init_343 : decode cX9_init 343 = .ok (.iastore, 1) := by decide +kernel
theorem dX9_init_344 : decode cX9_init 344 = .ok (.aload_n 0, 1) := by decide +kernel
theorem dX9_init_345 : decode cX9_init 345 = .ok (.iconst 1, 1) := by decide +kernel
theorem dX9_init_346 : decode cX9_init 346 = .ok (.putfield 88, 3) := by decide +kernel
theorem dX9_init_349 : decode cX9_init 349 = .ok (.return_, 1) := by decide +kernel
theorem dX9_spell_0 : decode cX9_spell 0 = .ok (.aload_n 0, 1) := by decide +kernel
theorem dX9_spell_1 : decode cX9_spell 1 = .ok (.getfield 13, 3) := by decide +kernel
theorem dX9_spell_4 : decode cX9_spell 4 = .ok (.iload_n 1, 1) := by decide +kernel
theorem dX9_spell_5 : decode cX9_spell 5 = .ok (.iload_n 2, 1) := by decide +kernel
theorem dX9_spell_6 : decode cX9_spell 6 = .ok (.iastore, 1) := by decide +kernel
theorem dX9_spell_7 : decode cX9_spell 7 = .ok (.aload_n 0, 1) := by decide +kernel
theorem dX9_spell_8 : decode cX9_spell 8 = .ok (.getfield 13, 3) := by decide +kernel
theorem dX9_spell_11 : decode cX9_spell 11 = .ok (.iload_n 1, 1) := by decide +kernel
theorem dX9_spell_12 : decode cX9_spell 12 = .ok (.iconst 1, 1) := by decide +kernel
theorem dX9_spell_13 : decode cX9_spell 13 = .ok (.iadd, 1) := by decide +kernel
theorem dX9_spell_14 : decode cX9_spell 14 = .ok (.iload_n 3, 1) := by decide +kernel
theorem dX9_spell_15 : decode cX9_spell 15 = .ok (.iastore, 1) := by decide +kernel
theorem dX9_spell_16 : decode cX9_spell 16 = .ok (.aload_n 0, 1) := by decide +kernel
theorem dX9_spell_17 : decode cX9_spell 17 = .ok (.getfield 13, 3) := by decide +kernel
theorem dX9_spell_20 : decode cX9_spell 20 = .ok (.iload_n 1, 1) := by decide +kernel
theorem dX9_spell_21 : decode cX9_spell 21 = .ok (.iconst 2, 1) := by decide +kernel
theorem dX9_spell_22 : decode cX9_spell 22 = .ok (.iadd, 1) := by decide +kernel
theorem dX9_spell_23 : decode cX9_spell 23 = .ok (.iload 4, 2) := by decide +kernel
theorem dX9_spell_25 : decode cX9_spell 25 = .ok (.iastore, 1) := by decide +kernel
theorem dX9_spell_26 : decode cX9_spell 26 = .ok (.aload_n 0, 1) := by decide +kernel
theorem dX9_spell_27 : decode cX9_spell 27 = .ok (.getfield 13, 3) := by decide +kernel
theorem dX9_spell_30 : decode cX9_spell 30 = .ok (.iload_n 1, 1) := by decide +kernel
theorem dX9_spell_31 : decode cX9_spell 31 = .ok (.iconst 3, 1) := by decide +kernel
theorem dX9_spell_32 : decode cX9_spell 32 = .ok (.iadd, 1) := by decide +kernel
theorem dX9_spell_33 : decode cX9_spell 33 = .ok (.iload 5, 2) := by decide +kernel
theorem dX9_spell_35 : decode cX9_spell 35 = .ok (.iastore, 1) := by decide +kernel
theorem dX9_spell_36 : decode cX9_spell 36 = .ok (.aload_n 0, 1) := by decide +kernel
theorem dX9_spell_37 : decode cX9_spell 37 = .ok (.getfield 13, 3) := by decide +kernel
theorem dX9_spell_40 : decode cX9_spell 40 = .ok (.iload_n 1, 1) := by decide +kernel
theorem dX9_spell_41 : decode cX9_spell 41 = .ok (.iconst 4, 1) := by decide +kernel
theorem dX9_spell_42 : decode cX9_spell 42 = .ok (.iadd, 1) := by decide +kernel
theorem dX9_spell_43 : decode cX9_spell 43 = .ok (.iload 6, 2) := by decide +kernel
theorem dX9_spell_45 : decode cX9_spell 45 = .ok (.iastore, 1) := by decide +kernel
theorem dX9_spell_46 : decode cX9_spell 46 = .ok (.aload_n 0, 1) := by decide +kernel
theorem dX9_spell_47 : decode cX9_spell 47 = .ok (.getfield 13, 3) := by decide +kernel
theorem dX9_spell_50 : decode cX9_spell 50 = .ok (.iload_n 1, 1) := by decide +kernel
theorem dX9_spell_51 : decode cX9_spell 51 = .ok (.iconst 5, 1) := by decide +kernel
theorem dX9_spell_52 : decode cX9_spell 52 = .ok (.iadd, 1) := by decide +kernel
theorem dX9_spell_53 : decode cX9_spell 53 = .ok (.iload 7, 2) := by decide +kernel
theorem dX9_spell_55 : decode cX9_spell 55 = .ok (.iastore, 1) := by decide +kernel
theorem dX9_spell_56 : decode cX9_spell 56 = .ok (.aload_n 0, 1) := by decide +kernel
theorem dX9_spell_57 : decode cX9_spell 57 = .ok (.getfield 13, 3) := by decide +kernel
theorem dX9_spell_60 : decode cX9_spell 60 = .ok (.iload_n 1, 1) := by decide +kernel
theorem dX9_spell_61 : decode cX9_spell 61 = .ok (.bipush 6, 2) := by decide +kernel
theorem dX9_spell_63 : decode cX9_spell 63 = .ok (.iadd, 1) := by decide +kernel
theorem dX9_spell_64 : decode cX9_spell 64 = .ok (.iload 8, 2) := by decide +kernel
theorem dX9_spell_66 : decode cX9_spell 66 = .ok (.iastore, 1) := by decide +kernel
theorem dX9_spell_67 : decode cX9_spell 67 = .ok (.aload_n 0, 1) := by decide +kernel
theorem dX9_spell_68 : decode cX9_spell 68 = .ok (.getfield 13, 3) := by decide +kernel
theorem dX9_spell_71 : decode cX9_spell 71 = .ok (.iload_n 1, 1) := by decide +kernel
theorem dX9_spell_72 : decode cX9_spell 72 = .ok (.bipush 7, 2) := by decide +kernel
theorem dX9_spell_74 : decode cX9_spell 74 = .ok (.iadd, 1) := by decide +kernel
theorem dX9_spell_75 : decode cX9_spell 75 = .ok (.iload 9, 2) := by decide +kernel
theorem dX9_spell_77 : decode cX9_spell 77 = .ok (.iastore, 1) := by decide +kernel
theorem dX9_spell_78 : decode cX9_spell 78 = .ok (.return_, 1) := by decide +kernel
theorem dX9_isOne_0 : decode cX9_isOne 0 = .ok (.iload_n 1, 1) := by decide +kernel
theorem dX9_isOne_1 : decode cX9_isOne 1 = .ok (.i2l, 1) := by decide +kernel
theorem dX9_isOne_2 : decode cX9_isOne 2 = .ok (.lconst 0, 1) := by decide +kernel
theorem dX9_isOne_3 : decode cX9_isOne 3 = .ok (.aload_n 0, 1) := by decide +kernel
theorem dX9_isOne_4 : decode cX9_isOne 4 = .ok (.getfield 91, 3) := by decide +kernel
theorem dX9_isOne_7 : decode cX9_isOne 7 = .ok (.iconst 1, 1) := by decide +kernel
theorem dX9_isOne_8 : decode cX9_isOne 8 = .ok (.isub, 1) := by decide +kernel
theorem dX9_isOne_9 : decode cX9_isOne 9 = .ok (.i2l, 1) := by decide +kernel
theorem dX9_isOne_10 : decode cX9_isOne 10 = .ok (.invokestatic 94, 3) := by decide +kernel
theorem dX9_isOne_13 : decode cX9_isOne 13 = .ok (.ireturn, 1) := by decide +kernel
theorem dX9_isSlip_0 : decode cX9_isSlip 0 = .ok (.iload_n 1, 1) := by decide +kernel
theorem dX9_isSlip_1 : decode cX9_isSlip 1 = .ok (.i2l, 1) := by decide +kernel
theorem dX9_isSlip_2 : decode cX9_isSlip 2 = .ok (.lconst 0, 1) := by decide +kernel
theorem dX9_isSlip_3 : decode cX9_isSlip 3 = .ok (.aload_n 0, 1) := by decide +kernel
theorem dX9_isSlip_4 : decode cX9_isSlip 4 = .ok (.getfield 98, 3) := by decide +kernel
theorem dX9_isSlip_7 : decode cX9_isSlip 7 = .ok (.iconst 1, 1) := by decide +kernel
theorem dX9_isSlip_8 : decode cX9_isSlip 8 = .ok (.isub, 1) := by decide +kernel
theorem dX9_isSlip_9 : decode cX9_isSlip 9 = .ok (.i2l, 1) := by decide +kernel
theorem dX9_isSlip_10 : decode cX9_isSlip 10 = .ok (.invokestatic 94, 3) := by decide +kernel
theorem dX9_isSlip_13 : decode cX9_isSlip 13 = .ok (.ireturn, 1) := by decide +kernel
theorem dX9_come_0 : decode cX9_come 0 = .ok (.iload_n 1, 1) := by decide +kernel
theorem dX9_come_1 : decode cX9_come 1 = .ok (.i2l, 1) := by decide +kernel
theorem dX9_come_2 : decode cX9_come 2 = .ok (.lconst 0, 1) := by decide +kernel
theorem dX9_come_3 : decode cX9_come 3 = .ok (.ldc2_w 101, 3) := by decide +kernel
theorem dX9_come_6 : decode cX9_come 6 = .ok (.invokestatic 94, 3) := by decide +kernel
theorem dX9_come_9 : decode cX9_come 9 = .ok (.ifCond .eq 15, 3) := by decide +kernel
theorem dX9_come_12 : decode cX9_come 12 = .ok (.iload_n 2, 1) := by decide +kernel
theorem dX9_come_13 : decode cX9_come 13 = .ok (.i2l, 1) := by decide +kernel
theorem dX9_come_14 : decode cX9_come 14 = .ok (.lconst 0, 1) := by decide +kernel
theorem dX9_come_15 : decode cX9_come 15 = .ok (.ldc2_w 103, 3) := by decide +kernel
theorem dX9_come_18 : decode cX9_come 18 = .ok (.invokestatic 94, 3) := by decide +kernel
theorem dX9_come_21 : decode cX9_come 21 = .ok (.ifCond .ne 6, 3) := by decide +kernel
theorem dX9_come_24 : decode cX9_come 24 = .ok (.bipush (-2), 2) := by decide +kernel
theorem dX9_come_26 : decode cX9_come 26 = .ok (.ireturn, 1) := by decide +kernel
theorem dX9_come_27 : decode cX9_come 27 = .ok (.aload_n 0, 1) := by decide +kernel
theorem dX9_come_28 : decode cX9_come 28 = .ok (.getfield 91, 3) := by decide +kernel
theorem dX9_come_31 : decode cX9_come 31 = .ok (.bipush 8, 2) := by decide +kernel
theorem dX9_come_33 : decode cX9_come 33 = .ok (.if_icmp .ne 6, 3) := by decide +kernel
theorem dX9_come_36 : decode cX9_come 36 = .ok (.bipush (-4), 2) := by decide +kernel
theorem dX9_come_38 : decode cX9_come 38 = .ok (.ireturn, 1) := by decide +kernel
theorem dX9_come_39 : decode cX9_come 39 = .ok (.aload_n 0, 1) := by decide +kernel
theorem dX9_come_40 : decode cX9_come 40 = .ok (.getfield 23, 3) := by decide +kernel
theorem dX9_come_43 : decode cX9_come 43 = .ok (.aload_n 0, 1) := by decide +kernel
theorem dX9_come_44 : decode cX9_come 44 = .ok (.getfield 91, 3) := by decide +kernel
theorem dX9_come_47 : decode cX9_come 47 = .ok (.iload_n 1, 1) := by decide +kernel
theorem dX9_come_48 : decode cX9_come 48 = .ok (.iastore, 1) := by decide +kernel
theorem dX9_come_49 : decode cX9_come 49 = .ok (.aload_n 0, 1) := by decide +kernel
theorem dX9_come_50 : decode cX9_come 50 = .ok (.getfield 26, 3) := by decide +kernel
theorem dX9_come_53 : decode cX9_come 53 = .ok (.aload_n 0, 1) := by decide +kernel
theorem dX9_come_54 : decode cX9_come 54 = .ok (.getfield 91, 3) := by decide +kernel
theorem dX9_come_57 : decode cX9_come 57 = .ok (.iload_n 2, 1) := by decide +kernel
theorem dX9_come_58 : decode cX9_come 58 = .ok (.iastore, 1) := by decide +kernel
theorem dX9_come_59 : decode cX9_come 59 = .ok (.aload_n 0, 1) := by decide +kernel
theorem dX9_come_60 : decode cX9_come 60 = .ok (.dup, 1) := by decide +kernel
theorem dX9_come_61 : decode cX9_come 61 = .ok (.getfield 91, 3) := by decide +kernel
theorem dX9_come_64 : decode cX9_come 64 = .ok (.iconst 1, 1) := by decide +kernel
theorem dX9_come_65 : decode cX9_come 65 = .ok (.iadd, 1) := by decide +kernel
theorem dX9_come_66 : decode cX9_come 66 = .ok (.putfield 91, 3) := by decide +kernel
theorem dX9_come_69 : decode cX9_come 69 = .ok (.aload_n 0, 1) := by decide +kernel
theorem dX9_come_70 : decode cX9_come 70 = .ok (.getfield 91, 3) := by decide +kernel
theorem dX9_come_73 : decode cX9_come 73 = .ok (.iconst 1, 1) := by decide +kernel
theorem dX9_come_74 : decode cX9_come 74 = .ok (.isub, 1) := by decide +kernel
theorem dX9_come_75 : decode cX9_come 75 = .ok (.ireturn, 1) := by decide +kernel
theorem dX9_slip_0 : decode cX9_slip 0 = .ok (.iload_n 1, 1) := by decide +kernel
theorem dX9_slip_1 : decode cX9_slip 1 = .ok (.i2l, 1) := by decide +kernel
theorem dX9_slip_2 : decode cX9_slip 2 = .ok (.lconst 0, 1) := by decide +kernel
theorem dX9_slip_3 : decode cX9_slip 3 = .ok (.ldc2_w 105, 3) := by decide +kernel
theorem dX9_slip_6 : decode cX9_slip 6 = .ok (.invokestatic 94, 3) := by decide +kernel
theorem dX9_slip_9 : decode cX9_slip 9 = .ok (.ifCond .eq 25, 3) := by decide +kernel
theorem dX9_slip_12 : decode cX9_slip 12 = .ok (.iload_n 2, 1) := by decide +kernel
theorem dX9_slip_13 : decode cX9_slip 13 = .ok (.i2l, 1) := by decide +kernel
theorem dX9_slip_14 : decode cX9_slip 14 = .ok (.ldc2_w 107, 3) := by decide +kernel
theorem dX9_slip_17 : decode cX9_slip 17 = .ok (.ldc2_w 101, 3) := by decide +kernel
theorem dX9_slip_20 : decode cX9_slip 20 = .ok (.invokestatic 94, 3) := by decide +kernel
theorem dX9_slip_23 : decode cX9_slip 23 = .ok (.ifCond .eq 11, 3) := by decide +kernel
theorem dX9_slip_26 : decode cX9_slip 26 = .ok (.aload_n 0, 1) := by decide +kernel
theorem dX9_slip_27 : decode cX9_slip 27 = .ok (.iload_n 3, 1) := by decide +kernel
theorem dX9_slip_28 : decode cX9_slip 28 = .ok (.invokevirtual 109, 3) := by decide +kernel
theorem dX9_slip_31 : decode cX9_slip 31 = .ok (.ifCond .ne 6, 3) := by decide +kernel
theorem dX9_slip_34 : decode cX9_slip 34 = .ok (.bipush (-2), 2) := by decide +kernel
theorem dX9_slip_36 : decode cX9_slip 36 = .ok (.ireturn, 1) := by decide +kernel
theorem dX9_slip_37 : decode cX9_slip 37 = .ok (.aload_n 0, 1) := by decide +kernel
theorem dX9_slip_38 : decode cX9_slip 38 = .ok (.getfield 98, 3) := by decide +kernel
theorem dX9_slip_41 : decode cX9_slip 41 = .ok (.bipush 7, 2) := by decide +kernel
theorem dX9_slip_43 : decode cX9_slip 43 = .ok (.if_icmp .ne 6, 3) := by decide +kernel
theorem dX9_slip_46 : decode cX9_slip 46 = .ok (.bipush (-4), 2) := by decide +kernel
theorem dX9_slip_48 : decode cX9_slip 48 = .ok (.ireturn, 1) := by decide +kernel
theorem dX9_slip_49 : decode cX9_slip 49 = .ok (.aload_n 0, 1) := by decide +kernel
theorem dX9_slip_50 : decode cX9_slip 50 = .ok (.getfield 29, 3) := by decide +kernel
theorem dX9_slip_53 : decode cX9_slip 53 = .ok (.aload_n 0, 1) := by decide +kernel
theorem dX9_slip_54 : decode cX9_slip 54 = .ok (.getfield 98, 3) := by decide +kernel
theorem dX9_slip_57 : decode cX9_slip 57 = .ok (.iload_n 1, 1) := by decide +kernel
theorem dX9_slip_58 : decode cX9_slip 58 = .ok (.iastore, 1) := by decide +kernel
theorem dX9_slip_59 : decode cX9_slip 59 = .ok (.aload_n 0, 1) := by decide +kernel
theorem dX9_slip_60 : decode cX9_slip 60 = .ok (.getfield 35, 3) := by decide +kernel
theorem dX9_slip_63 : decode cX9_slip 63 = .ok (.aload_n 0, 1) := by decide +kernel
theorem dX9_slip_64 : decode cX9_slip 64 = .ok (.getfield 98, 3) := by decide +kernel
theorem dX9_slip_67 : decode cX9_slip 67 = .ok (.iload_n 2, 1) := by decide +kernel
theorem dX9_slip_68 : decode cX9_slip 68 = .ok (.bipush 10, 2) := by decide +kernel
theorem dX9_slip_70 : decode cX9_slip 70 = .ok (.idiv, 1) := by decide +kernel
theorem dX9_slip_71 : decode cX9_slip 71 = .ok (.iastore, 1) := by decide +kernel
theorem dX9_slip_72 : decode cX9_slip 72 = .ok (.aload_n 0, 1) := by decide +kernel
theorem dX9_slip_73 : decode cX9_slip 73 = .ok (.getfield 32, 3) := by decide +kernel
theorem dX9_slip_76 : decode cX9_slip 76 = .ok (.aload_n 0, 1) := by decide +kernel
theorem dX9_slip_77 : decode cX9_slip 77 = .ok (.getfield 98, 3) := by decide +kernel
theorem dX9_slip_80 : decode cX9_slip 80 = .ok (.iload_n 2, 1) := by decide +kernel
theorem dX9_slip_81 : decode cX9_slip 81 = .ok (.bipush 10, 2) := by decide +kernel
theorem dX9_slip_83 : decode cX9_slip 83 = .ok (.irem, 1) := by decide +kernel
theorem dX9_slip_84 : decode cX9_slip 84 = .ok (.iastore, 1) := by decide +kernel
theorem dX9_slip_85 : decode cX9_slip 85 = .ok (.aload_n 0, 1) := by decide +kernel
theorem dX9_slip_86 : decode cX9_slip 86 = .ok (.getfield 38, 3) := by decide +kernel
theorem dX9_slip_89 : decode cX9_slip 89 = .ok (.aload_n 0, 1) := by decide +kernel
theorem dX9_slip_90 : decode cX9_slip 90 = .ok (.getfield 98, 3) := by decide +kernel
theorem dX9_slip_93 : decode cX9_slip 93 = .ok (.iload_n 3, 1) := by decide +kernel
theorem dX9_slip_94 : decode cX9_slip 94 = .ok (.iastore, 1) := by decide +kernel
theorem dX9_slip_95 : decode cX9_slip 95 = .ok (.aload_n 0, 1) := by decide +kernel
theorem dX9_slip_96 : decode cX9_slip 96 = .ok (.dup, 1) := by decide +kernel
theorem dX9_slip_97 : decode cX9_slip 97 = .ok (.getfield 98, 3) := by decide +kernel
theorem dX9_slip_100 : decode cX9_slip 100 = .ok (.iconst 1, 1) := by decide +kernel
theorem dX9_slip_101 : decode cX9_slip 101 = .ok (.iadd, 1) := by decide +kernel
theorem dX9_slip_102 : decode cX9_slip 102 = .ok (.putfield 98, 3) := by decide +kernel
theorem dX9_slip_105 : decode cX9_slip 105 = .ok (.aload_n 0, 1) := by decide +kernel
theorem dX9_slip_106 : decode cX9_slip 106 = .ok (.getfield 98, 3) := by decide +kernel
theorem dX9_slip_109 : decode cX9_slip 109 = .ok (.iconst 1, 1) := by decide +kernel
theorem dX9_slip_110 : decode cX9_slip 110 = .ok (.isub, 1) := by decide +kernel
theorem dX9_slip_111 : decode cX9_slip 111 = .ok (.ireturn, 1) := by decide +kernel
theorem dX9_set_0 : decode cX9_set 0 = .ok (.iload_n 1, 1) := by decide +kernel
theorem dX9_set_1 : decode cX9_set 1 = .ok (.i2l, 1) := by decide +kernel
theorem dX9_set_2 : decode cX9_set 2 = .ok (.lconst 0, 1) := by decide +kernel
theorem dX9_set_3 : decode cX9_set 3 = .ok (.ldc2_w 113, 3) := by decide +kernel
theorem dX9_set_6 : decode cX9_set 6 = .ok (.invokestatic 94, 3) := by decide +kernel
theorem dX9_set_9 : decode cX9_set 9 = .ok (.ifCond .eq 38, 3) := by decide +kernel
theorem dX9_set_12 : decode cX9_set 12 = .ok (.iload_n 1, 1) := by decide +kernel
theorem dX9_set_13 : decode cX9_set 13 = .ok (.iconst 2, 1) := by decide +kernel
theorem dX9_set_14 : decode cX9_set 14 = .ok (.if_icmp .ge 11, 3) := by decide +kernel
theorem dX9_set_17 : decode cX9_set 17 = .ok (.aload_n 0, 1) := by decide +kernel
theorem dX9_set_18 : decode cX9_set 18 = .ok (.iload_n 2, 1) := by decide +kernel
theorem dX9_set_19 : decode cX9_set 19 = .ok (.invokevirtual 109, 3) := by decide +kernel
theorem dX9_set_22 : decode cX9_set 22 = .ok (.ifCond .eq 25, 3) := by decide +kernel
theorem dX9_set_25 : decode cX9_set 25 = .ok (.iload_n 1, 1) := by decide +kernel
theorem dX9_set_26 : decode cX9_set 26 = .ok (.i2l, 1) := by decide +kernel
theorem dX9_set_27 : decode cX9_set 27 = .ok (.ldc2_w 115, 3) := by decide +kernel
theorem dX9_set_30 : decode cX9_set 30 = .ok (.ldc2_w 117, 3) := by decide +kernel
theorem dX9_set_33 : decode cX9_set 33 = .ok (.invokestatic 94, 3) := by decide +kernel
theorem dX9_set_36 : decode cX9_set 36 = .ok (.ifCond .eq 14, 3) := by decide +kernel
theorem dX9_set_39 : decode cX9_set 39 = .ok (.aload_n 0, 1) := by decide +kernel
theorem dX9_set_40 : decode cX9_set 40 = .ok (.iload_n 2, 1) := by decide +kernel
theorem dX9_set_41 : decode cX9_set 41 = .ok (.invokevirtual 119, 3) := by decide +kernel
theorem dX9_set_44 : decode cX9_set 44 = .ok (.ifCond .ne 6, 3) := by decide +kernel
theorem dX9_set_47 : decode cX9_set 47 = .ok (.ldc 122, 2) := by decide +kernel
theorem dX9_set_49 : decode cX9_set 49 = .ok (.ireturn, 1) := by decide +kernel
theorem dX9_set_50 : decode cX9_set 50 = .ok (.iload_n 1, 1) := by decide +kernel
theorem dX9_set_51 : decode cX9_set 51 = .ok (.iconst 4, 1) := by decide +kernel
theorem dX9_set_52 : decode cX9_set 52 = .ok (.if_icmp .ne 11, 3) := by decide +kernel
theorem dX9_set_55 : decode cX9_set 55 = .ok (.aload_n 0, 1) := by decide +kernel
theorem dX9_set_56 : decode cX9_set 56 = .ok (.iload_n 3, 1) := by decide +kernel
theorem dX9_set_57 : decode cX9_set 57 = .ok (.invokevirtual 109, 3) := by decide +kernel
theorem dX9_set_60 : decode cX9_set 60 = .ok (.ifCond .eq 68, 3) := by decide +kernel
theorem dX9_set_63 : decode cX9_set 63 = .ok (.iload_n 3, 1) := by decide +kernel
theorem dX9_set_64 : decode cX9_set 64 = .ok (.i2l, 1) := by decide +kernel
theorem dX9_set_65 : decode cX9_set 65 = .ok (.iload_n 1, 1) := by decide +kernel
theorem dX9_set_66 : decode cX9_set 66 = .ok (.iconst 5, 1) := by decide +kernel
theorem dX9_set_67 : decode cX9_set 67 = .ok (.if_icmp .ne 9, 3) := by decide +kernel
theorem dX9_set_70 : decode cX9_set 70 = .ok (.ldc2_w 123, 3) := by decide +kernel
theorem dX9_set_73 : decode cX9_set 73 = .ok (.goto 19, 3) := by decide +kernel
theorem dX9_set_76 : decode cX9_set 76 = .ok (.iload_n 1, 1) := by decide +kernel
theorem dX9_set_77 : decode cX9_set 77 = .ok (.iconst 3, 1) := by decide +kernel
theorem dX9_set_78 : decode cX9_set 78 = .ok (.if_icmp .eq 9, 3) := by decide +kernel
theorem dX9_set_81 : decode cX9_set 81 = .ok (.iload_n 1, 1) := by decide +kernel
theorem dX9_set_82 : decode cX9_set 82 = .ok (.bipush 6, 2) := by decide +kernel
theorem dX9_set_84 : decode cX9_set 84 = .ok (.if_icmp .ne 7, 3) := by decide +kernel
theorem dX9_set_87 : decode cX9_set 87 = .ok (.lconst 1, 1) := by decide +kernel
theorem dX9_set_88 : decode cX9_set 88 = .ok (.goto 4, 3) := by decide +kernel
theorem dX9_set_91 : decode cX9_set 91 = .ok (.lconst 0, 1) := by decide +kernel
theorem dX9_set_92 : decode cX9_set 92 = .ok (.iload_n 1, 1) := by decide +kernel
theorem dX9_set_93 : decode cX9_set 93 = .ok (.iconst 1, 1) := by decide +kernel
theorem dX9_set_94 : decode cX9_set 94 = .ok (.if_icmp .ne 9, 3) := by decide +kernel
theorem dX9_set_97 : decode cX9_set 97 = .ok (.ldc2_w 103, 3) := by decide +kernel
theorem dX9_set_100 : decode cX9_set 100 = .ok (.goto 22, 3) := by decide +kernel
theorem dX9_set_103 : decode cX9_set 103 = .ok (.iload_n 1, 1) := by decide +kernel
theorem dX9_set_104 : decode cX9_set 104 = .ok (.iconst 2, 1) := by decide +kernel
theorem dX9_set_105 : decode cX9_set 105 = .ok (.if_icmp .eq 8, 3) := by decide +kernel
theorem dX9_set_108 : decode cX9_set 108 = .ok (.iload_n 1, 1) := by decide +kernel
theorem dX9_set_109 : decode cX9_set 109 = .ok (.iconst 3, 1) := by decide +kernel
theorem dX9_set_110 : decode cX9_set 110 = .ok (.if_icmp .ne 9, 3) := by decide +kernel
theorem dX9_set_113 : decode cX9_set 113 = .ok (.ldc2_w 125, 3) := by decide +kernel
theorem dX9_set_116 : decode cX9_set 116 = .ok (.goto 6, 3) := by decide +kernel
theorem dX9_set_119 : decode cX9_set 119 = .ok (.ldc2_w 101, 3) := by decide +kernel
theorem dX9_set_122 : decode cX9_set 122 = .ok (.invokestatic 94, 3) := by decide +kernel
theorem dX9_set_125 : decode cX9_set 125 = .ok (.ifCond .ne 6, 3) := by decide +kernel
theorem dX9_set_128 : decode cX9_set 128 = .ok (.ldc 122, 2) := by decide +kernel
theorem dX9_set_130 : decode cX9_set 130 = .ok (.ireturn, 1) := by decide +kernel
theorem dX9_set_131 : decode cX9_set 131 = .ok (.iload_n 1, 1) := by decide +kernel
theorem dX9_set_132 : decode cX9_set 132 = .ok (.ifCond .ne 12, 3) := by decide +kernel
theorem dX9_set_135 : decode cX9_set 135 = .ok (.aload_n 0, 1) := by decide +kernel
theorem dX9_set_136 : decode cX9_set 136 = .ok (.getfield 23, 3) := by decide +kernel
theorem dX9_set_139 : decode cX9_set 139 = .ok (.iload_n 2, 1) := by decide +kernel
theorem dX9_set_140 : decode cX9_set 140 = .ok (.iaload, 1) := by decide +kernel
theorem dX9_set_141 : decode cX9_set 141 = .ok (.goto 75, 3) := by decide +kernel
theorem dX9_set_144 : decode cX9_set 144 = .ok (.iload_n 1, 1) := by decide +kernel
theorem dX9_set_145 : decode cX9_set 145 = .ok (.iconst 1, 1) := by decide +kernel
theorem dX9_set_146 : decode cX9_set 146 = .ok (.if_icmp .ne 12, 3) := by decide +kernel
theorem dX9_set_149 : decode cX9_set 149 = .ok (.aload_n 0, 1) := by decide +kernel
theorem dX9_set_150 : decode cX9_set 150 = .ok (.getfield 26, 3) := by decide +kernel
theorem dX9_set_153 : decode cX9_set 153 = .ok (.iload_n 2, 1) := by decide +kernel
theorem dX9_set_154 : decode cX9_set 154 = .ok (.iaload, 1) := by decide +kernel
theorem dX9_set_155 : decode cX9_set 155 = .ok (.goto 61, 3) := by decide +kernel
theorem dX9_set_158 : decode cX9_set 158 = .ok (.iload_n 1, 1) := by decide +kernel
theorem dX9_set_159 : decode cX9_set 159 = .ok (.iconst 2, 1) := by decide +kernel
theorem dX9_set_160 : decode cX9_set 160 = .ok (.if_icmp .ne 12, 3) := by decide +kernel
theorem dX9_set_163 : decode cX9_set 163 = .ok (.aload_n 0, 1) := by decide +kernel
theorem dX9_set_164 : decode cX9_set 164 = .ok (.getfield 32, 3) := by decide +kernel
theorem dX9_set_167 : decode cX9_set 167 = .ok (.iload_n 2, 1) := by decide +kernel
theorem dX9_set_168 : decode cX9_set 168 = .ok (.iaload, 1) := by decide +kernel
theorem dX9_set_169 : decode cX9_set 169 = .ok (.goto 47, 3) := by decide +kernel
theorem dX9_set_172 : decode cX9_set 172 = .ok (.iload_n 1, 1) := by decide +kernel
theorem dX9_set_173 : decode cX9_set 173 = .ok (.iconst 3, 1) := by decide +kernel
theorem dX9_set_174 : decode cX9_set 174 = .ok (.if_icmp .ne 12, 3) := by decide +kernel
theorem dX9_set_177 : decode cX9_set 177 = .ok (.aload_n 0, 1) := by decide +kernel
theorem dX9_set_178 : decode cX9_set 178 = .ok (.getfield 35, 3) := by decide +kernel
theorem dX9_set_181 : decode cX9_set 181 = .ok (.iload_n 2, 1) := by decide +kernel
theorem dX9_set_182 : decode cX9_set 182 = .ok (.iaload, 1) := by decide +kernel
theorem dX9_set_183 : decode cX9_set 183 = .ok (.goto 33, 3) := by decide +kernel
theorem dX9_set_186 : decode cX9_set 186 = .ok (.iload_n 1, 1) := by decide +kernel
theorem dX9_set_187 : decode cX9_set 187 = .ok (.iconst 4, 1) := by decide +kernel
theorem dX9_set_188 : decode cX9_set 188 = .ok (.if_icmp .ne 12, 3) := by decide +kernel
theorem dX9_set_191 : decode cX9_set 191 = .ok (.aload_n 0, 1) := by decide +kernel
theorem dX9_set_192 : decode cX9_set 192 = .ok (.getfield 38, 3) := by decide +kernel
theorem dX9_set_195 : decode cX9_set 195 = .ok (.iload_n 2, 1) := by decide +kernel
theorem dX9_set_196 : decode cX9_set 196 = .ok (.iaload, 1) := by decide +kernel
theorem dX9_set_197 : decode cX9_set 197 = .ok (.goto 19, 3) := by decide +kernel
theorem dX9_set_200 : decode cX9_set 200 = .ok (.iload_n 1, 1) := by decide +kernel
theorem dX9_set_201 : decode cX9_set 201 = .ok (.iconst 5, 1) := by decide +kernel
theorem dX9_set_202 : decode cX9_set 202 = .ok (.if_icmp .ne 10, 3) := by decide +kernel
theorem dX9_set_205 : decode cX9_set 205 = .ok (.aload_n 0, 1) := by decide +kernel
theorem dX9_set_206 : decode cX9_set 206 = .ok (.getfield 127, 3) := by decide +kernel
theorem dX9_set_209 : decode cX9_set 209 = .ok (.goto 7, 3) := by decide +kernel
theorem dX9_set_212 : decode cX9_set 212 = .ok (.aload_n 0, 1) := by decide +kernel
theorem dX9_set_213 : decode cX9_set 213 = .ok (.getfield 41, 3) := by decide +kernel
theorem dX9_set_216 : decode cX9_set 216 = .ok (.istore 4, 2) := by decide +kernel
theorem dX9_set_218 : decode cX9_set 218 = .ok (.iload_n 1, 1) := by decide +kernel
theorem dX9_set_219 : decode cX9_set 219 = .ok (.ifCond .ne 13, 3) := by decide +kernel
theorem dX9_set_222 : decode cX9_set 222 = .ok (.aload_n 0, 1) := by decide +kernel
theorem dX9_set_223 : decode cX9_set 223 = .ok (.getfield 23, 3) := by decide +kernel
theorem dX9_set_226 : decode cX9_set 226 = .ok (.iload_n 2, 1) := by decide +kernel
theorem dX9_set_227 : decode cX9_set 227 = .ok (.iload_n 3, 1) := by decide +kernel
theorem dX9_set_228 : decode cX9_set 228 = .ok (.iastore, 1) := by decide +kernel
theorem dX9_set_229 : decode cX9_set 229 = .ok (.goto 81, 3) := by decide +kernel
theorem dX9_set_232 : decode cX9_set 232 = .ok (.iload_n 1, 1) := by decide +kernel
theorem dX9_set_233 : decode cX9_set 233 = .ok (.iconst 1, 1) := by decide +kernel
theorem dX9_set_234 : decode cX9_set 234 = .ok (.if_icmp .ne 13, 3) := by decide +kernel
theorem dX9_set_237 : decode cX9_set 237 = .ok (.aload_n 0, 1) := by decide +kernel
theorem dX9_set_238 : decode cX9_set 238 = .ok (.getfield 26, 3) := by decide +kernel
theorem dX9_set_241 : decode cX9_set 241 = .ok (.iload_n 2, 1) := by decide +kernel
theorem dX9_set_242 : decode cX9_set 242 = .ok (.iload_n 3, 1) := by decide +kernel
theorem dX9_set_243 : decode cX9_set 243 = .ok (.iastore, 1) := by decide +kernel
theorem dX9_set_244 : decode cX9_set 244 = .ok (.goto 66, 3) := by decide +kernel
theorem dX9_set_247 : decode cX9_set 247 = .ok (.iload_n 1, 1) := by decide +kernel
theorem dX9_set_248 : decode cX9_set 248 = .ok (.iconst 2, 1) := by decide +kernel
theorem dX9_set_249 : decode cX9_set 249 = .ok (.if_icmp .ne 13, 3) := by decide +kernel
theorem dX9_set_252 : decode cX9_set 252 = .ok (.aload_n 0, 1) := by decide +kernel
theorem dX9_set_253 : decode cX9_set 253 = .ok (.getfield 32, 3) := by decide +kernel
theorem dX9_set_256 : decode cX9_set 256 = .ok (.iload_n 2, 1) := by decide +kernel
theorem dX9_set_257 : decode cX9_set 257 = .ok (.iload_n 3, 1) := by decide +kernel
theorem dX9_set_258 : decode cX9_set 258 = .ok (.iastore, 1) := by decide +kernel
theorem dX9_set_259 : decode cX9_set 259 = .ok (.goto 51, 3) := by decide +kernel
theorem dX9_set_262 : decode cX9_set 262 = .ok (.iload_n 1, 1) := by decide +kernel
theorem dX9_set_263 : decode cX9_set 263 = .ok (.iconst 3, 1) := by decide +kernel
theorem dX9_set_264 : decode cX9_set 264 = .ok (.if_icmp .ne 13, 3) := by decide +kernel
theorem dX9_set_267 : decode cX9_set 267 = .ok (.aload_n 0, 1) := by decide +kernel
theorem dX9_set_268 : decode cX9_set 268 = .ok (.getfield 35, 3) := by decide +kernel
theorem dX9_set_271 : decode cX9_set 271 = .ok (.iload_n 2, 1) := by decide +kernel
theorem dX9_set_272 : decode cX9_set 272 = .ok (.iload_n 3, 1) := by decide +kernel
theorem dX9_set_273 : decode cX9_set 273 = .ok (.iastore, 1) := by decide +kernel
theorem dX9_set_274 : decode cX9_set 274 = .ok (.goto 36, 3) := by decide +kernel
theorem dX9_set_277 : decode cX9_set 277 = .ok (.iload_n 1, 1) := by decide +kernel
theorem dX9_set_278 : decode cX9_set 278 = .ok (.iconst 4, 1) := by decide +kernel
theorem dX9_set_279 : decode cX9_set 279 = .ok (.if_icmp .ne 13, 3) := by decide +kernel
theorem dX9_set_282 : decode cX9_set 282 = .ok (.aload_n 0, 1) := by decide +kernel
theorem dX9_set_283 : decode cX9_set 283 = .ok (.getfield 38, 3) := by decide +kernel
theorem dX9_set_286 : decode cX9_set 286 = .ok (.iload_n 2, 1) := by decide +kernel
theorem dX9_set_287 : decode cX9_set 287 = .ok (.iload_n 3, 1) := by decide +kernel
theorem dX9_set_288 : decode cX9_set 288 = .ok (.iastore, 1) := by decide +kernel
theorem dX9_set_289 : decode cX9_set 289 = .ok (.goto 21, 3) := by decide +kernel
theorem dX9_set_292 : decode cX9_set 292 = .ok (.iload_n 1, 1) := by decide +kernel
theorem dX9_set_293 : decode cX9_set 293 = .ok (.iconst 5, 1) := by decide +kernel
theorem dX9_set_294 : decode cX9_set 294 = .ok (.if_icmp .ne 11, 3) := by decide +kernel
theorem dX9_set_297 : decode cX9_set 297 = .ok (.aload_n 0, 1) := by decide +kernel
theorem dX9_set_298 : decode cX9_set 298 = .ok (.iload_n 3, 1) := by decide +kernel
theorem dX9_set_299 : decode cX9_set 299 = .ok (.putfield 127, 3) := by decide +kernel
theorem dX9_set_302 : decode cX9_set 302 = .ok (.goto 8, 3) := by decide +kernel
theorem dX9_set_305 : decode cX9_set 305 = .ok (.aload_n 0, 1) := by decide +kernel
theorem dX9_set_306 : decode cX9_set 306 = .ok (.iload_n 3, 1) := by decide +kernel
theorem dX9_set_307 : decode cX9_set 307 = .ok (.putfield 41, 3) := by decide +kernel
theorem dX9_set_310 : decode cX9_set 310 = .ok (.iload 4, 2) := by decide +kernel
theorem dX9_set_312 : decode cX9_set 312 = .ok (.ireturn, 1) := by decide +kernel
theorem dX9_told_0 : decode cX9_told 0 = .ok (.iload_n 2, 1) := by decide +kernel
theorem dX9_told_1 : decode cX9_told 1 = .ok (.i2l, 1) := by decide +kernel
theorem dX9_told_2 : decode cX9_told 2 = .ok (.lconst 0, 1) := by decide +kernel
theorem dX9_told_3 : decode cX9_told 3 = .ok (.ldc2_w 105, 3) := by decide +kernel
theorem dX9_told_6 : decode cX9_told 6 = .ok (.invokestatic 94, 3) := by decide +kernel
theorem dX9_told_9 : decode cX9_told 9 = .ok (.ifCond .eq 27, 3) := by decide +kernel
theorem dX9_told_12 : decode cX9_told 12 = .ok (.iload_n 2, 1) := by decide +kernel
theorem dX9_told_13 : decode cX9_told 13 = .ok (.iconst 2, 1) := by decide +kernel
theorem dX9_told_14 : decode cX9_told 14 = .ok (.if_icmp .ge 14, 3) := by decide +kernel
theorem dX9_told_17 : decode cX9_told 17 = .ok (.aload_n 0, 1) := by decide +kernel
theorem dX9_told_18 : decode cX9_told 18 = .ok (.iload_n 1, 1) := by decide +kernel
theorem dX9_told_19 : decode cX9_told 19 = .ok (.invokevirtual 109, 3) := by decide +kernel
theorem dX9_told_22 : decode cX9_told 22 = .ok (.ifCond .eq 14, 3) := by decide +kernel
theorem dX9_told_25 : decode cX9_told 25 = .ok (.goto 14, 3) := by decide +kernel
theorem dX9_told_28 : decode cX9_told 28 = .ok (.aload_n 0, 1) := by decide +kernel
theorem dX9_told_29 : decode cX9_told 29 = .ok (.iload_n 1, 1) := by decide +kernel
theorem dX9_told_30 : decode cX9_told 30 = .ok (.invokevirtual 119, 3) := by decide +kernel
theorem dX9_told_33 : decode cX9_told 33 = .ok (.ifCond .ne 6, 3) := by decide +kernel
theorem dX9_told_36 : decode cX9_told 36 = .ok (.bipush (-2), 2) := by decide +kernel
theorem dX9_told_38 : decode cX9_told 38 = .ok (.ireturn, 1) := by decide +kernel
theorem dX9_told_39 : decode cX9_told 39 = .ok (.iload_n 2, 1) := by decide +kernel
theorem dX9_told_40 : decode cX9_told 40 = .ok (.iconst 2, 1) := by decide +kernel
theorem dX9_told_41 : decode cX9_told 41 = .ok (.if_icmp .ge 23, 3) := by decide +kernel
theorem dX9_told_44 : decode cX9_told 44 = .ok (.iload_n 2, 1) := by decide +kernel
theorem dX9_told_45 : decode cX9_told 45 = .ok (.ifCond .ne 12, 3) := by decide +kernel
theorem dX9_told_48 : decode cX9_told 48 = .ok (.aload_n 0, 1) := by decide +kernel
theorem dX9_told_49 : decode cX9_told 49 = .ok (.getfield 23, 3) := by decide +kernel
theorem dX9_told_52 : decode cX9_told 52 = .ok (.iload_n 1, 1) := by decide +kernel
theorem dX9_told_53 : decode cX9_told 53 = .ok (.iaload, 1) := by decide +kernel
theorem dX9_told_54 : decode cX9_told 54 = .ok (.goto 9, 3) := by decide +kernel
theorem dX9_told_57 : decode cX9_told 57 = .ok (.aload_n 0, 1) := by decide +kernel
theorem dX9_told_58 : decode cX9_told 58 = .ok (.getfield 26, 3) := by decide +kernel
theorem dX9_told_61 : decode cX9_told 61 = .ok (.iload_n 1, 1) := by decide +kernel
theorem dX9_told_62 : decode cX9_told 62 = .ok (.iaload, 1) := by decide +kernel
theorem dX9_told_63 : decode cX9_told 63 = .ok (.ireturn, 1) := by decide +kernel
theorem dX9_told_64 : decode cX9_told 64 = .ok (.iload_n 2, 1) := by decide +kernel
theorem dX9_told_65 : decode cX9_told 65 = .ok (.iconst 2, 1) := by decide +kernel
theorem dX9_told_66 : decode cX9_told 66 = .ok (.if_icmp .ne 12, 3) := by decide +kernel
theorem dX9_told_69 : decode cX9_told 69 = .ok (.aload_n 0, 1) := by decide +kernel
theorem dX9_told_70 : decode cX9_told 70 = .ok (.getfield 32, 3) := by decide +kernel
theorem dX9_told_73 : decode cX9_told 73 = .ok (.iload_n 1, 1) := by decide +kernel
theorem dX9_told_74 : decode cX9_told 74 = .ok (.iaload, 1) := by decide +kernel
theorem dX9_told_75 : decode cX9_told 75 = .ok (.goto 37, 3) := by decide +kernel
theorem dX9_told_78 : decode cX9_told 78 = .ok (.iload_n 2, 1) := by decide +kernel
theorem dX9_told_79 : decode cX9_told 79 = .ok (.iconst 3, 1) := by decide +kernel
theorem dX9_told_80 : decode cX9_told 80 = .ok (.if_icmp .ne 12, 3) := by decide +kernel
theorem dX9_told_83 : decode cX9_told 83 = .ok (.aload_n 0, 1) := by decide +kernel
theorem dX9_told_84 : decode cX9_told 84 = .ok (.getfield 35, 3) := by decide +kernel
theorem dX9_told_87 : decode cX9_told 87 = .ok (.iload_n 1, 1) := by decide +kernel
theorem dX9_told_88 : decode cX9_told 88 = .ok (.iaload, 1) := by decide +kernel
theorem dX9_told_89 : decode cX9_told 89 = .ok (.goto 23, 3) := by decide +kernel
theorem dX9_told_92 : decode cX9_told 92 = .ok (.iload_n 2, 1) := by decide +kernel
theorem dX9_told_93 : decode cX9_told 93 = .ok (.iconst 4, 1) := by decide +kernel
theorem dX9_told_94 : decode cX9_told 94 = .ok (.if_icmp .ne 12, 3) := by decide +kernel
theorem dX9_told_97 : decode cX9_told 97 = .ok (.aload_n 0, 1) := by decide +kernel
theorem dX9_told_98 : decode cX9_told 98 = .ok (.getfield 38, 3) := by decide +kernel
theorem dX9_told_101 : decode cX9_told 101 = .ok (.iload_n 1, 1) := by decide +kernel
theorem dX9_told_102 : decode cX9_told 102 = .ok (.iaload, 1) := by decide +kernel
theorem dX9_told_103 : decode cX9_told 103 = .ok (.goto 9, 3) := by decide +kernel
theorem dX9_told_106 : decode cX9_told 106 = .ok (.aload_n 0, 1) := by decide +kernel
theorem dX9_told_107 : decode cX9_told 107 = .ok (.getfield 29, 3) := by decide +kernel
theorem dX9_told_110 : decode cX9_told 110 = .ok (.iload_n 1, 1) := by decide +kernel
theorem dX9_told_111 : decode cX9_told 111 = .ok (.iaload, 1) := by decide +kernel
theorem dX9_told_112 : decode cX9_told 112 = .ok (.ireturn, 1) := by decide +kernel
theorem dX9_moves_0 : decode cX9_moves 0 = .ok (.aload_n 0, 1) := by decide +kernel
theorem dX9_moves_1 : decode cX9_moves 1 = .ok (.getfield 29, 3) := by decide +kernel
theorem dX9_moves_4 : decode cX9_moves 4 = .ok (.iload_n 1, 1) := by decide +kernel
theorem dX9_moves_5 : decode cX9_moves 5 = .ok (.iaload, 1) := by decide +kernel
theorem dX9_moves_6 : decode cX9_moves 6 = .ok (.istore_n 3, 1) := by decide +kernel
theorem dX9_moves_7 : decode cX9_moves 7 = .ok (.iconst 1, 1) := by decide +kernel
theorem dX9_moves_8 : decode cX9_moves 8 = .ok (.aload_n 0, 1) := by decide +kernel
theorem dX9_moves_9 : decode cX9_moves 9 = .ok (.getfield 32, 3) := by decide +kernel
theorem dX9_moves_12 : decode cX9_moves 12 = .ok (.iload_n 1, 1) := by decide +kernel
theorem dX9_moves_13 : decode cX9_moves 13 = .ok (.iaload, 1) := by decide +kernel
theorem dX9_moves_14 : decode cX9_moves 14 = .ok (.isub, 1) := by decide +kernel
theorem dX9_moves_15 : decode cX9_moves 15 = .ok (.istore 4, 2) := by decide +kernel
theorem dX9_moves_17 : decode cX9_moves 17 = .ok (.iconst 1, 1) := by decide +kernel
theorem dX9_moves_18 : decode cX9_moves 18 = .ok (.aload_n 0, 1) := by decide +kernel
theorem dX9_moves_19 : decode cX9_moves 19 = .ok (.getfield 32, 3) := by decide +kernel
theorem dX9_moves_22 : decode cX9_moves 22 = .ok (.iload_n 1, 1) := by decide +kernel
theorem dX9_moves_23 : decode cX9_moves 23 = .ok (.iaload, 1) := by decide +kernel
theorem dX9_moves_24 : decode cX9_moves 24 = .ok (.iadd, 1) := by decide +kernel
theorem dX9_moves_25 : decode cX9_moves 25 = .ok (.istore 5, 2) := by decide +kernel
theorem dX9_moves_27 : decode cX9_moves 27 = .ok (.iload_n 3, 1) := by decide +kernel
theorem dX9_moves_28 : decode cX9_moves 28 = .ok (.iconst 1, 1) := by decide +kernel
theorem dX9_moves_29 : decode cX9_moves 29 = .ok (.if_icmp .eq 8, 3) := by decide +kernel
theorem dX9_moves_32 : decode cX9_moves 32 = .ok (.iload_n 3, 1) := by decide +kernel
theorem dX9_moves_33 : decode cX9_moves 33 = .ok (.iconst 3, 1) := by decide +kernel
theorem dX9_moves_34 : decode cX9_moves 34 = .ok (.if_icmp .ne 19, 3) := by decide +kernel
theorem dX9_moves_37 : decode cX9_moves 37 = .ok (.iload_n 3, 1) := by decide +kernel
theorem dX9_moves_38 : decode cX9_moves 38 = .ok (.iconst 3, 1) := by decide +kernel
theorem dX9_moves_39 : decode cX9_moves 39 = .ok (.if_icmp .ne 11, 3) := by decide +kernel
theorem dX9_moves_42 : decode cX9_moves 42 = .ok (.iload_n 2, 1) := by decide +kernel
theorem dX9_moves_43 : decode cX9_moves 43 = .ok (.ifCond .ge 7, 3) := by decide +kernel
theorem dX9_moves_46 : decode cX9_moves 46 = .ok (.iconst 0, 1) := by decide +kernel
theorem dX9_moves_47 : decode cX9_moves 47 = .ok (.goto 5, 3) := by decide +kernel
theorem dX9_moves_50 : decode cX9_moves 50 = .ok (.iload 4, 2) := by decide +kernel
theorem dX9_moves_52 : decode cX9_moves 52 = .ok (.ireturn, 1) := by decide +kernel
theorem dX9_moves_53 : decode cX9_moves 53 = .ok (.iload_n 3, 1) := by decide +kernel
theorem dX9_moves_54 : decode cX9_moves 54 = .ok (.iconst 4, 1) := by decide +kernel
theorem dX9_moves_55 : decode cX9_moves 55 = .ok (.if_icmp .ne 17, 3) := by decide +kernel
theorem dX9_moves_58 : decode cX9_moves 58 = .ok (.iload_n 2, 1) := by decide +kernel
theorem dX9_moves_59 : decode cX9_moves 59 = .ok (.ifCond .ge 10, 3) := by decide +kernel
theorem dX9_moves_62 : decode cX9_moves 62 = .ok (.iconst 2, 1) := by decide +kernel
theorem dX9_moves_63 : decode cX9_moves 63 = .ok (.iload 5, 2) := by decide +kernel
theorem dX9_moves_65 : decode cX9_moves 65 = .ok (.imul, 1) := by decide +kernel
theorem dX9_moves_66 : decode cX9_moves 66 = .ok (.goto 5, 3) := by decide +kernel
theorem dX9_moves_69 : decode cX9_moves 69 = .ok (.iload 5, 2) := by decide +kernel
theorem dX9_moves_71 : decode cX9_moves 71 = .ok (.ireturn, 1) := by decide +kernel
theorem dX9_moves_72 : decode cX9_moves 72 = .ok (.iload_n 3, 1) := by decide +kernel
theorem dX9_moves_73 : decode cX9_moves 73 = .ok (.iconst 2, 1) := by decide +kernel
theorem dX9_moves_74 : decode cX9_moves 74 = .ok (.if_icmp .ne 8, 3) := by decide +kernel
theorem dX9_moves_77 : decode cX9_moves 77 = .ok (.iload 5, 2) := by decide +kernel
theorem dX9_moves_79 : decode cX9_moves 79 = .ok (.goto 16, 3) := by decide +kernel
theorem dX9_moves_82 : decode cX9_moves 82 = .ok (.iload_n 3, 1) := by decide +kernel
theorem dX9_moves_83 : decode cX9_moves 83 = .ok (.iconst 5, 1) := by decide +kernel
theorem dX9_moves_84 : decode cX9_moves 84 = .ok (.if_icmp .ne 10, 3) := by decide +kernel
theorem dX9_moves_87 : decode cX9_moves 87 = .ok (.iload 5, 2) := by decide +kernel
theorem dX9_moves_89 : decode cX9_moves 89 = .ok (.iconst 2, 1) := by decide +kernel
theorem dX9_moves_90 : decode cX9_moves 90 = .ok (.idiv, 1) := by decide +kernel
theorem dX9_moves_91 : decode cX9_moves 91 = .ok (.goto 4, 3) := by decide +kernel
theorem dX9_moves_94 : decode cX9_moves 94 = .ok (.iconst 1, 1) := by decide +kernel
theorem dX9_moves_95 : decode cX9_moves 95 = .ok (.ireturn, 1) := by decide +kernel
theorem dX9_thirst_0 : decode cX9_thirst 0 = .ok (.aload_n 0, 1) := by decide +kernel
theorem dX9_thirst_1 : decode cX9_thirst 1 = .ok (.getfield 29, 3) := by decide +kernel
theorem dX9_thirst_4 : decode cX9_thirst 4 = .ok (.iload_n 1, 1) := by decide +kernel
theorem dX9_thirst_5 : decode cX9_thirst 5 = .ok (.iaload, 1) := by decide +kernel
theorem dX9_thirst_6 : decode cX9_thirst 6 = .ok (.istore_n 3, 1) := by decide +kernel
theorem dX9_thirst_7 : decode cX9_thirst 7 = .ok (.iload_n 2, 1) := by decide +kernel
theorem dX9_thirst_8 : decode cX9_thirst 8 = .ok (.istore 4, 2) := by decide +kernel
theorem dX9_thirst_10 : decode cX9_thirst 10 = .ok (.iload_n 3, 1) := by decide +kernel
theorem dX9_thirst_11 : decode cX9_thirst 11 = .ok (.iconst 1, 1) := by decide +kernel
theorem dX9_thirst_12 : decode cX9_thirst 12 = .ok (.if_icmp .ne 8, 3) := by decide +kernel
theorem dX9_thirst_15 : decode cX9_thirst 15 = .ok (.iload_n 2, 1) := by decide +kernel
theorem dX9_thirst_16 : decode cX9_thirst 16 = .ok (.iconst 2, 1) := by decide +kernel
theorem dX9_thirst_17 : decode cX9_thirst 17 = .ok (.idiv, 1) := by decide +kernel
theorem dX9_thirst_18 : decode cX9_thirst 18 = .ok (.istore 4, 2) := by decide +kernel
theorem dX9_thirst_20 : decode cX9_thirst 20 = .ok (.iload_n 3, 1) := by decide +kernel
theorem dX9_thirst_21 : decode cX9_thirst 21 = .ok (.iconst 3, 1) := by decide +kernel
theorem dX9_thirst_22 : decode cX9_thirst 22 = .ok (.if_icmp .ne 15, 3) := by decide +kernel
theorem dX9_thirst_25 : decode cX9_thirst 25 = .ok (.iload_n 2, 1) := by decide +kernel
theorem dX9_thirst_26 : decode cX9_thirst 26 = .ok (.iconst 2, 1) := by decide +kernel
theorem dX9_thirst_27 : decode cX9_thirst 27 = .ok (.idiv, 1) := by decide +kernel
theorem dX9_thirst_28 : decode cX9_thirst 28 = .ok (.aload_n 0, 1) := by decide +kernel
theorem dX9_thirst_29 : decode cX9_thirst 29 = .ok (.getfield 32, 3) := by decide +kernel
theorem dX9_thirst_32 : decode cX9_thirst 32 = .ok (.iload_n 1, 1) := by decide +kernel
theorem dX9_thirst_33 : decode cX9_thirst 33 = .ok (.iaload, 1) := by decide +kernel
theorem dX9_thirst_34 : decode cX9_thirst 34 = .ok (.iadd, 1) := by decide +kernel
theorem dX9_thirst_35 : decode cX9_thirst 35 = .ok (.istore 4, 2) := by decide +kernel
theorem dX9_thirst_37 : decode cX9_thirst 37 = .ok (.iload_n 3, 1) := by decide +kernel
theorem dX9_thirst_38 : decode cX9_thirst 38 = .ok (.iconst 4, 1) := by decide +kernel
theorem dX9_thirst_39 : decode cX9_thirst 39 = .ok (.if_icmp .ne 8, 3) := by decide +kernel
theorem dX9_thirst_42 : decode cX9_thirst 42 = .ok (.iload_n 2, 1) := by decide +kernel
theorem dX9_thirst_43 : decode cX9_thirst 43 = .ok (.iconst 1, 1) := by decide +kernel
theorem dX9_thirst_44 : decode cX9_thirst 44 = .ok (.iadd, 1) := by decide +kernel
theorem dX9_thirst_45 : decode cX9_thirst 45 = .ok (.istore 4, 2) := by decide +kernel
theorem dX9_thirst_47 : decode cX9_thirst 47 = .ok (.iload_n 3, 1) := by decide +kernel
theorem dX9_thirst_48 : decode cX9_thirst 48 = .ok (.iconst 5, 1) := by decide +kernel
theorem dX9_thirst_49 : decode cX9_thirst 49 = .ok (.if_icmp .ne 8, 3) := by decide +kernel
theorem dX9_thirst_52 : decode cX9_thirst 52 = .ok (.iload_n 2, 1) := by decide +kernel
theorem dX9_thirst_53 : decode cX9_thirst 53 = .ok (.iconst 3, 1) := by decide +kernel
theorem dX9_thirst_54 : decode cX9_thirst 54 = .ok (.iadd, 1) := by decide +kernel
theorem dX9_thirst_55 : decode cX9_thirst 55 = .ok (.istore 4, 2) := by decide +kernel
theorem dX9_thirst_57 : decode cX9_thirst 57 = .ok (.iload 4, 2) := by decide +kernel
theorem dX9_thirst_59 : decode cX9_thirst 59 = .ok (.ifCond .ge 7, 3) := by decide +kernel
theorem dX9_thirst_62 : decode cX9_thirst 62 = .ok (.iconst 0, 1) := by decide +kernel
theorem dX9_thirst_63 : decode cX9_thirst 63 = .ok (.goto 5, 3) := by decide +kernel
theorem dX9_thirst_66 : decode cX9_thirst 66 = .ok (.iload 4, 2) := by decide +kernel
theorem dX9_thirst_68 : decode cX9_thirst 68 = .ok (.ireturn, 1) := by decide +kernel
theorem dX9_feed_0 : decode cX9_feed 0 = .ok (.iload_n 1, 1) := by decide +kernel
theorem dX9_feed_1 : decode cX9_feed 1 = .ok (.i2l, 1) := by decide +kernel
theorem dX9_feed_2 : decode cX9_feed 2 = .ok (.lconst 0, 1) := by decide +kernel
theorem dX9_feed_3 : decode cX9_feed 3 = .ok (.ldc2_w 130, 3) := by decide +kernel
theorem dX9_feed_6 : decode cX9_feed 6 = .ok (.invokestatic 94, 3) := by decide +kernel
theorem dX9_feed_9 : decode cX9_feed 9 = .ok (.ifCond .ne 6, 3) := by decide +kernel
theorem dX9_feed_12 : decode cX9_feed 12 = .ok (.bipush (-2), 2) := by decide +kernel
theorem dX9_feed_14 : decode cX9_feed 14 = .ok (.ireturn, 1) := by decide +kernel
theorem dX9_feed_15 : decode cX9_feed 15 = .ok (.aload_n 0, 1) := by decide +kernel
theorem dX9_feed_16 : decode cX9_feed 16 = .ok (.getfield 132, 3) := by decide +kernel
theorem dX9_feed_19 : decode cX9_feed 19 = .ok (.sipush 160, 3) := by decide +kernel
theorem dX9_feed_22 : decode cX9_feed 22 = .ok (.if_icmp .ne 6, 3) := by decide +kernel
theorem dX9_feed_25 : decode cX9_feed 25 = .ok (.bipush (-4), 2) := by decide +kernel
theorem dX9_feed_27 : decode cX9_feed 27 = .ok (.ireturn, 1) := by decide +kernel
theorem dX9_feed_28 : decode cX9_feed 28 = .ok (.aload_n 0, 1) := by decide +kernel
theorem dX9_feed_29 : decode cX9_feed 29 = .ok (.getfield 20, 3) := by decide +kernel
theorem dX9_feed_32 : decode cX9_feed 32 = .ok (.aload_n 0, 1) := by decide +kernel
theorem dX9_feed_33 : decode cX9_feed 33 = .ok (.getfield 132, 3) := by decide +kernel
theorem dX9_feed_36 : decode cX9_feed 36 = .ok (.iload_n 1, 1) := by decide +kernel
theorem dX9_feed_37 : decode cX9_feed 37 = .ok (.iastore, 1) := by decide +kernel
theorem dX9_feed_38 : decode cX9_feed 38 = .ok (.aload_n 0, 1) := by decide +kernel
theorem dX9_feed_39 : decode cX9_feed 39 = .ok (.dup, 1) := by decide +kernel
theorem dX9_feed_40 : decode cX9_feed 40 = .ok (.getfield 132, 3) := by decide +kernel
theorem dX9_feed_43 : decode cX9_feed 43 = .ok (.iconst 1, 1) := by decide +kernel
theorem dX9_feed_44 : decode cX9_feed 44 = .ok (.iadd, 1) := by decide +kernel
theorem dX9_feed_45 : decode cX9_feed 45 = .ok (.putfield 132, 3) := by decide +kernel
theorem dX9_feed_48 : decode cX9_feed 48 = .ok (.aload_n 0, 1) := by decide +kernel
theorem dX9_feed_49 : decode cX9_feed 49 = .ok (.getfield 132, 3) := by decide +kernel
theorem dX9_feed_52 : decode cX9_feed 52 = .ok (.ireturn, 1) := by decide +kernel
theorem dX9_byteAt_0 : decode cX9_byteAt 0 = .ok (.iload_n 1, 1) := by decide +kernel
theorem dX9_byteAt_1 : decode cX9_byteAt 1 = .ok (.aload_n 0, 1) := by decide +kernel
theorem dX9_byteAt_2 : decode cX9_byteAt 2 = .ok (.getfield 135, 3) := by decide +kernel
theorem dX9_byteAt_5 : decode cX9_byteAt 5 = .ok (.if_icmp .ge 17, 3) := by decide +kernel
theorem dX9_byteAt_8 : decode cX9_byteAt 8 = .ok (.aload_n 0, 1) := by decide +kernel
theorem dX9_byteAt_9 : decode cX9_byteAt 9 = .ok (.getfield 13, 3) := by decide +kernel
theorem dX9_byteAt_12 : decode cX9_byteAt 12 = .ok (.aload_n 0, 1) := by decide +kernel
theorem dX9_byteAt_13 : decode cX9_byteAt 13 = .ok (.getfield 138, 3) := by decide +kernel
theorem dX9_byteAt_16 : decode cX9_byteAt 16 = .ok (.iload_n 1, 1) := by decide +kernel
theorem dX9_byteAt_17 : decode cX9_byteAt 17 = .ok (.iadd, 1) := by decide +kernel
theorem dX9_byteAt_18 : decode cX9_byteAt 18 = .ok (.iaload, 1) := by decide +kernel
theorem dX9_byteAt_19 : decode cX9_byteAt 19 = .ok (.goto 4, 3) := by decide +kernel
theorem dX9_byteAt_22 : decode cX9_byteAt 22 = .ok (.iconst (-1), 1) := by decide +kernel
theorem dX9_byteAt_23 : decode cX9_byteAt 23 = .ok (.ireturn, 1) := by decide +kernel
theorem dX9_next_0 : decode cX9_next 0 = .ok (.aload_n 0, 1) := by decide +kernel
theorem dX9_next_1 : decode cX9_next 1 = .ok (.aload_n 0, 1) := by decide +kernel
theorem dX9_next_2 : decode cX9_next 2 = .ok (.getfield 141, 3) := by decide +kernel
theorem dX9_next_5 : decode cX9_next 5 = .ok (.invokevirtual 144, 3) := by decide +kernel
theorem dX9_next_8 : decode cX9_next 8 = .ok (.bipush 32, 2) := by decide +kernel
theorem dX9_next_10 : decode cX9_next 10 = .ok (.if_icmp .eq 16, 3) := by decide +kernel
theorem dX9_next_13 : decode cX9_next 13 = .ok (.aload_n 0, 1) := by decide +kernel
theorem dX9_next_14 : decode cX9_next 14 = .ok (.aload_n 0, 1) := by decide +kernel
theorem dX9_next_15 : decode cX9_next 15 = .ok (.getfield 141, 3) := by decide +kernel
theorem dX9_next_18 : decode cX9_next 18 = .ok (.invokevirtual 144, 3) := by decide +kernel
theorem dX9_next_21 : decode cX9_next 21 = .ok (.bipush 10, 2) := by decide +kernel
theorem dX9_next_23 : decode cX9_next 23 = .ok (.if_icmp .ne 16, 3) := by decide +kernel
theorem dX9_next_26 : decode cX9_next 26 = .ok (.aload_n 0, 1) := by decide +kernel
theorem dX9_next_27 : decode cX9_next 27 = .ok (.dup, 1) := by decide +kernel
theorem dX9_next_28 : decode cX9_next 28 = .ok (.getfield 141, 3) := by decide +kernel
theorem dX9_next_31 : decode cX9_next 31 = .ok (.iconst 1, 1) := by decide +kernel
theorem dX9_next_32 : decode cX9_next 32 = .ok (.iadd, 1) := by decide +kernel
theorem dX9_next_33 : decode cX9_next 33 = .ok (.putfield 141, 3) := by decide +kernel
theorem dX9_next_36 : decode cX9_next 36 = .ok (.goto (-36), 3) := by decide +kernel
theorem dX9_next_39 : decode cX9_next 39 = .ok (.aload_n 0, 1) := by decide +kernel
theorem dX9_next_40 : decode cX9_next 40 = .ok (.aload_n 0, 1) := by decide +kernel
theorem dX9_next_41 : decode cX9_next 41 = .ok (.getfield 141, 3) := by decide +kernel
theorem dX9_next_44 : decode cX9_next 44 = .ok (.putfield 148, 3) := by decide +kernel
theorem dX9_next_47 : decode cX9_next 47 = .ok (.aload_n 0, 1) := by decide +kernel
theorem dX9_next_48 : decode cX9_next 48 = .ok (.aload_n 0, 1) := by decide +kernel
theorem dX9_next_49 : decode cX9_next 49 = .ok (.getfield 141, 3) := by decide +kernel
theorem dX9_next_52 : decode cX9_next 52 = .ok (.invokevirtual 144, 3) := by decide +kernel
theorem dX9_next_55 : decode cX9_next 55 = .ok (.istore_n 1, 1) := by decide +kernel
theorem dX9_next_56 : decode cX9_next 56 = .ok (.aload_n 0, 1) := by decide +kernel
theorem dX9_next_57 : decode cX9_next 57 = .ok (.iconst 4, 1) := by decide +kernel
theorem dX9_next_58 : decode cX9_next 58 = .ok (.putfield 151, 3) := by decide +kernel
theorem dX9_next_61 : decode cX9_next 61 = .ok (.iload_n 1, 1) := by decide +kernel
theorem dX9_next_62 : decode cX9_next 62 = .ok (.ifCond .ge 19, 3) := by decide +kernel
theorem dX9_next_65 : decode cX9_next 65 = .ok (.aload_n 0, 1) := by decide +kernel
theorem dX9_next_66 : decode cX9_next 66 = .ok (.iconst 0, 1) := by decide +kernel
theorem dX9_next_67 : decode cX9_next 67 = .ok (.putfield 151, 3) := by decide +kernel
theorem dX9_next_70 : decode cX9_next 70 = .ok (.aload_n 0, 1) := by decide +kernel
theorem dX9_next_71 : decode cX9_next 71 = .ok (.aload_n 0, 1) := by decide +kernel
theorem dX9_next_72 : decode cX9_next 72 = .ok (.getfield 135, 3) := by decide +kernel
theorem dX9_next_75 : decode cX9_next 75 = .ok (.putfield 148, 3) := by decide +kernel
theorem dX9_next_78 : decode cX9_next 78 = .ok (.goto 243, 3) := by decide +kernel
theorem dX9_next_81 : decode cX9_next 81 = .ok (.iload_n 1, 1) := by decide +kernel
theorem dX9_next_82 : decode cX9_next 82 = .ok (.i2l, 1) := by decide +kernel
theorem dX9_next_83 : decode cX9_next 83 = .ok (.ldc2_w 154, 3) := by decide +kernel
theorem dX9_next_86 : decode cX9_next 86 = .ok (.ldc2_w 156, 3) := by decide +kernel
theorem dX9_next_89 : decode cX9_next 89 = .ok (.invokestatic 94, 3) := by decide +kernel
theorem dX9_next_92 : decode cX9_next 92 = .ok (.ifCond .eq 42, 3) := by decide +kernel
theorem dX9_next_95 : decode cX9_next 95 = .ok (.aload_n 0, 1) := by decide +kernel
theorem dX9_next_96 : decode cX9_next 96 = .ok (.iconst 1, 1) := by decide +kernel
theorem dX9_next_97 : decode cX9_next 97 = .ok (.putfield 151, 3) := by decide +kernel
theorem dX9_next_100 : decode cX9_next 100 = .ok (.aload_n 0, 1) := by decide +kernel
theorem dX9_next_101 : decode cX9_next 101 = .ok (.aload_n 0, 1) := by decide +kernel
theorem dX9_next_102 : decode cX9_next 102 = .ok (.getfield 141, 3) := by decide +kernel
theorem dX9_next_105 : decode cX9_next 105 = .ok (.invokevirtual 144, 3) := by decide +kernel
theorem dX9_next_108 : decode cX9_next 108 = .ok (.i2l, 1) := by decide +kernel
theorem dX9_next_109 : decode cX9_next 109 = .ok (.ldc2_w 154, 3) := by decide +kernel
theorem dX9_next_112 : decode cX9_next 112 = .ok (.ldc2_w 156, 3) := by decide +kernel
theorem dX9_next_115 : decode cX9_next 115 = .ok (.invokestatic 94, 3) := by decide +kernel
theorem dX9_next_118 : decode cX9_next 118 = .ok (.ifCond .eq 203, 3) := by decide +kernel
theorem dX9_next_121 : decode cX9_next 121 = .ok (.aload_n 0, 1) := by decide +kernel
theorem dX9_next_122 : decode cX9_next 122 = .ok (.dup, 1) := by decide +kernel
theorem dX9_next_123 : decode cX9_next 123 = .ok (.getfield 141, 3) := by decide +kernel
theorem dX9_next_126 : decode cX9_next 126 = .ok (.iconst 1, 1) := by decide +kernel
theorem dX9_next_127 : decode cX9_next 127 = .ok (.iadd, 1) := by decide +kernel
theorem dX9_next_128 : decode cX9_next 128 = .ok (.putfield 141, 3) := by decide +kernel
theorem dX9_next_131 : decode cX9_next 131 = .ok (.goto (-31), 3) := by decide +kernel
theorem dX9_next_134 : decode cX9_next 134 = .ok (.iload_n 1, 1) := by decide +kernel
theorem dX9_next_135 : decode cX9_next 135 = .ok (.i2l, 1) := by decide +kernel
theorem dX9_next_136 : decode cX9_next 136 = .ok (.ldc2_w 158, 3) := by decide +kernel
theorem dX9_next_139 : decode cX9_next 139 = .ok (.ldc2_w 160, 3) := by decide +kernel
theorem dX9_next_142 : decode cX9_next 142 = .ok (.invokestatic 94, 3) := by decide +kernel
theorem dX9_next_145 : decode cX9_next 145 = .ok (.ifCond .eq 107, 3) := by decide +kernel
theorem dX9_next_148 : decode cX9_next 148 = .ok (.aload_n 0, 1) := by decide +kernel
theorem dX9_next_149 : decode cX9_next 149 = .ok (.iconst 2, 1) := by decide +kernel
theorem dX9_next_150 : decode cX9_next 150 = .ok (.putfield 151, 3) := by decide +kernel
theorem dX9_next_153 : decode cX9_next 153 = .ok (.aload_n 0, 1) := by decide +kernel
theorem dX9_next_154 : decode cX9_next 154 = .ok (.lconst 0, 1) := by decide +kernel
theorem dX9_next_155 : decode cX9_next 155 = .ok (.putfield 162, 3) := by decide +kernel
theorem dX9_next_158 : decode cX9_next 158 = .ok (.iconst 0, 1) := by decide +kernel
theorem dX9_next_159 : decode cX9_next 159 = .ok (.istore_n 2, 1) := by decide +kernel
theorem dX9_next_160 : decode cX9_next 160 = .ok (.aload_n 0, 1) := by decide +kernel
theorem dX9_next_161 : decode cX9_next 161 = .ok (.aload_n 0, 1) := by decide +kernel
theorem dX9_next_162 : decode cX9_next 162 = .ok (.getfield 141, 3) := by decide +kernel
theorem dX9_next_165 : decode cX9_next 165 = .ok (.invokevirtual 144, 3) := by decide +kernel
theorem dX9_next_168 : decode cX9_next 168 = .ok (.i2l, 1) := by decide +kernel
theorem dX9_next_169 : decode cX9_next 169 = .ok (.ldc2_w 158, 3) := by decide +kernel
theorem dX9_next_172 : decode cX9_next 172 = .ok (.ldc2_w 160, 3) := by decide +kernel
theorem dX9_next_175 : decode cX9_next 175 = .ok (.invokestatic 94, 3) := by decide +kernel
theorem dX9_next_178 : decode cX9_next 178 = .ok (.ifCond .eq 57, 3) := by decide +kernel
theorem dX9_next_181 : decode cX9_next 181 = .ok (.aload_n 0, 1) := by decide +kernel
theorem dX9_next_182 : decode cX9_next 182 = .ok (.iload_n 2, 1) := by decide +kernel
theorem dX9_next_183 : decode cX9_next 183 = .ok (.iconst 4, 1) := by decide +kernel
theorem dX9_next_184 : decode cX9_next 184 = .ok (.if_icmp .ge 28, 3) := by decide +kernel
theorem dX9_next_187 : decode cX9_next 187 = .ok (.ldc2_w 107, 3) := by decide +kernel
theorem dX9_next_190 : decode cX9_next 190 = .ok (.aload_n 0, 1) := by decide +kernel
theorem dX9_next_191 : decode cX9_next 191 = .ok (.getfield 162, 3) := by decide +kernel
theorem dX9_next_194 : decode cX9_next 194 = .ok (.lmul, 1) := by decide +kernel
theorem dX9_next_195 : decode cX9_next 195 = .ok (.aload_n 0, 1) := by decide +kernel
theorem dX9_next_196 : decode cX9_next 196 = .ok (.aload_n 0, 1) := by decide +kernel
theorem dX9_next_197 : decode cX9_next 197 = .ok (.getfield 141, 3) := by decide +kernel
theorem dX9_next_200 : decode cX9_next 200 = .ok (.invokevirtual 144, 3) := by decide +kernel
theorem dX9_next_203 : decode cX9_next 203 = .ok (.i2l, 1) := by decide +kernel
theorem dX9_next_204 : decode cX9_next 204 = .ok (.ladd, 1) := by decide +kernel
theorem dX9_next_205 : decode cX9_next 205 = .ok (.ldc2_w 158, 3) := by decide +kernel
theorem dX9_next_208 : decode cX9_next 208 = .ok (.lsub, 1) := by decide +kernel
theorem dX9_next_209 : decode cX9_next 209 = .ok (.goto 7, 3) := by decide +kernel
theorem dX9_next_212 : decode cX9_next 212 = .ok (.aload_n 0, 1) := by decide +kernel
theorem dX9_next_213 : decode cX9_next 213 = .ok (.getfield 162, 3) := by decide +kernel
theorem dX9_next_216 : decode cX9_next 216 = .ok (.putfield 162, 3) := by decide +kernel
theorem dX9_next_219 : decode cX9_next 219 = .ok (.iinc 2 1, 3) := by decide +kernel
theorem dX9_next_222 : decode cX9_next 222 = .ok (.aload_n 0, 1) := by decide +kernel
theorem dX9_next_223 : decode cX9_next 223 = .ok (.dup, 1) := by decide +kernel
theorem dX9_next_224 : decode cX9_next 224 = .ok (.getfield 141, 3) := by decide +kernel
theorem dX9_next_227 : decode cX9_next 227 = .ok (.iconst 1, 1) := by decide +kernel
theorem dX9_next_228 : decode cX9_next 228 = .ok (.iadd, 1) := by decide +kernel
theorem dX9_next_229 : decode cX9_next 229 = .ok (.putfield 141, 3) := by decide +kernel
theorem dX9_next_232 : decode cX9_next 232 = .ok (.goto (-72), 3) := by decide +kernel
theorem dX9_next_235 : decode cX9_next 235 = .ok (.aload_n 0, 1) := by decide +kernel
theorem dX9_next_236 : decode cX9_next 236 = .ok (.iload_n 2, 1) := by decide +kernel
theorem dX9_next_237 : decode cX9_next 237 = .ok (.iconst 4, 1) := by decide +kernel
theorem dX9_next_238 : decode cX9_next 238 = .ok (.if_icmp .le 7, 3) := by decide +kernel
theorem dX9_next_241 : decode cX9_next 241 = .ok (.iconst 4, 1) := by decide +kernel
theorem dX9_next_242 : decode cX9_next 242 = .ok (.goto 4, 3) := by decide +kernel
theorem dX9_next_245 : decode cX9_next 245 = .ok (.iconst 2, 1) := by decide +kernel
theorem dX9_next_246 : decode cX9_next 246 = .ok (.putfield 151, 3) := by decide +kernel
theorem dX9_next_249 : decode cX9_next 249 = .ok (.goto 72, 3) := by decide +kernel
theorem dX9_next_252 : decode cX9_next 252 = .ok (.iload_n 1, 1) := by decide +kernel
theorem dX9_next_253 : decode cX9_next 253 = .ok (.bipush 40, 2) := by decide +kernel
theorem dX9_next_255 : decode cX9_next 255 = .ok (.if_icmp .eq 45, 3) := by decide +kernel
theorem dX9_next_258 : decode cX9_next 258 = .ok (.iload_n 1, 1) := by decide +kernel
theorem dX9_next_259 : decode cX9_next 259 = .ok (.bipush 41, 2) := by decide +kernel
theorem dX9_next_261 : decode cX9_next 261 = .ok (.if_icmp .eq 39, 3) := by decide +kernel
theorem dX9_next_264 : decode cX9_next 264 = .ok (.iload_n 1, 1) := by decide +kernel
theorem dX9_next_265 : decode cX9_next 265 = .ok (.bipush 59, 2) := by decide +kernel
theorem dX9_next_267 : decode cX9_next 267 = .ok (.if_icmp .eq 33, 3) := by decide +kernel
theorem dX9_next_270 : decode cX9_next 270 = .ok (.iload_n 1, 1) := by decide +kernel
theorem dX9_next_271 : decode cX9_next 271 = .ok (.bipush 43, 2) := by decide +kernel
theorem dX9_next_273 : decode cX9_next 273 = .ok (.if_icmp .eq 27, 3) := by decide +kernel
theorem dX9_next_276 : decode cX9_next 276 = .ok (.iload_n 1, 1) := by decide +kernel
theorem dX9_next_277 : decode cX9_next 277 = .ok (.bipush 45, 2) := by decide +kernel
theorem dX9_next_279 : decode cX9_next 279 = .ok (.if_icmp .eq 21, 3) := by decide +kernel
theorem dX9_next_282 : decode cX9_next 282 = .ok (.iload_n 1, 1) := by decide +kernel
theorem dX9_next_283 : decode cX9_next 283 = .ok (.bipush 42, 2) := by decide +kernel
theorem dX9_next_285 : decode cX9_next 285 = .ok (.if_icmp .eq 15, 3) := by decide +kernel
theorem dX9_next_288 : decode cX9_next 288 = .ok (.iload_n 1, 1) := by decide +kernel
theorem dX9_next_289 : decode cX9_next 289 = .ok (.bipush 60, 2) := by decide +kernel
theorem dX9_next_291 : decode cX9_next 291 = .ok (.if_icmp .eq 9, 3) := by decide +kernel
theorem dX9_next_294 : decode cX9_next 294 = .ok (.iload_n 1, 1) := by decide +kernel
theorem dX9_next_295 : decode cX9_next 295 = .ok (.bipush 61, 2) := by decide +kernel
theorem dX9_next_297 : decode cX9_next 297 = .ok (.if_icmp .ne 24, 3) := by decide +kernel
theorem dX9_next_300 : decode cX9_next 300 = .ok (.aload_n 0, 1) := by decide +kernel
theorem dX9_next_301 : decode cX9_next 301 = .ok (.iconst 3, 1) := by decide +kernel
theorem dX9_next_302 : decode cX9_next 302 = .ok (.putfield 151, 3) := by decide +kernel
theorem dX9_next_305 : decode cX9_next 305 = .ok (.aload_n 0, 1) := by decide +kernel
theorem dX9_next_306 : decode cX9_next 306 = .ok (.iload_n 1, 1) := by decide +kernel
theorem dX9_next_307 : decode cX9_next 307 = .ok (.i2l, 1) := by decide +kernel
theorem dX9_next_308 : decode cX9_next 308 = .ok (.putfield 162, 3) := by decide +kernel
theorem dX9_next_311 : decode cX9_next 311 = .ok (.aload_n 0, 1) := by decide +kernel
theorem dX9_next_312 : decode cX9_next 312 = .ok (.dup, 1) := by decide +kernel
theorem dX9_next_313 : decode cX9_next 313 = .ok (.getfield 141, 3) := by decide +kernel
theorem dX9_next_316 : decode cX9_next 316 = .ok (.iconst 1, 1) := by decide +kernel
theorem dX9_next_317 : decode cX9_next 317 = .ok (.iadd, 1) := by decide +kernel
theorem dX9_next_318 : decode cX9_next 318 = .ok (.putfield 141, 3) := by decide +kernel
theorem dX9_next_321 : decode cX9_next 321 = .ok (.return_, 1) := by decide +kernel
theorem dX9_fail_0 : decode cX9_fail 0 = .ok (.aload_n 0, 1) := by decide +kernel
theorem dX9_fail_1 : decode cX9_fail 1 = .ok (.getfield 166, 3) := by decide +kernel
theorem dX9_fail_4 : decode cX9_fail 4 = .ok (.ifCond .ne 16, 3) := by decide +kernel
theorem dX9_fail_7 : decode cX9_fail 7 = .ok (.aload_n 0, 1) := by decide +kernel
theorem dX9_fail_8 : decode cX9_fail 8 = .ok (.iconst 1, 1) := by decide +kernel
theorem dX9_fail_9 : decode cX9_fail 9 = .ok (.putfield 166, 3) := by decide +kernel
theorem dX9_fail_12 : decode cX9_fail 12 = .ok (.aload_n 0, 1) := by decide +kernel
theorem dX9_fail_13 : decode cX9_fail 13 = .ok (.aload_n 0, 1) := by decide +kernel
theorem dX9_fail_14 : decode cX9_fail 14 = .ok (.getfield 148, 3) := by decide +kernel
theorem dX9_fail_17 : decode cX9_fail 17 = .ok (.putfield 170, 3) := by decide +kernel
theorem dX9_fail_20 : decode cX9_fail 20 = .ok (.return_, 1) := by decide +kernel
theorem dX9_isLetter_0 : decode cX9_isLetter 0 = .ok (.aload_n 0, 1) := by decide +kernel
theorem dX9_isLetter_1 : decode cX9_isLetter 1 = .ok (.getfield 148, 3) := by decide +kernel
theorem dX9_isLetter_4 : decode cX9_isLetter 4 = .ok (.iload_n 1, 1) := by decide +kernel
theorem dX9_isLetter_5 : decode cX9_isLetter 5 = .ok (.iadd, 1) := by decide +kernel
theorem dX9_isLetter_6 : decode cX9_isLetter 6 = .ok (.aload_n 0, 1) := by decide +kernel
theorem dX9_isLetter_7 : decode cX9_isLetter 7 = .ok (.getfield 141, 3) := by decide +kernel
theorem dX9_isLetter_10 : decode cX9_isLetter 10 = .ok (.if_icmp .ge 25, 3) := by decide +kernel
theorem dX9_isLetter_13 : decode cX9_isLetter 13 = .ok (.aload_n 0, 1) := by decide +kernel
theorem dX9_isLetter_14 : decode cX9_isLetter 14 = .ok (.aload_n 0, 1) := by decide +kernel
theorem dX9_isLetter_15 : decode cX9_isLetter 15 = .ok (.getfield 148, 3) := by decide +kernel
theorem dX9_isLetter_18 : decode cX9_isLetter 18 = .ok (.iload_n 1, 1) := by decide +kernel
theorem dX9_isLetter_19 : decode cX9_isLetter 19 = .ok (.iadd, 1) := by decide +kernel
theorem dX9_isLetter_20 : decode cX9_isLetter 20 = .ok (.invokevirtual 144, 3) := by decide +kernel
theorem dX9_isLetter_23 : decode cX9_isLetter 23 = .ok (.iload_n 2, 1) := by decide +kernel
theorem dX9_isLetter_24 : decode cX9_isLetter 24 = .ok (.if_icmp .ne 7, 3) := by decide +kernel
theorem dX9_isLetter_27 : decode cX9_isLetter 27 = .ok (.iconst 1, 1) := by decide +kernel
theorem dX9_isLetter_28 : decode cX9_isLetter 28 = .ok (.goto 16, 3) := by decide +kernel
theorem dX9_isLetter_31 : decode cX9_isLetter 31 = .ok (.iconst 0, 1) := by decide +kernel
theorem dX9_isLetter_32 : decode cX9_isLetter 32 = .ok (.goto 12, 3) := by decide +kernel
theorem dX9_isLetter_35 : decode cX9_isLetter 35 = .ok (.iload_n 2, 1) := by decide +kernel
theorem dX9_isLetter_36 : decode cX9_isLetter 36 = .ok (.ifCond .ne 7, 3) := by decide +kernel
theorem dX9_isLetter_39 : decode cX9_isLetter 39 = .ok (.iconst 1, 1) := by decide +kernel
theorem dX9_isLetter_40 : decode cX9_isLetter 40 = .ok (.goto 4, 3) := by decide +kernel
theorem dX9_isLetter_43 : decode cX9_isLetter 43 = .ok (.iconst 0, 1) := by decide +kernel
theorem dX9_isLetter_44 : decode cX9_isLetter 44 = .ok (.ireturn, 1) := by decide +kernel
theorem dX9_isWord_0 : decode cX9_isWord 0 = .ok (.aload_n 0, 1) := by decide +kernel
theorem dX9_isWord_1 : decode cX9_isWord 1 = .ok (.getfield 166, 3) := by decide +kernel
theorem dX9_isWord_4 : decode cX9_isWord 4 = .ok (.ifCond .ne 108, 3) := by decide +kernel
theorem dX9_isWord_7 : decode cX9_isWord 7 = .ok (.aload_n 0, 1) := by decide +kernel
theorem dX9_isWord_8 : decode cX9_isWord 8 = .ok (.getfield 151, 3) := by decide +kernel
theorem dX9_isWord_11 : decode cX9_isWord 11 = .ok (.iconst 1, 1) := by decide +kernel
theorem dX9_isWord_12 : decode cX9_isWord 12 = .ok (.if_icmp .ne 100, 3) := by decide +kernel
theorem dX9_isWord_15 : decode cX9_isWord 15 = .ok (.aload_n 0, 1) := by decide +kernel
theorem dX9_isWord_16 : decode cX9_isWord 16 = .ok (.getfield 141, 3) := by decide +kernel
theorem dX9_isWord_19 : decode cX9_isWord 19 = .ok (.aload_n 0, 1) := by decide +kernel
theorem dX9_isWord_20 : decode cX9_isWord 20 = .ok (.getfield 148, 3) := by decide +kernel
theorem dX9_isWord_23 : decode cX9_isWord 23 = .ok (.bipush 8, 2) := by decide +kernel
theorem dX9_isWord_25 : decode cX9_isWord 25 = .ok (.iadd, 1) := by decide +kernel
theorem dX9_isWord_26 : decode cX9_isWord 26 = .ok (.if_icmp .gt 86, 3) := by decide +kernel
theorem dX9_isWord_29 : decode cX9_isWord 29 = .ok (.aload_n 0, 1) := by decide +kernel
theorem dX9_isWord_30 : decode cX9_isWord 30 = .ok (.iconst 0, 1) := by decide +kernel
theorem dX9_isWord_31 : decode cX9_isWord 31 = .ok (.iload_n 1, 1) := by decide +kernel
theorem dX9_isWord_32 : decode cX9_isWord 32 = .ok (.invokevirtual 173, 3) := by decide +kernel
theorem dX9_isWord_35 : decode cX9_isWord 35 = .ok (.ifCond .eq 77, 3) := by decide +kernel
theorem dX9_isWord_38 : decode cX9_isWord 38 = .ok (.aload_n 0, 1) := by decide +kernel
theorem dX9_isWord_39 : decode cX9_isWord 39 = .ok (.iconst 1, 1) := by decide +kernel
theorem dX9_isWord_40 : decode cX9_isWord 40 = .ok (.iload_n 2, 1) := by decide +kernel
theorem dX9_isWord_41 : decode cX9_isWord 41 = .ok (.invokevirtual 173, 3) := by decide +kernel
theorem dX9_isWord_44 : decode cX9_isWord 44 = .ok (.ifCond .eq 68, 3) := by decide +kernel
theorem dX9_isWord_47 : decode cX9_isWord 47 = .ok (.aload_n 0, 1) := by decide +kernel
theorem dX9_isWord_48 : decode cX9_isWord 48 = .ok (.iconst 2, 1) := by decide +kernel
theorem dX9_isWord_49 : decode cX9_isWord 49 = .ok (.iload_n 3, 1) := by decide +kernel
theorem dX9_isWord_50 : decode cX9_isWord 50 = .ok (.invokevirtual 173, 3) := by decide +kernel
theorem dX9_isWord_53 : decode cX9_isWord 53 = .ok (.ifCond .eq 59, 3) := by decide +kernel
theorem dX9_isWord_56 : decode cX9_isWord 56 = .ok (.aload_n 0, 1) := by decide +kernel
theorem dX9_isWord_57 : decode cX9_isWord 57 = .ok (.iconst 3, 1) := by decide +kernel
theorem dX9_isWord_58 : decode cX9_isWord 58 = .ok (.iload 4, 2) := by decide +kernel
theorem dX9_isWord_60 : decode cX9_isWord 60 = .ok (.invokevirtual 173, 3) := by decide +kernel
theorem dX9_isWord_63 : decode cX9_isWord 63 = .ok (.ifCond .eq 49, 3) := by decide +kernel
theorem dX9_isWord_66 : decode cX9_isWord 66 = .ok (.aload_n 0, 1) := by decide +kernel
theorem dX9_isWord_67 : decode cX9_isWord 67 = .ok (.iconst 4, 1) := by decide +kernel
theorem dX9_isWord_68 : decode cX9_isWord 68 = .ok (.iload 5, 2) := by decide +kernel
theorem dX9_isWord_70 : decode cX9_isWord 70 = .ok (.invokevirtual 173, 3) := by decide +kernel
theorem dX9_isWord_73 : decode cX9_isWord 73 = .ok (.ifCond .eq 39, 3) := by decide +kernel
theorem dX9_isWord_76 : decode cX9_isWord 76 = .ok (.aload_n 0, 1) := by decide +kernel
theorem dX9_isWord_77 : decode cX9_isWord 77 = .ok (.iconst 5, 1) := by decide +kernel
theorem dX9_isWord_78 : decode cX9_isWord 78 = .ok (.iload 6, 2) := by decide +kernel
theorem dX9_isWord_80 : decode cX9_isWord 80 = .ok (.invokevirtual 173, 3) := by decide +kernel
theorem dX9_isWord_83 : decode cX9_isWord 83 = .ok (.ifCond .eq 29, 3) := by decide +kernel
theorem dX9_isWord_86 : decode cX9_isWord 86 = .ok (.aload_n 0, 1) := by decide +kernel
theorem dX9_isWord_87 : decode cX9_isWord 87 = .ok (.bipush 6, 2) := by decide +kernel
theorem dX9_isWord_89 : decode cX9_isWord 89 = .ok (.iload 7, 2) := by decide +kernel
theorem dX9_isWord_91 : decode cX9_isWord 91 = .ok (.invokevirtual 173, 3) := by decide +kernel
theorem dX9_isWord_94 : decode cX9_isWord 94 = .ok (.ifCond .eq 18, 3) := by decide +kernel
theorem dX9_isWord_97 : decode cX9_isWord 97 = .ok (.aload_n 0, 1) := by decide +kernel
theorem dX9_isWord_98 : decode cX9_isWord 98 = .ok (.bipush 7, 2) := by decide +kernel
theorem dX9_isWord_100 : decode cX9_isWord 100 = .ok (.iload 8, 2) := by decide +kernel
theorem dX9_isWord_102 : decode cX9_isWord 102 = .ok (.invokevirtual 173, 3) := by decide +kernel
theorem dX9_isWord_105 : decode cX9_isWord 105 = .ok (.ifCond .eq 7, 3) := by decide +kernel
theorem dX9_isWord_108 : decode cX9_isWord 108 = .ok (.iconst 1, 1) := by decide +kernel
theorem dX9_isWord_109 : decode cX9_isWord 109 = .ok (.goto 4, 3) := by decide +kernel
theorem dX9_isWord_112 : decode cX9_isWord 112 = .ok (.iconst 0, 1) := by decide +kernel
theorem dX9_isWord_113 : decode cX9_isWord 113 = .ok (.ireturn, 1) := by decide +kernel
theorem dX9_isSign_0 : decode cX9_isSign 0 = .ok (.aload_n 0, 1) := by decide +kernel
theorem dX9_isSign_1 : decode cX9_isSign 1 = .ok (.getfield 166, 3) := by decide +kernel
theorem dX9_isSign_4 : decode cX9_isSign 4 = .ok (.ifCond .ne 25, 3) := by decide +kernel
theorem dX9_isSign_7 : decode cX9_isSign 7 = .ok (.aload_n 0, 1) := by decide +kernel
theorem dX9_isSign_8 : decode cX9_isSign 8 = .ok (.getfield 151, 3) := by decide +kernel
theorem dX9_isSign_11 : decode cX9_isSign 11 = .ok (.iconst 3, 1) := by decide +kernel
theorem dX9_isSign_12 : decode cX9_isSign 12 = .ok (.if_icmp .ne 17, 3) := by decide +kernel
theorem dX9_isSign_15 : decode cX9_isSign 15 = .ok (.aload_n 0, 1) := by decide +kernel
theorem dX9_isSign_16 : decode cX9_isSign 16 = .ok (.getfield 162, 3) := by decide +kernel
theorem dX9_isSign_19 : decode cX9_isSign 19 = .ok (.iload_n 1, 1) := by decide +kernel
theorem dX9_isSign_20 : decode cX9_isSign 20 = .ok (.i2l, 1) := by decide +kernel
theorem dX9_isSign_21 : decode cX9_isSign 21 = .ok (.lcmp, 1) := by decide +kernel
theorem dX9_isSign_22 : decode cX9_isSign 22 = .ok (.ifCond .ne 7, 3) := by decide +kernel
theorem dX9_isSign_25 : decode cX9_isSign 25 = .ok (.iconst 1, 1) := by decide +kernel
theorem dX9_isSign_26 : decode cX9_isSign 26 = .ok (.goto 4, 3) := by decide +kernel
theorem dX9_isSign_29 : decode cX9_isSign 29 = .ok (.iconst 0, 1) := by decide +kernel
theorem dX9_isSign_30 : decode cX9_isSign 30 = .ok (.ireturn, 1) := by decide +kernel
theorem dX9_opens_0 : decode cX9_opens 0 = .ok (.aload_n 0, 1) := by decide +kernel
theorem dX9_opens_1 : decode cX9_opens 1 = .ok (.getfield 177, 3) := by decide +kernel
theorem dX9_opens_4 : decode cX9_opens 4 = .ok (.iconst 5, 1) := by decide +kernel
theorem dX9_opens_5 : decode cX9_opens 5 = .ok (.if_icmp .ne 9, 3) := by decide +kernel
theorem dX9_opens_8 : decode cX9_opens 8 = .ok (.aload_n 0, 1) := by decide +kernel
theorem dX9_opens_9 : decode cX9_opens 9 = .ok (.invokevirtual 180, 3) := by decide +kernel
theorem dX9_opens_12 : decode cX9_opens 12 = .ok (.iconst 0, 1) := by decide +kernel
theorem dX9_opens_13 : decode cX9_opens 13 = .ok (.ireturn, 1) := by decide +kernel
theorem dX9_opens_14 : decode cX9_opens 14 = .ok (.aload_n 0, 1) := by decide +kernel
theorem dX9_opens_15 : decode cX9_opens 15 = .ok (.dup, 1) := by decide +kernel
theorem dX9_opens_16 : decode cX9_opens 16 = .ok (.getfield 177, 3) := by decide +kernel
theorem dX9_opens_19 : decode cX9_opens 19 = .ok (.iconst 1, 1) := by decide +kernel
theorem dX9_opens_20 : decode cX9_opens 20 = .ok (.iadd, 1) := by decide +kernel
theorem dX9_opens_21 : decode cX9_opens 21 = .ok (.putfield 177, 3) := by decide +kernel
theorem dX9_opens_24 : decode cX9_opens 24 = .ok (.aload_n 0, 1) := by decide +kernel
theorem dX9_opens_25 : decode cX9_opens 25 = .ok (.invokevirtual 183, 3) := by decide +kernel
theorem dX9_opens_28 : decode cX9_opens 28 = .ok (.iconst 1, 1) := by decide +kernel
theorem dX9_opens_29 : decode cX9_opens 29 = .ok (.ireturn, 1) := by decide +kernel
theorem dX9_name_0 : decode cX9_name 0 = .ok (.aload_n 0, 1) := by decide +kernel
theorem dX9_name_1 : decode cX9_name 1 = .ok (.bipush 109, 2) := by decide +kernel
theorem dX9_name_3 : decode cX9_name 3 = .ok (.bipush 105, 2) := by decide +kernel
theorem dX9_name_5 : decode cX9_name 5 = .ok (.bipush 110, 2) := by decide +kernel
theorem dX9_name_7 : decode cX9_name 7 = .ok (.bipush 117, 2) := by decide +kernel
theorem dX9_name_9 : decode cX9_name 9 = .ok (.bipush 116, 2) := by decide +kernel
theorem dX9_name_11 : decode cX9_name 11 = .ok (.bipush 101, 2) := by decide +kernel
theorem dX9_name_13 : decode cX9_name 13 = .ok (.iconst 0, 1) := by decide +kernel
theorem dX9_name_14 : decode cX9_name 14 = .ok (.iconst 0, 1) := by decide +kernel
theorem dX9_name_15 : decode cX9_name 15 = .ok (.invokevirtual 186, 3) := by decide +kernel
theorem dX9_name_18 : decode cX9_name 18 = .ok (.ifCond .eq 8, 3) := by decide +kernel
theorem dX9_name_21 : decode cX9_name 21 = .ok (.aload_n 0, 1) := by decide +kernel
theorem dX9_name_22 : decode cX9_name 22 = .ok (.getfield 190, 3) := by decide +kernel
theorem dX9_name_25 : decode cX9_name 25 = .ok (.ireturn, 1) := by decide +kernel
theorem dX9_name_26 : decode cX9_name 26 = .ok (.aload_n 0, 1) := by decide +kernel
theorem dX9_name_27 : decode cX9_name 27 = .ok (.bipush 119, 2) := by decide +kernel
theorem dX9_name_29 : decode cX9_name 29 = .ok (.bipush 97, 2) := by decide +kernel
theorem dX9_name_31 : decode cX9_name 31 = .ok (.bipush 105, 2) := by decide +kernel
theorem dX9_name_33 : decode cX9_name 33 = .ok (.bipush 116, 2) := by decide +kernel
theorem dX9_name_35 : decode cX9_name 35 = .ok (.bipush 101, 2) := by decide +kernel
theorem dX9_name_37 : decode cX9_name 37 = .ok (.bipush 100, 2) := by decide +kernel
theorem dX9_name_39 : decode cX9_name 39 = .ok (.iconst 0, 1) := by decide +kernel
theorem dX9_name_40 : decode cX9_name 40 = .ok (.iconst 0, 1) := by decide +kernel
theorem dX9_name_41 : decode cX9_name 41 = .ok (.invokevirtual 186, 3) := by decide +kernel
theorem dX9_name_44 : decode cX9_name 44 = .ok (.ifCond .eq 8, 3) := by decide +kernel
theorem dX9_name_47 : decode cX9_name 47 = .ok (.aload_n 0, 1) := by decide +kernel
theorem dX9_name_48 : decode cX9_name 48 = .ok (.getfield 193, 3) := by decide +kernel
theorem dX9_name_51 : decode cX9_name 51 = .ok (.ireturn, 1) := by decide +kernel
theorem dX9_name_52 : decode cX9_name 52 = .ok (.aload_n 0, 1) := by decide +kernel
theorem dX9_name_53 : decode cX9_name 53 = .ok (.bipush 115, 2) := by decide +kernel
theorem dX9_name_55 : decode cX9_name 55 = .ok (.bipush 117, 2) := by decide +kernel
theorem dX9_name_57 : decode cX9_name 57 = .ok (.bipush 110, 2) := by decide +kernel
theorem dX9_name_59 : decode cX9_name 59 = .ok (.bipush 103, 2) := by decide +kernel
theorem dX9_name_61 : decode cX9_name 61 = .ok (.iconst 0, 1) := by decide +kernel
theorem dX9_name_62 : decode cX9_name 62 = .ok (.iconst 0, 1) := by decide +kernel
theorem dX9_name_63 : decode cX9_name 63 = .ok (.iconst 0, 1) := by decide +kernel
theorem dX9_name_64 : decode cX9_name 64 = .ok (.iconst 0, 1) := by decide +kernel
theorem dX9_name_65 : decode cX9_name 65 = .ok (.invokevirtual 186, 3) := by decide +kernel
theorem dX9_name_68 : decode cX9_name 68 = .ok (.ifCond .eq 8, 3) := by decide +kernel
theorem dX9_name_71 : decode cX9_name 71 = .ok (.aload_n 0, 1) := by decide +kernel
theorem dX9_name_72 : decode cX9_name 72 = .ok (.getfield 196, 3) := by decide +kernel
theorem dX9_name_75 : decode cX9_name 75 = .ok (.ireturn, 1) := by decide +kernel
theorem dX9_name_76 : decode cX9_name 76 = .ok (.aload_n 0, 1) := by decide +kernel
theorem dX9_name_77 : decode cX9_name 77 = .ok (.bipush 115, 2) := by decide +kernel
theorem dX9_name_79 : decode cX9_name 79 = .ok (.bipush 111, 2) := by decide +kernel
theorem dX9_name_81 : decode cX9_name 81 = .ok (.bipush 114, 2) := by decide +kernel
theorem dX9_name_83 : decode cX9_name 83 = .ok (.bipush 116, 2) := by decide +kernel
theorem dX9_name_85 : decode cX9_name 85 = .ok (.iconst 0, 1) := by decide +kernel
theorem dX9_name_86 : decode cX9_name 86 = .ok (.iconst 0, 1) := by decide +kernel
theorem dX9_name_87 : decode cX9_name 87 = .ok (.iconst 0, 1) := by decide +kernel
theorem dX9_name_88 : decode cX9_name 88 = .ok (.iconst 0, 1) := by decide +kernel
theorem dX9_name_89 : decode cX9_name 89 = .ok (.invokevirtual 186, 3) := by decide +kernel
theorem dX9_name_92 : decode cX9_name 92 = .ok (.ifCond .eq 8, 3) := by decide +kernel
theorem dX9_name_95 : decode cX9_name 95 = .ok (.aload_n 0, 1) := by decide +kernel
theorem dX9_name_96 : decode cX9_name 96 = .ok (.getfield 199, 3) := by decide +kernel
theorem dX9_name_99 : decode cX9_name 99 = .ok (.ireturn, 1) := by decide +kernel
theorem dX9_name_100 : decode cX9_name 100 = .ok (.aload_n 0, 1) := by decide +kernel
theorem dX9_name_101 : decode cX9_name 101 = .ok (.bipush 98, 2) := by decide +kernel
theorem dX9_name_103 : decode cX9_name 103 = .ok (.bipush 97, 2) := by decide +kernel
theorem dX9_name_105 : decode cX9_name 105 = .ok (.bipush 114, 2) := by decide +kernel
theorem dX9_name_107 : decode cX9_name 107 = .ok (.iconst 0, 1) := by decide +kernel
theorem dX9_name_108 : decode cX9_name 108 = .ok (.iconst 0, 1) := by decide +kernel
theorem dX9_name_109 : decode cX9_name 109 = .ok (.iconst 0, 1) := by decide +kernel
theorem dX9_name_110 : decode cX9_name 110 = .ok (.iconst 0, 1) := by decide +kernel
theorem dX9_name_111 : decode cX9_name 111 = .ok (.iconst 0, 1) := by decide +kernel
theorem dX9_name_112 : decode cX9_name 112 = .ok (.invokevirtual 186, 3) := by decide +kernel
theorem dX9_name_115 : decode cX9_name 115 = .ok (.ifCond .eq 8, 3) := by decide +kernel
theorem dX9_name_118 : decode cX9_name 118 = .ok (.aload_n 0, 1) := by decide +kernel
theorem dX9_name_119 : decode cX9_name 119 = .ok (.getfield 202, 3) := by decide +kernel
theorem dX9_name_122 : decode cX9_name 122 = .ok (.ireturn, 1) := by decide +kernel
theorem dX9_name_123 : decode cX9_name 123 = .ok (.aload_n 0, 1) := by decide +kernel
theorem dX9_name_124 : decode cX9_name 124 = .ok (.bipush 109, 2) := by decide +kernel
theorem dX9_name_126 : decode cX9_name 126 = .ok (.bipush 111, 2) := by decide +kernel
theorem dX9_name_128 : decode cX9_name 128 = .ok (.bipush 111, 2) := by decide +kernel
theorem dX9_name_130 : decode cX9_name 130 = .ok (.bipush 100, 2) := by decide +kernel
theorem dX9_name_132 : decode cX9_name 132 = .ok (.iconst 0, 1) := by decide +kernel
theorem dX9_name_133 : decode cX9_name 133 = .ok (.iconst 0, 1) := by decide +kernel
theorem dX9_name_134 : decode cX9_name 134 = .ok (.iconst 0, 1) := by decide +kernel
theorem dX9_name_135 : decode cX9_name 135 = .ok (.iconst 0, 1) := by decide +kernel
theorem dX9_name_136 : decode cX9_name 136 = .ok (.invokevirtual 186, 3) := by decide +kernel
theorem dX9_name_139 : decode cX9_name 139 = .ok (.ifCond .eq 8, 3) := by decide +kernel
theorem dX9_name_142 : decode cX9_name 142 = .ok (.aload_n 0, 1) := by decide +kernel
theorem dX9_name_143 : decode cX9_name 143 = .ok (.getfield 205, 3) := by decide +kernel
theorem dX9_name_146 : decode cX9_name 146 = .ok (.ireturn, 1) := by decide +kernel
theorem dX9_name_147 : decode cX9_name 147 = .ok (.aload_n 0, 1) := by decide +kernel
theorem dX9_name_148 : decode cX9_name 148 = .ok (.invokevirtual 180, 3) := by decide +kernel
theorem dX9_name_151 : decode cX9_name 151 = .ok (.iconst 0, 1) := by decide +kernel
theorem dX9_name_152 : decode cX9_name 152 = .ok (.ireturn, 1) := by decide +kernel
theorem dX9_atom_0 : decode cX9_atom 0 = .ok (.iconst 0, 1) := by decide +kernel
theorem dX9_atom_1 : decode cX9_atom 1 = .ok (.istore_n 1, 1) := by decide +kernel
theorem dX9_atom_2 : decode cX9_atom 2 = .ok (.aload_n 0, 1) := by decide +kernel
theorem dX9_atom_3 : decode cX9_atom 3 = .ok (.bipush 45, 2) := by decide +kernel
theorem dX9_atom_5 : decode cX9_atom 5 = .ok (.invokevirtual 208, 3) := by decide +kernel
theorem dX9_atom_8 : decode cX9_atom 8 = .ok (.ifCond .eq 29, 3) := by decide +kernel
theorem dX9_atom_11 : decode cX9_atom 11 = .ok (.aload_n 0, 1) := by decide +kernel
theorem dX9_atom_12 : decode cX9_atom 12 = .ok (.invokevirtual 211, 3) := by decide +kernel
theorem dX9_atom_15 : decode cX9_atom 15 = .ok (.ifCond .eq 146, 3) := by decide +kernel
theorem dX9_atom_18 : decode cX9_atom 18 = .ok (.aload_n 0, 1) := by decide +kernel
theorem dX9_atom_19 : decode cX9_atom 19 = .ok (.invokevirtual 215, 3) := by decide +kernel
theorem dX9_atom_22 : decode cX9_atom 22 = .ok (.ineg, 1) := by decide +kernel
theorem dX9_atom_23 : decode cX9_atom 23 = .ok (.istore_n 1, 1) := by decide +kernel
theorem dX9_atom_24 : decode cX9_atom 24 = .ok (.aload_n 0, 1) := by decide +kernel
theorem dX9_atom_25 : decode cX9_atom 25 = .ok (.dup, 1) := by decide +kernel
theorem dX9_atom_26 : decode cX9_atom 26 = .ok (.getfield 177, 3) := by decide +kernel
theorem dX9_atom_29 : decode cX9_atom 29 = .ok (.iconst 1, 1) := by decide +kernel
theorem dX9_atom_30 : decode cX9_atom 30 = .ok (.isub, 1) := by decide +kernel
theorem dX9_atom_31 : decode cX9_atom 31 = .ok (.putfield 177, 3) := by decide +kernel
theorem dX9_atom_34 : decode cX9_atom 34 = .ok (.goto 127, 3) := by decide +kernel
theorem dX9_atom_37 : decode cX9_atom 37 = .ok (.aload_n 0, 1) := by decide +kernel
theorem dX9_atom_38 : decode cX9_atom 38 = .ok (.bipush 40, 2) := by decide +kernel
theorem dX9_atom_40 : decode cX9_atom 40 = .ok (.invokevirtual 208, 3) := by decide +kernel
theorem dX9_atom_43 : decode cX9_atom 43 = .ok (.ifCond .eq 52, 3) := by decide +kernel
theorem dX9_atom_46 : decode cX9_atom 46 = .ok (.aload_n 0, 1) := by decide +kernel
theorem dX9_atom_47 : decode cX9_atom 47 = .ok (.invokevirtual 211, 3) := by decide +kernel
theorem dX9_atom_50 : decode cX9_atom 50 = .ok (.ifCond .eq 111, 3) := by decide +kernel
theorem dX9_atom_53 : decode cX9_atom 53 = .ok (.aload_n 0, 1) := by decide +kernel
theorem dX9_atom_54 : decode cX9_atom 54 = .ok (.invokevirtual 219, 3) := by decide +kernel
theorem dX9_atom_57 : decode cX9_atom 57 = .ok (.istore_n 1, 1) := by decide +kernel
theorem dX9_atom_58 : decode cX9_atom 58 = .ok (.aload_n 0, 1) := by decide +kernel
theorem dX9_atom_59 : decode cX9_atom 59 = .ok (.bipush 41, 2) := by decide +kernel
theorem dX9_atom_61 : decode cX9_atom 61 = .ok (.invokevirtual 208, 3) := by decide +kernel
theorem dX9_atom_64 : decode cX9_atom 64 = .ok (.ifCond .ne 7, 3) := by decide +kernel
theorem dX9_atom_67 : decode cX9_atom 67 = .ok (.aload_n 0, 1) := by decide +kernel
theorem dX9_atom_68 : decode cX9_atom 68 = .ok (.invokevirtual 180, 3) := by decide +kernel
theorem dX9_atom_71 : decode cX9_atom 71 = .ok (.aload_n 0, 1) := by decide +kernel
theorem dX9_atom_72 : decode cX9_atom 72 = .ok (.dup, 1) := by decide +kernel
theorem dX9_atom_73 : decode cX9_atom 73 = .ok (.getfield 177, 3) := by decide +kernel
theorem dX9_atom_76 : decode cX9_atom 76 = .ok (.iconst 1, 1) := by decide +kernel
theorem dX9_atom_77 : decode cX9_atom 77 = .ok (.isub, 1) := by decide +kernel
theorem dX9_atom_78 : decode cX9_atom 78 = .ok (.putfield 177, 3) := by decide +kernel
theorem dX9_atom_81 : decode cX9_atom 81 = .ok (.aload_n 0, 1) := by decide +kernel
theorem dX9_atom_82 : decode cX9_atom 82 = .ok (.getfield 166, 3) := by decide +kernel
theorem dX9_atom_85 : decode cX9_atom 85 = .ok (.ifCond .ne 76, 3) := by decide +kernel
theorem dX9_atom_88 : decode cX9_atom 88 = .ok (.aload_n 0, 1) := by decide +kernel
theorem dX9_atom_89 : decode cX9_atom 89 = .ok (.invokevirtual 183, 3) := by decide +kernel
theorem dX9_atom_92 : decode cX9_atom 92 = .ok (.goto 69, 3) := by decide +kernel
theorem dX9_atom_95 : decode cX9_atom 95 = .ok (.aload_n 0, 1) := by decide +kernel
theorem dX9_atom_96 : decode cX9_atom 96 = .ok (.getfield 166, 3) := by decide +kernel
theorem dX9_atom_99 : decode cX9_atom 99 = .ok (.ifCond .ne 24, 3) := by decide +kernel
theorem dX9_atom_102 : decode cX9_atom 102 = .ok (.aload_n 0, 1) := by decide +kernel
theorem dX9_atom_103 : decode cX9_atom 103 = .ok (.getfield 151, 3) := by decide +kernel
theorem dX9_atom_106 : decode cX9_atom 106 = .ok (.iconst 2, 1) := by decide +kernel
theorem dX9_atom_107 : decode cX9_atom 107 = .ok (.if_icmp .ne 16, 3) := by decide +kernel
theorem dX9_atom_110 : decode cX9_atom 110 = .ok (.aload_n 0, 1) := by decide +kernel
theorem dX9_atom_111 : decode cX9_atom 111 = .ok (.getfield 162, 3) := by decide +kernel
theorem dX9_atom_114 : decode cX9_atom 114 = .ok (.l2i, 1) := by decide +kernel
theorem dX9_atom_115 : decode cX9_atom 115 = .ok (.istore_n 1, 1) := by decide +kernel
theorem dX9_atom_116 : decode cX9_atom 116 = .ok (.aload_n 0, 1) := by decide +kernel
theorem dX9_atom_117 : decode cX9_atom 117 = .ok (.invokevirtual 183, 3) := by decide +kernel
theorem dX9_atom_120 : decode cX9_atom 120 = .ok (.goto 41, 3) := by decide +kernel
theorem dX9_atom_123 : decode cX9_atom 123 = .ok (.aload_n 0, 1) := by decide +kernel
theorem dX9_atom_124 : decode cX9_atom 124 = .ok (.getfield 166, 3) := by decide +kernel
theorem dX9_atom_127 : decode cX9_atom 127 = .ok (.ifCond .ne 30, 3) := by decide +kernel
theorem dX9_atom_130 : decode cX9_atom 130 = .ok (.aload_n 0, 1) := by decide +kernel
theorem dX9_atom_131 : decode cX9_atom 131 = .ok (.getfield 151, 3) := by decide +kernel
theorem dX9_atom_134 : decode cX9_atom 134 = .ok (.iconst 1, 1) := by decide +kernel
theorem dX9_atom_135 : decode cX9_atom 135 = .ok (.if_icmp .ne 22, 3) := by decide +kernel
theorem dX9_atom_138 : decode cX9_atom 138 = .ok (.aload_n 0, 1) := by decide +kernel
theorem dX9_atom_139 : decode cX9_atom 139 = .ok (.invokevirtual 222, 3) := by decide +kernel
theorem dX9_atom_142 : decode cX9_atom 142 = .ok (.istore_n 1, 1) := by decide +kernel
theorem dX9_atom_143 : decode cX9_atom 143 = .ok (.aload_n 0, 1) := by decide +kernel
theorem dX9_atom_144 : decode cX9_atom 144 = .ok (.getfield 166, 3) := by decide +kernel
theorem dX9_atom_147 : decode cX9_atom 147 = .ok (.ifCond .ne 14, 3) := by decide +kernel
theorem dX9_atom_150 : decode cX9_atom 150 = .ok (.aload_n 0, 1) := by decide +kernel
theorem dX9_atom_151 : decode cX9_atom 151 = .ok (.invokevirtual 183, 3) := by decide +kernel
theorem dX9_atom_154 : decode cX9_atom 154 = .ok (.goto 7, 3) := by decide +kernel
theorem dX9_atom_157 : decode cX9_atom 157 = .ok (.aload_n 0, 1) := by decide +kernel
theorem dX9_atom_158 : decode cX9_atom 158 = .ok (.invokevirtual 180, 3) := by decide +kernel
theorem dX9_atom_161 : decode cX9_atom 161 = .ok (.iload_n 1, 1) := by decide +kernel
theorem dX9_atom_162 : decode cX9_atom 162 = .ok (.ireturn, 1) := by decide +kernel
theorem dX9_term_0 : decode cX9_term 0 = .ok (.aload_n 0, 1) := by decide +kernel
theorem dX9_term_1 : decode cX9_term 1 = .ok (.invokevirtual 215, 3) := by decide +kernel
theorem dX9_term_4 : decode cX9_term 4 = .ok (.istore_n 1, 1) := by decide +kernel
theorem dX9_term_5 : decode cX9_term 5 = .ok (.aload_n 0, 1) := by decide +kernel
theorem dX9_term_6 : decode cX9_term 6 = .ok (.bipush 42, 2) := by decide +kernel
theorem dX9_term_8 : decode cX9_term 8 = .ok (.invokevirtual 208, 3) := by decide +kernel
theorem dX9_term_11 : decode cX9_term 11 = .ok (.ifCond .eq 17, 3) := by decide +kernel
theorem dX9_term_14 : decode cX9_term 14 = .ok (.aload_n 0, 1) := by decide +kernel
theorem dX9_term_15 : decode cX9_term 15 = .ok (.invokevirtual 183, 3) := by decide +kernel
theorem dX9_term_18 : decode cX9_term 18 = .ok (.iload_n 1, 1) := by decide +kernel
theorem dX9_term_19 : decode cX9_term 19 = .ok (.aload_n 0, 1) := by decide +kernel
theorem dX9_term_20 : decode cX9_term 20 = .ok (.invokevirtual 215, 3) := by decide +kernel
theorem dX9_term_23 : decode cX9_term 23 = .ok (.imul, 1) := by decide +kernel
theorem dX9_term_24 : decode cX9_term 24 = .ok (.istore_n 1, 1) := by decide +kernel
theorem dX9_term_25 : decode cX9_term 25 = .ok (.goto (-20), 3) := by decide +kernel
theorem dX9_term_28 : decode cX9_term 28 = .ok (.iload_n 1, 1) := by decide +kernel
theorem dX9_term_29 : decode cX9_term 29 = .ok (.ireturn, 1) := by decide +kernel
theorem dX9_added_0 : decode cX9_added 0 = .ok (.aload_n 0, 1) := by decide +kernel
theorem dX9_added_1 : decode cX9_added 1 = .ok (.invokevirtual 225, 3) := by decide +kernel
theorem dX9_added_4 : decode cX9_added 4 = .ok (.istore_n 1, 1) := by decide +kernel
theorem dX9_added_5 : decode cX9_added 5 = .ok (.aload_n 0, 1) := by decide +kernel
theorem dX9_added_6 : decode cX9_added 6 = .ok (.bipush 43, 2) := by decide +kernel
theorem dX9_added_8 : decode cX9_added 8 = .ok (.invokevirtual 208, 3) := by decide +kernel
theorem dX9_added_11 : decode cX9_added 11 = .ok (.ifCond .ne 12, 3) := by decide +kernel
theorem dX9_added_14 : decode cX9_added 14 = .ok (.aload_n 0, 1) := by decide +kernel
theorem dX9_added_15 : decode cX9_added 15 = .ok (.bipush 45, 2) := by decide +kernel
theorem dX9_added_17 : decode cX9_added 17 = .ok (.invokevirtual 208, 3) := by decide +kernel
theorem dX9_added_20 : decode cX9_added 20 = .ok (.ifCond .eq 46, 3) := by decide +kernel
theorem dX9_added_23 : decode cX9_added 23 = .ok (.aload_n 0, 1) := by decide +kernel
theorem dX9_added_24 : decode cX9_added 24 = .ok (.getfield 162, 3) := by decide +kernel
theorem dX9_added_27 : decode cX9_added 27 = .ok (.ldc2_w 228, 3) := by decide +kernel
theorem dX9_added_30 : decode cX9_added 30 = .ok (.lcmp, 1) := by decide +kernel
theorem dX9_added_31 : decode cX9_added 31 = .ok (.ifCond .ne 7, 3) := by decide +kernel
theorem dX9_added_34 : decode cX9_added 34 = .ok (.iconst 1, 1) := by decide +kernel
theorem dX9_added_35 : decode cX9_added 35 = .ok (.goto 4, 3) := by decide +kernel
theorem dX9_added_38 : decode cX9_added 38 = .ok (.iconst 0, 1) := by decide +kernel
theorem dX9_added_39 : decode cX9_added 39 = .ok (.istore_n 2, 1) := by decide +kernel
theorem dX9_added_40 : decode cX9_added 40 = .ok (.aload_n 0, 1) := by decide +kernel
theorem dX9_added_41 : decode cX9_added 41 = .ok (.invokevirtual 183, 3) := by decide +kernel
theorem dX9_added_44 : decode cX9_added 44 = .ok (.aload_n 0, 1) := by decide +kernel
theorem dX9_added_45 : decode cX9_added 45 = .ok (.invokevirtual 225, 3) := by decide +kernel
theorem dX9_added_48 : decode cX9_added 48 = .ok (.istore_n 3, 1) := by decide +kernel
theorem dX9_added_49 : decode cX9_added 49 = .ok (.iload_n 2, 1) := by decide +kernel
theorem dX9_added_50 : decode cX9_added 50 = .ok (.ifCond .eq 9, 3) := by decide +kernel
theorem dX9_added_53 : decode cX9_added 53 = .ok (.iload_n 1, 1) := by decide +kernel
theorem dX9_added_54 : decode cX9_added 54 = .ok (.iload_n 3, 1) := by decide +kernel
theorem dX9_added_55 : decode cX9_added 55 = .ok (.iadd, 1) := by decide +kernel
theorem dX9_added_56 : decode cX9_added 56 = .ok (.goto 6, 3) := by decide +kernel
theorem dX9_added_59 : decode cX9_added 59 = .ok (.iload_n 1, 1) := by decide +kernel
theorem dX9_added_60 : decode cX9_added 60 = .ok (.iload_n 3, 1) := by decide +kernel
theorem dX9_added_61 : decode cX9_added 61 = .ok (.isub, 1) := by decide +kernel
theorem dX9_added_62 : decode cX9_added 62 = .ok (.istore_n 1, 1) := by decide +kernel
theorem dX9_added_63 : decode cX9_added 63 = .ok (.goto (-58), 3) := by decide +kernel
theorem dX9_added_66 : decode cX9_added 66 = .ok (.iload_n 1, 1) := by decide +kernel
theorem dX9_added_67 : decode cX9_added 67 = .ok (.ireturn, 1) := by decide +kernel
theorem dX9_not_0 : decode cX9_not 0 = .ok (.aload_n 0, 1) := by decide +kernel
theorem dX9_not_1 : decode cX9_not 1 = .ok (.bipush 110, 2) := by decide +kernel
theorem dX9_not_3 : decode cX9_not 3 = .ok (.bipush 111, 2) := by decide +kernel
theorem dX9_not_5 : decode cX9_not 5 = .ok (.bipush 116, 2) := by decide +kernel
theorem dX9_not_7 : decode cX9_not 7 = .ok (.iconst 0, 1) := by decide +kernel
theorem dX9_not_8 : decode cX9_not 8 = .ok (.iconst 0, 1) := by decide +kernel
theorem dX9_not_9 : decode cX9_not 9 = .ok (.iconst 0, 1) := by decide +kernel
theorem dX9_not_10 : decode cX9_not 10 = .ok (.iconst 0, 1) := by decide +kernel
theorem dX9_not_11 : decode cX9_not 11 = .ok (.iconst 0, 1) := by decide +kernel
theorem dX9_not_12 : decode cX9_not 12 = .ok (.invokevirtual 186, 3) := by decide +kernel
theorem dX9_not_15 : decode cX9_not 15 = .ok (.ifCond .eq 37, 3) := by decide +kernel
theorem dX9_not_18 : decode cX9_not 18 = .ok (.aload_n 0, 1) := by decide +kernel
theorem dX9_not_19 : decode cX9_not 19 = .ok (.invokevirtual 211, 3) := by decide +kernel
theorem dX9_not_22 : decode cX9_not 22 = .ok (.ifCond .ne 5, 3) := by decide +kernel
theorem dX9_not_25 : decode cX9_not 25 = .ok (.iconst 0, 1) := by decide +kernel
theorem dX9_not_26 : decode cX9_not 26 = .ok (.ireturn, 1) := by decide +kernel
theorem dX9_not_27 : decode cX9_not 27 = .ok (.aload_n 0, 1) := by decide +kernel
theorem dX9_not_28 : decode cX9_not 28 = .ok (.invokevirtual 230, 3) := by decide +kernel
theorem dX9_not_31 : decode cX9_not 31 = .ok (.istore_n 1, 1) := by decide +kernel
theorem dX9_not_32 : decode cX9_not 32 = .ok (.aload_n 0, 1) := by decide +kernel
theorem dX9_not_33 : decode cX9_not 33 = .ok (.dup, 1) := by decide +kernel
theorem dX9_not_34 : decode cX9_not 34 = .ok (.getfield 177, 3) := by decide +kernel
theorem dX9_not_37 : decode cX9_not 37 = .ok (.iconst 1, 1) := by decide +kernel
theorem dX9_not_38 : decode cX9_not 38 = .ok (.isub, 1) := by decide +kernel
theorem dX9_not_39 : decode cX9_not 39 = .ok (.putfield 177, 3) := by decide +kernel
theorem dX9_not_42 : decode cX9_not 42 = .ok (.iload_n 1, 1) := by decide +kernel
theorem dX9_not_43 : decode cX9_not 43 = .ok (.ifCond .ne 7, 3) := by decide +kernel
theorem dX9_not_46 : decode cX9_not 46 = .ok (.iconst 1, 1) := by decide +kernel
theorem dX9_not_47 : decode cX9_not 47 = .ok (.goto 4, 3) := by decide +kernel
theorem dX9_not_50 : decode cX9_not 50 = .ok (.iconst 0, 1) := by decide +kernel
theorem dX9_not_51 : decode cX9_not 51 = .ok (.ireturn, 1) := by decide +kernel
theorem dX9_not_52 : decode cX9_not 52 = .ok (.aload_n 0, 1) := by decide +kernel
theorem dX9_not_53 : decode cX9_not 53 = .ok (.invokevirtual 233, 3) := by decide +kernel
theorem dX9_not_56 : decode cX9_not 56 = .ok (.istore_n 1, 1) := by decide +kernel
theorem dX9_not_57 : decode cX9_not 57 = .ok (.aload_n 0, 1) := by decide +kernel
theorem dX9_not_58 : decode cX9_not 58 = .ok (.bipush 60, 2) := by decide +kernel
theorem dX9_not_60 : decode cX9_not 60 = .ok (.invokevirtual 208, 3) := by decide +kernel
theorem dX9_not_63 : decode cX9_not 63 = .ok (.ifCond .ne 14, 3) := by decide +kernel
theorem dX9_not_66 : decode cX9_not 66 = .ok (.aload_n 0, 1) := by decide +kernel
theorem dX9_not_67 : decode cX9_not 67 = .ok (.bipush 61, 2) := by decide +kernel
theorem dX9_not_69 : decode cX9_not 69 = .ok (.invokevirtual 208, 3) := by decide +kernel
theorem dX9_not_72 : decode cX9_not 72 = .ok (.ifCond .ne 5, 3) := by decide +kernel
theorem dX9_not_75 : decode cX9_not 75 = .ok (.iload_n 1, 1) := by decide +kernel
theorem dX9_not_76 : decode cX9_not 76 = .ok (.ireturn, 1) := by decide +kernel
theorem dX9_not_77 : decode cX9_not 77 = .ok (.aload_n 0, 1) := by decide +kernel
theorem dX9_not_78 : decode cX9_not 78 = .ok (.getfield 162, 3) := by decide +kernel
theorem dX9_not_81 : decode cX9_not 81 = .ok (.ldc2_w 236, 3) := by decide +kernel
theorem dX9_not_84 : decode cX9_not 84 = .ok (.lcmp, 1) := by decide +kernel
theorem dX9_not_85 : decode cX9_not 85 = .ok (.ifCond .ne 7, 3) := by decide +kernel
theorem dX9_not_88 : decode cX9_not 88 = .ok (.iconst 1, 1) := by decide +kernel
theorem dX9_not_89 : decode cX9_not 89 = .ok (.goto 4, 3) := by decide +kernel
theorem dX9_not_92 : decode cX9_not 92 = .ok (.iconst 0, 1) := by decide +kernel
theorem dX9_not_93 : decode cX9_not 93 = .ok (.istore_n 2, 1) := by decide +kernel
theorem dX9_not_94 : decode cX9_not 94 = .ok (.aload_n 0, 1) := by decide +kernel
theorem dX9_not_95 : decode cX9_not 95 = .ok (.invokevirtual 183, 3) := by decide +kernel
theorem dX9_not_98 : decode cX9_not 98 = .ok (.aload_n 0, 1) := by decide +kernel
theorem dX9_not_99 : decode cX9_not 99 = .ok (.invokevirtual 233, 3) := by decide +kernel
theorem dX9_not_102 : decode cX9_not 102 = .ok (.istore_n 3, 1) := by decide +kernel
theorem dX9_not_103 : decode cX9_not 103 = .ok (.iload_n 2, 1) := by decide +kernel
theorem dX9_not_104 : decode cX9_not 104 = .ok (.ifCond .eq 11, 3) := by decide +kernel
theorem dX9_not_107 : decode cX9_not 107 = .ok (.iload_n 1, 1) := by decide +kernel
theorem dX9_not_108 : decode cX9_not 108 = .ok (.iload_n 3, 1) := by decide +kernel
theorem dX9_not_109 : decode cX9_not 109 = .ok (.if_icmp .ge 15, 3) := by decide +kernel
theorem dX9_not_112 : decode cX9_not 112 = .ok (.goto 8, 3) := by decide +kernel
theorem dX9_not_115 : decode cX9_not 115 = .ok (.iload_n 1, 1) := by decide +kernel
theorem dX9_not_116 : decode cX9_not 116 = .ok (.iload_n 3, 1) := by decide +kernel
theorem dX9_not_117 : decode cX9_not 117 = .ok (.if_icmp .ne 7, 3) := by decide +kernel
theorem dX9_not_120 : decode cX9_not 120 = .ok (.iconst 1, 1) := by decide +kernel
theorem dX9_not_121 : decode cX9_not 121 = .ok (.goto 4, 3) := by decide +kernel
theorem dX9_not_124 : decode cX9_not 124 = .ok (.iconst 0, 1) := by decide +kernel
theorem dX9_not_125 : decode cX9_not 125 = .ok (.ireturn, 1) := by decide +kernel
theorem dX9_both_0 : decode cX9_both 0 = .ok (.aload_n 0, 1) := by decide +kernel
theorem dX9_both_1 : decode cX9_both 1 = .ok (.invokevirtual 230, 3) := by decide +kernel
theorem dX9_both_4 : decode cX9_both 4 = .ok (.istore_n 1, 1) := by decide +kernel
theorem dX9_both_5 : decode cX9_both 5 = .ok (.aload_n 0, 1) := by decide +kernel
theorem dX9_both_6 : decode cX9_both 6 = .ok (.bipush 97, 2) := by decide +kernel
theorem dX9_both_8 : decode cX9_both 8 = .ok (.bipush 110, 2) := by decide +kernel
theorem dX9_both_10 : decode cX9_both 10 = .ok (.bipush 100, 2) := by decide +kernel
theorem dX9_both_12 : decode cX9_both 12 = .ok (.iconst 0, 1) := by decide +kernel
theorem dX9_both_13 : decode cX9_both 13 = .ok (.iconst 0, 1) := by decide +kernel
theorem dX9_both_14 : decode cX9_both 14 = .ok (.iconst 0, 1) := by decide +kernel
theorem dX9_both_15 : decode cX9_both 15 = .ok (.iconst 0, 1) := by decide +kernel
theorem dX9_both_16 : decode cX9_both 16 = .ok (.iconst 0, 1) := by decide +kernel
theorem dX9_both_17 : decode cX9_both 17 = .ok (.invokevirtual 186, 3) := by decide +kernel
theorem dX9_both_20 : decode cX9_both 20 = .ok (.ifCond .eq 29, 3) := by decide +kernel
theorem dX9_both_23 : decode cX9_both 23 = .ok (.aload_n 0, 1) := by decide +kernel
theorem dX9_both_24 : decode cX9_both 24 = .ok (.invokevirtual 183, 3) := by decide +kernel
theorem dX9_both_27 : decode cX9_both 27 = .ok (.aload_n 0, 1) := by decide +kernel
theorem dX9_both_28 : decode cX9_both 28 = .ok (.invokevirtual 230, 3) := by decide +kernel
theorem dX9_both_31 : decode cX9_both 31 = .ok (.istore_n 2, 1) := by decide +kernel
theorem dX9_both_32 : decode cX9_both 32 = .ok (.iload_n 1, 1) := by decide +kernel
theorem dX9_both_33 : decode cX9_both 33 = .ok (.ifCond .eq 11, 3) := by decide +kernel
theorem dX9_both_36 : decode cX9_both 36 = .ok (.iload_n 2, 1) := by decide +kernel
theorem dX9_both_37 : decode cX9_both 37 = .ok (.ifCond .eq 7, 3) := by decide +kernel
theorem dX9_both_40 : decode cX9_both 40 = .ok (.iconst 1, 1) := by decide +kernel
theorem dX9_both_41 : decode cX9_both 41 = .ok (.goto 4, 3) := by decide +kernel
theorem dX9_both_44 : decode cX9_both 44 = .ok (.iconst 0, 1) := by decide +kernel
theorem dX9_both_45 : decode cX9_both 45 = .ok (.istore_n 1, 1) := by decide +kernel
theorem dX9_both_46 : decode cX9_both 46 = .ok (.goto (-41), 3) := by decide +kernel
theorem dX9_both_49 : decode cX9_both 49 = .ok (.iload_n 1, 1) := by decide +kernel
theorem dX9_both_50 : decode cX9_both 50 = .ok (.ireturn, 1) := by decide +kernel
theorem dX9_either_0 : decode cX9_either 0 = .ok (.aload_n 0, 1) := by decide +kernel
theorem dX9_either_1 : decode cX9_either 1 = .ok (.invokevirtual 238, 3) := by decide +kernel
theorem dX9_either_4 : decode cX9_either 4 = .ok (.istore_n 1, 1) := by decide +kernel
theorem dX9_either_5 : decode cX9_either 5 = .ok (.aload_n 0, 1) := by decide +kernel
theorem dX9_either_6 : decode cX9_either 6 = .ok (.bipush 111, 2) := by decide +kernel
theorem dX9_either_8 : decode cX9_either 8 = .ok (.bipush 114, 2) := by decide +kernel
theorem dX9_either_10 : decode cX9_either 10 = .ok (.iconst 0, 1) := by decide +kernel
theorem dX9_either_11 : decode cX9_either 11 = .ok (.iconst 0, 1) := by decide +kernel
theorem dX9_either_12 : decode cX9_either 12 = .ok (.iconst 0, 1) := by decide +kernel
theorem dX9_either_13 : decode cX9_either 13 = .ok (.iconst 0, 1) := by decide +kernel
theorem dX9_either_14 : decode cX9_either 14 = .ok (.iconst 0, 1) := by decide +kernel
theorem dX9_either_15 : decode cX9_either 15 = .ok (.iconst 0, 1) := by decide +kernel
theorem dX9_either_16 : decode cX9_either 16 = .ok (.invokevirtual 186, 3) := by decide +kernel
theorem dX9_either_19 : decode cX9_either 19 = .ok (.ifCond .eq 29, 3) := by decide +kernel
theorem dX9_either_22 : decode cX9_either 22 = .ok (.aload_n 0, 1) := by decide +kernel
theorem dX9_either_23 : decode cX9_either 23 = .ok (.invokevirtual 183, 3) := by decide +kernel
theorem dX9_either_26 : decode cX9_either 26 = .ok (.aload_n 0, 1) := by decide +kernel
theorem dX9_either_27 : decode cX9_either 27 = .ok (.invokevirtual 238, 3) := by decide +kernel
theorem dX9_either_30 : decode cX9_either 30 = .ok (.istore_n 2, 1) := by decide +kernel
theorem dX9_either_31 : decode cX9_either 31 = .ok (.iload_n 1, 1) := by decide +kernel
theorem dX9_either_32 : decode cX9_either 32 = .ok (.ifCond .ne 7, 3) := by decide +kernel
theorem dX9_either_35 : decode cX9_either 35 = .ok (.iload_n 2, 1) := by decide +kernel
theorem dX9_either_36 : decode cX9_either 36 = .ok (.ifCond .eq 7, 3) := by decide +kernel
theorem dX9_either_39 : decode cX9_either 39 = .ok (.iconst 1, 1) := by decide +kernel
theorem dX9_either_40 : decode cX9_either 40 = .ok (.goto 4, 3) := by decide +kernel
theorem dX9_either_43 : decode cX9_either 43 = .ok (.iconst 0, 1) := by decide +kernel
theorem dX9_either_44 : decode cX9_either 44 = .ok (.istore_n 1, 1) := by decide +kernel
theorem dX9_either_45 : decode cX9_either 45 = .ok (.goto (-40), 3) := by decide +kernel
theorem dX9_either_48 : decode cX9_either 48 = .ok (.iload_n 1, 1) := by decide +kernel
theorem dX9_either_49 : decode cX9_either 49 = .ok (.ireturn, 1) := by decide +kernel
theorem dX9_part_0 : decode cX9_part 0 = .ok (.iload_n 1, 1) := by decide +kernel
theorem dX9_part_1 : decode cX9_part 1 = .ok (.ifCond .ne 7, 3) := by decide +kernel
theorem dX9_part_4 : decode cX9_part 4 = .ok (.aload_n 0, 1) := by decide +kernel
theorem dX9_part_5 : decode cX9_part 5 = .ok (.invokevirtual 180, 3) := by decide +kernel
theorem dX9_part_8 : decode cX9_part 8 = .ok (.aload_n 0, 1) := by decide +kernel
theorem dX9_part_9 : decode cX9_part 9 = .ok (.getfield 166, 3) := by decide +kernel
theorem dX9_part_12 : decode cX9_part 12 = .ok (.ifCond .ne 7, 3) := by decide +kernel
theorem dX9_part_15 : decode cX9_part 15 = .ok (.aload_n 0, 1) := by decide +kernel
theorem dX9_part_16 : decode cX9_part 16 = .ok (.invokevirtual 183, 3) := by decide +kernel
theorem dX9_part_19 : decode cX9_part 19 = .ok (.aload_n 0, 1) := by decide +kernel
theorem dX9_part_20 : decode cX9_part 20 = .ok (.getfield 166, 3) := by decide +kernel
theorem dX9_part_23 : decode cX9_part 23 = .ok (.ifCond .eq 7, 3) := by decide +kernel
theorem dX9_part_26 : decode cX9_part 26 = .ok (.iconst 0, 1) := by decide +kernel
theorem dX9_part_27 : decode cX9_part 27 = .ok (.goto 7, 3) := by decide +kernel
theorem dX9_part_30 : decode cX9_part 30 = .ok (.aload_n 0, 1) := by decide +kernel
theorem dX9_part_31 : decode cX9_part 31 = .ok (.invokevirtual 219, 3) := by decide +kernel
theorem dX9_part_34 : decode cX9_part 34 = .ok (.istore_n 2, 1) := by decide +kernel
theorem dX9_part_35 : decode cX9_part 35 = .ok (.aload_n 0, 1) := by decide +kernel
theorem dX9_part_36 : decode cX9_part 36 = .ok (.bipush 59, 2) := by decide +kernel
theorem dX9_part_38 : decode cX9_part 38 = .ok (.invokevirtual 208, 3) := by decide +kernel
theorem dX9_part_41 : decode cX9_part 41 = .ok (.ifCond .ne 7, 3) := by decide +kernel
theorem dX9_part_44 : decode cX9_part 44 = .ok (.aload_n 0, 1) := by decide +kernel
theorem dX9_part_45 : decode cX9_part 45 = .ok (.invokevirtual 180, 3) := by decide +kernel
theorem dX9_part_48 : decode cX9_part 48 = .ok (.aload_n 0, 1) := by decide +kernel
theorem dX9_part_49 : decode cX9_part 49 = .ok (.getfield 166, 3) := by decide +kernel
theorem dX9_part_52 : decode cX9_part 52 = .ok (.ifCond .ne 7, 3) := by decide +kernel
theorem dX9_part_55 : decode cX9_part 55 = .ok (.aload_n 0, 1) := by decide +kernel
theorem dX9_part_56 : decode cX9_part 56 = .ok (.invokevirtual 183, 3) := by decide +kernel
theorem dX9_part_59 : decode cX9_part 59 = .ok (.iload_n 2, 1) := by decide +kernel
theorem dX9_part_60 : decode cX9_part 60 = .ok (.ireturn, 1) := by decide +kernel
theorem dX9_read_0 : decode cX9_read 0 = .ok (.aload_n 0, 1) := by decide +kernel
theorem dX9_read_1 : decode cX9_read 1 = .ok (.sipush 160, 3) := by decide +kernel
theorem dX9_read_4 : decode cX9_read 4 = .ok (.iload_n 1, 1) := by decide +kernel
theorem dX9_read_5 : decode cX9_read 5 = .ok (.imul, 1) := by decide +kernel
theorem dX9_read_6 : decode cX9_read 6 = .ok (.putfield 138, 3) := by decide +kernel
theorem dX9_read_9 : decode cX9_read 9 = .ok (.aload_n 0, 1) := by decide +kernel
theorem dX9_read_10 : decode cX9_read 10 = .ok (.aload_n 0, 1) := by decide +kernel
theorem dX9_read_11 : decode cX9_read 11 = .ok (.getfield 17, 3) := by decide +kernel
theorem dX9_read_14 : decode cX9_read 14 = .ok (.iload_n 1, 1) := by decide +kernel
theorem dX9_read_15 : decode cX9_read 15 = .ok (.iaload, 1) := by decide +kernel
theorem dX9_read_16 : decode cX9_read 16 = .ok (.putfield 135, 3) := by decide +kernel
theorem dX9_read_19 : decode cX9_read 19 = .ok (.aload_n 0, 1) := by decide +kernel
theorem dX9_read_20 : decode cX9_read 20 = .ok (.iconst 0, 1) := by decide +kernel
theorem dX9_read_21 : decode cX9_read 21 = .ok (.putfield 141, 3) := by decide +kernel
theorem dX9_read_24 : decode cX9_read 24 = .ok (.aload_n 0, 1) := by decide +kernel
theorem dX9_read_25 : decode cX9_read 25 = .ok (.iconst 0, 1) := by decide +kernel
theorem dX9_read_26 : decode cX9_read 26 = .ok (.putfield 177, 3) := by decide +kernel
theorem dX9_read_29 : decode cX9_read 29 = .ok (.aload_n 0, 1) := by decide +kernel
theorem dX9_read_30 : decode cX9_read 30 = .ok (.iconst 0, 1) := by decide +kernel
theorem dX9_read_31 : decode cX9_read 31 = .ok (.putfield 166, 3) := by decide +kernel
theorem dX9_read_34 : decode cX9_read 34 = .ok (.aload_n 0, 1) := by decide +kernel
theorem dX9_read_35 : decode cX9_read 35 = .ok (.invokevirtual 183, 3) := by decide +kernel
theorem dX9_read_38 : decode cX9_read 38 = .ok (.aload_n 0, 1) := by decide +kernel
theorem dX9_read_39 : decode cX9_read 39 = .ok (.aload_n 0, 1) := by decide +kernel
theorem dX9_read_40 : decode cX9_read 40 = .ok (.bipush 98, 2) := by decide +kernel
theorem dX9_read_42 : decode cX9_read 42 = .ok (.bipush 101, 2) := by decide +kernel
theorem dX9_read_44 : decode cX9_read 44 = .ok (.bipush 97, 2) := by decide +kernel
theorem dX9_read_46 : decode cX9_read 46 = .ok (.bipush 114, 2) := by decide +kernel
theorem dX9_read_48 : decode cX9_read 48 = .ok (.bipush 115, 2) := by decide +kernel
theorem dX9_read_50 : decode cX9_read 50 = .ok (.iconst 0, 1) := by decide +kernel
theorem dX9_read_51 : decode cX9_read 51 = .ok (.iconst 0, 1) := by decide +kernel
theorem dX9_read_52 : decode cX9_read 52 = .ok (.iconst 0, 1) := by decide +kernel
theorem dX9_read_53 : decode cX9_read 53 = .ok (.invokevirtual 186, 3) := by decide +kernel
theorem dX9_read_56 : decode cX9_read 56 = .ok (.invokevirtual 241, 3) := by decide +kernel
theorem dX9_read_59 : decode cX9_read 59 = .ok (.istore_n 3, 1) := by decide +kernel
theorem dX9_read_60 : decode cX9_read 60 = .ok (.aload_n 0, 1) := by decide +kernel
theorem dX9_read_61 : decode cX9_read 61 = .ok (.getfield 166, 3) := by decide +kernel
theorem dX9_read_64 : decode cX9_read 64 = .ok (.ifCond .eq 7, 3) := by decide +kernel
theorem dX9_read_67 : decode cX9_read 67 = .ok (.iconst 0, 1) := by decide +kernel
theorem dX9_read_68 : decode cX9_read 68 = .ok (.goto 24, 3) := by decide +kernel
theorem dX9_read_71 : decode cX9_read 71 = .ok (.aload_n 0, 1) := by decide +kernel
theorem dX9_read_72 : decode cX9_read 72 = .ok (.aload_n 0, 1) := by decide +kernel
theorem dX9_read_73 : decode cX9_read 73 = .ok (.bipush 116, 2) := by decide +kernel
theorem dX9_read_75 : decode cX9_read 75 = .ok (.bipush 97, 2) := by decide +kernel
theorem dX9_read_77 : decode cX9_read 77 = .ok (.bipush 107, 2) := by decide +kernel
theorem dX9_read_79 : decode cX9_read 79 = .ok (.bipush 101, 2) := by decide +kernel
theorem dX9_read_81 : decode cX9_read 81 = .ok (.bipush 115, 2) := by decide +kernel
theorem dX9_read_83 : decode cX9_read 83 = .ok (.iconst 0, 1) := by decide +kernel
theorem dX9_read_84 : decode cX9_read 84 = .ok (.iconst 0, 1) := by decide +kernel
theorem dX9_read_85 : decode cX9_read 85 = .ok (.iconst 0, 1) := by decide +kernel
theorem dX9_read_86 : decode cX9_read 86 = .ok (.invokevirtual 186, 3) := by decide +kernel
theorem dX9_read_89 : decode cX9_read 89 = .ok (.invokevirtual 241, 3) := by decide +kernel
theorem dX9_read_92 : decode cX9_read 92 = .ok (.istore 4, 2) := by decide +kernel
theorem dX9_read_94 : decode cX9_read 94 = .ok (.aload_n 0, 1) := by decide +kernel
theorem dX9_read_95 : decode cX9_read 95 = .ok (.getfield 166, 3) := by decide +kernel
theorem dX9_read_98 : decode cX9_read 98 = .ok (.ifCond .eq 7, 3) := by decide +kernel
theorem dX9_read_101 : decode cX9_read 101 = .ok (.iconst 0, 1) := by decide +kernel
theorem dX9_read_102 : decode cX9_read 102 = .ok (.goto 24, 3) := by decide +kernel
theorem dX9_read_105 : decode cX9_read 105 = .ok (.aload_n 0, 1) := by decide +kernel
theorem dX9_read_106 : decode cX9_read 106 = .ok (.aload_n 0, 1) := by decide +kernel
theorem dX9_read_107 : decode cX9_read 107 = .ok (.bipush 102, 2) := by decide +kernel
theorem dX9_read_109 : decode cX9_read 109 = .ok (.bipush 105, 2) := by decide +kernel
theorem dX9_read_111 : decode cX9_read 111 = .ok (.bipush 114, 2) := by decide +kernel
theorem dX9_read_113 : decode cX9_read 113 = .ok (.bipush 115, 2) := by decide +kernel
theorem dX9_read_115 : decode cX9_read 115 = .ok (.bipush 116, 2) := by decide +kernel
theorem dX9_read_117 : decode cX9_read 117 = .ok (.iconst 0, 1) := by decide +kernel
theorem dX9_read_118 : decode cX9_read 118 = .ok (.iconst 0, 1) := by decide +kernel
theorem dX9_read_119 : decode cX9_read 119 = .ok (.iconst 0, 1) := by decide +kernel
theorem dX9_read_120 : decode cX9_read 120 = .ok (.invokevirtual 186, 3) := by decide +kernel
theorem dX9_read_123 : decode cX9_read 123 = .ok (.invokevirtual 241, 3) := by decide +kernel
theorem dX9_read_126 : decode cX9_read 126 = .ok (.istore 5, 2) := by decide +kernel
theorem dX9_read_128 : decode cX9_read 128 = .ok (.aload_n 0, 1) := by decide +kernel
theorem dX9_read_129 : decode cX9_read 129 = .ok (.getfield 166, 3) := by decide +kernel
theorem dX9_read_132 : decode cX9_read 132 = .ok (.ifCond .ne 14, 3) := by decide +kernel
theorem dX9_read_135 : decode cX9_read 135 = .ok (.aload_n 0, 1) := by decide +kernel
theorem dX9_read_136 : decode cX9_read 136 = .ok (.getfield 151, 3) := by decide +kernel
theorem dX9_read_139 : decode cX9_read 139 = .ok (.ifCond .eq 7, 3) := by decide +kernel
theorem dX9_read_142 : decode cX9_read 142 = .ok (.aload_n 0, 1) := by decide +kernel
theorem dX9_read_143 : decode cX9_read 143 = .ok (.invokevirtual 180, 3) := by decide +kernel
theorem dX9_read_146 : decode cX9_read 146 = .ok (.iload_n 2, 1) := by decide +kernel
theorem dX9_read_147 : decode cX9_read 147 = .ok (.ifCond .ne 7, 3) := by decide +kernel
theorem dX9_read_150 : decode cX9_read 150 = .ok (.iload_n 3, 1) := by decide +kernel
theorem dX9_read_151 : decode cX9_read 151 = .ok (.goto 15, 3) := by decide +kernel
theorem dX9_read_154 : decode cX9_read 154 = .ok (.iload_n 2, 1) := by decide +kernel
theorem dX9_read_155 : decode cX9_read 155 = .ok (.iconst 1, 1) := by decide +kernel
theorem dX9_read_156 : decode cX9_read 156 = .ok (.if_icmp .ne 8, 3) := by decide +kernel
theorem dX9_read_159 : decode cX9_read 159 = .ok (.iload 4, 2) := by decide +kernel
theorem dX9_read_161 : decode cX9_read 161 = .ok (.goto 5, 3) := by decide +kernel
theorem dX9_read_164 : decode cX9_read 164 = .ok (.iload 5, 2) := by decide +kernel
theorem dX9_read_166 : decode cX9_read 166 = .ok (.ireturn, 1) := by decide +kernel
theorem dX9_text_0 : decode cX9_text 0 = .ok (.aload_n 0, 1) := by decide +kernel
theorem dX9_text_1 : decode cX9_text 1 = .ok (.getfield 88, 3) := by decide +kernel
theorem dX9_text_4 : decode cX9_text 4 = .ok (.bipush 6, 2) := by decide +kernel
theorem dX9_text_6 : decode cX9_text 6 = .ok (.if_icmp .ne 6, 3) := by decide +kernel
theorem dX9_text_9 : decode cX9_text 9 = .ok (.bipush (-4), 2) := by decide +kernel
theorem dX9_text_11 : decode cX9_text 11 = .ok (.ireturn, 1) := by decide +kernel
theorem dX9_text_12 : decode cX9_text 12 = .ok (.iconst 0, 1) := by decide +kernel
theorem dX9_text_13 : decode cX9_text 13 = .ok (.istore_n 1, 1) := by decide +kernel
theorem dX9_text_14 : decode cX9_text 14 = .ok (.iload_n 1, 1) := by decide +kernel
theorem dX9_text_15 : decode cX9_text 15 = .ok (.aload_n 0, 1) := by decide +kernel
theorem dX9_text_16 : decode cX9_text 16 = .ok (.getfield 132, 3) := by decide +kernel
theorem dX9_text_19 : decode cX9_text 19 = .ok (.if_icmp .ge 30, 3) := by decide +kernel
theorem dX9_text_22 : decode cX9_text 22 = .ok (.aload_n 0, 1) := by decide +kernel
theorem dX9_text_23 : decode cX9_text 23 = .ok (.getfield 13, 3) := by decide +kernel
theorem dX9_text_26 : decode cX9_text 26 = .ok (.sipush 160, 3) := by decide +kernel
theorem dX9_text_29 : decode cX9_text 29 = .ok (.aload_n 0, 1) := by decide +kernel
theorem dX9_text_30 : decode cX9_text 30 = .ok (.getfield 88, 3) := by decide +kernel
theorem dX9_text_33 : decode cX9_text 33 = .ok (.imul, 1) := by decide +kernel
theorem dX9_text_34 : decode cX9_text 34 = .ok (.iload_n 1, 1) := by decide +kernel
theorem dX9_text_35 : decode cX9_text 35 = .ok (.iadd, 1) := by decide +kernel
theorem dX9_text_36 : decode cX9_text 36 = .ok (.aload_n 0, 1) := by decide +kernel
theorem dX9_text_37 : decode cX9_text 37 = .ok (.getfield 20, 3) := by decide +kernel
theorem dX9_text_40 : decode cX9_text 40 = .ok (.iload_n 1, 1) := by decide +kernel
theorem dX9_text_41 : decode cX9_text 41 = .ok (.iaload, 1) := by decide +kernel
theorem dX9_text_42 : decode cX9_text 42 = .ok (.iastore, 1) := by decide +kernel
theorem dX9_text_43 : decode cX9_text 43 = .ok (.iinc 1 1, 3) := by decide +kernel
theorem dX9_text_46 : decode cX9_text 46 = .ok (.goto (-32), 3) := by decide +kernel
theorem dX9_text_49 : decode cX9_text 49 = .ok (.aload_n 0, 1) := by decide +kernel
theorem dX9_text_50 : decode cX9_text 50 = .ok (.getfield 17, 3) := by decide +kernel
theorem dX9_text_53 : decode cX9_text 53 = .ok (.aload_n 0, 1) := by decide +kernel
theorem dX9_text_54 : decode cX9_text 54 = .ok (.getfield 88, 3) := by decide +kernel
theorem dX9_text_57 : decode cX9_text 57 = .ok (.aload_n 0, 1) := by decide +kernel
theorem dX9_text_58 : decode cX9_text 58 = .ok (.getfield 132, 3) := by decide +kernel
theorem dX9_text_61 : decode cX9_text 61 = .ok (.iastore, 1) := by decide +kernel
theorem dX9_text_62 : decode cX9_text 62 = .ok (.aload_n 0, 1) := by decide +kernel
theorem dX9_text_63 : decode cX9_text 63 = .ok (.iconst 0, 1) := by decide +kernel
theorem dX9_text_64 : decode cX9_text 64 = .ok (.putfield 132, 3) := by decide +kernel
theorem dX9_text_67 : decode cX9_text 67 = .ok (.aload_n 0, 1) := by decide +kernel
theorem dX9_text_68 : decode cX9_text 68 = .ok (.aload_n 0, 1) := by decide +kernel
theorem dX9_text_69 : decode cX9_text 69 = .ok (.getfield 88, 3) := by decide +kernel
theorem dX9_text_72 : decode cX9_text 72 = .ok (.iconst 0, 1) := by decide +kernel
theorem dX9_text_73 : decode cX9_text 73 = .ok (.invokevirtual 245, 3) := by decide +kernel
theorem dX9_text_76 : decode cX9_text 76 = .ok (.istore_n 1, 1) := by decide +kernel
theorem dX9_text_77 : decode cX9_text 77 = .ok (.aload_n 0, 1) := by decide +kernel
theorem dX9_text_78 : decode cX9_text 78 = .ok (.getfield 166, 3) := by decide +kernel
theorem dX9_text_81 : decode cX9_text 81 = .ok (.ifCond .eq 11, 3) := by decide +kernel
theorem dX9_text_84 : decode cX9_text 84 = .ok (.bipush (-100), 2) := by decide +kernel
theorem dX9_text_86 : decode cX9_text 86 = .ok (.aload_n 0, 1) := by decide +kernel
theorem dX9_text_87 : decode cX9_text 87 = .ok (.getfield 170, 3) := by decide +kernel
theorem dX9_text_90 : decode cX9_text 90 = .ok (.isub, 1) := by decide +kernel
theorem dX9_text_91 : decode cX9_text 91 = .ok (.ireturn, 1) := by decide +kernel
theorem dX9_text_92 : decode cX9_text 92 = .ok (.aload_n 0, 1) := by decide +kernel
theorem dX9_text_93 : decode cX9_text 93 = .ok (.dup, 1) := by decide +kernel
theorem dX9_text_94 : decode cX9_text 94 = .ok (.getfield 88, 3) := by decide +kernel
theorem dX9_text_97 : decode cX9_text 97 = .ok (.iconst 1, 1) := by decide +kernel
theorem dX9_text_98 : decode cX9_text 98 = .ok (.iadd, 1) := by decide +kernel
theorem dX9_text_99 : decode cX9_text 99 = .ok (.putfield 88, 3) := by decide +kernel
theorem dX9_text_102 : decode cX9_text 102 = .ok (.aload_n 0, 1) := by decide +kernel
theorem dX9_text_103 : decode cX9_text 103 = .ok (.getfield 88, 3) := by decide +kernel
theorem dX9_text_106 : decode cX9_text 106 = .ok (.iconst 1, 1) := by decide +kernel
theorem dX9_text_107 : decode cX9_text 107 = .ok (.isub, 1) := by decide +kernel
theorem dX9_text_108 : decode cX9_text 108 = .ok (.ireturn, 1) := by decide +kernel
theorem dX9_force_0 : decode cX9_force 0 = .ok (.iload_n 1, 1) := by decide +kernel
theorem dX9_force_1 : decode cX9_force 1 = .ok (.i2l, 1) := by decide +kernel
theorem dX9_force_2 : decode cX9_force 2 = .ok (.lconst 0, 1) := by decide +kernel
theorem dX9_force_3 : decode cX9_force 3 = .ok (.aload_n 0, 1) := by decide +kernel
theorem dX9_force_4 : decode cX9_force 4 = .ok (.getfield 88, 3) := by decide +kernel
theorem dX9_force_7 : decode cX9_force 7 = .ok (.iconst 1, 1) := by decide +kernel
theorem dX9_force_8 : decode cX9_force 8 = .ok (.isub, 1) := by decide +kernel
theorem dX9_force_9 : decode cX9_force 9 = .ok (.i2l, 1) := by decide +kernel
theorem dX9_force_10 : decode cX9_force 10 = .ok (.invokestatic 94, 3) := by decide +kernel
theorem dX9_force_13 : decode cX9_force 13 = .ok (.ifCond .ne 6, 3) := by decide +kernel
theorem dX9_force_16 : decode cX9_force 16 = .ok (.bipush (-2), 2) := by decide +kernel
theorem dX9_force_18 : decode cX9_force 18 = .ok (.ireturn, 1) := by decide +kernel
theorem dX9_force_19 : decode cX9_force 19 = .ok (.aload_n 0, 1) := by decide +kernel
theorem dX9_force_20 : decode cX9_force 20 = .ok (.getfield 249, 3) := by decide +kernel
theorem dX9_force_23 : decode cX9_force 23 = .ok (.istore_n 2, 1) := by decide +kernel
theorem dX9_force_24 : decode cX9_force 24 = .ok (.aload_n 0, 1) := by decide +kernel
theorem dX9_force_25 : decode cX9_force 25 = .ok (.iload_n 1, 1) := by decide +kernel
theorem dX9_force_26 : decode cX9_force 26 = .ok (.putfield 249, 3) := by decide +kernel
theorem dX9_force_29 : decode cX9_force 29 = .ok (.iload_n 2, 1) := by decide +kernel
theorem dX9_force_30 : decode cX9_force 30 = .ok (.ireturn, 1) := by decide +kernel
theorem dX9_says_0 : decode cX9_says 0 = .ok (.aload_n 0, 1) := by decide +kernel
theorem dX9_says_1 : decode cX9_says 1 = .ok (.aload_n 0, 1) := by decide +kernel
theorem dX9_says_2 : decode cX9_says 2 = .ok (.getfield 252, 3) := by decide +kernel
theorem dX9_says_5 : decode cX9_says 5 = .ok (.putfield 190, 3) := by decide +kernel
theorem dX9_says_8 : decode cX9_says 8 = .ok (.aload_n 0, 1) := by decide +kernel
theorem dX9_says_9 : decode cX9_says 9 = .ok (.iload_n 2, 1) := by decide +kernel
theorem dX9_says_10 : decode cX9_says 10 = .ok (.putfield 193, 3) := by decide +kernel
theorem dX9_says_13 : decode cX9_says 13 = .ok (.aload_n 0, 1) := by decide +kernel
theorem dX9_says_14 : decode cX9_says 14 = .ok (.iload_n 3, 1) := by decide +kernel
theorem dX9_says_15 : decode cX9_says 15 = .ok (.putfield 196, 3) := by decide +kernel
theorem dX9_says_18 : decode cX9_says 18 = .ok (.aload_n 0, 1) := by decide +kernel
theorem dX9_says_19 : decode cX9_says 19 = .ok (.iload 4, 2) := by decide +kernel
theorem dX9_says_21 : decode cX9_says 21 = .ok (.putfield 199, 3) := by decide +kernel
theorem dX9_says_24 : decode cX9_says 24 = .ok (.aload_n 0, 1) := by decide +kernel
theorem dX9_says_25 : decode cX9_says 25 = .ok (.aload_n 0, 1) := by decide +kernel
theorem dX9_says_26 : decode cX9_says 26 = .ok (.getfield 255, 3) := by decide +kernel
theorem dX9_says_29 : decode cX9_says 29 = .ok (.putfield 202, 3) := by decide +kernel
theorem dX9_says_32 : decode cX9_says 32 = .ok (.aload_n 0, 1) := by decide +kernel
theorem dX9_says_33 : decode cX9_says 33 = .ok (.aload_n 0, 1) := by decide +kernel
theorem dX9_says_34 : decode cX9_says 34 = .ok (.getfield 258, 3) := by decide +kernel
theorem dX9_says_37 : decode cX9_says 37 = .ok (.putfield 205, 3) := by decide +kernel
theorem dX9_says_40 : decode cX9_says 40 = .ok (.aload_n 0, 1) := by decide +kernel
theorem dX9_says_41 : decode cX9_says 41 = .ok (.aload_n 0, 1) := by decide +kernel
theorem dX9_says_42 : decode cX9_says 42 = .ok (.getfield 249, 3) := by decide +kernel
theorem dX9_says_45 : decode cX9_says 45 = .ok (.iload_n 1, 1) := by decide +kernel
theorem dX9_says_46 : decode cX9_says 46 = .ok (.invokevirtual 245, 3) := by decide +kernel
theorem dX9_says_49 : decode cX9_says 49 = .ok (.istore 5, 2) := by decide +kernel
theorem dX9_says_51 : decode cX9_says 51 = .ok (.iload_n 1, 1) := by decide +kernel
theorem dX9_says_52 : decode cX9_says 52 = .ok (.ifCond .ne 15, 3) := by decide +kernel
theorem dX9_says_55 : decode cX9_says 55 = .ok (.iload 5, 2) := by decide +kernel
theorem dX9_says_57 : decode cX9_says 57 = .ok (.bipush (-99), 2) := by decide +kernel
theorem dX9_says_59 : decode cX9_says 59 = .ok (.bipush 99, 2) := by decide +kernel
theorem dX9_says_61 : decode cX9_says 61 = .ok (.invokestatic 261, 3) := by decide +kernel
theorem dX9_says_64 : decode cX9_says 64 = .ok (.goto 21, 3) := by decide +kernel
theorem dX9_says_67 : decode cX9_says 67 = .ok (.iload_n 1, 1) := by decide +kernel
theorem dX9_says_68 : decode cX9_says 68 = .ok (.iconst 1, 1) := by decide +kernel
theorem dX9_says_69 : decode cX9_says 69 = .ok (.if_icmp .ne 14, 3) := by decide +kernel
theorem dX9_says_72 : decode cX9_says 72 = .ok (.iload 5, 2) := by decide +kernel
theorem dX9_says_74 : decode cX9_says 74 = .ok (.iconst 0, 1) := by decide +kernel
theorem dX9_says_75 : decode cX9_says 75 = .ok (.bipush 99, 2) := by decide +kernel
theorem dX9_says_77 : decode cX9_says 77 = .ok (.invokestatic 261, 3) := by decide +kernel
theorem dX9_says_80 : decode cX9_says 80 = .ok (.goto 5, 3) := by decide +kernel
theorem dX9_says_83 : decode cX9_says 83 = .ok (.iload 5, 2) := by decide +kernel
theorem dX9_says_85 : decode cX9_says 85 = .ok (.ireturn, 1) := by decide +kernel
theorem dX9_begins_0 : decode cX9_begins 0 = .ok (.aload_n 0, 1) := by decide +kernel
theorem dX9_begins_1 : decode cX9_begins 1 = .ok (.iconst 0, 1) := by decide +kernel
theorem dX9_begins_2 : decode cX9_begins 2 = .ok (.putfield 252, 3) := by decide +kernel
theorem dX9_begins_5 : decode cX9_begins 5 = .ok (.aload_n 0, 1) := by decide +kernel
theorem dX9_begins_6 : decode cX9_begins 6 = .ok (.aload_n 0, 1) := by decide +kernel
theorem dX9_begins_7 : decode cX9_begins 7 = .ok (.getfield 127, 3) := by decide +kernel
theorem dX9_begins_10 : decode cX9_begins 10 = .ok (.putfield 258, 3) := by decide +kernel
theorem dX9_begins_13 : decode cX9_begins 13 = .ok (.aload_n 0, 1) := by decide +kernel
theorem dX9_begins_14 : decode cX9_begins 14 = .ok (.iconst 0, 1) := by decide +kernel
theorem dX9_begins_15 : decode cX9_begins 15 = .ok (.putfield 255, 3) := by decide +kernel
theorem dX9_begins_18 : decode cX9_begins 18 = .ok (.aload_n 0, 1) := by decide +kernel
theorem dX9_begins_19 : decode cX9_begins 19 = .ok (.iconst 1, 1) := by decide +kernel
theorem dX9_begins_20 : decode cX9_begins 20 = .ok (.aload_n 0, 1) := by decide +kernel
theorem dX9_begins_21 : decode cX9_begins 21 = .ok (.getfield 91, 3) := by decide +kernel
theorem dX9_begins_24 : decode cX9_begins 24 = .ok (.ishl, 1) := by decide +kernel
theorem dX9_begins_25 : decode cX9_begins 25 = .ok (.iconst 1, 1) := by decide +kernel
theorem dX9_begins_26 : decode cX9_begins 26 = .ok (.isub, 1) := by decide +kernel
theorem dX9_begins_27 : decode cX9_begins 27 = .ok (.putfield 265, 3) := by decide +kernel
theorem dX9_begins_30 : decode cX9_begins 30 = .ok (.aload_n 0, 1) := by decide +kernel
theorem dX9_begins_31 : decode cX9_begins 31 = .ok (.iconst 0, 1) := by decide +kernel
theorem dX9_begins_32 : decode cX9_begins 32 = .ok (.putfield 268, 3) := by decide +kernel
theorem dX9_begins_35 : decode cX9_begins 35 = .ok (.aload_n 0, 1) := by decide +kernel
theorem dX9_begins_36 : decode cX9_begins 36 = .ok (.iconst 0, 1) := by decide +kernel
theorem dX9_begins_37 : decode cX9_begins 37 = .ok (.putfield 271, 3) := by decide +kernel
theorem dX9_begins_40 : decode cX9_begins 40 = .ok (.aload_n 0, 1) := by decide +kernel
theorem dX9_begins_41 : decode cX9_begins 41 = .ok (.iconst 0, 1) := by decide +kernel
theorem dX9_begins_42 : decode cX9_begins 42 = .ok (.putfield 274, 3) := by decide +kernel
theorem dX9_begins_45 : decode cX9_begins 45 = .ok (.iconst 0, 1) := by decide +kernel
theorem dX9_begins_46 : decode cX9_begins 46 = .ok (.istore_n 1, 1) := by decide +kernel
theorem dX9_begins_47 : decode cX9_begins 47 = .ok (.iload_n 1, 1) := by decide +kernel
theorem dX9_begins_48 : decode cX9_begins 48 = .ok (.bipush 8, 2) := by decide +kernel
theorem dX9_begins_50 : decode cX9_begins 50 = .ok (.if_icmp .ge 23, 3) := by decide +kernel
theorem dX9_begins_53 : decode cX9_begins 53 = .ok (.aload_n 0, 1) := by decide +kernel
theorem dX9_begins_54 : decode cX9_begins 54 = .ok (.getfield 44, 3) := by decide +kernel
theorem dX9_begins_57 : decode cX9_begins 57 = .ok (.iload_n 1, 1) := by decide +kernel
theorem dX9_begins_58 : decode cX9_begins 58 = .ok (.iconst 0, 1) := by decide +kernel
theorem dX9_begins_59 : decode cX9_begins 59 = .ok (.iastore, 1) := by decide +kernel
theorem dX9_begins_60 : decode cX9_begins 60 = .ok (.aload_n 0, 1) := by decide +kernel
theorem dX9_begins_61 : decode cX9_begins 61 = .ok (.getfield 47, 3) := by decide +kernel
theorem dX9_begins_64 : decode cX9_begins 64 = .ok (.iload_n 1, 1) := by decide +kernel
theorem dX9_begins_65 : decode cX9_begins 65 = .ok (.iconst 0, 1) := by decide +kernel
theorem dX9_begins_66 : decode cX9_begins 66 = .ok (.iastore, 1) := by decide +kernel
theorem dX9_begins_67 : decode cX9_begins 67 = .ok (.iinc 1 1, 3) := by decide +kernel
theorem dX9_begins_70 : decode cX9_begins 70 = .ok (.goto (-23), 3) := by decide +kernel
theorem dX9_begins_73 : decode cX9_begins 73 = .ok (.return_, 1) := by decide +kernel
theorem dX9_canSing_0 : decode cX9_canSing 0 = .ok (.aload_n 0, 1) := by decide +kernel
theorem dX9_canSing_1 : decode cX9_canSing 1 = .ok (.getfield 265, 3) := by decide +kernel
theorem dX9_canSing_4 : decode cX9_canSing 4 = .ok (.aload_n 0, 1) := by decide +kernel
theorem dX9_canSing_5 : decode cX9_canSing 5 = .ok (.getfield 38, 3) := by decide +kernel
theorem dX9_canSing_8 : decode cX9_canSing 8 = .ok (.iload_n 1, 1) := by decide +kernel
theorem dX9_canSing_9 : decode cX9_canSing 9 = .ok (.iaload, 1) := by decide +kernel
theorem dX9_canSing_10 : decode cX9_canSing 10 = .ok (.ishr, 1) := by decide +kernel
theorem dX9_canSing_11 : decode cX9_canSing 11 = .ok (.iconst 1, 1) := by decide +kernel
theorem dX9_canSing_12 : decode cX9_canSing 12 = .ok (.iand, 1) := by decide +kernel
theorem dX9_canSing_13 : decode cX9_canSing 13 = .ok (.iconst 1, 1) := by decide +kernel
theorem dX9_canSing_14 : decode cX9_canSing 14 = .ok (.if_icmp .ne 25, 3) := by decide +kernel
theorem dX9_canSing_17 : decode cX9_canSing 17 = .ok (.aload_n 0, 1) := by decide +kernel
theorem dX9_canSing_18 : decode cX9_canSing 18 = .ok (.getfield 252, 3) := by decide +kernel
theorem dX9_canSing_21 : decode cX9_canSing 21 = .ok (.aload_n 0, 1) := by decide +kernel
theorem dX9_canSing_22 : decode cX9_canSing 22 = .ok (.getfield 35, 3) := by decide +kernel
theorem dX9_canSing_25 : decode cX9_canSing 25 = .ok (.iload_n 1, 1) := by decide +kernel
theorem dX9_canSing_26 : decode cX9_canSing 26 = .ok (.iaload, 1) := by decide +kernel
theorem dX9_canSing_27 : decode cX9_canSing 27 = .ok (.iadd, 1) := by decide +kernel
theorem dX9_canSing_28 : decode cX9_canSing 28 = .ok (.aload_n 0, 1) := by decide +kernel
theorem dX9_canSing_29 : decode cX9_canSing 29 = .ok (.getfield 41, 3) := by decide +kernel
theorem dX9_canSing_32 : decode cX9_canSing 32 = .ok (.if_icmp .gt 7, 3) := by decide +kernel
theorem dX9_canSing_35 : decode cX9_canSing 35 = .ok (.iconst 1, 1) := by decide +kernel
theorem dX9_canSing_36 : decode cX9_canSing 36 = .ok (.goto 4, 3) := by decide +kernel
theorem dX9_canSing_39 : decode cX9_canSing 39 = .ok (.iconst 0, 1) := by decide +kernel
theorem dX9_canSing_40 : decode cX9_canSing 40 = .ok (.ireturn, 1) := by decide +kernel
theorem dX9_calls_0 : decode cX9_calls 0 = .ok (.aload_n 0, 1) := by decide +kernel
theorem dX9_calls_1 : decode cX9_calls 1 = .ok (.dup, 1) := by decide +kernel
theorem dX9_calls_2 : decode cX9_calls 2 = .ok (.getfield 271, 3) := by decide +kernel
theorem dX9_calls_5 : decode cX9_calls 5 = .ok (.iconst 1, 1) := by decide +kernel
theorem dX9_calls_6 : decode cX9_calls 6 = .ok (.iload_n 1, 1) := by decide +kernel
theorem dX9_calls_7 : decode cX9_calls 7 = .ok (.ishl, 1) := by decide +kernel
theorem dX9_calls_8 : decode cX9_calls 8 = .ok (.ior, 1) := by decide +kernel
theorem dX9_calls_9 : decode cX9_calls 9 = .ok (.putfield 271, 3) := by decide +kernel
theorem dX9_calls_12 : decode cX9_calls 12 = .ok (.aload_n 0, 1) := by decide +kernel
theorem dX9_calls_13 : decode cX9_calls 13 = .ok (.iload_n 1, 1) := by decide +kernel
theorem dX9_calls_14 : decode cX9_calls 14 = .ok (.invokevirtual 277, 3) := by decide +kernel
theorem dX9_calls_17 : decode cX9_calls 17 = .ok (.ifCond .ne 4, 3) := by decide +kernel
theorem dX9_calls_20 : decode cX9_calls 20 = .ok (.return_, 1) := by decide +kernel
theorem dX9_calls_21 : decode cX9_calls 21 = .ok (.aload_n 0, 1) := by decide +kernel
theorem dX9_calls_22 : decode cX9_calls 22 = .ok (.getfield 50, 3) := by decide +kernel
theorem dX9_calls_25 : decode cX9_calls 25 = .ok (.iload_n 1, 1) := by decide +kernel
theorem dX9_calls_26 : decode cX9_calls 26 = .ok (.aload_n 0, 1) := by decide +kernel
theorem dX9_calls_27 : decode cX9_calls 27 = .ok (.getfield 252, 3) := by decide +kernel
theorem dX9_calls_30 : decode cX9_calls 30 = .ok (.iastore, 1) := by decide +kernel
theorem dX9_calls_31 : decode cX9_calls 31 = .ok (.aload_n 0, 1) := by decide +kernel
theorem dX9_calls_32 : decode cX9_calls 32 = .ok (.dup, 1) := by decide +kernel
theorem dX9_calls_33 : decode cX9_calls 33 = .ok (.getfield 252, 3) := by decide +kernel
theorem dX9_calls_36 : decode cX9_calls 36 = .ok (.aload_n 0, 1) := by decide +kernel
theorem dX9_calls_37 : decode cX9_calls 37 = .ok (.getfield 35, 3) := by decide +kernel
theorem dX9_calls_40 : decode cX9_calls 40 = .ok (.iload_n 1, 1) := by decide +kernel
theorem dX9_calls_41 : decode cX9_calls 41 = .ok (.iaload, 1) := by decide +kernel
theorem dX9_calls_42 : decode cX9_calls 42 = .ok (.iadd, 1) := by decide +kernel
theorem dX9_calls_43 : decode cX9_calls 43 = .ok (.putfield 252, 3) := by decide +kernel
theorem dX9_calls_46 : decode cX9_calls 46 = .ok (.aload_n 0, 1) := by decide +kernel
theorem dX9_calls_47 : decode cX9_calls 47 = .ok (.aload_n 0, 1) := by decide +kernel
theorem dX9_calls_48 : decode cX9_calls 48 = .ok (.getfield 258, 3) := by decide +kernel
theorem dX9_calls_51 : decode cX9_calls 51 = .ok (.aload_n 0, 1) := by decide +kernel
theorem dX9_calls_52 : decode cX9_calls 52 = .ok (.iload_n 1, 1) := by decide +kernel
theorem dX9_calls_53 : decode cX9_calls 53 = .ok (.aload_n 0, 1) := by decide +kernel
theorem dX9_calls_54 : decode cX9_calls 54 = .ok (.getfield 258, 3) := by decide +kernel
theorem dX9_calls_57 : decode cX9_calls 57 = .ok (.invokevirtual 280, 3) := by decide +kernel
theorem dX9_calls_60 : decode cX9_calls 60 = .ok (.iadd, 1) := by decide +kernel
theorem dX9_calls_61 : decode cX9_calls 61 = .ok (.bipush (-99), 2) := by decide +kernel
theorem dX9_calls_63 : decode cX9_calls 63 = .ok (.bipush 99, 2) := by decide +kernel
theorem dX9_calls_65 : decode cX9_calls 65 = .ok (.invokestatic 261, 3) := by decide +kernel
theorem dX9_calls_68 : decode cX9_calls 68 = .ok (.putfield 258, 3) := by decide +kernel
theorem dX9_calls_71 : decode cX9_calls 71 = .ok (.aload_n 0, 1) := by decide +kernel
theorem dX9_calls_72 : decode cX9_calls 72 = .ok (.getfield 26, 3) := by decide +kernel
theorem dX9_calls_75 : decode cX9_calls 75 = .ok (.aload_n 0, 1) := by decide +kernel
theorem dX9_calls_76 : decode cX9_calls 76 = .ok (.getfield 38, 3) := by decide +kernel
theorem dX9_calls_79 : decode cX9_calls 79 = .ok (.iload_n 1, 1) := by decide +kernel
theorem dX9_calls_80 : decode cX9_calls 80 = .ok (.iaload, 1) := by decide +kernel
theorem dX9_calls_81 : decode cX9_calls 81 = .ok (.iaload, 1) := by decide +kernel
theorem dX9_calls_82 : decode cX9_calls 82 = .ok (.istore_n 2, 1) := by decide +kernel
theorem dX9_calls_83 : decode cX9_calls 83 = .ok (.aload_n 0, 1) := by decide +kernel
theorem dX9_calls_84 : decode cX9_calls 84 = .ok (.getfield 44, 3) := by decide +kernel
theorem dX9_calls_87 : decode cX9_calls 87 = .ok (.iload_n 2, 1) := by decide +kernel
theorem dX9_calls_88 : decode cX9_calls 88 = .ok (.aload_n 0, 1) := by decide +kernel
theorem dX9_calls_89 : decode cX9_calls 89 = .ok (.getfield 252, 3) := by decide +kernel
theorem dX9_calls_92 : decode cX9_calls 92 = .ok (.iastore, 1) := by decide +kernel
theorem dX9_calls_93 : decode cX9_calls 93 = .ok (.aload_n 0, 1) := by decide +kernel
theorem dX9_calls_94 : decode cX9_calls 94 = .ok (.getfield 47, 3) := by decide +kernel
theorem dX9_calls_97 : decode cX9_calls 97 = .ok (.iload_n 2, 1) := by decide +kernel
theorem dX9_calls_98 : decode cX9_calls 98 = .ok (.dup2, 1) := by decide +kernel
theorem dX9_calls_99 : decode cX9_calls 99 = .ok (.iaload, 1) := by decide +kernel
theorem dX9_calls_100 : decode cX9_calls 100 = .ok (.iconst 1, 1) := by decide +kernel
theorem dX9_calls_101 : decode cX9_calls 101 = .ok (.iadd, 1) := by decide +kernel
theorem dX9_calls_102 : decode cX9_calls 102 = .ok (.iastore, 1) := by decide +kernel
theorem dX9_calls_103 : decode cX9_calls 103 = .ok (.aload_n 0, 1) := by decide +kernel
theorem dX9_calls_104 : decode cX9_calls 104 = .ok (.dup, 1) := by decide +kernel
theorem dX9_calls_105 : decode cX9_calls 105 = .ok (.getfield 268, 3) := by decide +kernel
theorem dX9_calls_108 : decode cX9_calls 108 = .ok (.iconst 1, 1) := by decide +kernel
theorem dX9_calls_109 : decode cX9_calls 109 = .ok (.iadd, 1) := by decide +kernel
theorem dX9_calls_110 : decode cX9_calls 110 = .ok (.putfield 268, 3) := by decide +kernel
theorem dX9_calls_113 : decode cX9_calls 113 = .ok (.aload_n 0, 1) := by decide +kernel
theorem dX9_calls_114 : decode cX9_calls 114 = .ok (.dup, 1) := by decide +kernel
theorem dX9_calls_115 : decode cX9_calls 115 = .ok (.getfield 274, 3) := by decide +kernel
theorem dX9_calls_118 : decode cX9_calls 118 = .ok (.iconst 1, 1) := by decide +kernel
theorem dX9_calls_119 : decode cX9_calls 119 = .ok (.iload_n 1, 1) := by decide +kernel
theorem dX9_calls_120 : decode cX9_calls 120 = .ok (.ishl, 1) := by decide +kernel
theorem dX9_calls_121 : decode cX9_calls 121 = .ok (.ior, 1) := by decide +kernel
theorem dX9_calls_122 : decode cX9_calls 122 = .ok (.putfield 274, 3) := by decide +kernel
theorem dX9_calls_125 : decode cX9_calls 125 = .ok (.aload_n 0, 1) := by decide +kernel
theorem dX9_calls_126 : decode cX9_calls 126 = .ok (.dup, 1) := by decide +kernel
theorem dX9_calls_127 : decode cX9_calls 127 = .ok (.getfield 255, 3) := by decide +kernel
theorem dX9_calls_130 : decode cX9_calls 130 = .ok (.aload_n 0, 1) := by decide +kernel
theorem dX9_calls_131 : decode cX9_calls 131 = .ok (.iload_n 1, 1) := by decide +kernel
theorem dX9_calls_132 : decode cX9_calls 132 = .ok (.aload_n 0, 1) := by decide +kernel
theorem dX9_calls_133 : decode cX9_calls 133 = .ok (.getfield 265, 3) := by decide +kernel
theorem dX9_calls_136 : decode cX9_calls 136 = .ok (.invokestatic 283, 3) := by decide +kernel
theorem dX9_calls_139 : decode cX9_calls 139 = .ok (.invokevirtual 286, 3) := by decide +kernel
theorem dX9_calls_142 : decode cX9_calls 142 = .ok (.aload_n 0, 1) := by decide +kernel
theorem dX9_calls_143 : decode cX9_calls 143 = .ok (.iconst 1, 1) := by decide +kernel
theorem dX9_calls_144 : decode cX9_calls 144 = .ok (.iconst 0, 1) := by decide +kernel
theorem dX9_calls_145 : decode cX9_calls 145 = .ok (.iconst 0, 1) := by decide +kernel
theorem dX9_calls_146 : decode cX9_calls 146 = .ok (.aload_n 0, 1) := by decide +kernel
theorem dX9_calls_147 : decode cX9_calls 147 = .ok (.getfield 29, 3) := by decide +kernel
theorem dX9_calls_150 : decode cX9_calls 150 = .ok (.iload_n 1, 1) := by decide +kernel
theorem dX9_calls_151 : decode cX9_calls 151 = .ok (.iaload, 1) := by decide +kernel
theorem dX9_calls_152 : decode cX9_calls 152 = .ok (.invokevirtual 289, 3) := by decide +kernel
theorem dX9_calls_155 : decode cX9_calls 155 = .ok (.imul, 1) := by decide +kernel
theorem dX9_calls_156 : decode cX9_calls 156 = .ok (.iadd, 1) := by decide +kernel
theorem dX9_calls_157 : decode cX9_calls 157 = .ok (.putfield 255, 3) := by decide +kernel
theorem dX9_calls_160 : decode cX9_calls 160 = .ok (.aload_n 0, 1) := by decide +kernel
theorem dX9_calls_161 : decode cX9_calls 161 = .ok (.getfield 265, 3) := by decide +kernel
theorem dX9_calls_164 : decode cX9_calls 164 = .ok (.istore_n 3, 1) := by decide +kernel
theorem dX9_calls_165 : decode cX9_calls 165 = .ok (.iconst 0, 1) := by decide +kernel
theorem dX9_calls_166 : decode cX9_calls 166 = .ok (.istore 4, 2) := by decide +kernel
theorem dX9_calls_168 : decode cX9_calls 168 = .ok (.iload 4, 2) := by decide +kernel
theorem dX9_calls_170 : decode cX9_calls 170 = .ok (.aload_n 0, 1) := by decide +kernel
theorem dX9_calls_171 : decode cX9_calls 171 = .ok (.getfield 91, 3) := by decide +kernel
theorem dX9_calls_174 : decode cX9_calls 174 = .ok (.if_icmp .ge 83, 3) := by decide +kernel
theorem dX9_calls_177 : decode cX9_calls 177 = .ok (.aload_n 0, 1) := by decide +kernel
theorem dX9_calls_178 : decode cX9_calls 178 = .ok (.getfield 265, 3) := by decide +kernel
theorem dX9_calls_181 : decode cX9_calls 181 = .ok (.iload 4, 2) := by decide +kernel
theorem dX9_calls_183 : decode cX9_calls 183 = .ok (.ishr, 1) := by decide +kernel
theorem dX9_calls_184 : decode cX9_calls 184 = .ok (.iconst 1, 1) := by decide +kernel
theorem dX9_calls_185 : decode cX9_calls 185 = .ok (.iand, 1) := by decide +kernel
theorem dX9_calls_186 : decode cX9_calls 186 = .ok (.iconst 1, 1) := by decide +kernel
theorem dX9_calls_187 : decode cX9_calls 187 = .ok (.if_icmp .ne 64, 3) := by decide +kernel
theorem dX9_calls_190 : decode cX9_calls 190 = .ok (.aload_n 0, 1) := by decide +kernel
theorem dX9_calls_191 : decode cX9_calls 191 = .ok (.getfield 252, 3) := by decide +kernel
theorem dX9_calls_194 : decode cX9_calls 194 = .ok (.aload_n 0, 1) := by decide +kernel
theorem dX9_calls_195 : decode cX9_calls 195 = .ok (.getfield 44, 3) := by decide +kernel
theorem dX9_calls_198 : decode cX9_calls 198 = .ok (.aload_n 0, 1) := by decide +kernel
theorem dX9_calls_199 : decode cX9_calls 199 = .ok (.getfield 26, 3) := by decide +kernel
theorem dX9_calls_202 : decode cX9_calls 202 = .ok (.iload 4, 2) := by decide +kernel
theorem dX9_calls_204 : decode cX9_calls 204 = .ok (.iaload, 1) := by decide +kernel
theorem dX9_calls_205 : decode cX9_calls 205 = .ok (.iaload, 1) := by decide +kernel
theorem dX9_calls_206 : decode cX9_calls 206 = .ok (.isub, 1) := by decide +kernel
theorem dX9_calls_207 : decode cX9_calls 207 = .ok (.istore 5, 2) := by decide +kernel
theorem dX9_calls_209 : decode cX9_calls 209 = .ok (.iload 5, 2) := by decide +kernel
theorem dX9_calls_211 : decode cX9_calls 211 = .ok (.aload_n 0, 1) := by decide +kernel
theorem dX9_calls_212 : decode cX9_calls 212 = .ok (.getfield 23, 3) := by decide +kernel
theorem dX9_calls_215 : decode cX9_calls 215 = .ok (.iload 4, 2) := by decide +kernel
theorem dX9_calls_217 : decode cX9_calls 217 = .ok (.iaload, 1) := by decide +kernel
theorem dX9_calls_218 : decode cX9_calls 218 = .ok (.aload_n 0, 1) := by decide +kernel
theorem dX9_calls_219 : decode cX9_calls 219 = .ok (.iconst 0, 1) := by decide +kernel
theorem dX9_calls_220 : decode cX9_calls 220 = .ok (.iload 5, 2) := by decide +kernel
theorem dX9_calls_222 : decode cX9_calls 222 = .ok (.aload_n 0, 1) := by decide +kernel
theorem dX9_calls_223 : decode cX9_calls 223 = .ok (.getfield 47, 3) := by decide +kernel
theorem dX9_calls_226 : decode cX9_calls 226 = .ok (.aload_n 0, 1) := by decide +kernel
theorem dX9_calls_227 : decode cX9_calls 227 = .ok (.getfield 26, 3) := by decide +kernel
theorem dX9_calls_230 : decode cX9_calls 230 = .ok (.iload 4, 2) := by decide +kernel
theorem dX9_calls_232 : decode cX9_calls 232 = .ok (.iaload, 1) := by decide +kernel
theorem dX9_calls_233 : decode cX9_calls 233 = .ok (.iaload, 1) := by decide +kernel
theorem dX9_calls_234 : decode cX9_calls 234 = .ok (.iconst 0, 1) := by decide +kernel
theorem dX9_calls_235 : decode cX9_calls 235 = .ok (.invokevirtual 289, 3) := by decide +kernel
theorem dX9_calls_238 : decode cX9_calls 238 = .ok (.iadd, 1) := by decide +kernel
theorem dX9_calls_239 : decode cX9_calls 239 = .ok (.if_icmp .le 12, 3) := by decide +kernel
theorem dX9_calls_242 : decode cX9_calls 242 = .ok (.iload_n 3, 1) := by decide +kernel
theorem dX9_calls_243 : decode cX9_calls 243 = .ok (.iconst 1, 1) := by decide +kernel
theorem dX9_calls_244 : decode cX9_calls 244 = .ok (.iload 4, 2) := by decide +kernel
theorem dX9_calls_246 : decode cX9_calls 246 = .ok (.ishl, 1) := by decide +kernel
theorem dX9_calls_247 : decode cX9_calls 247 = .ok (.iconst (-1), 1) := by decide +kernel
theorem dX9_calls_248 : decode cX9_calls 248 = .ok (.ixor, 1) := by decide +kernel
theorem dX9_calls_249 : decode cX9_calls 249 = .ok (.iand, 1) := by decide +kernel
theorem dX9_calls_250 : decode cX9_calls 250 = .ok (.istore_n 3, 1) := by decide +kernel
theorem dX9_calls_251 : decode cX9_calls 251 = .ok (.iinc 4 1, 3) := by decide +kernel
theorem dX9_calls_254 : decode cX9_calls 254 = .ok (.goto (-86), 3) := by decide +kernel
theorem dX9_calls_257 : decode cX9_calls 257 = .ok (.aload_n 0, 1) := by decide +kernel
theorem dX9_calls_258 : decode cX9_calls 258 = .ok (.iload_n 3, 1) := by decide +kernel
theorem dX9_calls_259 : decode cX9_calls 259 = .ok (.putfield 265, 3) := by decide +kernel
theorem dX9_calls_262 : decode cX9_calls 262 = .ok (.return_, 1) := by decide +kernel
theorem dX9_leftMany_0 : decode cX9_leftMany 0 = .ok (.aload_n 0, 1) := by decide +kernel
theorem dX9_leftMany_1 : decode cX9_leftMany 1 = .ok (.getfield 91, 3) := by decide +kernel
theorem dX9_leftMany_4 : decode cX9_leftMany 4 = .ok (.aload_n 0, 1) := by decide +kernel
theorem dX9_leftMany_5 : decode cX9_leftMany 5 = .ok (.getfield 265, 3) := by decide +kernel
theorem dX9_leftMany_8 : decode cX9_leftMany 8 = .ok (.invokestatic 283, 3) := by decide +kernel
theorem dX9_leftMany_11 : decode cX9_leftMany 11 = .ok (.isub, 1) := by decide +kernel
theorem dX9_leftMany_12 : decode cX9_leftMany 12 = .ok (.ireturn, 1) := by decide +kernel
theorem dX9_tells_0 : decode cX9_tells 0 = .ok (.iload_n 1, 1) := by decide +kernel
theorem dX9_tells_1 : decode cX9_tells 1 = .ok (.iconst 3, 1) := by decide +kernel
theorem dX9_tells_2 : decode cX9_tells 2 = .ok (.if_icmp .ge 31, 3) := by decide +kernel
theorem dX9_tells_5 : decode cX9_tells 5 = .ok (.iload_n 1, 1) := by decide +kernel
theorem dX9_tells_6 : decode cX9_tells 6 = .ok (.ifCond .ne 10, 3) := by decide +kernel
theorem dX9_tells_9 : decode cX9_tells 9 = .ok (.aload_n 0, 1) := by decide +kernel
theorem dX9_tells_10 : decode cX9_tells 10 = .ok (.getfield 255, 3) := by decide +kernel
theorem dX9_tells_13 : decode cX9_tells 13 = .ok (.goto 19, 3) := by decide +kernel
theorem dX9_tells_16 : decode cX9_tells 16 = .ok (.iload_n 1, 1) := by decide +kernel
theorem dX9_tells_17 : decode cX9_tells 17 = .ok (.iconst 1, 1) := by decide +kernel
theorem dX9_tells_18 : decode cX9_tells 18 = .ok (.if_icmp .ne 10, 3) := by decide +kernel
theorem dX9_tells_21 : decode cX9_tells 21 = .ok (.aload_n 0, 1) := by decide +kernel
theorem dX9_tells_22 : decode cX9_tells 22 = .ok (.invokevirtual 293, 3) := by decide +kernel
theorem dX9_tells_25 : decode cX9_tells 25 = .ok (.goto 7, 3) := by decide +kernel
theorem dX9_tells_28 : decode cX9_tells 28 = .ok (.aload_n 0, 1) := by decide +kernel
theorem dX9_tells_29 : decode cX9_tells 29 = .ok (.getfield 268, 3) := by decide +kernel
theorem dX9_tells_32 : decode cX9_tells 32 = .ok (.ireturn, 1) := by decide +kernel
theorem dX9_tells_33 : decode cX9_tells 33 = .ok (.iload_n 1, 1) := by decide +kernel
theorem dX9_tells_34 : decode cX9_tells 34 = .ok (.iconst 3, 1) := by decide +kernel
theorem dX9_tells_35 : decode cX9_tells 35 = .ok (.if_icmp .ne 10, 3) := by decide +kernel
theorem dX9_tells_38 : decode cX9_tells 38 = .ok (.aload_n 0, 1) := by decide +kernel
theorem dX9_tells_39 : decode cX9_tells 39 = .ok (.getfield 258, 3) := by decide +kernel
theorem dX9_tells_42 : decode cX9_tells 42 = .ok (.goto 19, 3) := by decide +kernel
theorem dX9_tells_45 : decode cX9_tells 45 = .ok (.iload_n 1, 1) := by decide +kernel
theorem dX9_tells_46 : decode cX9_tells 46 = .ok (.iconst 4, 1) := by decide +kernel
theorem dX9_tells_47 : decode cX9_tells 47 = .ok (.if_icmp .ne 10, 3) := by decide +kernel
theorem dX9_tells_50 : decode cX9_tells 50 = .ok (.aload_n 0, 1) := by decide +kernel
theorem dX9_tells_51 : decode cX9_tells 51 = .ok (.getfield 252, 3) := by decide +kernel
theorem dX9_tells_54 : decode cX9_tells 54 = .ok (.goto 7, 3) := by decide +kernel
theorem dX9_tells_57 : decode cX9_tells 57 = .ok (.aload_n 0, 1) := by decide +kernel
theorem dX9_tells_58 : decode cX9_tells 58 = .ok (.getfield 265, 3) := by decide +kernel
theorem dX9_tells_61 : decode cX9_tells 61 = .ok (.ireturn, 1) := by decide +kernel
theorem dX9_sizeOf_0 : decode cX9_sizeOf 0 = .ok (.iconst 0, 1) := by decide +kernel
theorem dX9_sizeOf_1 : decode cX9_sizeOf 1 = .ok (.istore_n 1, 1) := by decide +kernel
theorem dX9_sizeOf_2 : decode cX9_sizeOf 2 = .ok (.iload_n 0, 1) := by decide +kernel
theorem dX9_sizeOf_3 : decode cX9_sizeOf 3 = .ok (.istore_n 2, 1) := by decide +kernel
theorem dX9_sizeOf_4 : decode cX9_sizeOf 4 = .ok (.iload_n 2, 1) := by decide +kernel
theorem dX9_sizeOf_5 : decode cX9_sizeOf 5 = .ok (.ifCond .le 14, 3) := by decide +kernel
theorem dX9_sizeOf_8 : decode cX9_sizeOf 8 = .ok (.iinc 1 1, 3) := by decide +kernel
theorem dX9_sizeOf_11 : decode cX9_sizeOf 11 = .ok (.iload_n 2, 1) := by decide +kernel
theorem dX9_sizeOf_12 : decode cX9_sizeOf 12 = .ok (.bipush 10, 2) := by decide +kernel
theorem dX9_sizeOf_14 : decode cX9_sizeOf 14 = .ok (.idiv, 1) := by decide +kernel
theorem dX9_sizeOf_15 : decode cX9_sizeOf 15 = .ok (.istore_n 2, 1) := by decide +kernel
theorem dX9_sizeOf_16 : decode cX9_sizeOf 16 = .ok (.goto (-12), 3) := by decide +kernel
theorem dX9_sizeOf_19 : decode cX9_sizeOf 19 = .ok (.iload_n 1, 1) := by decide +kernel
theorem dX9_sizeOf_20 : decode cX9_sizeOf 20 = .ok (.ireturn, 1) := by decide +kernel
theorem dX9_isRow_0 : decode cX9_isRow 0 = .ok (.iconst 0, 1) := by decide +kernel
theorem dX9_isRow_1 : decode cX9_isRow 1 = .ok (.istore_n 2, 1) := by decide +kernel
theorem dX9_isRow_2 : decode cX9_isRow 2 = .ok (.iload_n 1, 1) := by decide +kernel
theorem dX9_isRow_3 : decode cX9_isRow 3 = .ok (.ifCond .ge 5, 3) := by decide +kernel
theorem dX9_isRow_6 : decode cX9_isRow 6 = .ok (.iconst 0, 1) := by decide +kernel
theorem dX9_isRow_7 : decode cX9_isRow 7 = .ok (.ireturn, 1) := by decide +kernel
theorem dX9_isRow_8 : decode cX9_isRow 8 = .ok (.iload_n 1, 1) := by decide +kernel
theorem dX9_isRow_9 : decode cX9_isRow 9 = .ok (.istore_n 3, 1) := by decide +kernel
theorem dX9_isRow_10 : decode cX9_isRow 10 = .ok (.iload_n 3, 1) := by decide +kernel
theorem dX9_isRow_11 : decode cX9_isRow 11 = .ok (.ifCond .le 47, 3) := by decide +kernel
theorem dX9_isRow_14 : decode cX9_isRow 14 = .ok (.iload_n 3, 1) := by decide +kernel
theorem dX9_isRow_15 : decode cX9_isRow 15 = .ok (.bipush 10, 2) := by decide +kernel
theorem dX9_isRow_17 : decode cX9_isRow 17 = .ok (.irem, 1) := by decide +kernel
theorem dX9_isRow_18 : decode cX9_isRow 18 = .ok (.iconst 1, 1) := by decide +kernel
theorem dX9_isRow_19 : decode cX9_isRow 19 = .ok (.isub, 1) := by decide +kernel
theorem dX9_isRow_20 : decode cX9_isRow 20 = .ok (.istore 4, 2) := by decide +kernel
theorem dX9_isRow_22 : decode cX9_isRow 22 = .ok (.aload_n 0, 1) := by decide +kernel
theorem dX9_isRow_23 : decode cX9_isRow 23 = .ok (.iload 4, 2) := by decide +kernel
theorem dX9_isRow_25 : decode cX9_isRow 25 = .ok (.invokevirtual 119, 3) := by decide +kernel
theorem dX9_isRow_28 : decode cX9_isRow 28 = .ok (.ifCond .eq 13, 3) := by decide +kernel
theorem dX9_isRow_31 : decode cX9_isRow 31 = .ok (.iload_n 2, 1) := by decide +kernel
theorem dX9_isRow_32 : decode cX9_isRow 32 = .ok (.iload 4, 2) := by decide +kernel
theorem dX9_isRow_34 : decode cX9_isRow 34 = .ok (.ishr, 1) := by decide +kernel
theorem dX9_isRow_35 : decode cX9_isRow 35 = .ok (.iconst 1, 1) := by decide +kernel
theorem dX9_isRow_36 : decode cX9_isRow 36 = .ok (.iand, 1) := by decide +kernel
theorem dX9_isRow_37 : decode cX9_isRow 37 = .ok (.iconst 1, 1) := by decide +kernel
theorem dX9_isRow_38 : decode cX9_isRow 38 = .ok (.if_icmp .ne 5, 3) := by decide +kernel
theorem dX9_isRow_41 : decode cX9_isRow 41 = .ok (.iconst 0, 1) := by decide +kernel
theorem dX9_isRow_42 : decode cX9_isRow 42 = .ok (.ireturn, 1) := by decide +kernel
theorem dX9_isRow_43 : decode cX9_isRow 43 = .ok (.iload_n 2, 1) := by decide +kernel
theorem dX9_isRow_44 : decode cX9_isRow 44 = .ok (.iconst 1, 1) := by decide +kernel
theorem dX9_isRow_45 : decode cX9_isRow 45 = .ok (.iload 4, 2) := by decide +kernel
theorem dX9_isRow_47 : decode cX9_isRow 47 = .ok (.ishl, 1) := by decide +kernel
theorem dX9_isRow_48 : decode cX9_isRow 48 = .ok (.ior, 1) := by decide +kernel
theorem dX9_isRow_49 : decode cX9_isRow 49 = .ok (.istore_n 2, 1) := by decide +kernel
theorem dX9_isRow_50 : decode cX9_isRow 50 = .ok (.iload_n 3, 1) := by decide +kernel
theorem dX9_isRow_51 : decode cX9_isRow 51 = .ok (.bipush 10, 2) := by decide +kernel
theorem dX9_isRow_53 : decode cX9_isRow 53 = .ok (.idiv, 1) := by decide +kernel
theorem dX9_isRow_54 : decode cX9_isRow 54 = .ok (.istore_n 3, 1) := by decide +kernel
theorem dX9_isRow_55 : decode cX9_isRow 55 = .ok (.goto (-45), 3) := by decide +kernel
theorem dX9_isRow_58 : decode cX9_isRow 58 = .ok (.iconst 1, 1) := by decide +kernel
theorem dX9_isRow_59 : decode cX9_isRow 59 = .ok (.ireturn, 1) := by decide +kernel
theorem dX9_goes_0 : decode cX9_goes 0 = .ok (.aload_n 0, 1) := by decide +kernel
theorem dX9_goes_1 : decode cX9_goes 1 = .ok (.invokevirtual 296, 3) := by decide +kernel
theorem dX9_goes_4 : decode cX9_goes 4 = .ok (.iconst 1, 1) := by decide +kernel
theorem dX9_goes_5 : decode cX9_goes 5 = .ok (.istore_n 2, 1) := by decide +kernel
theorem dX9_goes_6 : decode cX9_goes 6 = .ok (.iconst 1, 1) := by decide +kernel
theorem dX9_goes_7 : decode cX9_goes 7 = .ok (.istore_n 3, 1) := by decide +kernel
theorem dX9_goes_8 : decode cX9_goes 8 = .ok (.iload_n 3, 1) := by decide +kernel
theorem dX9_goes_9 : decode cX9_goes 9 = .ok (.iload_n 1, 1) := by decide +kernel
theorem dX9_goes_10 : decode cX9_goes 10 = .ok (.invokestatic 299, 3) := by decide +kernel
theorem dX9_goes_13 : decode cX9_goes 13 = .ok (.if_icmp .ge 14, 3) := by decide +kernel
theorem dX9_goes_16 : decode cX9_goes 16 = .ok (.iload_n 2, 1) := by decide +kernel
theorem dX9_goes_17 : decode cX9_goes 17 = .ok (.bipush 10, 2) := by decide +kernel
theorem dX9_goes_19 : decode cX9_goes 19 = .ok (.imul, 1) := by decide +kernel
theorem dX9_goes_20 : decode cX9_goes 20 = .ok (.istore_n 2, 1) := by decide +kernel
theorem dX9_goes_21 : decode cX9_goes 21 = .ok (.iinc 3 1, 3) := by decide +kernel
theorem dX9_goes_24 : decode cX9_goes 24 = .ok (.goto (-16), 3) := by decide +kernel
theorem dX9_goes_27 : decode cX9_goes 27 = .ok (.iload_n 2, 1) := by decide +kernel
theorem dX9_goes_28 : decode cX9_goes 28 = .ok (.istore_n 3, 1) := by decide +kernel
theorem dX9_goes_29 : decode cX9_goes 29 = .ok (.iload_n 3, 1) := by decide +kernel
theorem dX9_goes_30 : decode cX9_goes 30 = .ok (.ifCond .le 27, 3) := by decide +kernel
theorem dX9_goes_33 : decode cX9_goes 33 = .ok (.iload_n 1, 1) := by decide +kernel
theorem dX9_goes_34 : decode cX9_goes 34 = .ok (.ifCond .le 23, 3) := by decide +kernel
theorem dX9_goes_37 : decode cX9_goes 37 = .ok (.aload_n 0, 1) := by decide +kernel
theorem dX9_goes_38 : decode cX9_goes 38 = .ok (.iload_n 1, 1) := by decide +kernel
theorem dX9_goes_39 : decode cX9_goes 39 = .ok (.iload_n 3, 1) := by decide +kernel
theorem dX9_goes_40 : decode cX9_goes 40 = .ok (.idiv, 1) := by decide +kernel
theorem dX9_goes_41 : decode cX9_goes 41 = .ok (.bipush 10, 2) := by decide +kernel
theorem dX9_goes_43 : decode cX9_goes 43 = .ok (.irem, 1) := by decide +kernel
theorem dX9_goes_44 : decode cX9_goes 44 = .ok (.iconst 1, 1) := by decide +kernel
theorem dX9_goes_45 : decode cX9_goes 45 = .ok (.isub, 1) := by decide +kernel
theorem dX9_goes_46 : decode cX9_goes 46 = .ok (.invokevirtual 302, 3) := by decide +kernel
theorem dX9_goes_49 : decode cX9_goes 49 = .ok (.iload_n 3, 1) := by decide +kernel
theorem dX9_goes_50 : decode cX9_goes 50 = .ok (.bipush 10, 2) := by decide +kernel
theorem dX9_goes_52 : decode cX9_goes 52 = .ok (.idiv, 1) := by decide +kernel
theorem dX9_goes_53 : decode cX9_goes 53 = .ok (.istore_n 3, 1) := by decide +kernel
theorem dX9_goes_54 : decode cX9_goes 54 = .ok (.goto (-25), 3) := by decide +kernel
theorem dX9_goes_57 : decode cX9_goes 57 = .ok (.return_, 1) := by decide +kernel
theorem dX9_evening_0 : decode cX9_evening 0 = .ok (.aload_n 0, 1) := by decide +kernel
theorem dX9_evening_1 : decode cX9_evening 1 = .ok (.iload_n 1, 1) := by decide +kernel
theorem dX9_evening_2 : decode cX9_evening 2 = .ok (.invokevirtual 306, 3) := by decide +kernel
theorem dX9_evening_5 : decode cX9_evening 5 = .ok (.ifCond .eq 15, 3) := by decide +kernel
theorem dX9_evening_8 : decode cX9_evening 8 = .ok (.iload_n 2, 1) := by decide +kernel
theorem dX9_evening_9 : decode cX9_evening 9 = .ok (.i2l, 1) := by decide +kernel
theorem dX9_evening_10 : decode cX9_evening 10 = .ok (.lconst 0, 1) := by decide +kernel
theorem dX9_evening_11 : decode cX9_evening 11 = .ok (.ldc2_w 105, 3) := by decide +kernel
theorem dX9_evening_14 : decode cX9_evening 14 = .ok (.invokestatic 94, 3) := by decide +kernel
theorem dX9_evening_17 : decode cX9_evening 17 = .ok (.ifCond .ne 6, 3) := by decide +kernel
theorem dX9_evening_20 : decode cX9_evening 20 = .ok (.ldc 122, 2) := by decide +kernel
theorem dX9_evening_22 : decode cX9_evening 22 = .ok (.ireturn, 1) := by decide +kernel
theorem dX9_evening_23 : decode cX9_evening 23 = .ok (.aload_n 0, 1) := by decide +kernel
theorem dX9_evening_24 : decode cX9_evening 24 = .ok (.iload_n 1, 1) := by decide +kernel
theorem dX9_evening_25 : decode cX9_evening 25 = .ok (.invokevirtual 309, 3) := by decide +kernel
theorem dX9_evening_28 : decode cX9_evening 28 = .ok (.aload_n 0, 1) := by decide +kernel
theorem dX9_evening_29 : decode cX9_evening 29 = .ok (.iload_n 2, 1) := by decide +kernel
theorem dX9_evening_30 : decode cX9_evening 30 = .ok (.invokevirtual 312, 3) := by decide +kernel
theorem dX9_evening_33 : decode cX9_evening 33 = .ok (.ireturn, 1) := by decide +kernel
theorem dX9_hold_0 : decode cX9_hold 0 = .ok (.aload_n 0, 1) := by decide +kernel
theorem dX9_hold_1 : decode cX9_hold 1 = .ok (.iload_n 1, 1) := by decide +kernel
theorem dX9_hold_2 : decode cX9_hold 2 = .ok (.invokevirtual 306, 3) := by decide +kernel
theorem dX9_hold_5 : decode cX9_hold 5 = .ok (.ifCond .ne 6, 3) := by decide +kernel
theorem dX9_hold_8 : decode cX9_hold 8 = .ok (.ldc 122, 2) := by decide +kernel
theorem dX9_hold_10 : decode cX9_hold 10 = .ok (.ireturn, 1) := by decide +kernel
theorem dX9_hold_11 : decode cX9_hold 11 = .ok (.aload_n 0, 1) := by decide +kernel
theorem dX9_hold_12 : decode cX9_hold 12 = .ok (.iload_n 1, 1) := by decide +kernel
theorem dX9_hold_13 : decode cX9_hold 13 = .ok (.invokevirtual 309, 3) := by decide +kernel
theorem dX9_hold_16 : decode cX9_hold 16 = .ok (.aload_n 0, 1) := by decide +kernel
theorem dX9_hold_17 : decode cX9_hold 17 = .ok (.aload_n 0, 1) := by decide +kernel
theorem dX9_hold_18 : decode cX9_hold 18 = .ok (.getfield 258, 3) := by decide +kernel
theorem dX9_hold_21 : decode cX9_hold 21 = .ok (.putfield 127, 3) := by decide +kernel
theorem dX9_hold_24 : decode cX9_hold 24 = .ok (.aload_n 0, 1) := by decide +kernel
theorem dX9_hold_25 : decode cX9_hold 25 = .ok (.getfield 255, 3) := by decide +kernel
theorem dX9_hold_28 : decode cX9_hold 28 = .ok (.ireturn, 1) := by decide +kernel
theorem dX9_lays_0 : decode cX9_lays 0 = .ok (.bipush 7, 2) := by decide +kernel
theorem dX9_lays_2 : decode cX9_lays 2 = .ok (.iload_n 1, 1) := by decide +kernel
theorem dX9_lays_3 : decode cX9_lays 3 = .ok (.imul, 1) := by decide +kernel
theorem dX9_lays_4 : decode cX9_lays 4 = .ok (.istore_n 2, 1) := by decide +kernel
theorem dX9_lays_5 : decode cX9_lays 5 = .ok (.aload_n 0, 1) := by decide +kernel
theorem dX9_lays_6 : decode cX9_lays 6 = .ok (.getfield 53, 3) := by decide +kernel
theorem dX9_lays_9 : decode cX9_lays 9 = .ok (.iload_n 2, 1) := by decide +kernel
theorem dX9_lays_10 : decode cX9_lays 10 = .ok (.aload_n 0, 1) := by decide +kernel
theorem dX9_lays_11 : decode cX9_lays 11 = .ok (.getfield 252, 3) := by decide +kernel
theorem dX9_lays_14 : decode cX9_lays 14 = .ok (.iastore, 1) := by decide +kernel
theorem dX9_lays_15 : decode cX9_lays 15 = .ok (.aload_n 0, 1) := by decide +kernel
theorem dX9_lays_16 : decode cX9_lays 16 = .ok (.getfield 53, 3) := by decide +kernel
theorem dX9_lays_19 : decode cX9_lays 19 = .ok (.iload_n 2, 1) := by decide +kernel
theorem dX9_lays_20 : decode cX9_lays 20 = .ok (.iconst 1, 1) := by decide +kernel
theorem dX9_lays_21 : decode cX9_lays 21 = .ok (.iadd, 1) := by decide +kernel
theorem dX9_lays_22 : decode cX9_lays 22 = .ok (.aload_n 0, 1) := by decide +kernel
theorem dX9_lays_23 : decode cX9_lays 23 = .ok (.getfield 258, 3) := by decide +kernel
theorem dX9_lays_26 : decode cX9_lays 26 = .ok (.iastore, 1) := by decide +kernel
theorem dX9_lays_27 : decode cX9_lays 27 = .ok (.aload_n 0, 1) := by decide +kernel
theorem dX9_lays_28 : decode cX9_lays 28 = .ok (.getfield 53, 3) := by decide +kernel
theorem dX9_lays_31 : decode cX9_lays 31 = .ok (.iload_n 2, 1) := by decide +kernel
theorem dX9_lays_32 : decode cX9_lays 32 = .ok (.iconst 2, 1) := by decide +kernel
theorem dX9_lays_33 : decode cX9_lays 33 = .ok (.iadd, 1) := by decide +kernel
theorem dX9_lays_34 : decode cX9_lays 34 = .ok (.aload_n 0, 1) := by decide +kernel
theorem dX9_lays_35 : decode cX9_lays 35 = .ok (.getfield 255, 3) := by decide +kernel
theorem dX9_lays_38 : decode cX9_lays 38 = .ok (.iastore, 1) := by decide +kernel
theorem dX9_lays_39 : decode cX9_lays 39 = .ok (.aload_n 0, 1) := by decide +kernel
theorem dX9_lays_40 : decode cX9_lays 40 = .ok (.getfield 53, 3) := by decide +kernel
theorem dX9_lays_43 : decode cX9_lays 43 = .ok (.iload_n 2, 1) := by decide +kernel
theorem dX9_lays_44 : decode cX9_lays 44 = .ok (.iconst 3, 1) := by decide +kernel
theorem dX9_lays_45 : decode cX9_lays 45 = .ok (.iadd, 1) := by decide +kernel
theorem dX9_lays_46 : decode cX9_lays 46 = .ok (.aload_n 0, 1) := by decide +kernel
theorem dX9_lays_47 : decode cX9_lays 47 = .ok (.getfield 265, 3) := by decide +kernel
theorem dX9_lays_50 : decode cX9_lays 50 = .ok (.iastore, 1) := by decide +kernel
theorem dX9_lays_51 : decode cX9_lays 51 = .ok (.aload_n 0, 1) := by decide +kernel
theorem dX9_lays_52 : decode cX9_lays 52 = .ok (.getfield 53, 3) := by decide +kernel
theorem dX9_lays_55 : decode cX9_lays 55 = .ok (.iload_n 2, 1) := by decide +kernel
theorem dX9_lays_56 : decode cX9_lays 56 = .ok (.iconst 4, 1) := by decide +kernel
theorem dX9_lays_57 : decode cX9_lays 57 = .ok (.iadd, 1) := by decide +kernel
theorem dX9_lays_58 : decode cX9_lays 58 = .ok (.aload_n 0, 1) := by decide +kernel
theorem dX9_lays_59 : decode cX9_lays 59 = .ok (.getfield 268, 3) := by decide +kernel
theorem dX9_lays_62 : decode cX9_lays 62 = .ok (.iastore, 1) := by decide +kernel
theorem dX9_lays_63 : decode cX9_lays 63 = .ok (.aload_n 0, 1) := by decide +kernel
theorem dX9_lays_64 : decode cX9_lays 64 = .ok (.getfield 53, 3) := by decide +kernel
theorem dX9_lays_67 : decode cX9_lays 67 = .ok (.iload_n 2, 1) := by decide +kernel
theorem dX9_lays_68 : decode cX9_lays 68 = .ok (.iconst 5, 1) := by decide +kernel
theorem dX9_lays_69 : decode cX9_lays 69 = .ok (.iadd, 1) := by decide +kernel
theorem dX9_lays_70 : decode cX9_lays 70 = .ok (.aload_n 0, 1) := by decide +kernel
theorem dX9_lays_71 : decode cX9_lays 71 = .ok (.getfield 271, 3) := by decide +kernel
theorem dX9_lays_74 : decode cX9_lays 74 = .ok (.iastore, 1) := by decide +kernel
theorem dX9_lays_75 : decode cX9_lays 75 = .ok (.aload_n 0, 1) := by decide +kernel
theorem dX9_lays_76 : decode cX9_lays 76 = .ok (.getfield 53, 3) := by decide +kernel
theorem dX9_lays_79 : decode cX9_lays 79 = .ok (.iload_n 2, 1) := by decide +kernel
theorem dX9_lays_80 : decode cX9_lays 80 = .ok (.bipush 6, 2) := by decide +kernel
theorem dX9_lays_82 : decode cX9_lays 82 = .ok (.iadd, 1) := by decide +kernel
theorem dX9_lays_83 : decode cX9_lays 83 = .ok (.aload_n 0, 1) := by decide +kernel
theorem dX9_lays_84 : decode cX9_lays 84 = .ok (.getfield 274, 3) := by decide +kernel
theorem dX9_lays_87 : decode cX9_lays 87 = .ok (.iastore, 1) := by decide +kernel
theorem dX9_lays_88 : decode cX9_lays 88 = .ok (.iconst 0, 1) := by decide +kernel
theorem dX9_lays_89 : decode cX9_lays 89 = .ok (.istore_n 3, 1) := by decide +kernel
theorem dX9_lays_90 : decode cX9_lays 90 = .ok (.iload_n 3, 1) := by decide +kernel
theorem dX9_lays_91 : decode cX9_lays 91 = .ok (.bipush 8, 2) := by decide +kernel
theorem dX9_lays_93 : decode cX9_lays 93 = .ok (.if_icmp .ge 43, 3) := by decide +kernel
theorem dX9_lays_96 : decode cX9_lays 96 = .ok (.aload_n 0, 1) := by decide +kernel
theorem dX9_lays_97 : decode cX9_lays 97 = .ok (.getfield 56, 3) := by decide +kernel
theorem dX9_lays_100 : decode cX9_lays 100 = .ok (.bipush 8, 2) := by decide +kernel
theorem dX9_lays_102 : decode cX9_lays 102 = .ok (.iload_n 1, 1) := by decide +kernel
theorem dX9_lays_103 : decode cX9_lays 103 = .ok (.imul, 1) := by decide +kernel
theorem dX9_lays_104 : decode cX9_lays 104 = .ok (.iload_n 3, 1) := by decide +kernel
theorem dX9_lays_105 : decode cX9_lays 105 = .ok (.iadd, 1) := by decide +kernel
theorem dX9_lays_106 : decode cX9_lays 106 = .ok (.aload_n 0, 1) := by decide +kernel
theorem dX9_lays_107 : decode cX9_lays 107 = .ok (.getfield 44, 3) := by decide +kernel
theorem dX9_lays_110 : decode cX9_lays 110 = .ok (.iload_n 3, 1) := by decide +kernel
theorem dX9_lays_111 : decode cX9_lays 111 = .ok (.iaload, 1) := by decide +kernel
theorem dX9_lays_112 : decode cX9_lays 112 = .ok (.iastore, 1) := by decide +kernel
theorem dX9_lays_113 : decode cX9_lays 113 = .ok (.aload_n 0, 1) := by decide +kernel
theorem dX9_lays_114 : decode cX9_lays 114 = .ok (.getfield 59, 3) := by decide +kernel
theorem dX9_lays_117 : decode cX9_lays 117 = .ok (.bipush 8, 2) := by decide +kernel
theorem dX9_lays_119 : decode cX9_lays 119 = .ok (.iload_n 1, 1) := by decide +kernel
theorem dX9_lays_120 : decode cX9_lays 120 = .ok (.imul, 1) := by decide +kernel
theorem dX9_lays_121 : decode cX9_lays 121 = .ok (.iload_n 3, 1) := by decide +kernel
theorem dX9_lays_122 : decode cX9_lays 122 = .ok (.iadd, 1) := by decide +kernel
theorem dX9_lays_123 : decode cX9_lays 123 = .ok (.aload_n 0, 1) := by decide +kernel
theorem dX9_lays_124 : decode cX9_lays 124 = .ok (.getfield 47, 3) := by decide +kernel
theorem dX9_lays_127 : decode cX9_lays 127 = .ok (.iload_n 3, 1) := by decide +kernel
theorem dX9_lays_128 : decode cX9_lays 128 = .ok (.iaload, 1) := by decide +kernel
theorem dX9_lays_129 : decode cX9_lays 129 = .ok (.iastore, 1) := by decide +kernel
theorem dX9_lays_130 : decode cX9_lays 130 = .ok (.iinc 3 1, 3) := by decide +kernel
theorem dX9_lays_133 : decode cX9_lays 133 = .ok (.goto (-43), 3) := by decide +kernel
theorem dX9_lays_136 : decode cX9_lays 136 = .ok (.return_, 1) := by decide +kernel
theorem dX9_laysBack_0 : decode cX9_laysBack 0 = .ok (.bipush 7, 2) := by decide +kernel
theorem dX9_laysBack_2 : decode cX9_laysBack 2 = .ok (.iload_n 1, 1) := by decide +kernel
theorem dX9_laysBack_3 : decode cX9_laysBack 3 = .ok (.imul, 1) := by decide +kernel
theorem dX9_laysBack_4 : decode cX9_laysBack 4 = .ok (.istore_n 2, 1) := by decide +kernel
theorem dX9_laysBack_5 : decode cX9_laysBack 5 = .ok (.aload_n 0, 1) := by decide +kernel
theorem dX9_laysBack_6 : decode cX9_laysBack 6 = .ok (.aload_n 0, 1) := by decide +kernel
theorem dX9_laysBack_7 : decode cX9_laysBack 7 = .ok (.getfield 53, 3) := by decide +kernel
theorem dX9_laysBack_10 : decode cX9_laysBack 10 = .ok (.iload_n 2, 1) := by decide +kernel
theorem dX9_laysBack_11 : decode cX9_laysBack 11 = .ok (.iaload, 1) := by decide +kernel
theorem dX9_laysBack_12 : decode cX9_laysBack 12 = .ok (.putfield 252, 3) := by decide +kernel
theorem dX9_laysBack_15 : decode cX9_laysBack 15 = .ok (.aload_n 0, 1) := by decide +kernel
theorem dX9_laysBack_16 : decode cX9_laysBack 16 = .ok (.aload_n 0, 1) := by decide +kernel
theorem dX9_laysBack_17 : decode cX9_laysBack 17 = .ok (.getfield 53, 3) := by decide +kernel
theorem dX9_laysBack_20 : decode cX9_laysBack 20 = .ok (.iload_n 2, 1) := by decide +kernel
theorem dX9_laysBack_21 : decode cX9_laysBack 21 = .ok (.iconst 1, 1) := by decide +kernel
theorem dX9_laysBack_22 : decode cX9_laysBack 22 = .ok (.iadd, 1) := by decide +kernel
theorem dX9_laysBack_23 : decode cX9_laysBack 23 = .ok (.iaload, 1) := by decide +kernel
theorem dX9_laysBack_24 : decode cX9_laysBack 24 = .ok (.putfield 258, 3) := by decide +kernel
theorem dX9_laysBack_27 : decode cX9_laysBack 27 = .ok (.aload_n 0, 1) := by decide +kernel
theorem dX9_laysBack_28 : decode cX9_laysBack 28 = .ok (.aload_n 0, 1) := by decide +kernel
theorem dX9_laysBack_29 : decode cX9_laysBack 29 = .ok (.getfield 53, 3) := by decide +kernel
theorem dX9_laysBack_32 : decode cX9_laysBack 32 = .ok (.iload_n 2, 1) := by decide +kernel
theorem dX9_laysBack_33 : decode cX9_laysBack 33 = .ok (.iconst 2, 1) := by decide +kernel
theorem dX9_laysBack_34 : decode cX9_laysBack 34 = .ok (.iadd, 1) := by decide +kernel
theorem dX9_laysBack_35 : decode cX9_laysBack 35 = .ok (.iaload, 1) := by decide +kernel
theorem dX9_laysBack_36 : decode cX9_laysBack 36 = .ok (.putfield 255, 3) := by decide +kernel
theorem dX9_laysBack_39 : decode cX9_laysBack 39 = .ok (.aload_n 0, 1) := by decide +kernel
theorem dX9_laysBack_40 : decode cX9_laysBack 40 = .ok (.aload_n 0, 1) := by decide +kernel
theorem dX9_laysBack_41 : decode cX9_laysBack 41 = .ok (.getfield 53, 3) := by decide +kernel
theorem dX9_laysBack_44 : decode cX9_laysBack 44 = .ok (.iload_n 2, 1) := by decide +kernel
theorem dX9_laysBack_45 : decode cX9_laysBack 45 = .ok (.iconst 3, 1) := by decide +kernel
theorem dX9_laysBack_46 : decode cX9_laysBack 46 = .ok (.iadd, 1) := by decide +kernel
theorem dX9_laysBack_47 : decode cX9_laysBack 47 = .ok (.iaload, 1) := by decide +kernel
theorem dX9_laysBack_48 : decode cX9_laysBack 48 = .ok (.putfield 265, 3) := by decide +kernel
theorem dX9_laysBack_51 : decode cX9_laysBack 51 = .ok (.aload_n 0, 1) := by decide +kernel
theorem dX9_laysBack_52 : decode cX9_laysBack 52 = .ok (.aload_n 0, 1) := by decide +kernel
theorem dX9_laysBack_53 : decode cX9_laysBack 53 = .ok (.getfield 53, 3) := by decide +kernel
theorem dX9_laysBack_56 : decode cX9_laysBack 56 = .ok (.iload_n 2, 1) := by decide +kernel
theorem dX9_laysBack_57 : decode cX9_laysBack 57 = .ok (.iconst 4, 1) := by decide +kernel
theorem dX9_laysBack_58 : decode cX9_laysBack 58 = .ok (.iadd, 1) := by decide +kernel
theorem dX9_laysBack_59 : decode cX9_laysBack 59 = .ok (.iaload, 1) := by decide +kernel
theorem dX9_laysBack_60 : decode cX9_laysBack 60 = .ok (.putfield 268, 3) := by decide +kernel
theorem dX9_laysBack_63 : decode cX9_laysBack 63 = .ok (.aload_n 0, 1) := by decide +kernel
theorem dX9_laysBack_64 : decode cX9_laysBack 64 = .ok (.aload_n 0, 1) := by decide +kernel
theorem dX9_laysBack_65 : decode cX9_laysBack 65 = .ok (.getfield 53, 3) := by decide +kernel
theorem dX9_laysBack_68 : decode cX9_laysBack 68 = .ok (.iload_n 2, 1) := by decide +kernel
theorem dX9_laysBack_69 : decode cX9_laysBack 69 = .ok (.iconst 5, 1) := by decide +kernel
theorem dX9_laysBack_70 : decode cX9_laysBack 70 = .ok (.iadd, 1) := by decide +kernel
theorem dX9_laysBack_71 : decode cX9_laysBack 71 = .ok (.iaload, 1) := by decide +kernel
theorem dX9_laysBack_72 : decode cX9_laysBack 72 = .ok (.putfield 271, 3) := by decide +kernel
theorem dX9_laysBack_75 : decode cX9_laysBack 75 = .ok (.aload_n 0, 1) := by decide +kernel
theorem dX9_laysBack_76 : decode cX9_laysBack 76 = .ok (.aload_n 0, 1) := by decide +kernel
theorem dX9_laysBack_77 : decode cX9_laysBack 77 = .ok (.getfield 53, 3) := by decide +kernel
theorem dX9_laysBack_80 : decode cX9_laysBack 80 = .ok (.iload_n 2, 1) := by decide +kernel
theorem dX9_laysBack_81 : decode cX9_laysBack 81 = .ok (.bipush 6, 2) := by decide +kernel
theorem dX9_laysBack_83 : decode cX9_laysBack 83 = .ok (.iadd, 1) := by decide +kernel
theorem dX9_laysBack_84 : decode cX9_laysBack 84 = .ok (.iaload, 1) := by decide +kernel
theorem dX9_laysBack_85 : decode cX9_laysBack 85 = .ok (.putfield 274, 3) := by decide +kernel
theorem dX9_laysBack_88 : decode cX9_laysBack 88 = .ok (.iconst 0, 1) := by decide +kernel
theorem dX9_laysBack_89 : decode cX9_laysBack 89 = .ok (.istore_n 3, 1) := by decide +kernel
theorem dX9_laysBack_90 : decode cX9_laysBack 90 = .ok (.iload_n 3, 1) := by decide +kernel
theorem dX9_laysBack_91 : decode cX9_laysBack 91 = .ok (.bipush 8, 2) := by decide +kernel
theorem dX9_laysBack_93 : decode cX9_laysBack 93 = .ok (.if_icmp .ge 43, 3) := by decide +kernel
theorem dX9_laysBack_96 : decode cX9_laysBack 96 = .ok (.aload_n 0, 1) := by decide +kernel
theorem dX9_laysBack_97 : decode cX9_laysBack 97 = .ok (.getfield 44, 3) := by decide +kernel
theorem dX9_laysBack_100 : decode cX9_laysBack 100 = .ok (.iload_n 3, 1) := by decide +kernel
theorem dX9_laysBack_101 : decode cX9_laysBack 101 = .ok (.aload_n 0, 1) := by decide +kernel
theorem dX9_laysBack_102 : decode cX9_laysBack 102 = .ok (.getfield 56, 3) := by decide +kernel
theorem dX9_laysBack_105 : decode cX9_laysBack 105 = .ok (.bipush 8, 2) := by decide +kernel
theorem dX9_laysBack_107 : decode cX9_laysBack 107 = .ok (.iload_n 1, 1) := by decide +kernel
theorem dX9_laysBack_108 : decode cX9_laysBack 108 = .ok (.imul, 1) := by decide +kernel
theorem dX9_laysBack_109 : decode cX9_laysBack 109 = .ok (.iload_n 3, 1) := by decide +kernel
theorem dX9_laysBack_110 : decode cX9_laysBack 110 = .ok (.iadd, 1) := by decide +kernel
theorem dX9_laysBack_111 : decode cX9_laysBack 111 = .ok (.iaload, 1) := by decide +kernel
theorem dX9_laysBack_112 : decode cX9_laysBack 112 = .ok (.iastore, 1) := by decide +kernel
theorem dX9_laysBack_113 : decode cX9_laysBack 113 = .ok (.aload_n 0, 1) := by decide +kernel
theorem dX9_laysBack_114 : decode cX9_laysBack 114 = .ok (.getfield 47, 3) := by decide +kernel
theorem dX9_laysBack_117 : decode cX9_laysBack 117 = .ok (.iload_n 3, 1) := by decide +kernel
theorem dX9_laysBack_118 : decode cX9_laysBack 118 = .ok (.aload_n 0, 1) := by decide +kernel
theorem dX9_laysBack_119 : decode cX9_laysBack 119 = .ok (.getfield 59, 3) := by decide +kernel
theorem dX9_laysBack_122 : decode cX9_laysBack 122 = .ok (.bipush 8, 2) := by decide +kernel
theorem dX9_laysBack_124 : decode cX9_laysBack 124 = .ok (.iload_n 1, 1) := by decide +kernel
theorem dX9_laysBack_125 : decode cX9_laysBack 125 = .ok (.imul, 1) := by decide +kernel
theorem dX9_laysBack_126 : decode cX9_laysBack 126 = .ok (.iload_n 3, 1) := by decide +kernel
theorem dX9_laysBack_127 : decode cX9_laysBack 127 = .ok (.iadd, 1) := by decide +kernel
theorem dX9_laysBack_128 : decode cX9_laysBack 128 = .ok (.iaload, 1) := by decide +kernel
theorem dX9_laysBack_129 : decode cX9_laysBack 129 = .ok (.iastore, 1) := by decide +kernel
theorem dX9_laysBack_130 : decode cX9_laysBack 130 = .ok (.iinc 3 1, 3) := by decide +kernel
theorem dX9_laysBack_133 : decode cX9_laysBack 133 = .ok (.goto (-43), 3) := by decide +kernel
theorem dX9_laysBack_136 : decode cX9_laysBack 136 = .ok (.return_, 1) := by decide +kernel
theorem dX9_isBetter_0 : decode cX9_isBetter 0 = .ok (.iload_n 1, 1) := by decide +kernel
theorem dX9_isBetter_1 : decode cX9_isBetter 1 = .ok (.ifCond .ne 20, 3) := by decide +kernel
theorem dX9_isBetter_4 : decode cX9_isBetter 4 = .ok (.aload_n 0, 1) := by decide +kernel
theorem dX9_isBetter_5 : decode cX9_isBetter 5 = .ok (.getfield 255, 3) := by decide +kernel
theorem dX9_isBetter_8 : decode cX9_isBetter 8 = .ok (.aload_n 0, 1) := by decide +kernel
theorem dX9_isBetter_9 : decode cX9_isBetter 9 = .ok (.getfield 315, 3) := by decide +kernel
theorem dX9_isBetter_12 : decode cX9_isBetter 12 = .ok (.if_icmp .le 7, 3) := by decide +kernel
theorem dX9_isBetter_15 : decode cX9_isBetter 15 = .ok (.iconst 1, 1) := by decide +kernel
theorem dX9_isBetter_16 : decode cX9_isBetter 16 = .ok (.goto 4, 3) := by decide +kernel
theorem dX9_isBetter_19 : decode cX9_isBetter 19 = .ok (.iconst 0, 1) := by decide +kernel
theorem dX9_isBetter_20 : decode cX9_isBetter 20 = .ok (.ireturn, 1) := by decide +kernel
theorem dX9_isBetter_21 : decode cX9_isBetter 21 = .ok (.aload_n 0, 1) := by decide +kernel
theorem dX9_isBetter_22 : decode cX9_isBetter 22 = .ok (.invokevirtual 293, 3) := by decide +kernel
theorem dX9_isBetter_25 : decode cX9_isBetter 25 = .ok (.aload_n 0, 1) := by decide +kernel
theorem dX9_isBetter_26 : decode cX9_isBetter 26 = .ok (.getfield 318, 3) := by decide +kernel
theorem dX9_isBetter_29 : decode cX9_isBetter 29 = .ok (.if_icmp .lt 25, 3) := by decide +kernel
theorem dX9_isBetter_32 : decode cX9_isBetter 32 = .ok (.aload_n 0, 1) := by decide +kernel
theorem dX9_isBetter_33 : decode cX9_isBetter 33 = .ok (.invokevirtual 293, 3) := by decide +kernel
theorem dX9_isBetter_36 : decode cX9_isBetter 36 = .ok (.aload_n 0, 1) := by decide +kernel
theorem dX9_isBetter_37 : decode cX9_isBetter 37 = .ok (.getfield 318, 3) := by decide +kernel
theorem dX9_isBetter_40 : decode cX9_isBetter 40 = .ok (.if_icmp .ne 18, 3) := by decide +kernel
theorem dX9_isBetter_43 : decode cX9_isBetter 43 = .ok (.aload_n 0, 1) := by decide +kernel
theorem dX9_isBetter_44 : decode cX9_isBetter 44 = .ok (.getfield 268, 3) := by decide +kernel
theorem dX9_isBetter_47 : decode cX9_isBetter 47 = .ok (.aload_n 0, 1) := by decide +kernel
theorem dX9_isBetter_48 : decode cX9_isBetter 48 = .ok (.getfield 321, 3) := by decide +kernel
theorem dX9_isBetter_51 : decode cX9_isBetter 51 = .ok (.if_icmp .le 7, 3) := by decide +kernel
theorem dX9_isBetter_54 : decode cX9_isBetter 54 = .ok (.iconst 1, 1) := by decide +kernel
theorem dX9_isBetter_55 : decode cX9_isBetter 55 = .ok (.goto 4, 3) := by decide +kernel
theorem dX9_isBetter_58 : decode cX9_isBetter 58 = .ok (.iconst 0, 1) := by decide +kernel
theorem dX9_isBetter_59 : decode cX9_isBetter 59 = .ok (.ireturn, 1) := by decide +kernel
theorem dX9_rows_0 : decode cX9_rows 0 = .ok (.iload_n 1, 1) := by decide +kernel
theorem dX9_rows_1 : decode cX9_rows 1 = .ok (.ifCond .eq 11, 3) := by decide +kernel
theorem dX9_rows_4 : decode cX9_rows 4 = .ok (.aload_n 0, 1) := by decide +kernel
theorem dX9_rows_5 : decode cX9_rows 5 = .ok (.iload_n 3, 1) := by decide +kernel
theorem dX9_rows_6 : decode cX9_rows 6 = .ok (.invokevirtual 324, 3) := by decide +kernel
theorem dX9_rows_9 : decode cX9_rows 9 = .ok (.ifCond .eq 32, 3) := by decide +kernel
theorem dX9_rows_12 : decode cX9_rows 12 = .ok (.aload_n 0, 1) := by decide +kernel
theorem dX9_rows_13 : decode cX9_rows 13 = .ok (.iload_n 2, 1) := by decide +kernel
theorem dX9_rows_14 : decode cX9_rows 14 = .ok (.putfield 327, 3) := by decide +kernel
theorem dX9_rows_17 : decode cX9_rows 17 = .ok (.aload_n 0, 1) := by decide +kernel
theorem dX9_rows_18 : decode cX9_rows 18 = .ok (.aload_n 0, 1) := by decide +kernel
theorem dX9_rows_19 : decode cX9_rows 19 = .ok (.getfield 255, 3) := by decide +kernel
theorem dX9_rows_22 : decode cX9_rows 22 = .ok (.putfield 315, 3) := by decide +kernel
theorem dX9_rows_25 : decode cX9_rows 25 = .ok (.aload_n 0, 1) := by decide +kernel
theorem dX9_rows_26 : decode cX9_rows 26 = .ok (.aload_n 0, 1) := by decide +kernel
theorem dX9_rows_27 : decode cX9_rows 27 = .ok (.invokevirtual 293, 3) := by decide +kernel
theorem dX9_rows_30 : decode cX9_rows 30 = .ok (.putfield 318, 3) := by decide +kernel
theorem dX9_rows_33 : decode cX9_rows 33 = .ok (.aload_n 0, 1) := by decide +kernel
theorem dX9_rows_34 : decode cX9_rows 34 = .ok (.aload_n 0, 1) := by decide +kernel
theorem dX9_rows_35 : decode cX9_rows 35 = .ok (.getfield 268, 3) := by decide +kernel
theorem dX9_rows_38 : decode cX9_rows 38 = .ok (.putfield 321, 3) := by decide +kernel
theorem dX9_rows_41 : decode cX9_rows 41 = .ok (.iconst 0, 1) := by decide +kernel
theorem dX9_rows_42 : decode cX9_rows 42 = .ok (.istore 4, 2) := by decide +kernel
theorem dX9_rows_44 : decode cX9_rows 44 = .ok (.iload 4, 2) := by decide +kernel
theorem dX9_rows_46 : decode cX9_rows 46 = .ok (.aload_n 0, 1) := by decide +kernel
theorem dX9_rows_47 : decode cX9_rows 47 = .ok (.getfield 98, 3) := by decide +kernel
theorem dX9_rows_50 : decode cX9_rows 50 = .ok (.if_icmp .ge 54, 3) := by decide +kernel
theorem dX9_rows_53 : decode cX9_rows 53 = .ok (.aload_n 0, 1) := by decide +kernel
theorem dX9_rows_54 : decode cX9_rows 54 = .ok (.getfield 271, 3) := by decide +kernel
theorem dX9_rows_57 : decode cX9_rows 57 = .ok (.iload 4, 2) := by decide +kernel
theorem dX9_rows_59 : decode cX9_rows 59 = .ok (.ishr, 1) := by decide +kernel
theorem dX9_rows_60 : decode cX9_rows 60 = .ok (.iconst 1, 1) := by decide +kernel
theorem dX9_rows_61 : decode cX9_rows 61 = .ok (.iand, 1) := by decide +kernel
theorem dX9_rows_62 : decode cX9_rows 62 = .ok (.ifCond .ne 36, 3) := by decide +kernel
theorem dX9_rows_65 : decode cX9_rows 65 = .ok (.aload_n 0, 1) := by decide +kernel
theorem dX9_rows_66 : decode cX9_rows 66 = .ok (.iload_n 1, 1) := by decide +kernel
theorem dX9_rows_67 : decode cX9_rows 67 = .ok (.invokevirtual 330, 3) := by decide +kernel
theorem dX9_rows_70 : decode cX9_rows 70 = .ok (.aload_n 0, 1) := by decide +kernel
theorem dX9_rows_71 : decode cX9_rows 71 = .ok (.iload 4, 2) := by decide +kernel
theorem dX9_rows_73 : decode cX9_rows 73 = .ok (.invokevirtual 302, 3) := by decide +kernel
theorem dX9_rows_76 : decode cX9_rows 76 = .ok (.aload_n 0, 1) := by decide +kernel
theorem dX9_rows_77 : decode cX9_rows 77 = .ok (.iload_n 1, 1) := by decide +kernel
theorem dX9_rows_78 : decode cX9_rows 78 = .ok (.iconst 1, 1) := by decide +kernel
theorem dX9_rows_79 : decode cX9_rows 79 = .ok (.iadd, 1) := by decide +kernel
theorem dX9_rows_80 : decode cX9_rows 80 = .ok (.bipush 10, 2) := by decide +kernel
theorem dX9_rows_82 : decode cX9_rows 82 = .ok (.iload_n 2, 1) := by decide +kernel
theorem dX9_rows_83 : decode cX9_rows 83 = .ok (.imul, 1) := by decide +kernel
theorem dX9_rows_84 : decode cX9_rows 84 = .ok (.iload 4, 2) := by decide +kernel
theorem dX9_rows_86 : decode cX9_rows 86 = .ok (.iadd, 1) := by decide +kernel
theorem dX9_rows_87 : decode cX9_rows 87 = .ok (.iconst 1, 1) := by decide +kernel
theorem dX9_rows_88 : decode cX9_rows 88 = .ok (.iadd, 1) := by decide +kernel
theorem dX9_rows_89 : decode cX9_rows 89 = .ok (.iload_n 3, 1) := by decide +kernel
theorem dX9_rows_90 : decode cX9_rows 90 = .ok (.invokevirtual 333, 3) := by decide +kernel
theorem dX9_rows_93 : decode cX9_rows 93 = .ok (.aload_n 0, 1) := by decide +kernel
theorem dX9_rows_94 : decode cX9_rows 94 = .ok (.iload_n 1, 1) := by decide +kernel
theorem dX9_rows_95 : decode cX9_rows 95 = .ok (.invokevirtual 337, 3) := by decide +kernel
theorem dX9_rows_98 : decode cX9_rows 98 = .ok (.iinc 4 1, 3) := by decide +kernel
theorem dX9_rows_101 : decode cX9_rows 101 = .ok (.goto (-57), 3) := by decide +kernel
theorem dX9_rows_104 : decode cX9_rows 104 = .ok (.return_, 1) := by decide +kernel
theorem dX9_best_0 : decode cX9_best 0 = .ok (.iload_n 1, 1) := by decide +kernel
theorem dX9_best_1 : decode cX9_best 1 = .ok (.i2l, 1) := by decide +kernel
theorem dX9_best_2 : decode cX9_best 2 = .ok (.lconst 0, 1) := by decide +kernel
theorem dX9_best_3 : decode cX9_best 3 = .ok (.lconst 1, 1) := by decide +kernel
theorem dX9_best_4 : decode cX9_best 4 = .ok (.invokestatic 94, 3) := by decide +kernel
theorem dX9_best_7 : decode cX9_best 7 = .ok (.ifCond .eq 15, 3) := by decide +kernel
theorem dX9_best_10 : decode cX9_best 10 = .ok (.iload_n 2, 1) := by decide +kernel
theorem dX9_best_11 : decode cX9_best 11 = .ok (.i2l, 1) := by decide +kernel
theorem dX9_best_12 : decode cX9_best 12 = .ok (.lconst 0, 1) := by decide +kernel
theorem dX9_best_13 : decode cX9_best 13 = .ok (.ldc2_w 340, 3) := by decide +kernel
theorem dX9_best_16 : decode cX9_best 16 = .ok (.invokestatic 94, 3) := by decide +kernel
theorem dX9_best_19 : decode cX9_best 19 = .ok (.ifCond .ne 6, 3) := by decide +kernel
theorem dX9_best_22 : decode cX9_best 22 = .ok (.bipush (-2), 2) := by decide +kernel
theorem dX9_best_24 : decode cX9_best 24 = .ok (.ireturn, 1) := by decide +kernel
theorem dX9_best_25 : decode cX9_best 25 = .ok (.aload_n 0, 1) := by decide +kernel
theorem dX9_best_26 : decode cX9_best 26 = .ok (.invokevirtual 296, 3) := by decide +kernel
theorem dX9_best_29 : decode cX9_best 29 = .ok (.aload_n 0, 1) := by decide +kernel
theorem dX9_best_30 : decode cX9_best 30 = .ok (.iconst 0, 1) := by decide +kernel
theorem dX9_best_31 : decode cX9_best 31 = .ok (.iconst 0, 1) := by decide +kernel
theorem dX9_best_32 : decode cX9_best 32 = .ok (.iload_n 1, 1) := by decide +kernel
theorem dX9_best_33 : decode cX9_best 33 = .ok (.invokevirtual 333, 3) := by decide +kernel
theorem dX9_best_36 : decode cX9_best 36 = .ok (.iload_n 2, 1) := by decide +kernel
theorem dX9_best_37 : decode cX9_best 37 = .ok (.ifCond .ne 10, 3) := by decide +kernel
theorem dX9_best_40 : decode cX9_best 40 = .ok (.aload_n 0, 1) := by decide +kernel
theorem dX9_best_41 : decode cX9_best 41 = .ok (.getfield 315, 3) := by decide +kernel
theorem dX9_best_44 : decode cX9_best 44 = .ok (.goto 31, 3) := by decide +kernel
theorem dX9_best_47 : decode cX9_best 47 = .ok (.iload_n 2, 1) := by decide +kernel
theorem dX9_best_48 : decode cX9_best 48 = .ok (.iconst 1, 1) := by decide +kernel
theorem dX9_best_49 : decode cX9_best 49 = .ok (.if_icmp .ne 10, 3) := by decide +kernel
theorem dX9_best_52 : decode cX9_best 52 = .ok (.aload_n 0, 1) := by decide +kernel
theorem dX9_best_53 : decode cX9_best 53 = .ok (.getfield 318, 3) := by decide +kernel
theorem dX9_best_56 : decode cX9_best 56 = .ok (.goto 19, 3) := by decide +kernel
theorem dX9_best_59 : decode cX9_best 59 = .ok (.iload_n 2, 1) := by decide +kernel
theorem dX9_best_60 : decode cX9_best 60 = .ok (.iconst 2, 1) := by decide +kernel
theorem dX9_best_61 : decode cX9_best 61 = .ok (.if_icmp .ne 10, 3) := by decide +kernel
theorem dX9_best_64 : decode cX9_best 64 = .ok (.aload_n 0, 1) := by decide +kernel
theorem dX9_best_65 : decode cX9_best 65 = .ok (.getfield 321, 3) := by decide +kernel
theorem dX9_best_68 : decode cX9_best 68 = .ok (.goto 7, 3) := by decide +kernel
theorem dX9_best_71 : decode cX9_best 71 = .ok (.aload_n 0, 1) := by decide +kernel
theorem dX9_best_72 : decode cX9_best 72 = .ok (.getfield 327, 3) := by decide +kernel
theorem dX9_best_75 : decode cX9_best 75 = .ok (.ireturn, 1) := by decide +kernel
theorem dX9_deskCalls_0 : decode cX9_deskCalls 0 = .ok (.iconst (-1), 1) := by decide +kernel
theorem dX9_deskCalls_1 : decode cX9_deskCalls 1 = .ok (.istore_n 2, 1) := by decide +kernel
theorem dX9_deskCalls_2 : decode cX9_deskCalls 2 = .ok (.iconst 0, 1) := by decide +kernel
theorem dX9_deskCalls_3 : decode cX9_deskCalls 3 = .ok (.istore_n 3, 1) := by decide +kernel
theorem dX9_deskCalls_4 : decode cX9_deskCalls 4 = .ok (.iconst 0, 1) := by decide +kernel
theorem dX9_deskCalls_5 : decode cX9_deskCalls 5 = .ok (.istore 4, 2) := by decide +kernel
theorem dX9_deskCalls_7 : decode cX9_deskCalls 7 = .ok (.iload 4, 2) := by decide +kernel
theorem dX9_deskCalls_9 : decode cX9_deskCalls 9 = .ok (.aload_n 0, 1) := by decide +kernel
theorem dX9_deskCalls_10 : decode cX9_deskCalls 10 = .ok (.getfield 98, 3) := by decide +kernel
theorem dX9_deskCalls_13 : decode cX9_deskCalls 13 = .ok (.if_icmp .ge 96, 3) := by decide +kernel
theorem dX9_deskCalls_16 : decode cX9_deskCalls 16 = .ok (.aload_n 0, 1) := by decide +kernel
theorem dX9_deskCalls_17 : decode cX9_deskCalls 17 = .ok (.getfield 271, 3) := by decide +kernel
theorem dX9_deskCalls_20 : decode cX9_deskCalls 20 = .ok (.iload_n 1, 1) := by decide +kernel
theorem dX9_deskCalls_21 : decode cX9_deskCalls 21 = .ok (.ior, 1) := by decide +kernel
theorem dX9_deskCalls_22 : decode cX9_deskCalls 22 = .ok (.iload 4, 2) := by decide +kernel
theorem dX9_deskCalls_24 : decode cX9_deskCalls 24 = .ok (.ishr, 1) := by decide +kernel
theorem dX9_deskCalls_25 : decode cX9_deskCalls 25 = .ok (.iconst 1, 1) := by decide +kernel
theorem dX9_deskCalls_26 : decode cX9_deskCalls 26 = .ok (.iand, 1) := by decide +kernel
theorem dX9_deskCalls_27 : decode cX9_deskCalls 27 = .ok (.ifCond .ne 76, 3) := by decide +kernel
theorem dX9_deskCalls_30 : decode cX9_deskCalls 30 = .ok (.aload_n 0, 1) := by decide +kernel
theorem dX9_deskCalls_31 : decode cX9_deskCalls 31 = .ok (.iload 4, 2) := by decide +kernel
theorem dX9_deskCalls_33 : decode cX9_deskCalls 33 = .ok (.invokevirtual 277, 3) := by decide +kernel
theorem dX9_deskCalls_36 : decode cX9_deskCalls 36 = .ok (.ifCond .eq 67, 3) := by decide +kernel
theorem dX9_deskCalls_39 : decode cX9_deskCalls 39 = .ok (.aload_n 0, 1) := by decide +kernel
theorem dX9_deskCalls_40 : decode cX9_deskCalls 40 = .ok (.getfield 26, 3) := by decide +kernel
theorem dX9_deskCalls_43 : decode cX9_deskCalls 43 = .ok (.aload_n 0, 1) := by decide +kernel
theorem dX9_deskCalls_44 : decode cX9_deskCalls 44 = .ok (.getfield 38, 3) := by decide +kernel
theorem dX9_deskCalls_47 : decode cX9_deskCalls 47 = .ok (.iload 4, 2) := by decide +kernel
theorem dX9_deskCalls_49 : decode cX9_deskCalls 49 = .ok (.iaload, 1) := by decide +kernel
theorem dX9_deskCalls_50 : decode cX9_deskCalls 50 = .ok (.iaload, 1) := by decide +kernel
theorem dX9_deskCalls_51 : decode cX9_deskCalls 51 = .ok (.istore 5, 2) := by decide +kernel
theorem dX9_deskCalls_53 : decode cX9_deskCalls 53 = .ok (.aload_n 0, 1) := by decide +kernel
theorem dX9_deskCalls_54 : decode cX9_deskCalls 54 = .ok (.iconst 2, 1) := by decide +kernel
theorem dX9_deskCalls_55 : decode cX9_deskCalls 55 = .ok (.aload_n 0, 1) := by decide +kernel
theorem dX9_deskCalls_56 : decode cX9_deskCalls 56 = .ok (.getfield 252, 3) := by decide +kernel
theorem dX9_deskCalls_59 : decode cX9_deskCalls 59 = .ok (.aload_n 0, 1) := by decide +kernel
theorem dX9_deskCalls_60 : decode cX9_deskCalls 60 = .ok (.getfield 44, 3) := by decide +kernel
theorem dX9_deskCalls_63 : decode cX9_deskCalls 63 = .ok (.iload 5, 2) := by decide +kernel
theorem dX9_deskCalls_65 : decode cX9_deskCalls 65 = .ok (.iaload, 1) := by decide +kernel
theorem dX9_deskCalls_66 : decode cX9_deskCalls 66 = .ok (.isub, 1) := by decide +kernel
theorem dX9_deskCalls_67 : decode cX9_deskCalls 67 = .ok (.aload_n 0, 1) := by decide +kernel
theorem dX9_deskCalls_68 : decode cX9_deskCalls 68 = .ok (.getfield 47, 3) := by decide +kernel
theorem dX9_deskCalls_71 : decode cX9_deskCalls 71 = .ok (.iload 5, 2) := by decide +kernel
theorem dX9_deskCalls_73 : decode cX9_deskCalls 73 = .ok (.iaload, 1) := by decide +kernel
theorem dX9_deskCalls_74 : decode cX9_deskCalls 74 = .ok (.aload_n 0, 1) := by decide +kernel
theorem dX9_deskCalls_75 : decode cX9_deskCalls 75 = .ok (.getfield 29, 3) := by decide +kernel
theorem dX9_deskCalls_78 : decode cX9_deskCalls 78 = .ok (.iload 4, 2) := by decide +kernel
theorem dX9_deskCalls_80 : decode cX9_deskCalls 80 = .ok (.iaload, 1) := by decide +kernel
theorem dX9_deskCalls_81 : decode cX9_deskCalls 81 = .ok (.invokevirtual 289, 3) := by decide +kernel
theorem dX9_deskCalls_84 : decode cX9_deskCalls 84 = .ok (.istore 6, 2) := by decide +kernel
theorem dX9_deskCalls_86 : decode cX9_deskCalls 86 = .ok (.iload_n 2, 1) := by decide +kernel
theorem dX9_deskCalls_87 : decode cX9_deskCalls 87 = .ok (.iconst (-1), 1) := by decide +kernel
theorem dX9_deskCalls_88 : decode cX9_deskCalls 88 = .ok (.if_icmp .eq 9, 3) := by decide +kernel
theorem dX9_deskCalls_91 : decode cX9_deskCalls 91 = .ok (.iload 6, 2) := by decide +kernel
theorem dX9_deskCalls_93 : decode cX9_deskCalls 93 = .ok (.iload_n 3, 1) := by decide +kernel
theorem dX9_deskCalls_94 : decode cX9_deskCalls 94 = .ok (.if_icmp .le 9, 3) := by decide +kernel
theorem dX9_deskCalls_97 : decode cX9_deskCalls 97 = .ok (.iload 4, 2) := by decide +kernel
theorem dX9_deskCalls_99 : decode cX9_deskCalls 99 = .ok (.istore_n 2, 1) := by decide +kernel
theorem dX9_deskCalls_100 : decode cX9_deskCalls 100 = .ok (.iload 6, 2) := by decide +kernel
theorem dX9_deskCalls_102 : decode cX9_deskCalls 102 = .ok (.istore_n 3, 1) := by decide +kernel
theorem dX9_deskCalls_103 : decode cX9_deskCalls 103 = .ok (.iinc 4 1, 3) := by decide +kernel
theorem dX9_deskCalls_106 : decode cX9_deskCalls 106 = .ok (.goto (-99), 3) := by decide +kernel
theorem dX9_deskCalls_109 : decode cX9_deskCalls 109 = .ok (.iload_n 2, 1) := by decide +kernel
theorem dX9_deskCalls_110 : decode cX9_deskCalls 110 = .ok (.ireturn, 1) := by decide +kernel
theorem dX9_goesOn_0 : decode cX9_goesOn 0 = .ok (.aload_n 0, 1) := by decide +kernel
theorem dX9_goesOn_1 : decode cX9_goesOn 1 = .ok (.iconst 0, 1) := by decide +kernel
theorem dX9_goesOn_2 : decode cX9_goesOn 2 = .ok (.putfield 342, 3) := by decide +kernel
theorem dX9_goesOn_5 : decode cX9_goesOn 5 = .ok (.aload_n 0, 1) := by decide +kernel
theorem dX9_goesOn_6 : decode cX9_goesOn 6 = .ok (.iload_n 1, 1) := by decide +kernel
theorem dX9_goesOn_7 : decode cX9_goesOn 7 = .ok (.invokevirtual 345, 3) := by decide +kernel
theorem dX9_goesOn_10 : decode cX9_goesOn 10 = .ok (.istore_n 2, 1) := by decide +kernel
theorem dX9_goesOn_11 : decode cX9_goesOn 11 = .ok (.iload_n 2, 1) := by decide +kernel
theorem dX9_goesOn_12 : decode cX9_goesOn 12 = .ok (.iconst (-1), 1) := by decide +kernel
theorem dX9_goesOn_13 : decode cX9_goesOn 13 = .ok (.if_icmp .eq 32, 3) := by decide +kernel
theorem dX9_goesOn_16 : decode cX9_goesOn 16 = .ok (.aload_n 0, 1) := by decide +kernel
theorem dX9_goesOn_17 : decode cX9_goesOn 17 = .ok (.iload_n 2, 1) := by decide +kernel
theorem dX9_goesOn_18 : decode cX9_goesOn 18 = .ok (.invokevirtual 302, 3) := by decide +kernel
theorem dX9_goesOn_21 : decode cX9_goesOn 21 = .ok (.aload_n 0, 1) := by decide +kernel
theorem dX9_goesOn_22 : decode cX9_goesOn 22 = .ok (.bipush 10, 2) := by decide +kernel
theorem dX9_goesOn_24 : decode cX9_goesOn 24 = .ok (.aload_n 0, 1) := by decide +kernel
theorem dX9_goesOn_25 : decode cX9_goesOn 25 = .ok (.getfield 342, 3) := by decide +kernel
theorem dX9_goesOn_28 : decode cX9_goesOn 28 = .ok (.imul, 1) := by decide +kernel
theorem dX9_goesOn_29 : decode cX9_goesOn 29 = .ok (.iload_n 2, 1) := by decide +kernel
theorem dX9_goesOn_30 : decode cX9_goesOn 30 = .ok (.iadd, 1) := by decide +kernel
theorem dX9_goesOn_31 : decode cX9_goesOn 31 = .ok (.iconst 1, 1) := by decide +kernel
theorem dX9_goesOn_32 : decode cX9_goesOn 32 = .ok (.iadd, 1) := by decide +kernel
theorem dX9_goesOn_33 : decode cX9_goesOn 33 = .ok (.putfield 342, 3) := by decide +kernel
theorem dX9_goesOn_36 : decode cX9_goesOn 36 = .ok (.aload_n 0, 1) := by decide +kernel
theorem dX9_goesOn_37 : decode cX9_goesOn 37 = .ok (.iload_n 1, 1) := by decide +kernel
theorem dX9_goesOn_38 : decode cX9_goesOn 38 = .ok (.invokevirtual 345, 3) := by decide +kernel
theorem dX9_goesOn_41 : decode cX9_goesOn 41 = .ok (.istore_n 2, 1) := by decide +kernel
theorem dX9_goesOn_42 : decode cX9_goesOn 42 = .ok (.goto (-31), 3) := by decide +kernel
theorem dX9_goesOn_45 : decode cX9_goesOn 45 = .ok (.return_, 1) := by decide +kernel
theorem dX9_desks_0 : decode cX9_desks 0 = .ok (.aload_n 0, 1) := by decide +kernel
theorem dX9_desks_1 : decode cX9_desks 1 = .ok (.invokevirtual 296, 3) := by decide +kernel
theorem dX9_desks_4 : decode cX9_desks 4 = .ok (.aload_n 0, 1) := by decide +kernel
theorem dX9_desks_5 : decode cX9_desks 5 = .ok (.iload_n 1, 1) := by decide +kernel
theorem dX9_desks_6 : decode cX9_desks 6 = .ok (.invokevirtual 348, 3) := by decide +kernel
theorem dX9_desks_9 : decode cX9_desks 9 = .ok (.return_, 1) := by decide +kernel
theorem dX9_desk_0 : decode cX9_desk 0 = .ok (.iload_n 1, 1) := by decide +kernel
theorem dX9_desk_1 : decode cX9_desk 1 = .ok (.i2l, 1) := by decide +kernel
theorem dX9_desk_2 : decode cX9_desk 2 = .ok (.lconst 0, 1) := by decide +kernel
theorem dX9_desk_3 : decode cX9_desk 3 = .ok (.ldc2_w 113, 3) := by decide +kernel
theorem dX9_desk_6 : decode cX9_desk 6 = .ok (.invokestatic 94, 3) := by decide +kernel
theorem dX9_desk_9 : decode cX9_desk 9 = .ok (.ifCond .ne 6, 3) := by decide +kernel
theorem dX9_desk_12 : decode cX9_desk 12 = .ok (.ldc 122, 2) := by decide +kernel
theorem dX9_desk_14 : decode cX9_desk 14 = .ok (.ireturn, 1) := by decide +kernel
theorem dX9_desk_15 : decode cX9_desk 15 = .ok (.aload_n 0, 1) := by decide +kernel
theorem dX9_desk_16 : decode cX9_desk 16 = .ok (.iconst 0, 1) := by decide +kernel
theorem dX9_desk_17 : decode cX9_desk 17 = .ok (.invokevirtual 351, 3) := by decide +kernel
theorem dX9_desk_20 : decode cX9_desk 20 = .ok (.iload_n 1, 1) := by decide +kernel
theorem dX9_desk_21 : decode cX9_desk 21 = .ok (.bipush 6, 2) := by decide +kernel
theorem dX9_desk_23 : decode cX9_desk 23 = .ok (.if_icmp .ne 10, 3) := by decide +kernel
theorem dX9_desk_26 : decode cX9_desk 26 = .ok (.aload_n 0, 1) := by decide +kernel
theorem dX9_desk_27 : decode cX9_desk 27 = .ok (.getfield 342, 3) := by decide +kernel
theorem dX9_desk_30 : decode cX9_desk 30 = .ok (.goto 8, 3) := by decide +kernel
theorem dX9_desk_33 : decode cX9_desk 33 = .ok (.aload_n 0, 1) := by decide +kernel
theorem dX9_desk_34 : decode cX9_desk 34 = .ok (.iload_n 1, 1) := by decide +kernel
theorem dX9_desk_35 : decode cX9_desk 35 = .ok (.invokevirtual 312, 3) := by decide +kernel
theorem dX9_desk_38 : decode cX9_desk 38 = .ok (.ireturn, 1) := by decide +kernel
theorem dX9_wait_0 : decode cX9_wait 0 = .ok (.aload_n 0, 1) := by decide +kernel
theorem dX9_wait_1 : decode cX9_wait 1 = .ok (.iload_n 1, 1) := by decide +kernel
theorem dX9_wait_2 : decode cX9_wait 2 = .ok (.invokevirtual 119, 3) := by decide +kernel
theorem dX9_wait_5 : decode cX9_wait 5 = .ok (.ifCond .ne 6, 3) := by decide +kernel
theorem dX9_wait_8 : decode cX9_wait 8 = .ok (.bipush (-2), 2) := by decide +kernel
theorem dX9_wait_10 : decode cX9_wait 10 = .ok (.ireturn, 1) := by decide +kernel
theorem dX9_wait_11 : decode cX9_wait 11 = .ok (.aload_n 0, 1) := by decide +kernel
theorem dX9_wait_12 : decode cX9_wait 12 = .ok (.iconst 0, 1) := by decide +kernel
theorem dX9_wait_13 : decode cX9_wait 13 = .ok (.invokevirtual 351, 3) := by decide +kernel
theorem dX9_wait_16 : decode cX9_wait 16 = .ok (.aload_n 0, 1) := by decide +kernel
theorem dX9_wait_17 : decode cX9_wait 17 = .ok (.getfield 274, 3) := by decide +kernel
theorem dX9_wait_20 : decode cX9_wait 20 = .ok (.iload_n 1, 1) := by decide +kernel
theorem dX9_wait_21 : decode cX9_wait 21 = .ok (.ishr, 1) := by decide +kernel
theorem dX9_wait_22 : decode cX9_wait 22 = .ok (.iconst 1, 1) := by decide +kernel
theorem dX9_wait_23 : decode cX9_wait 23 = .ok (.iand, 1) := by decide +kernel
theorem dX9_wait_24 : decode cX9_wait 24 = .ok (.iconst 1, 1) := by decide +kernel
theorem dX9_wait_25 : decode cX9_wait 25 = .ok (.if_icmp .ne 12, 3) := by decide +kernel
theorem dX9_wait_28 : decode cX9_wait 28 = .ok (.aload_n 0, 1) := by decide +kernel
theorem dX9_wait_29 : decode cX9_wait 29 = .ok (.getfield 50, 3) := by decide +kernel
theorem dX9_wait_32 : decode cX9_wait 32 = .ok (.iload_n 1, 1) := by decide +kernel
theorem dX9_wait_33 : decode cX9_wait 33 = .ok (.iaload, 1) := by decide +kernel
theorem dX9_wait_34 : decode cX9_wait 34 = .ok (.goto 4, 3) := by decide +kernel
theorem dX9_wait_37 : decode cX9_wait 37 = .ok (.iconst (-1), 1) := by decide +kernel
theorem dX9_wait_38 : decode cX9_wait 38 = .ok (.ireturn, 1) := by decide +kernel
theorem dX9_refuse_0 : decode cX9_refuse 0 = .ok (.iload_n 1, 1) := by decide +kernel
theorem dX9_refuse_1 : decode cX9_refuse 1 = .ok (.i2l, 1) := by decide +kernel
theorem dX9_refuse_2 : decode cX9_refuse 2 = .ok (.lconst 0, 1) := by decide +kernel
theorem dX9_refuse_3 : decode cX9_refuse 3 = .ok (.lconst 1, 1) := by decide +kernel
theorem dX9_refuse_4 : decode cX9_refuse 4 = .ok (.invokestatic 94, 3) := by decide +kernel
theorem dX9_refuse_7 : decode cX9_refuse 7 = .ok (.ifCond .ne 6, 3) := by decide +kernel
theorem dX9_refuse_10 : decode cX9_refuse 10 = .ok (.bipush (-2), 2) := by decide +kernel
theorem dX9_refuse_12 : decode cX9_refuse 12 = .ok (.ireturn, 1) := by decide +kernel
theorem dX9_refuse_13 : decode cX9_refuse 13 = .ok (.aload_n 0, 1) := by decide +kernel
theorem dX9_refuse_14 : decode cX9_refuse 14 = .ok (.iconst 0, 1) := by decide +kernel
theorem dX9_refuse_15 : decode cX9_refuse 15 = .ok (.invokevirtual 351, 3) := by decide +kernel
theorem dX9_refuse_18 : decode cX9_refuse 18 = .ok (.aload_n 0, 1) := by decide +kernel
theorem dX9_refuse_19 : decode cX9_refuse 19 = .ok (.getfield 255, 3) := by decide +kernel
theorem dX9_refuse_22 : decode cX9_refuse 22 = .ok (.istore_n 2, 1) := by decide +kernel
theorem dX9_refuse_23 : decode cX9_refuse 23 = .ok (.iconst (-1), 1) := by decide +kernel
theorem dX9_refuse_24 : decode cX9_refuse 24 = .ok (.istore_n 3, 1) := by decide +kernel
theorem dX9_refuse_25 : decode cX9_refuse 25 = .ok (.iconst 0, 1) := by decide +kernel
theorem dX9_refuse_26 : decode cX9_refuse 26 = .ok (.istore 4, 2) := by decide +kernel
theorem dX9_refuse_28 : decode cX9_refuse 28 = .ok (.iload 4, 2) := by decide +kernel
theorem dX9_refuse_30 : decode cX9_refuse 30 = .ok (.aload_n 0, 1) := by decide +kernel
theorem dX9_refuse_31 : decode cX9_refuse 31 = .ok (.getfield 98, 3) := by decide +kernel
theorem dX9_refuse_34 : decode cX9_refuse 34 = .ok (.if_icmp .ge 33, 3) := by decide +kernel
theorem dX9_refuse_37 : decode cX9_refuse 37 = .ok (.aload_n 0, 1) := by decide +kernel
theorem dX9_refuse_38 : decode cX9_refuse 38 = .ok (.iconst 1, 1) := by decide +kernel
theorem dX9_refuse_39 : decode cX9_refuse 39 = .ok (.iload 4, 2) := by decide +kernel
theorem dX9_refuse_41 : decode cX9_refuse 41 = .ok (.ishl, 1) := by decide +kernel
theorem dX9_refuse_42 : decode cX9_refuse 42 = .ok (.invokevirtual 351, 3) := by decide +kernel
theorem dX9_refuse_45 : decode cX9_refuse 45 = .ok (.aload_n 0, 1) := by decide +kernel
theorem dX9_refuse_46 : decode cX9_refuse 46 = .ok (.getfield 255, 3) := by decide +kernel
theorem dX9_refuse_49 : decode cX9_refuse 49 = .ok (.iload_n 2, 1) := by decide +kernel
theorem dX9_refuse_50 : decode cX9_refuse 50 = .ok (.if_icmp .le 11, 3) := by decide +kernel
theorem dX9_refuse_53 : decode cX9_refuse 53 = .ok (.aload_n 0, 1) := by decide +kernel
theorem dX9_refuse_54 : decode cX9_refuse 54 = .ok (.getfield 255, 3) := by decide +kernel
theorem dX9_refuse_57 : decode cX9_refuse 57 = .ok (.istore_n 2, 1) := by decide +kernel
theorem dX9_refuse_58 : decode cX9_refuse 58 = .ok (.iload 4, 2) := by decide +kernel
theorem dX9_refuse_60 : decode cX9_refuse 60 = .ok (.istore_n 3, 1) := by decide +kernel
theorem dX9_refuse_61 : decode cX9_refuse 61 = .ok (.iinc 4 1, 3) := by decide +kernel
theorem dX9_refuse_64 : decode cX9_refuse 64 = .ok (.goto (-36), 3) := by decide +kernel
theorem dX9_refuse_67 : decode cX9_refuse 67 = .ok (.iload_n 1, 1) := by decide +kernel
theorem dX9_refuse_68 : decode cX9_refuse 68 = .ok (.ifCond .ne 7, 3) := by decide +kernel
theorem dX9_refuse_71 : decode cX9_refuse 71 = .ok (.iload_n 3, 1) := by decide +kernel
theorem dX9_refuse_72 : decode cX9_refuse 72 = .ok (.goto 4, 3) := by decide +kernel
theorem dX9_refuse_75 : decode cX9_refuse 75 = .ok (.iload_n 2, 1) := by decide +kernel
theorem dX9_refuse_76 : decode cX9_refuse 76 = .ok (.ireturn, 1) := by decide +kernel
theorem dX9_coin_0 : decode cX9_coin 0 = .ok (.aload_n 0, 1) := by decide +kernel
theorem dX9_coin_1 : decode cX9_coin 1 = .ok (.iload_n 1, 1) := by decide +kernel
theorem dX9_coin_2 : decode cX9_coin 2 = .ok (.invokevirtual 119, 3) := by decide +kernel
theorem dX9_coin_5 : decode cX9_coin 5 = .ok (.ifCond .ne 6, 3) := by decide +kernel
theorem dX9_coin_8 : decode cX9_coin 8 = .ok (.ldc 122, 2) := by decide +kernel
theorem dX9_coin_10 : decode cX9_coin 10 = .ok (.ireturn, 1) := by decide +kernel
theorem dX9_coin_11 : decode cX9_coin 11 = .ok (.aload_n 0, 1) := by decide +kernel
theorem dX9_coin_12 : decode cX9_coin 12 = .ok (.iconst 0, 1) := by decide +kernel
theorem dX9_coin_13 : decode cX9_coin 13 = .ok (.invokevirtual 351, 3) := by decide +kernel
theorem dX9_coin_16 : decode cX9_coin 16 = .ok (.aload_n 0, 1) := by decide +kernel
theorem dX9_coin_17 : decode cX9_coin 17 = .ok (.getfield 255, 3) := by decide +kernel
theorem dX9_coin_20 : decode cX9_coin 20 = .ok (.istore_n 2, 1) := by decide +kernel
theorem dX9_coin_21 : decode cX9_coin 21 = .ok (.aload_n 0, 1) := by decide +kernel
theorem dX9_coin_22 : decode cX9_coin 22 = .ok (.invokevirtual 296, 3) := by decide +kernel
theorem dX9_coin_25 : decode cX9_coin 25 = .ok (.aload_n 0, 1) := by decide +kernel
theorem dX9_coin_26 : decode cX9_coin 26 = .ok (.iload_n 1, 1) := by decide +kernel
theorem dX9_coin_27 : decode cX9_coin 27 = .ok (.invokevirtual 302, 3) := by decide +kernel
theorem dX9_coin_30 : decode cX9_coin 30 = .ok (.aload_n 0, 1) := by decide +kernel
theorem dX9_coin_31 : decode cX9_coin 31 = .ok (.iconst 0, 1) := by decide +kernel
theorem dX9_coin_32 : decode cX9_coin 32 = .ok (.invokevirtual 348, 3) := by decide +kernel
theorem dX9_coin_35 : decode cX9_coin 35 = .ok (.iload_n 2, 1) := by decide +kernel
theorem dX9_coin_36 : decode cX9_coin 36 = .ok (.aload_n 0, 1) := by decide +kernel
theorem dX9_coin_37 : decode cX9_coin 37 = .ok (.getfield 255, 3) := by decide +kernel
theorem dX9_coin_40 : decode cX9_coin 40 = .ok (.isub, 1) := by decide +kernel
theorem dX9_coin_41 : decode cX9_coin 41 = .ok (.ireturn, 1) := by decide +kernel
theorem dX9_harm_0 : decode cX9_harm 0 = .ok (.aload_n 0, 1) := by decide +kernel
theorem dX9_harm_1 : decode cX9_harm 1 = .ok (.iload_n 1, 1) := by decide +kernel
theorem dX9_harm_2 : decode cX9_harm 2 = .ok (.invokevirtual 119, 3) := by decide +kernel
theorem dX9_harm_5 : decode cX9_harm 5 = .ok (.ifCond .ne 6, 3) := by decide +kernel
theorem dX9_harm_8 : decode cX9_harm 8 = .ok (.ldc 122, 2) := by decide +kernel
theorem dX9_harm_10 : decode cX9_harm 10 = .ok (.ireturn, 1) := by decide +kernel
theorem dX9_harm_11 : decode cX9_harm 11 = .ok (.aload_n 0, 1) := by decide +kernel
theorem dX9_harm_12 : decode cX9_harm 12 = .ok (.iconst 0, 1) := by decide +kernel
theorem dX9_harm_13 : decode cX9_harm 13 = .ok (.invokevirtual 351, 3) := by decide +kernel
theorem dX9_harm_16 : decode cX9_harm 16 = .ok (.aload_n 0, 1) := by decide +kernel
theorem dX9_harm_17 : decode cX9_harm 17 = .ok (.invokevirtual 293, 3) := by decide +kernel
theorem dX9_harm_20 : decode cX9_harm 20 = .ok (.istore_n 2, 1) := by decide +kernel
theorem dX9_harm_21 : decode cX9_harm 21 = .ok (.aload_n 0, 1) := by decide +kernel
theorem dX9_harm_22 : decode cX9_harm 22 = .ok (.iconst 1, 1) := by decide +kernel
theorem dX9_harm_23 : decode cX9_harm 23 = .ok (.iload_n 1, 1) := by decide +kernel
theorem dX9_harm_24 : decode cX9_harm 24 = .ok (.ishl, 1) := by decide +kernel
theorem dX9_harm_25 : decode cX9_harm 25 = .ok (.invokevirtual 351, 3) := by decide +kernel
theorem dX9_harm_28 : decode cX9_harm 28 = .ok (.iload_n 2, 1) := by decide +kernel
theorem dX9_harm_29 : decode cX9_harm 29 = .ok (.aload_n 0, 1) := by decide +kernel
theorem dX9_harm_30 : decode cX9_harm 30 = .ok (.invokevirtual 293, 3) := by decide +kernel
theorem dX9_harm_33 : decode cX9_harm 33 = .ok (.isub, 1) := by decide +kernel
theorem dX9_harm_34 : decode cX9_harm 34 = .ok (.ireturn, 1) := by decide +kernel
theorem dX9_wrongAt_0 : decode cX9_wrongAt 0 = .ok (.aload_n 0, 1) := by decide +kernel
theorem dX9_wrongAt_1 : decode cX9_wrongAt 1 = .ok (.invokevirtual 296, 3) := by decide +kernel
theorem dX9_wrongAt_4 : decode cX9_wrongAt 4 = .ok (.iconst 0, 1) := by decide +kernel
theorem dX9_wrongAt_5 : decode cX9_wrongAt 5 = .ok (.istore_n 2, 1) := by decide +kernel
theorem dX9_wrongAt_6 : decode cX9_wrongAt 6 = .ok (.iload_n 2, 1) := by decide +kernel
theorem dX9_wrongAt_7 : decode cX9_wrongAt 7 = .ok (.aload_n 0, 1) := by decide +kernel
theorem dX9_wrongAt_8 : decode cX9_wrongAt 8 = .ok (.getfield 78, 3) := by decide +kernel
theorem dX9_wrongAt_11 : decode cX9_wrongAt 11 = .ok (.iload_n 1, 1) := by decide +kernel
theorem dX9_wrongAt_12 : decode cX9_wrongAt 12 = .ok (.iaload, 1) := by decide +kernel
theorem dX9_wrongAt_13 : decode cX9_wrongAt 13 = .ok (.if_icmp .ge 42, 3) := by decide +kernel
theorem dX9_wrongAt_16 : decode cX9_wrongAt 16 = .ok (.aload_n 0, 1) := by decide +kernel
theorem dX9_wrongAt_17 : decode cX9_wrongAt 17 = .ok (.iconst 0, 1) := by decide +kernel
theorem dX9_wrongAt_18 : decode cX9_wrongAt 18 = .ok (.invokevirtual 345, 3) := by decide +kernel
theorem dX9_wrongAt_21 : decode cX9_wrongAt 21 = .ok (.istore_n 3, 1) := by decide +kernel
theorem dX9_wrongAt_22 : decode cX9_wrongAt 22 = .ok (.iload_n 3, 1) := by decide +kernel
theorem dX9_wrongAt_23 : decode cX9_wrongAt 23 = .ok (.iconst (-1), 1) := by decide +kernel
theorem dX9_wrongAt_24 : decode cX9_wrongAt 24 = .ok (.if_icmp .eq 18, 3) := by decide +kernel
theorem dX9_wrongAt_27 : decode cX9_wrongAt 27 = .ok (.iload_n 3, 1) := by decide +kernel
theorem dX9_wrongAt_28 : decode cX9_wrongAt 28 = .ok (.aload_n 0, 1) := by decide +kernel
theorem dX9_wrongAt_29 : decode cX9_wrongAt 29 = .ok (.getfield 81, 3) := by decide +kernel
theorem dX9_wrongAt_32 : decode cX9_wrongAt 32 = .ok (.bipush 40, 2) := by decide +kernel
theorem dX9_wrongAt_34 : decode cX9_wrongAt 34 = .ok (.iload_n 1, 1) := by decide +kernel
theorem dX9_wrongAt_35 : decode cX9_wrongAt 35 = .ok (.imul, 1) := by decide +kernel
theorem dX9_wrongAt_36 : decode cX9_wrongAt 36 = .ok (.iload_n 2, 1) := by decide +kernel
theorem dX9_wrongAt_37 : decode cX9_wrongAt 37 = .ok (.iadd, 1) := by decide +kernel
theorem dX9_wrongAt_38 : decode cX9_wrongAt 38 = .ok (.iaload, 1) := by decide +kernel
theorem dX9_wrongAt_39 : decode cX9_wrongAt 39 = .ok (.if_icmp .eq 5, 3) := by decide +kernel
theorem dX9_wrongAt_42 : decode cX9_wrongAt 42 = .ok (.iload_n 2, 1) := by decide +kernel
theorem dX9_wrongAt_43 : decode cX9_wrongAt 43 = .ok (.ireturn, 1) := by decide +kernel
theorem dX9_wrongAt_44 : decode cX9_wrongAt 44 = .ok (.aload_n 0, 1) := by decide +kernel
theorem dX9_wrongAt_45 : decode cX9_wrongAt 45 = .ok (.iload_n 3, 1) := by decide +kernel
theorem dX9_wrongAt_46 : decode cX9_wrongAt 46 = .ok (.invokevirtual 302, 3) := by decide +kernel
theorem dX9_wrongAt_49 : decode cX9_wrongAt 49 = .ok (.iinc 2 1, 3) := by decide +kernel
theorem dX9_wrongAt_52 : decode cX9_wrongAt 52 = .ok (.goto (-46), 3) := by decide +kernel
theorem dX9_wrongAt_55 : decode cX9_wrongAt 55 = .ok (.iconst (-1), 1) := by decide +kernel
theorem dX9_wrongAt_56 : decode cX9_wrongAt 56 = .ok (.ireturn, 1) := by decide +kernel
theorem dX9_tellBad_0 : decode cX9_tellBad 0 = .ok (.iload_n 1, 1) := by decide +kernel
theorem dX9_tellBad_1 : decode cX9_tellBad 1 = .ok (.invokestatic 354, 3) := by decide +kernel
theorem dX9_tellBad_4 : decode cX9_tellBad 4 = .ok (.ifCond .ne 6, 3) := by decide +kernel
theorem dX9_tellBad_7 : decode cX9_tellBad 7 = .ok (.bipush (-2), 2) := by decide +kernel
theorem dX9_tellBad_9 : decode cX9_tellBad 9 = .ok (.ireturn, 1) := by decide +kernel
theorem dX9_tellBad_10 : decode cX9_tellBad 10 = .ok (.aload_n 0, 1) := by decide +kernel
theorem dX9_tellBad_11 : decode cX9_tellBad 11 = .ok (.getfield 71, 3) := by decide +kernel
theorem dX9_tellBad_14 : decode cX9_tellBad 14 = .ok (.iload_n 1, 1) := by decide +kernel
theorem dX9_tellBad_15 : decode cX9_tellBad 15 = .ok (.baload, 1) := by decide +kernel
theorem dX9_tellBad_16 : decode cX9_tellBad 16 = .ok (.ifCond .eq 7, 3) := by decide +kernel
theorem dX9_tellBad_19 : decode cX9_tellBad 19 = .ok (.iconst 0, 1) := by decide +kernel
theorem dX9_tellBad_20 : decode cX9_tellBad 20 = .ok (.goto 5, 3) := by decide +kernel
theorem dX9_tellBad_23 : decode cX9_tellBad 23 = .ok (.bipush (-11), 2) := by decide +kernel
theorem dX9_tellBad_25 : decode cX9_tellBad 25 = .ok (.ireturn, 1) := by decide +kernel
theorem dX9_judge_0 : decode cX9_judge 0 = .ok (.aload_n 0, 1) := by decide +kernel
theorem dX9_judge_1 : decode cX9_judge 1 = .ok (.iload_n 1, 1) := by decide +kernel
theorem dX9_judge_2 : decode cX9_judge 2 = .ok (.invokevirtual 357, 3) := by decide +kernel
theorem dX9_judge_5 : decode cX9_judge 5 = .ok (.istore_n 2, 1) := by decide +kernel
theorem dX9_judge_6 : decode cX9_judge 6 = .ok (.iload_n 2, 1) := by decide +kernel
theorem dX9_judge_7 : decode cX9_judge 7 = .ok (.ifCond .eq 7, 3) := by decide +kernel
theorem dX9_judge_10 : decode cX9_judge 10 = .ok (.iload_n 2, 1) := by decide +kernel
theorem dX9_judge_11 : decode cX9_judge 11 = .ok (.goto 8, 3) := by decide +kernel
theorem dX9_judge_14 : decode cX9_judge 14 = .ok (.aload_n 0, 1) := by decide +kernel
theorem dX9_judge_15 : decode cX9_judge 15 = .ok (.iload_n 1, 1) := by decide +kernel
theorem dX9_judge_16 : decode cX9_judge 16 = .ok (.invokevirtual 360, 3) := by decide +kernel
theorem dX9_judge_19 : decode cX9_judge 19 = .ok (.ireturn, 1) := by decide +kernel
theorem dX9_which_0 : decode cX9_which 0 = .ok (.aload_n 0, 1) := by decide +kernel
theorem dX9_which_1 : decode cX9_which 1 = .ok (.iload_n 1, 1) := by decide +kernel
theorem dX9_which_2 : decode cX9_which 2 = .ok (.invokevirtual 357, 3) := by decide +kernel
theorem dX9_which_5 : decode cX9_which 5 = .ok (.istore_n 2, 1) := by decide +kernel
theorem dX9_which_6 : decode cX9_which 6 = .ok (.iload_n 2, 1) := by decide +kernel
theorem dX9_which_7 : decode cX9_which 7 = .ok (.ifCond .eq 5, 3) := by decide +kernel
theorem dX9_which_10 : decode cX9_which 10 = .ok (.iload_n 2, 1) := by decide +kernel
theorem dX9_which_11 : decode cX9_which 11 = .ok (.ireturn, 1) := by decide +kernel
theorem dX9_which_12 : decode cX9_which 12 = .ok (.aload_n 0, 1) := by decide +kernel
theorem dX9_which_13 : decode cX9_which 13 = .ok (.getfield 249, 3) := by decide +kernel
theorem dX9_which_16 : decode cX9_which 16 = .ok (.istore_n 3, 1) := by decide +kernel
theorem dX9_which_17 : decode cX9_which 17 = .ok (.iconst 0, 1) := by decide +kernel
theorem dX9_which_18 : decode cX9_which 18 = .ok (.istore 4, 2) := by decide +kernel
theorem dX9_which_20 : decode cX9_which 20 = .ok (.aload_n 0, 1) := by decide +kernel
theorem dX9_which_21 : decode cX9_which 21 = .ok (.iconst 0, 1) := by decide +kernel
theorem dX9_which_22 : decode cX9_which 22 = .ok (.putfield 249, 3) := by decide +kernel
theorem dX9_which_25 : decode cX9_which 25 = .ok (.aload_n 0, 1) := by decide +kernel
theorem dX9_which_26 : decode cX9_which 26 = .ok (.getfield 249, 3) := by decide +kernel
theorem dX9_which_29 : decode cX9_which 29 = .ok (.aload_n 0, 1) := by decide +kernel
theorem dX9_which_30 : decode cX9_which 30 = .ok (.getfield 88, 3) := by decide +kernel
theorem dX9_which_33 : decode cX9_which 33 = .ok (.if_icmp .ge 40, 3) := by decide +kernel
theorem dX9_which_36 : decode cX9_which 36 = .ok (.iload 4, 2) := by decide +kernel
theorem dX9_which_38 : decode cX9_which 38 = .ok (.aload_n 0, 1) := by decide +kernel
theorem dX9_which_39 : decode cX9_which 39 = .ok (.iload_n 1, 1) := by decide +kernel
theorem dX9_which_40 : decode cX9_which 40 = .ok (.invokevirtual 360, 3) := by decide +kernel
theorem dX9_which_43 : decode cX9_which 43 = .ok (.iconst (-1), 1) := by decide +kernel
theorem dX9_which_44 : decode cX9_which 44 = .ok (.if_icmp .ne 7, 3) := by decide +kernel
theorem dX9_which_47 : decode cX9_which 47 = .ok (.iconst 1, 1) := by decide +kernel
theorem dX9_which_48 : decode cX9_which 48 = .ok (.goto 4, 3) := by decide +kernel
theorem dX9_which_51 : decode cX9_which 51 = .ok (.iconst 0, 1) := by decide +kernel
theorem dX9_which_52 : decode cX9_which 52 = .ok (.aload_n 0, 1) := by decide +kernel
theorem dX9_which_53 : decode cX9_which 53 = .ok (.getfield 249, 3) := by decide +kernel
theorem dX9_which_56 : decode cX9_which 56 = .ok (.ishl, 1) := by decide +kernel
theorem dX9_which_57 : decode cX9_which 57 = .ok (.ior, 1) := by decide +kernel
theorem dX9_which_58 : decode cX9_which 58 = .ok (.istore 4, 2) := by decide +kernel
theorem dX9_which_60 : decode cX9_which 60 = .ok (.aload_n 0, 1) := by decide +kernel
theorem dX9_which_61 : decode cX9_which 61 = .ok (.dup, 1) := by decide +kernel
theorem dX9_which_62 : decode cX9_which 62 = .ok (.getfield 249, 3) := by decide +kernel
theorem dX9_which_65 : decode cX9_which 65 = .ok (.iconst 1, 1) := by decide +kernel
theorem dX9_which_66 : decode cX9_which 66 = .ok (.iadd, 1) := by decide +kernel
theorem dX9_which_67 : decode cX9_which 67 = .ok (.putfield 249, 3) := by decide +kernel
theorem dX9_which_70 : decode cX9_which 70 = .ok (.goto (-45), 3) := by decide +kernel
theorem dX9_which_73 : decode cX9_which 73 = .ok (.aload_n 0, 1) := by decide +kernel
theorem dX9_which_74 : decode cX9_which 74 = .ok (.iload_n 3, 1) := by decide +kernel
theorem dX9_which_75 : decode cX9_which 75 = .ok (.putfield 249, 3) := by decide +kernel
theorem dX9_which_78 : decode cX9_which 78 = .ok (.iload 4, 2) := by decide +kernel
theorem dX9_which_80 : decode cX9_which 80 = .ok (.ireturn, 1) := by decide +kernel
theorem dX9_behind_0 : decode cX9_behind 0 = .ok (.aload_n 0, 1) := by decide +kernel
theorem dX9_behind_1 : decode cX9_behind 1 = .ok (.iconst 0, 1) := by decide +kernel
theorem dX9_behind_2 : decode cX9_behind 2 = .ok (.invokevirtual 351, 3) := by decide +kernel
theorem dX9_behind_5 : decode cX9_behind 5 = .ok (.iconst 0, 1) := by decide +kernel
theorem dX9_behind_6 : decode cX9_behind 6 = .ok (.istore_n 1, 1) := by decide +kernel
theorem dX9_behind_7 : decode cX9_behind 7 = .ok (.iconst 0, 1) := by decide +kernel
theorem dX9_behind_8 : decode cX9_behind 8 = .ok (.istore_n 2, 1) := by decide +kernel
theorem dX9_behind_9 : decode cX9_behind 9 = .ok (.iconst 0, 1) := by decide +kernel
theorem dX9_behind_10 : decode cX9_behind 10 = .ok (.istore_n 3, 1) := by decide +kernel
theorem dX9_behind_11 : decode cX9_behind 11 = .ok (.iload_n 3, 1) := by decide +kernel
theorem dX9_behind_12 : decode cX9_behind 12 = .ok (.aload_n 0, 1) := by decide +kernel
theorem dX9_behind_13 : decode cX9_behind 13 = .ok (.getfield 98, 3) := by decide +kernel
theorem dX9_behind_16 : decode cX9_behind 16 = .ok (.if_icmp .ge 38, 3) := by decide +kernel
theorem dX9_behind_19 : decode cX9_behind 19 = .ok (.iload_n 1, 1) := by decide +kernel
theorem dX9_behind_20 : decode cX9_behind 20 = .ok (.iconst 1, 1) := by decide +kernel
theorem dX9_behind_21 : decode cX9_behind 21 = .ok (.aload_n 0, 1) := by decide +kernel
theorem dX9_behind_22 : decode cX9_behind 22 = .ok (.getfield 38, 3) := by decide +kernel
theorem dX9_behind_25 : decode cX9_behind 25 = .ok (.iload_n 3, 1) := by decide +kernel
theorem dX9_behind_26 : decode cX9_behind 26 = .ok (.iaload, 1) := by decide +kernel
theorem dX9_behind_27 : decode cX9_behind 27 = .ok (.ishl, 1) := by decide +kernel
theorem dX9_behind_28 : decode cX9_behind 28 = .ok (.ior, 1) := by decide +kernel
theorem dX9_behind_29 : decode cX9_behind 29 = .ok (.istore_n 1, 1) := by decide +kernel
theorem dX9_behind_30 : decode cX9_behind 30 = .ok (.iload_n 2, 1) := by decide +kernel
theorem dX9_behind_31 : decode cX9_behind 31 = .ok (.aload_n 0, 1) := by decide +kernel
theorem dX9_behind_32 : decode cX9_behind 32 = .ok (.getfield 274, 3) := by decide +kernel
theorem dX9_behind_35 : decode cX9_behind 35 = .ok (.iload_n 3, 1) := by decide +kernel
theorem dX9_behind_36 : decode cX9_behind 36 = .ok (.ishr, 1) := by decide +kernel
theorem dX9_behind_37 : decode cX9_behind 37 = .ok (.iconst 1, 1) := by decide +kernel
theorem dX9_behind_38 : decode cX9_behind 38 = .ok (.iand, 1) := by decide +kernel
theorem dX9_behind_39 : decode cX9_behind 39 = .ok (.aload_n 0, 1) := by decide +kernel
theorem dX9_behind_40 : decode cX9_behind 40 = .ok (.getfield 38, 3) := by decide +kernel
theorem dX9_behind_43 : decode cX9_behind 43 = .ok (.iload_n 3, 1) := by decide +kernel
theorem dX9_behind_44 : decode cX9_behind 44 = .ok (.iaload, 1) := by decide +kernel
theorem dX9_behind_45 : decode cX9_behind 45 = .ok (.ishl, 1) := by decide +kernel
theorem dX9_behind_46 : decode cX9_behind 46 = .ok (.ior, 1) := by decide +kernel
theorem dX9_behind_47 : decode cX9_behind 47 = .ok (.istore_n 2, 1) := by decide +kernel
theorem dX9_behind_48 : decode cX9_behind 48 = .ok (.iinc 3 1, 3) := by decide +kernel
theorem dX9_behind_51 : decode cX9_behind 51 = .ok (.goto (-40), 3) := by decide +kernel
theorem dX9_behind_54 : decode cX9_behind 54 = .ok (.iload_n 1, 1) := by decide +kernel
theorem dX9_behind_55 : decode cX9_behind 55 = .ok (.iload_n 2, 1) := by decide +kernel
theorem dX9_behind_56 : decode cX9_behind 56 = .ok (.iconst (-1), 1) := by decide +kernel
theorem dX9_behind_57 : decode cX9_behind 57 = .ok (.ixor, 1) := by decide +kernel
theorem dX9_behind_58 : decode cX9_behind 58 = .ok (.iand, 1) := by decide +kernel
theorem dX9_behind_59 : decode cX9_behind 59 = .ok (.ireturn, 1) := by decide +kernel
theorem dX9_draws_0 : decode cX9_draws 0 = .ok (.aload_n 0, 1) := by decide +kernel
theorem dX9_draws_1 : decode cX9_draws 1 = .ok (.invokevirtual 296, 3) := by decide +kernel
theorem dX9_draws_4 : decode cX9_draws 4 = .ok (.iload_n 1, 1) := by decide +kernel
theorem dX9_draws_5 : decode cX9_draws 5 = .ok (.istore_n 2, 1) := by decide +kernel
theorem dX9_draws_6 : decode cX9_draws 6 = .ok (.aload_n 0, 1) := by decide +kernel
theorem dX9_draws_7 : decode cX9_draws 7 = .ok (.getfield 98, 3) := by decide +kernel
theorem dX9_draws_10 : decode cX9_draws 10 = .ok (.istore_n 3, 1) := by decide +kernel
theorem dX9_draws_11 : decode cX9_draws 11 = .ok (.iload_n 3, 1) := by decide +kernel
theorem dX9_draws_12 : decode cX9_draws 12 = .ok (.ifCond .le 83, 3) := by decide +kernel
theorem dX9_draws_15 : decode cX9_draws 15 = .ok (.iload_n 2, 1) := by decide +kernel
theorem dX9_draws_16 : decode cX9_draws 16 = .ok (.ldc_w 363, 3) := by decide +kernel
theorem dX9_draws_19 : decode cX9_draws 19 = .ok (.imul, 1) := by decide +kernel
theorem dX9_draws_20 : decode cX9_draws 20 = .ok (.sipush 12345, 3) := by decide +kernel
theorem dX9_draws_23 : decode cX9_draws 23 = .ok (.iadd, 1) := by decide +kernel
theorem dX9_draws_24 : decode cX9_draws 24 = .ok (.istore_n 2, 1) := by decide +kernel
theorem dX9_draws_25 : decode cX9_draws 25 = .ok (.iload_n 2, 1) := by decide +kernel
theorem dX9_draws_26 : decode cX9_draws 26 = .ok (.bipush 9, 2) := by decide +kernel
theorem dX9_draws_28 : decode cX9_draws 28 = .ok (.iushr, 1) := by decide +kernel
theorem dX9_draws_29 : decode cX9_draws 29 = .ok (.iload_n 3, 1) := by decide +kernel
theorem dX9_draws_30 : decode cX9_draws 30 = .ok (.irem, 1) := by decide +kernel
theorem dX9_draws_31 : decode cX9_draws 31 = .ok (.istore 4, 2) := by decide +kernel
theorem dX9_draws_33 : decode cX9_draws 33 = .ok (.iconst 0, 1) := by decide +kernel
theorem dX9_draws_34 : decode cX9_draws 34 = .ok (.istore 5, 2) := by decide +kernel
theorem dX9_draws_36 : decode cX9_draws 36 = .ok (.aload_n 0, 1) := by decide +kernel
theorem dX9_draws_37 : decode cX9_draws 37 = .ok (.getfield 271, 3) := by decide +kernel
theorem dX9_draws_40 : decode cX9_draws 40 = .ok (.iload 5, 2) := by decide +kernel
theorem dX9_draws_42 : decode cX9_draws 42 = .ok (.ishr, 1) := by decide +kernel
theorem dX9_draws_43 : decode cX9_draws 43 = .ok (.iconst 1, 1) := by decide +kernel
theorem dX9_draws_44 : decode cX9_draws 44 = .ok (.iand, 1) := by decide +kernel
theorem dX9_draws_45 : decode cX9_draws 45 = .ok (.iconst 1, 1) := by decide +kernel
theorem dX9_draws_46 : decode cX9_draws 46 = .ok (.if_icmp .eq 8, 3) := by decide +kernel
theorem dX9_draws_49 : decode cX9_draws 49 = .ok (.iload 4, 2) := by decide +kernel
theorem dX9_draws_51 : decode cX9_draws 51 = .ok (.ifCond .le 32, 3) := by decide +kernel
theorem dX9_draws_54 : decode cX9_draws 54 = .ok (.iload 4, 2) := by decide +kernel
theorem dX9_draws_56 : decode cX9_draws 56 = .ok (.aload_n 0, 1) := by decide +kernel
theorem dX9_draws_57 : decode cX9_draws 57 = .ok (.getfield 271, 3) := by decide +kernel
theorem dX9_draws_60 : decode cX9_draws 60 = .ok (.iload 5, 2) := by decide +kernel
theorem dX9_draws_62 : decode cX9_draws 62 = .ok (.ishr, 1) := by decide +kernel
theorem dX9_draws_63 : decode cX9_draws 63 = .ok (.iconst 1, 1) := by decide +kernel
theorem dX9_draws_64 : decode cX9_draws 64 = .ok (.iand, 1) := by decide +kernel
theorem dX9_draws_65 : decode cX9_draws 65 = .ok (.iconst 1, 1) := by decide +kernel
theorem dX9_draws_66 : decode cX9_draws 66 = .ok (.if_icmp .ne 7, 3) := by decide +kernel
theorem dX9_draws_69 : decode cX9_draws 69 = .ok (.iconst 0, 1) := by decide +kernel
theorem dX9_draws_70 : decode cX9_draws 70 = .ok (.goto 4, 3) := by decide +kernel
theorem dX9_draws_73 : decode cX9_draws 73 = .ok (.iconst 1, 1) := by decide +kernel
theorem dX9_draws_74 : decode cX9_draws 74 = .ok (.isub, 1) := by decide +kernel
theorem dX9_draws_75 : decode cX9_draws 75 = .ok (.istore 4, 2) := by decide +kernel
theorem dX9_draws_77 : decode cX9_draws 77 = .ok (.iinc 5 1, 3) := by decide +kernel
theorem dX9_draws_80 : decode cX9_draws 80 = .ok (.goto (-44), 3) := by decide +kernel
theorem dX9_draws_83 : decode cX9_draws 83 = .ok (.aload_n 0, 1) := by decide +kernel
theorem dX9_draws_84 : decode cX9_draws 84 = .ok (.iload 5, 2) := by decide +kernel
theorem dX9_draws_86 : decode cX9_draws 86 = .ok (.invokevirtual 302, 3) := by decide +kernel
theorem dX9_draws_89 : decode cX9_draws 89 = .ok (.iinc 3 (-1), 3) := by decide +kernel
theorem dX9_draws_92 : decode cX9_draws 92 = .ok (.goto (-81), 3) := by decide +kernel
theorem dX9_draws_95 : decode cX9_draws 95 = .ok (.return_, 1) := by decide +kernel
theorem dX9_drawn_0 : decode cX9_drawn 0 = .ok (.aload_n 0, 1) := by decide +kernel
theorem dX9_drawn_1 : decode cX9_drawn 1 = .ok (.iload_n 1, 1) := by decide +kernel
theorem dX9_drawn_2 : decode cX9_drawn 2 = .ok (.invokevirtual 364, 3) := by decide +kernel
theorem dX9_drawn_5 : decode cX9_drawn 5 = .ok (.aload_n 0, 1) := by decide +kernel
theorem dX9_drawn_6 : decode cX9_drawn 6 = .ok (.getfield 255, 3) := by decide +kernel
theorem dX9_drawn_9 : decode cX9_drawn 9 = .ok (.ireturn, 1) := by decide +kernel
theorem dX9_chance_0 : decode cX9_chance 0 = .ok (.iload_n 2, 1) := by decide +kernel
theorem dX9_chance_1 : decode cX9_chance 1 = .ok (.i2l, 1) := by decide +kernel
theorem dX9_chance_2 : decode cX9_chance 2 = .ok (.lconst 1, 1) := by decide +kernel
theorem dX9_chance_3 : decode cX9_chance 3 = .ok (.ldc2_w 367, 3) := by decide +kernel
theorem dX9_chance_6 : decode cX9_chance 6 = .ok (.invokestatic 94, 3) := by decide +kernel
theorem dX9_chance_9 : decode cX9_chance 9 = .ok (.ifCond .eq 13, 3) := by decide +kernel
theorem dX9_chance_12 : decode cX9_chance 12 = .ok (.iload_n 3, 1) := by decide +kernel
theorem dX9_chance_13 : decode cX9_chance 13 = .ok (.i2l, 1) := by decide +kernel
theorem dX9_chance_14 : decode cX9_chance 14 = .ok (.lconst 0, 1) := by decide +kernel
theorem dX9_chance_15 : decode cX9_chance 15 = .ok (.lconst 1, 1) := by decide +kernel
theorem dX9_chance_16 : decode cX9_chance 16 = .ok (.invokestatic 94, 3) := by decide +kernel
theorem dX9_chance_19 : decode cX9_chance 19 = .ok (.ifCond .ne 7, 3) := by decide +kernel
theorem dX9_chance_22 : decode cX9_chance 22 = .ok (.ldc2_w 369, 3) := by decide +kernel
theorem dX9_chance_25 : decode cX9_chance 25 = .ok (.lreturn, 1) := by decide +kernel
theorem dX9_chance_26 : decode cX9_chance 26 = .ok (.lconst 0, 1) := by decide +kernel
theorem dX9_chance_27 : decode cX9_chance 27 = .ok (.lstore 4, 2) := by decide +kernel
theorem dX9_chance_29 : decode cX9_chance 29 = .ok (.iconst 0, 1) := by decide +kernel
theorem dX9_chance_30 : decode cX9_chance 30 = .ok (.istore 6, 2) := by decide +kernel
theorem dX9_chance_32 : decode cX9_chance 32 = .ok (.iload 6, 2) := by decide +kernel
theorem dX9_chance_34 : decode cX9_chance 34 = .ok (.iload_n 2, 1) := by decide +kernel
theorem dX9_chance_35 : decode cX9_chance 35 = .ok (.if_icmp .ge 34, 3) := by decide +kernel
theorem dX9_chance_38 : decode cX9_chance 38 = .ok (.aload_n 0, 1) := by decide +kernel
theorem dX9_chance_39 : decode cX9_chance 39 = .ok (.iload_n 1, 1) := by decide +kernel
theorem dX9_chance_40 : decode cX9_chance 40 = .ok (.iload 6, 2) := by decide +kernel
theorem dX9_chance_42 : decode cX9_chance 42 = .ok (.iadd, 1) := by decide +kernel
theorem dX9_chance_43 : decode cX9_chance 43 = .ok (.invokevirtual 364, 3) := by decide +kernel
theorem dX9_chance_46 : decode cX9_chance 46 = .ok (.lload 4, 2) := by decide +kernel
theorem dX9_chance_48 : decode cX9_chance 48 = .ok (.aload_n 0, 1) := by decide +kernel
theorem dX9_chance_49 : decode cX9_chance 49 = .ok (.invokevirtual 293, 3) := by decide +kernel
theorem dX9_chance_52 : decode cX9_chance 52 = .ok (.ifCond .ne 7, 3) := by decide +kernel
theorem dX9_chance_55 : decode cX9_chance 55 = .ok (.lconst 1, 1) := by decide +kernel
theorem dX9_chance_56 : decode cX9_chance 56 = .ok (.goto 4, 3) := by decide +kernel
theorem dX9_chance_59 : decode cX9_chance 59 = .ok (.lconst 0, 1) := by decide +kernel
theorem dX9_chance_60 : decode cX9_chance 60 = .ok (.ladd, 1) := by decide +kernel
theorem dX9_chance_61 : decode cX9_chance 61 = .ok (.lstore 4, 2) := by decide +kernel
theorem dX9_chance_63 : decode cX9_chance 63 = .ok (.iinc 6 1, 3) := by decide +kernel
theorem dX9_chance_66 : decode cX9_chance 66 = .ok (.goto (-34), 3) := by decide +kernel
theorem dX9_chance_69 : decode cX9_chance 69 = .ok (.lload 4, 2) := by decide +kernel
theorem dX9_chance_71 : decode cX9_chance 71 = .ok (.lstore 6, 2) := by decide +kernel
theorem dX9_chance_73 : decode cX9_chance 73 = .ok (.iload_n 2, 1) := by decide +kernel
theorem dX9_chance_74 : decode cX9_chance 74 = .ok (.i2l, 1) := by decide +kernel
theorem dX9_chance_75 : decode cX9_chance 75 = .ok (.lstore 8, 2) := by decide +kernel
theorem dX9_chance_77 : decode cX9_chance 77 = .ok (.lload 8, 2) := by decide +kernel
theorem dX9_chance_79 : decode cX9_chance 79 = .ok (.lconst 0, 1) := by decide +kernel
theorem dX9_chance_80 : decode cX9_chance 80 = .ok (.lcmp, 1) := by decide +kernel
theorem dX9_chance_81 : decode cX9_chance 81 = .ok (.ifCond .eq 21, 3) := by decide +kernel
theorem dX9_chance_84 : decode cX9_chance 84 = .ok (.lload 6, 2) := by decide +kernel
theorem dX9_chance_86 : decode cX9_chance 86 = .ok (.lload 8, 2) := by decide +kernel
theorem dX9_chance_88 : decode cX9_chance 88 = .ok (.lrem, 1) := by decide +kernel
theorem dX9_chance_89 : decode cX9_chance 89 = .ok (.lstore 10, 2) := by decide +kernel
theorem dX9_chance_91 : decode cX9_chance 91 = .ok (.lload 8, 2) := by decide +kernel
theorem dX9_chance_93 : decode cX9_chance 93 = .ok (.lstore 6, 2) := by decide +kernel
theorem dX9_chance_95 : decode cX9_chance 95 = .ok (.lload 10, 2) := by decide +kernel
theorem dX9_chance_97 : decode cX9_chance 97 = .ok (.lstore 8, 2) := by decide +kernel
theorem dX9_chance_99 : decode cX9_chance 99 = .ok (.goto (-22), 3) := by decide +kernel
theorem dX9_chance_102 : decode cX9_chance 102 = .ok (.iload_n 3, 1) := by decide +kernel
theorem dX9_chance_103 : decode cX9_chance 103 = .ok (.ifCond .ne 11, 3) := by decide +kernel
theorem dX9_chance_106 : decode cX9_chance 106 = .ok (.lload 4, 2) := by decide +kernel
theorem dX9_chance_108 : decode cX9_chance 108 = .ok (.lload 6, 2) := by decide +kernel
theorem dX9_chance_110 : decode cX9_chance 110 = .ok (.ldiv, 1) := by decide +kernel
theorem dX9_chance_111 : decode cX9_chance 111 = .ok (.goto 8, 3) := by decide +kernel
theorem dX9_chance_114 : decode cX9_chance 114 = .ok (.iload_n 2, 1) := by decide +kernel
theorem dX9_chance_115 : decode cX9_chance 115 = .ok (.i2l, 1) := by decide +kernel
theorem dX9_chance_116 : decode cX9_chance 116 = .ok (.lload 6, 2) := by decide +kernel
theorem dX9_chance_118 : decode cX9_chance 118 = .ok (.ldiv, 1) := by decide +kernel
theorem dX9_chance_119 : decode cX9_chance 119 = .ok (.lreturn, 1) := by decide +kernel
theorem dX9_image_0 : decode cX9_image 0 = .ok (.iconst 0, 1) := by decide +kernel
theorem dX9_image_1 : decode cX9_image 1 = .ok (.istore_n 1, 1) := by decide +kernel
theorem dX9_image_2 : decode cX9_image 2 = .ok (.iload_n 1, 1) := by decide +kernel
theorem dX9_image_3 : decode cX9_image 3 = .ok (.bipush 8, 2) := by decide +kernel
theorem dX9_image_5 : decode cX9_image 5 = .ok (.if_icmp .ge 36, 3) := by decide +kernel
theorem dX9_image_8 : decode cX9_image 8 = .ok (.aload_n 0, 1) := by decide +kernel
theorem dX9_image_9 : decode cX9_image 9 = .ok (.getfield 62, 3) := by decide +kernel
theorem dX9_image_12 : decode cX9_image 12 = .ok (.iload_n 1, 1) := by decide +kernel
theorem dX9_image_13 : decode cX9_image 13 = .ok (.aload_n 0, 1) := by decide +kernel
theorem dX9_image_14 : decode cX9_image 14 = .ok (.getfield 23, 3) := by decide +kernel
theorem dX9_image_17 : decode cX9_image 17 = .ok (.iload_n 1, 1) := by decide +kernel
theorem dX9_image_18 : decode cX9_image 18 = .ok (.iaload, 1) := by decide +kernel
theorem dX9_image_19 : decode cX9_image 19 = .ok (.iastore, 1) := by decide +kernel
theorem dX9_image_20 : decode cX9_image 20 = .ok (.aload_n 0, 1) := by decide +kernel
theorem dX9_image_21 : decode cX9_image 21 = .ok (.getfield 62, 3) := by decide +kernel
theorem dX9_image_24 : decode cX9_image 24 = .ok (.bipush 8, 2) := by decide +kernel
theorem dX9_image_26 : decode cX9_image 26 = .ok (.iload_n 1, 1) := by decide +kernel
theorem dX9_image_27 : decode cX9_image 27 = .ok (.iadd, 1) := by decide +kernel
theorem dX9_image_28 : decode cX9_image 28 = .ok (.aload_n 0, 1) := by decide +kernel
theorem dX9_image_29 : decode cX9_image 29 = .ok (.getfield 26, 3) := by decide +kernel
theorem dX9_image_32 : decode cX9_image 32 = .ok (.iload_n 1, 1) := by decide +kernel
theorem dX9_image_33 : decode cX9_image 33 = .ok (.iaload, 1) := by decide +kernel
theorem dX9_image_34 : decode cX9_image 34 = .ok (.iastore, 1) := by decide +kernel
theorem dX9_image_35 : decode cX9_image 35 = .ok (.iinc 1 1, 3) := by decide +kernel
theorem dX9_image_38 : decode cX9_image 38 = .ok (.goto (-36), 3) := by decide +kernel
theorem dX9_image_41 : decode cX9_image 41 = .ok (.iconst 0, 1) := by decide +kernel
theorem dX9_image_42 : decode cX9_image 42 = .ok (.istore_n 1, 1) := by decide +kernel
theorem dX9_image_43 : decode cX9_image 43 = .ok (.iload_n 1, 1) := by decide +kernel
theorem dX9_image_44 : decode cX9_image 44 = .ok (.bipush 7, 2) := by decide +kernel
theorem dX9_image_46 : decode cX9_image 46 = .ok (.if_icmp .ge 51, 3) := by decide +kernel
theorem dX9_image_49 : decode cX9_image 49 = .ok (.aload_n 0, 1) := by decide +kernel
theorem dX9_image_50 : decode cX9_image 50 = .ok (.getfield 65, 3) := by decide +kernel
theorem dX9_image_53 : decode cX9_image 53 = .ok (.iload_n 1, 1) := by decide +kernel
theorem dX9_image_54 : decode cX9_image 54 = .ok (.aload_n 0, 1) := by decide +kernel
theorem dX9_image_55 : decode cX9_image 55 = .ok (.getfield 32, 3) := by decide +kernel
theorem dX9_image_58 : decode cX9_image 58 = .ok (.iload_n 1, 1) := by decide +kernel
theorem dX9_image_59 : decode cX9_image 59 = .ok (.iaload, 1) := by decide +kernel
theorem dX9_image_60 : decode cX9_image 60 = .ok (.iastore, 1) := by decide +kernel
theorem dX9_image_61 : decode cX9_image 61 = .ok (.aload_n 0, 1) := by decide +kernel
theorem dX9_image_62 : decode cX9_image 62 = .ok (.getfield 65, 3) := by decide +kernel
theorem dX9_image_65 : decode cX9_image 65 = .ok (.bipush 7, 2) := by decide +kernel
theorem dX9_image_67 : decode cX9_image 67 = .ok (.iload_n 1, 1) := by decide +kernel
theorem dX9_image_68 : decode cX9_image 68 = .ok (.iadd, 1) := by decide +kernel
theorem dX9_image_69 : decode cX9_image 69 = .ok (.aload_n 0, 1) := by decide +kernel
theorem dX9_image_70 : decode cX9_image 70 = .ok (.getfield 35, 3) := by decide +kernel
theorem dX9_image_73 : decode cX9_image 73 = .ok (.iload_n 1, 1) := by decide +kernel
theorem dX9_image_74 : decode cX9_image 74 = .ok (.iaload, 1) := by decide +kernel
theorem dX9_image_75 : decode cX9_image 75 = .ok (.iastore, 1) := by decide +kernel
theorem dX9_image_76 : decode cX9_image 76 = .ok (.aload_n 0, 1) := by decide +kernel
theorem dX9_image_77 : decode cX9_image 77 = .ok (.getfield 65, 3) := by decide +kernel
theorem dX9_image_80 : decode cX9_image 80 = .ok (.bipush 14, 2) := by decide +kernel
theorem dX9_image_82 : decode cX9_image 82 = .ok (.iload_n 1, 1) := by decide +kernel
theorem dX9_image_83 : decode cX9_image 83 = .ok (.iadd, 1) := by decide +kernel
theorem dX9_image_84 : decode cX9_image 84 = .ok (.aload_n 0, 1) := by decide +kernel
theorem dX9_image_85 : decode cX9_image 85 = .ok (.getfield 38, 3) := by decide +kernel
theorem dX9_image_88 : decode cX9_image 88 = .ok (.iload_n 1, 1) := by decide +kernel
theorem dX9_image_89 : decode cX9_image 89 = .ok (.iaload, 1) := by decide +kernel
theorem dX9_image_90 : decode cX9_image 90 = .ok (.iastore, 1) := by decide +kernel
theorem dX9_image_91 : decode cX9_image 91 = .ok (.iinc 1 1, 3) := by decide +kernel
theorem dX9_image_94 : decode cX9_image 94 = .ok (.goto (-51), 3) := by decide +kernel
theorem dX9_image_97 : decode cX9_image 97 = .ok (.aload_n 0, 1) := by decide +kernel
theorem dX9_image_98 : decode cX9_image 98 = .ok (.aload_n 0, 1) := by decide +kernel
theorem dX9_image_99 : decode cX9_image 99 = .ok (.getfield 98, 3) := by decide +kernel
theorem dX9_image_102 : decode cX9_image 102 = .ok (.putfield 68, 3) := by decide +kernel
theorem dX9_image_105 : decode cX9_image 105 = .ok (.aload_n 0, 1) := by decide +kernel
theorem dX9_image_106 : decode cX9_image 106 = .ok (.aload_n 0, 1) := by decide +kernel
theorem dX9_image_107 : decode cX9_image 107 = .ok (.getfield 91, 3) := by decide +kernel
theorem dX9_image_110 : decode cX9_image 110 = .ok (.putfield 371, 3) := by decide +kernel
theorem dX9_image_113 : decode cX9_image 113 = .ok (.aload_n 0, 1) := by decide +kernel
theorem dX9_image_114 : decode cX9_image 114 = .ok (.aload_n 0, 1) := by decide +kernel
theorem dX9_image_115 : decode cX9_image 115 = .ok (.getfield 127, 3) := by decide +kernel
theorem dX9_image_118 : decode cX9_image 118 = .ok (.putfield 374, 3) := by decide +kernel
theorem dX9_image_121 : decode cX9_image 121 = .ok (.aload_n 0, 1) := by decide +kernel
theorem dX9_image_122 : decode cX9_image 122 = .ok (.aload_n 0, 1) := by decide +kernel
theorem dX9_image_123 : decode cX9_image 123 = .ok (.getfield 41, 3) := by decide +kernel
theorem dX9_image_126 : decode cX9_image 126 = .ok (.putfield 377, 3) := by decide +kernel
theorem dX9_image_129 : decode cX9_image 129 = .ok (.aload_n 0, 1) := by decide +kernel
theorem dX9_image_130 : decode cX9_image 130 = .ok (.aload_n 0, 1) := by decide +kernel
theorem dX9_image_131 : decode cX9_image 131 = .ok (.getfield 249, 3) := by decide +kernel
theorem dX9_image_134 : decode cX9_image 134 = .ok (.putfield 380, 3) := by decide +kernel
theorem dX9_image_137 : decode cX9_image 137 = .ok (.aload_n 0, 1) := by decide +kernel
theorem dX9_image_138 : decode cX9_image 138 = .ok (.getfield 98, 3) := by decide +kernel
theorem dX9_image_141 : decode cX9_image 141 = .ok (.ireturn, 1) := by decide +kernel
theorem dX9_back_0 : decode cX9_back 0 = .ok (.aload_n 0, 1) := by decide +kernel
theorem dX9_back_1 : decode cX9_back 1 = .ok (.getfield 68, 3) := by decide +kernel
theorem dX9_back_4 : decode cX9_back 4 = .ok (.iconst (-1), 1) := by decide +kernel
theorem dX9_back_5 : decode cX9_back 5 = .ok (.if_icmp .ne 6, 3) := by decide +kernel
theorem dX9_back_8 : decode cX9_back 8 = .ok (.bipush (-3), 2) := by decide +kernel
theorem dX9_back_10 : decode cX9_back 10 = .ok (.ireturn, 1) := by decide +kernel
theorem dX9_back_11 : decode cX9_back 11 = .ok (.iconst 0, 1) := by decide +kernel
theorem dX9_back_12 : decode cX9_back 12 = .ok (.istore_n 1, 1) := by decide +kernel
theorem dX9_back_13 : decode cX9_back 13 = .ok (.iload_n 1, 1) := by decide +kernel
theorem dX9_back_14 : decode cX9_back 14 = .ok (.bipush 8, 2) := by decide +kernel
theorem dX9_back_16 : decode cX9_back 16 = .ok (.if_icmp .ge 36, 3) := by decide +kernel
theorem dX9_back_19 : decode cX9_back 19 = .ok (.aload_n 0, 1) := by decide +kernel
theorem dX9_back_20 : decode cX9_back 20 = .ok (.getfield 23, 3) := by decide +kernel
theorem dX9_back_23 : decode cX9_back 23 = .ok (.iload_n 1, 1) := by decide +kernel
theorem dX9_back_24 : decode cX9_back 24 = .ok (.aload_n 0, 1) := by decide +kernel
theorem dX9_back_25 : decode cX9_back 25 = .ok (.getfield 62, 3) := by decide +kernel
theorem dX9_back_28 : decode cX9_back 28 = .ok (.iload_n 1, 1) := by decide +kernel
theorem dX9_back_29 : decode cX9_back 29 = .ok (.iaload, 1) := by decide +kernel
theorem dX9_back_30 : decode cX9_back 30 = .ok (.iastore, 1) := by decide +kernel
theorem dX9_back_31 : decode cX9_back 31 = .ok (.aload_n 0, 1) := by decide +kernel
theorem dX9_back_32 : decode cX9_back 32 = .ok (.getfield 26, 3) := by decide +kernel
theorem dX9_back_35 : decode cX9_back 35 = .ok (.iload_n 1, 1) := by decide +kernel
theorem dX9_back_36 : decode cX9_back 36 = .ok (.aload_n 0, 1) := by decide +kernel
theorem dX9_back_37 : decode cX9_back 37 = .ok (.getfield 62, 3) := by decide +kernel
theorem dX9_back_40 : decode cX9_back 40 = .ok (.bipush 8, 2) := by decide +kernel
theorem dX9_back_42 : decode cX9_back 42 = .ok (.iload_n 1, 1) := by decide +kernel
theorem dX9_back_43 : decode cX9_back 43 = .ok (.iadd, 1) := by decide +kernel
theorem dX9_back_44 : decode cX9_back 44 = .ok (.iaload, 1) := by decide +kernel
theorem dX9_back_45 : decode cX9_back 45 = .ok (.iastore, 1) := by decide +kernel
theorem dX9_back_46 : decode cX9_back 46 = .ok (.iinc 1 1, 3) := by decide +kernel
theorem dX9_back_49 : decode cX9_back 49 = .ok (.goto (-36), 3) := by decide +kernel
theorem dX9_back_52 : decode cX9_back 52 = .ok (.iconst 0, 1) := by decide +kernel
theorem dX9_back_53 : decode cX9_back 53 = .ok (.istore_n 1, 1) := by decide +kernel
theorem dX9_back_54 : decode cX9_back 54 = .ok (.iload_n 1, 1) := by decide +kernel
theorem dX9_back_55 : decode cX9_back 55 = .ok (.bipush 7, 2) := by decide +kernel
theorem dX9_back_57 : decode cX9_back 57 = .ok (.if_icmp .ge 51, 3) := by decide +kernel
theorem dX9_back_60 : decode cX9_back 60 = .ok (.aload_n 0, 1) := by decide +kernel
theorem dX9_back_61 : decode cX9_back 61 = .ok (.getfield 32, 3) := by decide +kernel
theorem dX9_back_64 : decode cX9_back 64 = .ok (.iload_n 1, 1) := by decide +kernel
theorem dX9_back_65 : decode cX9_back 65 = .ok (.aload_n 0, 1) := by decide +kernel
theorem dX9_back_66 : decode cX9_back 66 = .ok (.getfield 65, 3) := by decide +kernel
theorem dX9_back_69 : decode cX9_back 69 = .ok (.iload_n 1, 1) := by decide +kernel
theorem dX9_back_70 : decode cX9_back 70 = .ok (.iaload, 1) := by decide +kernel
theorem dX9_back_71 : decode cX9_back 71 = .ok (.iastore, 1) := by decide +kernel
theorem dX9_back_72 : decode cX9_back 72 = .ok (.aload_n 0, 1) := by decide +kernel
theorem dX9_back_73 : decode cX9_back 73 = .ok (.getfield 35, 3) := by decide +kernel
theorem dX9_back_76 : decode cX9_back 76 = .ok (.iload_n 1, 1) := by decide +kernel
theorem dX9_back_77 : decode cX9_back 77 = .ok (.aload_n 0, 1) := by decide +kernel
theorem dX9_back_78 : decode cX9_back 78 = .ok (.getfield 65, 3) := by decide +kernel
theorem dX9_back_81 : decode cX9_back 81 = .ok (.bipush 7, 2) := by decide +kernel
theorem dX9_back_83 : decode cX9_back 83 = .ok (.iload_n 1, 1) := by decide +kernel
theorem dX9_back_84 : decode cX9_back 84 = .ok (.iadd, 1) := by decide +kernel
theorem dX9_back_85 : decode cX9_back 85 = .ok (.iaload, 1) := by decide +kernel
theorem dX9_back_86 : decode cX9_back 86 = .ok (.iastore, 1) := by decide +kernel
theorem dX9_back_87 : decode cX9_back 87 = .ok (.aload_n 0, 1) := by decide +kernel
theorem dX9_back_88 : decode cX9_back 88 = .ok (.getfield 38, 3) := by decide +kernel
theorem dX9_back_91 : decode cX9_back 91 = .ok (.iload_n 1, 1) := by decide +kernel
theorem dX9_back_92 : decode cX9_back 92 = .ok (.aload_n 0, 1) := by decide +kernel
theorem dX9_back_93 : decode cX9_back 93 = .ok (.getfield 65, 3) := by decide +kernel
theorem dX9_back_96 : decode cX9_back 96 = .ok (.bipush 14, 2) := by decide +kernel
theorem dX9_back_98 : decode cX9_back 98 = .ok (.iload_n 1, 1) := by decide +kernel
theorem dX9_back_99 : decode cX9_back 99 = .ok (.iadd, 1) := by decide +kernel
theorem dX9_back_100 : decode cX9_back 100 = .ok (.iaload, 1) := by decide +kernel
theorem dX9_back_101 : decode cX9_back 101 = .ok (.iastore, 1) := by decide +kernel
theorem dX9_back_102 : decode cX9_back 102 = .ok (.iinc 1 1, 3) := by decide +kernel
theorem dX9_back_105 : decode cX9_back 105 = .ok (.goto (-51), 3) := by decide +kernel
theorem dX9_back_108 : decode cX9_back 108 = .ok (.aload_n 0, 1) := by decide +kernel
theorem dX9_back_109 : decode cX9_back 109 = .ok (.aload_n 0, 1) := by decide +kernel
theorem dX9_back_110 : decode cX9_back 110 = .ok (.getfield 68, 3) := by decide +kernel
theorem dX9_back_113 : decode cX9_back 113 = .ok (.putfield 98, 3) := by decide +kernel
theorem dX9_back_116 : decode cX9_back 116 = .ok (.aload_n 0, 1) := by decide +kernel
theorem dX9_back_117 : decode cX9_back 117 = .ok (.aload_n 0, 1) := by decide +kernel
theorem dX9_back_118 : decode cX9_back 118 = .ok (.getfield 371, 3) := by decide +kernel
theorem dX9_back_121 : decode cX9_back 121 = .ok (.putfield 91, 3) := by decide +kernel
theorem dX9_back_124 : decode cX9_back 124 = .ok (.aload_n 0, 1) := by decide +kernel
theorem dX9_back_125 : decode cX9_back 125 = .ok (.aload_n 0, 1) := by decide +kernel
theorem dX9_back_126 : decode cX9_back 126 = .ok (.getfield 374, 3) := by decide +kernel
theorem dX9_back_129 : decode cX9_back 129 = .ok (.putfield 127, 3) := by decide +kernel
theorem dX9_back_132 : decode cX9_back 132 = .ok (.aload_n 0, 1) := by decide +kernel
theorem dX9_back_133 : decode cX9_back 133 = .ok (.aload_n 0, 1) := by decide +kernel
theorem dX9_back_134 : decode cX9_back 134 = .ok (.getfield 377, 3) := by decide +kernel
theorem dX9_back_137 : decode cX9_back 137 = .ok (.putfield 41, 3) := by decide +kernel
theorem dX9_back_140 : decode cX9_back 140 = .ok (.aload_n 0, 1) := by decide +kernel
theorem dX9_back_141 : decode cX9_back 141 = .ok (.aload_n 0, 1) := by decide +kernel
theorem dX9_back_142 : decode cX9_back 142 = .ok (.getfield 380, 3) := by decide +kernel
theorem dX9_back_145 : decode cX9_back 145 = .ok (.putfield 249, 3) := by decide +kernel
theorem dX9_back_148 : decode cX9_back 148 = .ok (.aload_n 0, 1) := by decide +kernel
theorem dX9_back_149 : decode cX9_back 149 = .ok (.getfield 98, 3) := by decide +kernel
theorem dX9_back_152 : decode cX9_back 152 = .ok (.ireturn, 1) := by decide +kernel
theorem dX9_count_0 : decode cX9_count 0 = .ok (.iload_n 1, 1) := by decide +kernel
theorem dX9_count_1 : decode cX9_count 1 = .ok (.i2l, 1) := by decide +kernel
theorem dX9_count_2 : decode cX9_count 2 = .ok (.lconst 0, 1) := by decide +kernel
theorem dX9_count_3 : decode cX9_count 3 = .ok (.ldc2_w 113, 3) := by decide +kernel
theorem dX9_count_6 : decode cX9_count 6 = .ok (.invokestatic 94, 3) := by decide +kernel
theorem dX9_count_9 : decode cX9_count 9 = .ok (.ifCond .ne 6, 3) := by decide +kernel
theorem dX9_count_12 : decode cX9_count 12 = .ok (.bipush (-2), 2) := by decide +kernel
theorem dX9_count_14 : decode cX9_count 14 = .ok (.ireturn, 1) := by decide +kernel
theorem dX9_count_15 : decode cX9_count 15 = .ok (.iload_n 1, 1) := by decide +kernel
theorem dX9_count_16 : decode cX9_count 16 = .ok (.iconst 4, 1) := by decide +kernel
theorem dX9_count_17 : decode cX9_count 17 = .ok (.if_icmp .ge 46, 3) := by decide +kernel
theorem dX9_count_20 : decode cX9_count 20 = .ok (.iload_n 1, 1) := by decide +kernel
theorem dX9_count_21 : decode cX9_count 21 = .ok (.ifCond .ne 10, 3) := by decide +kernel
theorem dX9_count_24 : decode cX9_count 24 = .ok (.aload_n 0, 1) := by decide +kernel
theorem dX9_count_25 : decode cX9_count 25 = .ok (.getfield 91, 3) := by decide +kernel
theorem dX9_count_28 : decode cX9_count 28 = .ok (.goto 34, 3) := by decide +kernel
theorem dX9_count_31 : decode cX9_count 31 = .ok (.iload_n 1, 1) := by decide +kernel
theorem dX9_count_32 : decode cX9_count 32 = .ok (.iconst 1, 1) := by decide +kernel
theorem dX9_count_33 : decode cX9_count 33 = .ok (.if_icmp .ne 10, 3) := by decide +kernel
theorem dX9_count_36 : decode cX9_count 36 = .ok (.aload_n 0, 1) := by decide +kernel
theorem dX9_count_37 : decode cX9_count 37 = .ok (.getfield 98, 3) := by decide +kernel
theorem dX9_count_40 : decode cX9_count 40 = .ok (.goto 22, 3) := by decide +kernel
theorem dX9_count_43 : decode cX9_count 43 = .ok (.iload_n 1, 1) := by decide +kernel
theorem dX9_count_44 : decode cX9_count 44 = .ok (.iconst 2, 1) := by decide +kernel
theorem dX9_count_45 : decode cX9_count 45 = .ok (.if_icmp .ne 13, 3) := by decide +kernel
theorem dX9_count_48 : decode cX9_count 48 = .ok (.aload_n 0, 1) := by decide +kernel
theorem dX9_count_49 : decode cX9_count 49 = .ok (.getfield 127, 3) := by decide +kernel
theorem dX9_count_52 : decode cX9_count 52 = .ok (.bipush 99, 2) := by decide +kernel
theorem dX9_count_54 : decode cX9_count 54 = .ok (.iadd, 1) := by decide +kernel
theorem dX9_count_55 : decode cX9_count 55 = .ok (.goto 7, 3) := by decide +kernel
theorem dX9_count_58 : decode cX9_count 58 = .ok (.aload_n 0, 1) := by decide +kernel
theorem dX9_count_59 : decode cX9_count 59 = .ok (.getfield 41, 3) := by decide +kernel
theorem dX9_count_62 : decode cX9_count 62 = .ok (.ireturn, 1) := by decide +kernel
theorem dX9_count_63 : decode cX9_count 63 = .ok (.iload_n 1, 1) := by decide +kernel
theorem dX9_count_64 : decode cX9_count 64 = .ok (.iconst 4, 1) := by decide +kernel
theorem dX9_count_65 : decode cX9_count 65 = .ok (.if_icmp .ne 10, 3) := by decide +kernel
theorem dX9_count_68 : decode cX9_count 68 = .ok (.aload_n 0, 1) := by decide +kernel
theorem dX9_count_69 : decode cX9_count 69 = .ok (.getfield 88, 3) := by decide +kernel
theorem dX9_count_72 : decode cX9_count 72 = .ok (.goto 19, 3) := by decide +kernel
theorem dX9_count_75 : decode cX9_count 75 = .ok (.iload_n 1, 1) := by decide +kernel
theorem dX9_count_76 : decode cX9_count 76 = .ok (.iconst 5, 1) := by decide +kernel
theorem dX9_count_77 : decode cX9_count 77 = .ok (.if_icmp .ne 10, 3) := by decide +kernel
theorem dX9_count_80 : decode cX9_count 80 = .ok (.aload_n 0, 1) := by decide +kernel
theorem dX9_count_81 : decode cX9_count 81 = .ok (.getfield 132, 3) := by decide +kernel
theorem dX9_count_84 : decode cX9_count 84 = .ok (.goto 7, 3) := by decide +kernel
theorem dX9_count_87 : decode cX9_count 87 = .ok (.aload_n 0, 1) := by decide +kernel
theorem dX9_count_88 : decode cX9_count 88 = .ok (.getfield 249, 3) := by decide +kernel
theorem dX9_count_91 : decode cX9_count 91 = .ok (.ireturn, 1) := by decide +kernel
theorem dX9_isSheet_0 : decode cX9_isSheet 0 = .ok (.iload_n 0, 1) := by decide +kernel
theorem dX9_isSheet_1 : decode cX9_isSheet 1 = .ok (.i2l, 1) := by decide +kernel
theorem dX9_isSheet_2 : decode cX9_isSheet 2 = .ok (.lconst 0, 1) := by decide +kernel
theorem dX9_isSheet_3 : decode cX9_isSheet 3 = .ok (.ldc2_w 340, 3) := by decide +kernel
theorem dX9_isSheet_6 : decode cX9_isSheet 6 = .ok (.invokestatic 94, 3) := by decide +kernel
theorem dX9_isSheet_9 : decode cX9_isSheet 9 = .ok (.ireturn, 1) := by decide +kernel
theorem dX9_sheet_0 : decode cX9_sheet 0 = .ok (.iload_n 1, 1) := by decide +kernel
theorem dX9_sheet_1 : decode cX9_sheet 1 = .ok (.invokestatic 354, 3) := by decide +kernel
theorem dX9_sheet_4 : decode cX9_sheet 4 = .ok (.ifCond .eq 27, 3) := by decide +kernel
theorem dX9_sheet_7 : decode cX9_sheet 7 = .ok (.iload_n 2, 1) := by decide +kernel
theorem dX9_sheet_8 : decode cX9_sheet 8 = .ok (.i2l, 1) := by decide +kernel
theorem dX9_sheet_9 : decode cX9_sheet 9 = .ok (.ldc2_w 383, 3) := by decide +kernel
theorem dX9_sheet_12 : decode cX9_sheet 12 = .ok (.ldc2_w 115, 3) := by decide +kernel
theorem dX9_sheet_15 : decode cX9_sheet 15 = .ok (.invokestatic 94, 3) := by decide +kernel
theorem dX9_sheet_18 : decode cX9_sheet 18 = .ok (.ifCond .eq 13, 3) := by decide +kernel
theorem dX9_sheet_21 : decode cX9_sheet 21 = .ok (.iload_n 2, 1) := by decide +kernel
theorem dX9_sheet_22 : decode cX9_sheet 22 = .ok (.ifCond .lt 12, 3) := by decide +kernel
theorem dX9_sheet_25 : decode cX9_sheet 25 = .ok (.iload_n 3, 1) := by decide +kernel
theorem dX9_sheet_26 : decode cX9_sheet 26 = .ok (.bipush 40, 2) := by decide +kernel
theorem dX9_sheet_28 : decode cX9_sheet 28 = .ok (.if_icmp .le 6, 3) := by decide +kernel
theorem dX9_sheet_31 : decode cX9_sheet 31 = .ok (.bipush (-2), 2) := by decide +kernel
theorem dX9_sheet_33 : decode cX9_sheet 33 = .ok (.ireturn, 1) := by decide +kernel
theorem dX9_sheet_34 : decode cX9_sheet 34 = .ok (.iload_n 2, 1) := by decide +kernel
theorem dX9_sheet_35 : decode cX9_sheet 35 = .ok (.ifCond .lt 10, 3) := by decide +kernel
theorem dX9_sheet_38 : decode cX9_sheet 38 = .ok (.iload_n 3, 1) := by decide +kernel
theorem dX9_sheet_39 : decode cX9_sheet 39 = .ok (.ifCond .ge 6, 3) := by decide +kernel
theorem dX9_sheet_42 : decode cX9_sheet 42 = .ok (.bipush (-14), 2) := by decide +kernel
theorem dX9_sheet_44 : decode cX9_sheet 44 = .ok (.ireturn, 1) := by decide +kernel
theorem dX9_sheet_45 : decode cX9_sheet 45 = .ok (.aload_n 0, 1) := by decide +kernel
theorem dX9_sheet_46 : decode cX9_sheet 46 = .ok (.getfield 71, 3) := by decide +kernel
theorem dX9_sheet_49 : decode cX9_sheet 49 = .ok (.iload_n 1, 1) := by decide +kernel
theorem dX9_sheet_50 : decode cX9_sheet 50 = .ok (.iload_n 2, 1) := by decide +kernel
theorem dX9_sheet_51 : decode cX9_sheet 51 = .ok (.ifCond .lt 7, 3) := by decide +kernel
theorem dX9_sheet_54 : decode cX9_sheet 54 = .ok (.iconst 1, 1) := by decide +kernel
theorem dX9_sheet_55 : decode cX9_sheet 55 = .ok (.goto 4, 3) := by decide +kernel
theorem dX9_sheet_58 : decode cX9_sheet 58 = .ok (.iconst 0, 1) := by decide +kernel
theorem dX9_sheet_59 : decode cX9_sheet 59 = .ok (.bastore, 1) := by decide +kernel
theorem dX9_sheet_60 : decode cX9_sheet 60 = .ok (.aload_n 0, 1) := by decide +kernel
theorem dX9_sheet_61 : decode cX9_sheet 61 = .ok (.getfield 75, 3) := by decide +kernel
theorem dX9_sheet_64 : decode cX9_sheet 64 = .ok (.iload_n 1, 1) := by decide +kernel
theorem dX9_sheet_65 : decode cX9_sheet 65 = .ok (.iload_n 2, 1) := by decide +kernel
theorem dX9_sheet_66 : decode cX9_sheet 66 = .ok (.iastore, 1) := by decide +kernel
theorem dX9_sheet_67 : decode cX9_sheet 67 = .ok (.aload_n 0, 1) := by decide +kernel
theorem dX9_sheet_68 : decode cX9_sheet 68 = .ok (.getfield 78, 3) := by decide +kernel
theorem dX9_sheet_71 : decode cX9_sheet 71 = .ok (.iload_n 1, 1) := by decide +kernel
theorem dX9_sheet_72 : decode cX9_sheet 72 = .ok (.iload_n 3, 1) := by decide +kernel
theorem dX9_sheet_73 : decode cX9_sheet 73 = .ok (.iastore, 1) := by decide +kernel
theorem dX9_sheet_74 : decode cX9_sheet 74 = .ok (.iconst 0, 1) := by decide +kernel
theorem dX9_sheet_75 : decode cX9_sheet 75 = .ok (.istore 4, 2) := by decide +kernel
theorem dX9_sheet_77 : decode cX9_sheet 77 = .ok (.iload 4, 2) := by decide +kernel
theorem dX9_sheet_79 : decode cX9_sheet 79 = .ok (.iload_n 3, 1) := by decide +kernel
theorem dX9_sheet_80 : decode cX9_sheet 80 = .ok (.if_icmp .ge 26, 3) := by decide +kernel
theorem dX9_sheet_83 : decode cX9_sheet 83 = .ok (.iload_n 2, 1) := by decide +kernel
theorem dX9_sheet_84 : decode cX9_sheet 84 = .ok (.ifCond .lt 22, 3) := by decide +kernel
theorem dX9_sheet_87 : decode cX9_sheet 87 = .ok (.aload_n 0, 1) := by decide +kernel
theorem dX9_sheet_88 : decode cX9_sheet 88 = .ok (.getfield 81, 3) := by decide +kernel
theorem dX9_sheet_91 : decode cX9_sheet 91 = .ok (.bipush 40, 2) := by decide +kernel
theorem dX9_sheet_93 : decode cX9_sheet 93 = .ok (.iload_n 1, 1) := by decide +kernel
theorem dX9_sheet_94 : decode cX9_sheet 94 = .ok (.imul, 1) := by decide +kernel
theorem dX9_sheet_95 : decode cX9_sheet 95 = .ok (.iload 4, 2) := by decide +kernel
theorem dX9_sheet_97 : decode cX9_sheet 97 = .ok (.iadd, 1) := by decide +kernel
theorem dX9_sheet_98 : decode cX9_sheet 98 = .ok (.iconst 0, 1) := by decide +kernel
theorem dX9_sheet_99 : decode cX9_sheet 99 = .ok (.iastore, 1) := by decide +kernel
theorem dX9_sheet_100 : decode cX9_sheet 100 = .ok (.iinc 4 1, 3) := by decide +kernel
theorem dX9_sheet_103 : decode cX9_sheet 103 = .ok (.goto (-26), 3) := by decide +kernel
theorem dX9_sheet_106 : decode cX9_sheet 106 = .ok (.iconst 1, 1) := by decide +kernel
theorem dX9_sheet_107 : decode cX9_sheet 107 = .ok (.ireturn, 1) := by decide +kernel
theorem dX9_cell_0 : decode cX9_cell 0 = .ok (.iload_n 1, 1) := by decide +kernel
theorem dX9_cell_1 : decode cX9_cell 1 = .ok (.invokestatic 354, 3) := by decide +kernel
theorem dX9_cell_4 : decode cX9_cell 4 = .ok (.ifCond .ne 6, 3) := by decide +kernel
theorem dX9_cell_7 : decode cX9_cell 7 = .ok (.bipush (-2), 2) := by decide +kernel
theorem dX9_cell_9 : decode cX9_cell 9 = .ok (.ireturn, 1) := by decide +kernel
theorem dX9_cell_10 : decode cX9_cell 10 = .ok (.aload_n 0, 1) := by decide +kernel
theorem dX9_cell_11 : decode cX9_cell 11 = .ok (.getfield 71, 3) := by decide +kernel
theorem dX9_cell_14 : decode cX9_cell 14 = .ok (.iload_n 1, 1) := by decide +kernel
theorem dX9_cell_15 : decode cX9_cell 15 = .ok (.baload, 1) := by decide +kernel
theorem dX9_cell_16 : decode cX9_cell 16 = .ok (.ifCond .ne 6, 3) := by decide +kernel
theorem dX9_cell_19 : decode cX9_cell 19 = .ok (.bipush (-11), 2) := by decide +kernel
theorem dX9_cell_21 : decode cX9_cell 21 = .ok (.ireturn, 1) := by decide +kernel
theorem dX9_cell_22 : decode cX9_cell 22 = .ok (.iload_n 2, 1) := by decide +kernel
theorem dX9_cell_23 : decode cX9_cell 23 = .ok (.i2l, 1) := by decide +kernel
theorem dX9_cell_24 : decode cX9_cell 24 = .ok (.lconst 0, 1) := by decide +kernel
theorem dX9_cell_25 : decode cX9_cell 25 = .ok (.aload_n 0, 1) := by decide +kernel
theorem dX9_cell_26 : decode cX9_cell 26 = .ok (.getfield 78, 3) := by decide +kernel
theorem dX9_cell_29 : decode cX9_cell 29 = .ok (.iload_n 1, 1) := by decide +kernel
theorem dX9_cell_30 : decode cX9_cell 30 = .ok (.iaload, 1) := by decide +kernel
theorem dX9_cell_31 : decode cX9_cell 31 = .ok (.iconst 1, 1) := by decide +kernel
theorem dX9_cell_32 : decode cX9_cell 32 = .ok (.isub, 1) := by decide +kernel
theorem dX9_cell_33 : decode cX9_cell 33 = .ok (.i2l, 1) := by decide +kernel
theorem dX9_cell_34 : decode cX9_cell 34 = .ok (.invokestatic 94, 3) := by decide +kernel
theorem dX9_cell_37 : decode cX9_cell 37 = .ok (.ifCond .ne 6, 3) := by decide +kernel
theorem dX9_cell_40 : decode cX9_cell 40 = .ok (.bipush (-12), 2) := by decide +kernel
theorem dX9_cell_42 : decode cX9_cell 42 = .ok (.ireturn, 1) := by decide +kernel
theorem dX9_cell_43 : decode cX9_cell 43 = .ok (.aload_n 0, 1) := by decide +kernel
theorem dX9_cell_44 : decode cX9_cell 44 = .ok (.getfield 81, 3) := by decide +kernel
theorem dX9_cell_47 : decode cX9_cell 47 = .ok (.bipush 40, 2) := by decide +kernel
theorem dX9_cell_49 : decode cX9_cell 49 = .ok (.iload_n 1, 1) := by decide +kernel
theorem dX9_cell_50 : decode cX9_cell 50 = .ok (.imul, 1) := by decide +kernel
theorem dX9_cell_51 : decode cX9_cell 51 = .ok (.iload_n 2, 1) := by decide +kernel
theorem dX9_cell_52 : decode cX9_cell 52 = .ok (.iadd, 1) := by decide +kernel
theorem dX9_cell_53 : decode cX9_cell 53 = .ok (.aload_n 0, 1) := by decide +kernel
theorem dX9_cell_54 : decode cX9_cell 54 = .ok (.getfield 75, 3) := by decide +kernel
theorem dX9_cell_57 : decode cX9_cell 57 = .ok (.iload_n 1, 1) := by decide +kernel
theorem dX9_cell_58 : decode cX9_cell 58 = .ok (.iaload, 1) := by decide +kernel
theorem dX9_cell_59 : decode cX9_cell 59 = .ok (.ifCond .ne 8, 3) := by decide +kernel
theorem dX9_cell_62 : decode cX9_cell 62 = .ok (.iload_n 3, 1) := by decide +kernel
theorem dX9_cell_63 : decode cX9_cell 63 = .ok (.i2b, 1) := by decide +kernel
theorem dX9_cell_64 : decode cX9_cell 64 = .ok (.goto 19, 3) := by decide +kernel
theorem dX9_cell_67 : decode cX9_cell 67 = .ok (.aload_n 0, 1) := by decide +kernel
theorem dX9_cell_68 : decode cX9_cell 68 = .ok (.getfield 75, 3) := by decide +kernel
theorem dX9_cell_71 : decode cX9_cell 71 = .ok (.iload_n 1, 1) := by decide +kernel
theorem dX9_cell_72 : decode cX9_cell 72 = .ok (.iaload, 1) := by decide +kernel
theorem dX9_cell_73 : decode cX9_cell 73 = .ok (.iconst 1, 1) := by decide +kernel
theorem dX9_cell_74 : decode cX9_cell 74 = .ok (.if_icmp .ne 8, 3) := by decide +kernel
theorem dX9_cell_77 : decode cX9_cell 77 = .ok (.iload_n 3, 1) := by decide +kernel
theorem dX9_cell_78 : decode cX9_cell 78 = .ok (.i2s, 1) := by decide +kernel
theorem dX9_cell_79 : decode cX9_cell 79 = .ok (.goto 4, 3) := by decide +kernel
theorem dX9_cell_82 : decode cX9_cell 82 = .ok (.iload_n 3, 1) := by decide +kernel
theorem dX9_cell_83 : decode cX9_cell 83 = .ok (.iastore, 1) := by decide +kernel
theorem dX9_cell_84 : decode cX9_cell 84 = .ok (.iconst 1, 1) := by decide +kernel
theorem dX9_cell_85 : decode cX9_cell 85 = .ok (.ireturn, 1) := by decide +kernel
theorem dX9_copy_0 : decode cX9_copy 0 = .ok (.iload_n 1, 1) := by decide +kernel
theorem dX9_copy_1 : decode cX9_copy 1 = .ok (.invokestatic 354, 3) := by decide +kernel
theorem dX9_copy_4 : decode cX9_copy 4 = .ok (.ifCond .eq 10, 3) := by decide +kernel
theorem dX9_copy_7 : decode cX9_copy 7 = .ok (.iload_n 3, 1) := by decide +kernel
theorem dX9_copy_8 : decode cX9_copy 8 = .ok (.invokestatic 354, 3) := by decide +kernel
theorem dX9_copy_11 : decode cX9_copy 11 = .ok (.ifCond .ne 6, 3) := by decide +kernel
theorem dX9_copy_14 : decode cX9_copy 14 = .ok (.bipush (-2), 2) := by decide +kernel
theorem dX9_copy_16 : decode cX9_copy 16 = .ok (.ireturn, 1) := by decide +kernel
theorem dX9_copy_17 : decode cX9_copy 17 = .ok (.aload_n 0, 1) := by decide +kernel
theorem dX9_copy_18 : decode cX9_copy 18 = .ok (.getfield 71, 3) := by decide +kernel
theorem dX9_copy_21 : decode cX9_copy 21 = .ok (.iload_n 1, 1) := by decide +kernel
theorem dX9_copy_22 : decode cX9_copy 22 = .ok (.baload, 1) := by decide +kernel
theorem dX9_copy_23 : decode cX9_copy 23 = .ok (.ifCond .eq 12, 3) := by decide +kernel
theorem dX9_copy_26 : decode cX9_copy 26 = .ok (.aload_n 0, 1) := by decide +kernel
theorem dX9_copy_27 : decode cX9_copy 27 = .ok (.getfield 71, 3) := by decide +kernel
theorem dX9_copy_30 : decode cX9_copy 30 = .ok (.iload_n 3, 1) := by decide +kernel
theorem dX9_copy_31 : decode cX9_copy 31 = .ok (.baload, 1) := by decide +kernel
theorem dX9_copy_32 : decode cX9_copy 32 = .ok (.ifCond .ne 6, 3) := by decide +kernel
theorem dX9_copy_35 : decode cX9_copy 35 = .ok (.bipush (-11), 2) := by decide +kernel
theorem dX9_copy_37 : decode cX9_copy 37 = .ok (.ireturn, 1) := by decide +kernel
theorem dX9_copy_38 : decode cX9_copy 38 = .ok (.aload_n 0, 1) := by decide +kernel
theorem dX9_copy_39 : decode cX9_copy 39 = .ok (.getfield 75, 3) := by decide +kernel
theorem dX9_copy_42 : decode cX9_copy 42 = .ok (.iload_n 1, 1) := by decide +kernel
theorem dX9_copy_43 : decode cX9_copy 43 = .ok (.iaload, 1) := by decide +kernel
theorem dX9_copy_44 : decode cX9_copy 44 = .ok (.aload_n 0, 1) := by decide +kernel
theorem dX9_copy_45 : decode cX9_copy 45 = .ok (.getfield 75, 3) := by decide +kernel
theorem dX9_copy_48 : decode cX9_copy 48 = .ok (.iload_n 3, 1) := by decide +kernel
theorem dX9_copy_49 : decode cX9_copy 49 = .ok (.iaload, 1) := by decide +kernel
theorem dX9_copy_50 : decode cX9_copy 50 = .ok (.if_icmp .eq 6, 3) := by decide +kernel
theorem dX9_copy_53 : decode cX9_copy 53 = .ok (.bipush (-13), 2) := by decide +kernel
theorem dX9_copy_55 : decode cX9_copy 55 = .ok (.ireturn, 1) := by decide +kernel
theorem dX9_copy_56 : decode cX9_copy 56 = .ok (.iload 5, 2) := by decide +kernel
theorem dX9_copy_58 : decode cX9_copy 58 = .ok (.ifCond .lt 39, 3) := by decide +kernel
theorem dX9_copy_61 : decode cX9_copy 61 = .ok (.iload_n 2, 1) := by decide +kernel
theorem dX9_copy_62 : decode cX9_copy 62 = .ok (.ifCond .lt 35, 3) := by decide +kernel
theorem dX9_copy_65 : decode cX9_copy 65 = .ok (.iload 4, 2) := by decide +kernel
theorem dX9_copy_67 : decode cX9_copy 67 = .ok (.ifCond .lt 30, 3) := by decide +kernel
theorem dX9_copy_70 : decode cX9_copy 70 = .ok (.iload_n 2, 1) := by decide +kernel
theorem dX9_copy_71 : decode cX9_copy 71 = .ok (.aload_n 0, 1) := by decide +kernel
theorem dX9_copy_72 : decode cX9_copy 72 = .ok (.getfield 78, 3) := by decide +kernel
theorem dX9_copy_75 : decode cX9_copy 75 = .ok (.iload_n 1, 1) := by decide +kernel
theorem dX9_copy_76 : decode cX9_copy 76 = .ok (.iaload, 1) := by decide +kernel
theorem dX9_copy_77 : decode cX9_copy 77 = .ok (.iload 5, 2) := by decide +kernel
theorem dX9_copy_79 : decode cX9_copy 79 = .ok (.isub, 1) := by decide +kernel
theorem dX9_copy_80 : decode cX9_copy 80 = .ok (.if_icmp .gt 17, 3) := by decide +kernel
theorem dX9_copy_83 : decode cX9_copy 83 = .ok (.iload 4, 2) := by decide +kernel
theorem dX9_copy_85 : decode cX9_copy 85 = .ok (.aload_n 0, 1) := by decide +kernel
theorem dX9_copy_86 : decode cX9_copy 86 = .ok (.getfield 78, 3) := by decide +kernel
theorem dX9_copy_89 : decode cX9_copy 89 = .ok (.iload_n 3, 1) := by decide +kernel
theorem dX9_copy_90 : decode cX9_copy 90 = .ok (.iaload, 1) := by decide +kernel
theorem dX9_copy_91 : decode cX9_copy 91 = .ok (.iload 5, 2) := by decide +kernel
theorem dX9_copy_93 : decode cX9_copy 93 = .ok (.isub, 1) := by decide +kernel
theorem dX9_copy_94 : decode cX9_copy 94 = .ok (.if_icmp .le 6, 3) := by decide +kernel
theorem dX9_copy_97 : decode cX9_copy 97 = .ok (.bipush (-12), 2) := by decide +kernel
theorem dX9_copy_99 : decode cX9_copy 99 = .ok (.ireturn, 1) := by decide +kernel
theorem dX9_copy_100 : decode cX9_copy 100 = .ok (.iload_n 1, 1) := by decide +kernel
theorem dX9_copy_101 : decode cX9_copy 101 = .ok (.iload_n 3, 1) := by decide +kernel
theorem dX9_copy_102 : decode cX9_copy 102 = .ok (.if_icmp .ne 13, 3) := by decide +kernel
theorem dX9_copy_105 : decode cX9_copy 105 = .ok (.iload_n 2, 1) := by decide +kernel
theorem dX9_copy_106 : decode cX9_copy 106 = .ok (.iload 4, 2) := by decide +kernel
theorem dX9_copy_108 : decode cX9_copy 108 = .ok (.if_icmp .ge 7, 3) := by decide +kernel
theorem dX9_copy_111 : decode cX9_copy 111 = .ok (.iconst 1, 1) := by decide +kernel
theorem dX9_copy_112 : decode cX9_copy 112 = .ok (.goto 4, 3) := by decide +kernel
theorem dX9_copy_115 : decode cX9_copy 115 = .ok (.iconst 0, 1) := by decide +kernel
theorem dX9_copy_116 : decode cX9_copy 116 = .ok (.istore 6, 2) := by decide +kernel
theorem dX9_copy_118 : decode cX9_copy 118 = .ok (.iconst 0, 1) := by decide +kernel
theorem dX9_copy_119 : decode cX9_copy 119 = .ok (.istore 7, 2) := by decide +kernel
theorem dX9_copy_121 : decode cX9_copy 121 = .ok (.iload 7, 2) := by decide +kernel
theorem dX9_copy_123 : decode cX9_copy 123 = .ok (.iload 5, 2) := by decide +kernel
theorem dX9_copy_125 : decode cX9_copy 125 = .ok (.if_icmp .ge 57, 3) := by decide +kernel
theorem dX9_copy_128 : decode cX9_copy 128 = .ok (.iload 6, 2) := by decide +kernel
theorem dX9_copy_130 : decode cX9_copy 130 = .ok (.ifCond .eq 13, 3) := by decide +kernel
theorem dX9_copy_133 : decode cX9_copy 133 = .ok (.iload 5, 2) := by decide +kernel
theorem dX9_copy_135 : decode cX9_copy 135 = .ok (.iconst 1, 1) := by decide +kernel
theorem dX9_copy_136 : decode cX9_copy 136 = .ok (.isub, 1) := by decide +kernel
theorem dX9_copy_137 : decode cX9_copy 137 = .ok (.iload 7, 2) := by decide +kernel
theorem dX9_copy_139 : decode cX9_copy 139 = .ok (.isub, 1) := by decide +kernel
theorem dX9_copy_140 : decode cX9_copy 140 = .ok (.goto 5, 3) := by decide +kernel
theorem dX9_copy_143 : decode cX9_copy 143 = .ok (.iload 7, 2) := by decide +kernel
theorem dX9_copy_145 : decode cX9_copy 145 = .ok (.istore 8, 2) := by decide +kernel
theorem dX9_copy_147 : decode cX9_copy 147 = .ok (.aload_n 0, 1) := by decide +kernel
theorem dX9_copy_148 : decode cX9_copy 148 = .ok (.getfield 81, 3) := by decide +kernel
theorem dX9_copy_151 : decode cX9_copy 151 = .ok (.bipush 40, 2) := by decide +kernel
theorem dX9_copy_153 : decode cX9_copy 153 = .ok (.iload_n 3, 1) := by decide +kernel
theorem dX9_copy_154 : decode cX9_copy 154 = .ok (.imul, 1) := by decide +kernel
theorem dX9_copy_155 : decode cX9_copy 155 = .ok (.iload 4, 2) := by decide +kernel
theorem dX9_copy_157 : decode cX9_copy 157 = .ok (.iadd, 1) := by decide +kernel
theorem dX9_copy_158 : decode cX9_copy 158 = .ok (.iload 8, 2) := by decide +kernel
theorem dX9_copy_160 : decode cX9_copy 160 = .ok (.iadd, 1) := by decide +kernel
theorem dX9_copy_161 : decode cX9_copy 161 = .ok (.aload_n 0, 1) := by decide +kernel
theorem dX9_copy_162 : decode cX9_copy 162 = .ok (.getfield 81, 3) := by decide +kernel
theorem dX9_copy_165 : decode cX9_copy 165 = .ok (.bipush 40, 2) := by decide +kernel
theorem dX9_copy_167 : decode cX9_copy 167 = .ok (.iload_n 1, 1) := by decide +kernel
theorem dX9_copy_168 : decode cX9_copy 168 = .ok (.imul, 1) := by decide +kernel
theorem dX9_copy_169 : decode cX9_copy 169 = .ok (.iload_n 2, 1) := by decide +kernel
theorem dX9_copy_170 : decode cX9_copy 170 = .ok (.iadd, 1) := by decide +kernel
theorem dX9_copy_171 : decode cX9_copy 171 = .ok (.iload 8, 2) := by decide +kernel
theorem dX9_copy_173 : decode cX9_copy 173 = .ok (.iadd, 1) := by decide +kernel
theorem dX9_copy_174 : decode cX9_copy 174 = .ok (.iaload, 1) := by decide +kernel
theorem dX9_copy_175 : decode cX9_copy 175 = .ok (.iastore, 1) := by decide +kernel
theorem dX9_copy_176 : decode cX9_copy 176 = .ok (.iinc 7 1, 3) := by decide +kernel
theorem dX9_copy_179 : decode cX9_copy 179 = .ok (.goto (-58), 3) := by decide +kernel
theorem dX9_copy_182 : decode cX9_copy 182 = .ok (.iload 5, 2) := by decide +kernel
theorem dX9_copy_184 : decode cX9_copy 184 = .ok (.ireturn, 1) := by decide +kernel
theorem dX9_slips_0 : decode cX9_slips 0 = .ok (.iload_n 1, 1) := by decide +kernel
theorem dX9_slips_1 : decode cX9_slips 1 = .ok (.invokestatic 354, 3) := by decide +kernel
theorem dX9_slips_4 : decode cX9_slips 4 = .ok (.ifCond .eq 28, 3) := by decide +kernel
theorem dX9_slips_7 : decode cX9_slips 7 = .ok (.iload_n 2, 1) := by decide +kernel
theorem dX9_slips_8 : decode cX9_slips 8 = .ok (.i2l, 1) := by decide +kernel
theorem dX9_slips_9 : decode cX9_slips 9 = .ok (.lconst 0, 1) := by decide +kernel
theorem dX9_slips_10 : decode cX9_slips 10 = .ok (.ldc2_w 115, 3) := by decide +kernel
theorem dX9_slips_13 : decode cX9_slips 13 = .ok (.invokestatic 94, 3) := by decide +kernel
theorem dX9_slips_16 : decode cX9_slips 16 = .ok (.ifCond .eq 16, 3) := by decide +kernel
theorem dX9_slips_19 : decode cX9_slips 19 = .ok (.iload 4, 2) := by decide +kernel
theorem dX9_slips_21 : decode cX9_slips 21 = .ok (.i2l, 1) := by decide +kernel
theorem dX9_slips_22 : decode cX9_slips 22 = .ok (.lconst 0, 1) := by decide +kernel
theorem dX9_slips_23 : decode cX9_slips 23 = .ok (.ldc2_w 103, 3) := by decide +kernel
theorem dX9_slips_26 : decode cX9_slips 26 = .ok (.invokestatic 94, 3) := by decide +kernel
theorem dX9_slips_29 : decode cX9_slips 29 = .ok (.ifCond .ne 6, 3) := by decide +kernel
theorem dX9_slips_32 : decode cX9_slips 32 = .ok (.bipush (-2), 2) := by decide +kernel
theorem dX9_slips_34 : decode cX9_slips 34 = .ok (.ireturn, 1) := by decide +kernel
theorem dX9_slips_35 : decode cX9_slips 35 = .ok (.aload_n 0, 1) := by decide +kernel
theorem dX9_slips_36 : decode cX9_slips 36 = .ok (.getfield 71, 3) := by decide +kernel
theorem dX9_slips_39 : decode cX9_slips 39 = .ok (.iload_n 1, 1) := by decide +kernel
theorem dX9_slips_40 : decode cX9_slips 40 = .ok (.baload, 1) := by decide +kernel
theorem dX9_slips_41 : decode cX9_slips 41 = .ok (.ifCond .eq 16, 3) := by decide +kernel
theorem dX9_slips_44 : decode cX9_slips 44 = .ok (.aload_n 0, 1) := by decide +kernel
theorem dX9_slips_45 : decode cX9_slips 45 = .ok (.getfield 75, 3) := by decide +kernel
theorem dX9_slips_48 : decode cX9_slips 48 = .ok (.iload_n 1, 1) := by decide +kernel
theorem dX9_slips_49 : decode cX9_slips 49 = .ok (.iaload, 1) := by decide +kernel
theorem dX9_slips_50 : decode cX9_slips 50 = .ok (.iload_n 2, 1) := by decide +kernel
theorem dX9_slips_51 : decode cX9_slips 51 = .ok (.if_icmp .eq 6, 3) := by decide +kernel
theorem dX9_slips_54 : decode cX9_slips 54 = .ok (.bipush (-13), 2) := by decide +kernel
theorem dX9_slips_56 : decode cX9_slips 56 = .ok (.ireturn, 1) := by decide +kernel
theorem dX9_slips_57 : decode cX9_slips 57 = .ok (.aload_n 0, 1) := by decide +kernel
theorem dX9_slips_58 : decode cX9_slips 58 = .ok (.getfield 71, 3) := by decide +kernel
theorem dX9_slips_61 : decode cX9_slips 61 = .ok (.iload_n 1, 1) := by decide +kernel
theorem dX9_slips_62 : decode cX9_slips 62 = .ok (.baload, 1) := by decide +kernel
theorem dX9_slips_63 : decode cX9_slips 63 = .ok (.ifCond .ne 6, 3) := by decide +kernel
theorem dX9_slips_66 : decode cX9_slips 66 = .ok (.bipush (-11), 2) := by decide +kernel
theorem dX9_slips_68 : decode cX9_slips 68 = .ok (.ireturn, 1) := by decide +kernel
theorem dX9_slips_69 : decode cX9_slips 69 = .ok (.iconst 0, 1) := by decide +kernel
theorem dX9_slips_70 : decode cX9_slips 70 = .ok (.istore 5, 2) := by decide +kernel
theorem dX9_slips_72 : decode cX9_slips 72 = .ok (.iconst 0, 1) := by decide +kernel
theorem dX9_slips_73 : decode cX9_slips 73 = .ok (.istore 6, 2) := by decide +kernel
theorem dX9_slips_75 : decode cX9_slips 75 = .ok (.iload 6, 2) := by decide +kernel
theorem dX9_slips_77 : decode cX9_slips 77 = .ok (.iload 4, 2) := by decide +kernel
theorem dX9_slips_79 : decode cX9_slips 79 = .ok (.if_icmp .ge 88, 3) := by decide +kernel
theorem dX9_slips_82 : decode cX9_slips 82 = .ok (.iload_n 3, 1) := by decide +kernel
theorem dX9_slips_83 : decode cX9_slips 83 = .ok (.ifCond .lt 20, 3) := by decide +kernel
theorem dX9_slips_86 : decode cX9_slips 86 = .ok (.iload_n 3, 1) := by decide +kernel
theorem dX9_slips_87 : decode cX9_slips 87 = .ok (.aload_n 0, 1) := by decide +kernel
theorem dX9_slips_88 : decode cX9_slips 88 = .ok (.getfield 78, 3) := by decide +kernel
theorem dX9_slips_91 : decode cX9_slips 91 = .ok (.iload_n 1, 1) := by decide +kernel
theorem dX9_slips_92 : decode cX9_slips 92 = .ok (.iaload, 1) := by decide +kernel
theorem dX9_slips_93 : decode cX9_slips 93 = .ok (.iconst 3, 1) := by decide +kernel
theorem dX9_slips_94 : decode cX9_slips 94 = .ok (.iload 6, 2) := by decide +kernel
theorem dX9_slips_96 : decode cX9_slips 96 = .ok (.imul, 1) := by decide +kernel
theorem dX9_slips_97 : decode cX9_slips 97 = .ok (.isub, 1) := by decide +kernel
theorem dX9_slips_98 : decode cX9_slips 98 = .ok (.iconst 3, 1) := by decide +kernel
theorem dX9_slips_99 : decode cX9_slips 99 = .ok (.isub, 1) := by decide +kernel
theorem dX9_slips_100 : decode cX9_slips 100 = .ok (.if_icmp .le 6, 3) := by decide +kernel
theorem dX9_slips_103 : decode cX9_slips 103 = .ok (.bipush (-12), 2) := by decide +kernel
theorem dX9_slips_105 : decode cX9_slips 105 = .ok (.ireturn, 1) := by decide +kernel
theorem dX9_slips_106 : decode cX9_slips 106 = .ok (.bipush 40, 2) := by decide +kernel
theorem dX9_slips_108 : decode cX9_slips 108 = .ok (.iload_n 1, 1) := by decide +kernel
theorem dX9_slips_109 : decode cX9_slips 109 = .ok (.imul, 1) := by decide +kernel
theorem dX9_slips_110 : decode cX9_slips 110 = .ok (.iload_n 3, 1) := by decide +kernel
theorem dX9_slips_111 : decode cX9_slips 111 = .ok (.iadd, 1) := by decide +kernel
theorem dX9_slips_112 : decode cX9_slips 112 = .ok (.iconst 3, 1) := by decide +kernel
theorem dX9_slips_113 : decode cX9_slips 113 = .ok (.iload 6, 2) := by decide +kernel
theorem dX9_slips_115 : decode cX9_slips 115 = .ok (.imul, 1) := by decide +kernel
theorem dX9_slips_116 : decode cX9_slips 116 = .ok (.iadd, 1) := by decide +kernel
theorem dX9_slips_117 : decode cX9_slips 117 = .ok (.istore 7, 2) := by decide +kernel
theorem dX9_slips_119 : decode cX9_slips 119 = .ok (.iload 5, 2) := by decide +kernel
theorem dX9_slips_121 : decode cX9_slips 121 = .ok (.aload_n 0, 1) := by decide +kernel
theorem dX9_slips_122 : decode cX9_slips 122 = .ok (.aload_n 0, 1) := by decide +kernel
theorem dX9_slips_123 : decode cX9_slips 123 = .ok (.getfield 81, 3) := by decide +kernel
theorem dX9_slips_126 : decode cX9_slips 126 = .ok (.iload 7, 2) := by decide +kernel
theorem dX9_slips_128 : decode cX9_slips 128 = .ok (.iaload, 1) := by decide +kernel
theorem dX9_slips_129 : decode cX9_slips 129 = .ok (.aload_n 0, 1) := by decide +kernel
theorem dX9_slips_130 : decode cX9_slips 130 = .ok (.getfield 81, 3) := by decide +kernel
theorem dX9_slips_133 : decode cX9_slips 133 = .ok (.iload 7, 2) := by decide +kernel
theorem dX9_slips_135 : decode cX9_slips 135 = .ok (.iconst 1, 1) := by decide +kernel
theorem dX9_slips_136 : decode cX9_slips 136 = .ok (.iadd, 1) := by decide +kernel
theorem dX9_slips_137 : decode cX9_slips 137 = .ok (.iaload, 1) := by decide +kernel
theorem dX9_slips_138 : decode cX9_slips 138 = .ok (.aload_n 0, 1) := by decide +kernel
theorem dX9_slips_139 : decode cX9_slips 139 = .ok (.getfield 81, 3) := by decide +kernel
theorem dX9_slips_142 : decode cX9_slips 142 = .ok (.iload 7, 2) := by decide +kernel
theorem dX9_slips_144 : decode cX9_slips 144 = .ok (.iconst 2, 1) := by decide +kernel
theorem dX9_slips_145 : decode cX9_slips 145 = .ok (.iadd, 1) := by decide +kernel
theorem dX9_slips_146 : decode cX9_slips 146 = .ok (.iaload, 1) := by decide +kernel
theorem dX9_slips_147 : decode cX9_slips 147 = .ok (.invokevirtual 385, 3) := by decide +kernel
theorem dX9_slips_150 : decode cX9_slips 150 = .ok (.ifCond .lt 7, 3) := by decide +kernel
theorem dX9_slips_153 : decode cX9_slips 153 = .ok (.iconst 1, 1) := by decide +kernel
theorem dX9_slips_154 : decode cX9_slips 154 = .ok (.goto 4, 3) := by decide +kernel
theorem dX9_slips_157 : decode cX9_slips 157 = .ok (.iconst 0, 1) := by decide +kernel
theorem dX9_slips_158 : decode cX9_slips 158 = .ok (.iadd, 1) := by decide +kernel
theorem dX9_slips_159 : decode cX9_slips 159 = .ok (.istore 5, 2) := by decide +kernel
theorem dX9_slips_161 : decode cX9_slips 161 = .ok (.iinc 6 1, 3) := by decide +kernel
theorem dX9_slips_164 : decode cX9_slips 164 = .ok (.goto (-89), 3) := by decide +kernel
theorem dX9_slips_167 : decode cX9_slips 167 = .ok (.iload 5, 2) := by decide +kernel
theorem dX9_slips_169 : decode cX9_slips 169 = .ok (.ireturn, 1) := by decide +kernel
theorem dX9_over_0 : decode cX9_over 0 = .ok (.iload_n 0, 1) := by decide +kernel
theorem dX9_over_1 : decode cX9_over 1 = .ok (.ifCond .ne 7, 3) := by decide +kernel
theorem dX9_over_4 : decode cX9_over 4 = .ok (.iconst (-1), 1) := by decide +kernel
theorem dX9_over_5 : decode cX9_over 5 = .ok (.goto 27, 3) := by decide +kernel
theorem dX9_over_8 : decode cX9_over 8 = .ok (.iload_n 0, 1) := by decide +kernel
theorem dX9_over_9 : decode cX9_over 9 = .ok (.iconst 3, 1) := by decide +kernel
theorem dX9_over_10 : decode cX9_over 10 = .ok (.if_icmp .ne 7, 3) := by decide +kernel
theorem dX9_over_13 : decode cX9_over 13 = .ok (.iconst 1, 1) := by decide +kernel
theorem dX9_over_14 : decode cX9_over 14 = .ok (.goto 18, 3) := by decide +kernel
theorem dX9_over_17 : decode cX9_over 17 = .ok (.iload_n 0, 1) := by decide +kernel
theorem dX9_over_18 : decode cX9_over 18 = .ok (.iconst 4, 1) := by decide +kernel
theorem dX9_over_19 : decode cX9_over 19 = .ok (.if_icmp .eq 8, 3) := by decide +kernel
theorem dX9_over_22 : decode cX9_over 22 = .ok (.iload_n 0, 1) := by decide +kernel
theorem dX9_over_23 : decode cX9_over 23 = .ok (.iconst 5, 1) := by decide +kernel
theorem dX9_over_24 : decode cX9_over 24 = .ok (.if_icmp .ne 7, 3) := by decide +kernel
theorem dX9_over_27 : decode cX9_over 27 = .ok (.iconst 2, 1) := by decide +kernel
theorem dX9_over_28 : decode cX9_over 28 = .ok (.goto 4, 3) := by decide +kernel
theorem dX9_over_31 : decode cX9_over 31 = .ok (.iconst 0, 1) := by decide +kernel
theorem dX9_over_32 : decode cX9_over 32 = .ok (.ireturn, 1) := by decide +kernel
theorem dX9_taken_0 : decode cX9_taken 0 = .ok (.iload_n 2, 1) := by decide +kernel
theorem dX9_taken_1 : decode cX9_taken 1 = .ok (.i2l, 1) := by decide +kernel
theorem dX9_taken_2 : decode cX9_taken 2 = .ok (.lconst 0, 1) := by decide +kernel
theorem dX9_taken_3 : decode cX9_taken 3 = .ok (.ldc2_w 105, 3) := by decide +kernel
theorem dX9_taken_6 : decode cX9_taken 6 = .ok (.invokestatic 94, 3) := by decide +kernel
theorem dX9_taken_9 : decode cX9_taken 9 = .ok (.ifCond .ne 6, 3) := by decide +kernel
theorem dX9_taken_12 : decode cX9_taken 12 = .ok (.bipush (-2), 2) := by decide +kernel
theorem dX9_taken_14 : decode cX9_taken 14 = .ok (.ireturn, 1) := by decide +kernel
theorem dX9_taken_15 : decode cX9_taken 15 = .ok (.aload_n 0, 1) := by decide +kernel
theorem dX9_taken_16 : decode cX9_taken 16 = .ok (.iload_n 1, 1) := by decide +kernel
theorem dX9_taken_17 : decode cX9_taken 17 = .ok (.invokevirtual 119, 3) := by decide +kernel
theorem dX9_taken_20 : decode cX9_taken 20 = .ok (.ifCond .ne 6, 3) := by decide +kernel
theorem dX9_taken_23 : decode cX9_taken 23 = .ok (.bipush (-11), 2) := by decide +kernel
theorem dX9_taken_25 : decode cX9_taken 25 = .ok (.ireturn, 1) := by decide +kernel
theorem dX9_taken_26 : decode cX9_taken 26 = .ok (.aload_n 0, 1) := by decide +kernel
theorem dX9_taken_27 : decode cX9_taken 27 = .ok (.getfield 29, 3) := by decide +kernel
theorem dX9_taken_30 : decode cX9_taken 30 = .ok (.iload_n 1, 1) := by decide +kernel
theorem dX9_taken_31 : decode cX9_taken 31 = .ok (.iaload, 1) := by decide +kernel
theorem dX9_taken_32 : decode cX9_taken 32 = .ok (.istore_n 3, 1) := by decide +kernel
theorem dX9_taken_33 : decode cX9_taken 33 = .ok (.iload_n 3, 1) := by decide +kernel
theorem dX9_taken_34 : decode cX9_taken 34 = .ok (.iconst (-1), 1) := by decide +kernel
theorem dX9_taken_35 : decode cX9_taken 35 = .ok (.if_icmp .eq 16, 3) := by decide +kernel
theorem dX9_taken_38 : decode cX9_taken 38 = .ok (.iload_n 3, 1) := by decide +kernel
theorem dX9_taken_39 : decode cX9_taken 39 = .ok (.iload_n 2, 1) := by decide +kernel
theorem dX9_taken_40 : decode cX9_taken 40 = .ok (.if_icmp .eq 11, 3) := by decide +kernel
theorem dX9_taken_43 : decode cX9_taken 43 = .ok (.iload_n 3, 1) := by decide +kernel
theorem dX9_taken_44 : decode cX9_taken 44 = .ok (.invokestatic 388, 3) := by decide +kernel
theorem dX9_taken_47 : decode cX9_taken 47 = .ok (.istore_n 3, 1) := by decide +kernel
theorem dX9_taken_48 : decode cX9_taken 48 = .ok (.goto (-15), 3) := by decide +kernel
theorem dX9_taken_51 : decode cX9_taken 51 = .ok (.iload_n 3, 1) := by decide +kernel
theorem dX9_taken_52 : decode cX9_taken 52 = .ok (.iload_n 2, 1) := by decide +kernel
theorem dX9_taken_53 : decode cX9_taken 53 = .ok (.if_icmp .ne 12, 3) := by decide +kernel
theorem dX9_taken_56 : decode cX9_taken 56 = .ok (.aload_n 0, 1) := by decide +kernel
theorem dX9_taken_57 : decode cX9_taken 57 = .ok (.getfield 32, 3) := by decide +kernel
theorem dX9_taken_60 : decode cX9_taken 60 = .ok (.iload_n 1, 1) := by decide +kernel
theorem dX9_taken_61 : decode cX9_taken 61 = .ok (.iaload, 1) := by decide +kernel
theorem dX9_taken_62 : decode cX9_taken 62 = .ok (.goto 5, 3) := by decide +kernel
theorem dX9_taken_65 : decode cX9_taken 65 = .ok (.bipush (-13), 2) := by decide +kernel
theorem dX9_taken_67 : decode cX9_taken 67 = .ok (.ireturn, 1) := by decide +kernel
end
section
theorem lk_J0_9 : Cond.fieldLink RJ0 9 "java/lang/String" "value" "[B" ∈ gw_t := gw_mem 1424 (by decide +kernel) (by decide +kernel)
theorem lk_J0_15 : Cond.fieldLink RJ0 15 "java/lang/String" "coder" "B" ∈ gw_t := gw_mem 1425 (by decide +kernel) (by decide +kernel)
theorem lk_J0_38 : Cond.fieldLink RJ0 38 "java/lang/String" "COMPACT_STRINGS" "Z" ∈ gw_t := gw_mem 335 (by decide +kernel) (by decide +kernel)
theorem lk_J0_1053 : Cond.fieldLink RJ0 1053 "jdk/internal/util/Preconditions" "SIOOBE_FORMATTER" "Ljava/util/function/BiFunction;" ∈ gw_t := gw_mem 351 (by decide +kernel) (by decide +kernel)
def pz_nc (v : Int32) : Bool := decide ((v.toUInt32 % 65536).toInt32 = v)
theorem pz_ncn {v : Int32} (h : pz_nc v = true) : narrow .char (.int v) = .int v := by
  unfold pz_nc at h
  have h := of_decide_eq_true h
  have h2 := pk_nc v
  rw [h] at h2
  exact h2
def pz_nb (v : Int32) : Bool := decide (v.toInt8.toInt32 = v)
theorem pz_nbn {v : Int32} (h : pz_nb v = true) : narrow .byte (.int v) = .int v := by
  unfold pz_nb at h
  have h := of_decide_eq_true h
  have h2 := pk_nb v
  rw [h] at h2
  exact h2
def pz_fill (f : Nat → Int32) (n : Nat) (v : Int32) : Nat → Int32 := fun j => if j < n then v else f j
theorem pz_fill_0 (f : Nat → Int32) (v : Int32) : pz_fill f 0 v = f := by funext j; unfold pz_fill; rw [if_neg (Nat.not_lt_zero j)]
theorem pz_fill_s (f : Nat → Int32) (n : Nat) (v : Int32) : upd (pz_fill f n v) n v = pz_fill f (n + 1) v := by
  funext j
  unfold upd pz_fill
  by_cases h : j = n
  · subst h; rw [if_pos rfl, if_pos (Nat.lt_succ_self _)]
  · rw [if_neg h]
    by_cases h2 : j < n
    · rw [if_pos h2, if_pos (by omega)]
    · rw [if_neg h2, if_neg (by omega)]
theorem mm_row_row {I : mm_T} {k i : Nat} {f g : Nat → Int32} : mm_row (mm_row I k i f) k i g = mm_row I k i g := by
  funext a
  by_cases ha : a = k
  · subst ha; funext b
    by_cases hb : b = i
    · subst hb; rw [mm_row_at, mm_row_at]
    · rw [mm_row_ni hb, mm_row_ni hb, mm_row_ni hb]
  · rw [mm_row_ne ha, mm_row_ne ha, mm_row_ne ha]
theorem mm_row_self {I : mm_T} {k i : Nat} : mm_row I k i (I k i) = I := by
  funext a
  by_cases ha : a = k
  · subst ha; funext b
    by_cases hb : b = i
    · subst hb; rw [mm_row_at]
    · rw [mm_row_ni hb]
  · rw [mm_row_ne ha]
section RJ
variable {p : Program} {l : Launch} {e : Env} {R : Room} {s : State} {m : MethodId} {args : Array Value} {below : List Frame} {meth : Method} {c : Code} {H : Heap} {locs : List Loc} {cells slots : Nat} {Q : State → Prop}
variable {cc : ByteArray} {pc : Nat} {ls : Array Slot} {rest : List Value} {G : cx_T} {n nL : Nat} {I J : mm_T} {own : String} {ret : Option FieldType}
theorem r_svalue (X : cx_ok G p s m args meth c cc nL own ret) (S : st_ok G n I J s H locs) {k idx : Nat} (hk : k < 14) (hlk : Cond.fieldLink own idx "java/lang/String" "value" "[B" ∈ gw_t) (hd : decode cc pc = .ok (.getfield idx, 3)) (kk : W p l e R s m args below meth c H locs cells slots Q (F0 m (pc + 3) ls (.ref (cx_V G k) :: rest))) : W p l e R s m args below meth c H locs cells slots Q (F0 m pc ls (.ref (cx_K G k) :: rest)) :=
  vk_getf X.1 X.2.1 (X.2.2.2.2.2.1.2.1.1 k hk).2.2.1 S.2.2.1 X.2.2.2.1 (X.2.2.2.2.1 _ hlk) (fun _ h => h) hd kk
theorem r_scoder (X : cx_ok G p s m args meth c cc nL own ret) (S : st_ok G n I J s H locs) {k idx : Nat} (hk : k < 14) (hlk : Cond.fieldLink own idx "java/lang/String" "coder" "B" ∈ gw_t) (hd : decode cc pc = .ok (.getfield idx, 3)) (kk : W p l e R s m args below meth c H locs cells slots Q (F0 m (pc + 3) ls (.int 0 :: rest))) : W p l e R s m args below meth c H locs cells slots Q (F0 m pc ls (.ref (cx_K G k) :: rest)) :=
  vk_getf X.1 X.2.1 (X.2.2.2.2.2.1.2.1.1 k hk).2.1 S.2.2.1 X.2.2.2.1 (X.2.2.2.2.1 _ hlk) (fun _ h => h) hd kk
theorem r_slen (X : cx_ok G p s m args meth c cc nL own ret) (S : st_ok G n I J s H locs) {k : Nat} (hk : k < 14) (hd : decode cc pc = .ok (.arraylength, 1)) (kk : W p l e R s m args below meth c H locs cells slots Q (F0 m (pc + 1) ls (.int (Int32.ofNat (cx_len.getD k 0)) :: rest))) : W p l e R s m args below meth c H locs cells slots Q (F0 m pc ls (.ref (cx_V G k) :: rest)) :=
  va_tlen X.1 X.2.1 (X.2.2.2.2.2.1.2.1.1 k hk).2.2.2 S.2.2.1 rfl hd kk
theorem r_sbyte (X : cx_ok G p s m args meth c cc nL own ret) (S : st_ok G n I J s H locs) {k : Nat} (hk : k < 14) {x : Int32} (hx : ix_in x (cx_len.getD k 0) = true) (hd : decode cc pc = .ok (.baload, 1)) (kk : W p l e R s m args below meth c H locs cells slots Q (F0 m (pc + 1) ls (.int ((cx_byt.getD k []).getD x.toNatClampNeg 0) :: rest))) : W p l e R s m args below meth c H locs cells slots Q (F0 m pc ls (.int x :: .ref (cx_V G k) :: rest)) :=
  va_tb X.1 X.2.1 (X.2.2.2.2.2.1.2.1.1 k hk).2.2.2 S.2.2.1 (ix_vp hx) rfl hd kk
theorem r_scomp (X : cx_ok G p s m args meth c cc nL own ret) (S : st_ok G n I J s H locs) {idx : Nat} (hlk : Cond.fieldLink own idx "java/lang/String" "COMPACT_STRINGS" "Z" ∈ gw_t) (hd : decode cc pc = .ok (.getstatic idx, 3)) (kk : W p l e R s m args below meth c H locs cells slots Q (F0 m (pc + 3) ls (.int 1 :: rest))) : W p l e R s m args below meth c H locs cells slots Q (F0 m pc ls rest) :=
  va_gets X.1 X.2.1 X.2.2.2.2.2.1.2.2.2.1 S.2.2.1 X.2.2.2.1 (X.2.2.2.2.1 _ hlk) (fun _ h => h) hd kk
theorem r_sfmt (X : cx_ok G p s m args meth c cc nL own ret) (S : st_ok G n I J s H locs) {idx : Nat} (hlk : Cond.fieldLink own idx "jdk/internal/util/Preconditions" "SIOOBE_FORMATTER" "Ljava/util/function/BiFunction;" ∈ gw_t) (hd : decode cc pc = .ok (.getstatic idx, 3)) (kk : ∀ v : Value, (v = .null ∨ ∃ a, v = .ref a) → W p l e R s m args below meth c H locs cells slots Q (F0 m (pc + 3) ls (v :: rest))) : W p l e R s m args below meth c H locs cells slots Q (F0 m pc ls rest) := by
  rcases X.2.2.2.2.2.1.2.2.2.2.1 with hz | ⟨t, hz⟩
  · exact va_gets X.1 X.2.1 hz S.2.2.1 X.2.2.2.1 (X.2.2.2.2.1 _ hlk) (fun _ h => h) hd (kk _ (Or.inl rfl))
  · exact va_gets X.1 X.2.1 hz S.2.2.1 X.2.2.2.1 (X.2.2.2.2.1 _ hlk) (fun _ h => h) hd (kk _ (Or.inr ⟨_, rfl⟩))
theorem r_srecv (X : cx_ok G p s m args meth c cc nL own ret) (S : st_ok G n I J s H locs) {k : Nat} (hk : k < 14) : ∃ cell : Cell, H[cx_K G k]? = some cell ∧ cell.vm.isStatics = false ∧ s.vm.findClass "java/lang/String" = some cell.cls :=
  vk_recv X.2.2.2.2.2.1.2.1 hk S.2.2.1
theorem r_nret {ty : FieldType} (X : cx_ok G p s m args meth c cc nL own (some ty)) (S : st_ok G n I J s H locs) {v : Int32} (hv : narrow ty (.int v) = .int v) (hd : decode cc pc = .ok (.ireturn, 1)) : W p l e R s m args below meth c H locs 0 0 (MQ below (ct_qi G n I J v) args s 0 0 (cx_A G)) (F0 m pc ls [.int v]) :=
  r_size (fun h1 h2 => W.zret X.1 X.2.1 X.2.2.2.2.2.2.1 hv (fun t ht hW => ⟨⟨v, (), rfl, rfl, S.wd h1 h2 ht⟩, S.2.2.1.F ht⟩) S.2.2.1.2.2 hd X.2.2.2.2.2.2.2)
/-- what System.arraycopy wants -/
def pz_cp (sp dp k : Int32) (n0 n1 : Nat) : Bool := decide (¬ sp < 0 ∧ ¬ dp < 0 ∧ ¬ k < 0 ∧ sp.toNatClampNeg + k.toNatClampNeg ≤ n0 ∧ dp.toNatClampNeg + k.toNatClampNeg ≤ n1)
theorem ac_w : Cond.native arraycopyName ∈ gw_t ∧ Cond.static arraycopyName ∈ gw_t ∧ Cond.initialized "java/lang/System" ∈ gw_t := ⟨gw_mem 533 (by decide +kernel) (by decide +kernel), gw_mem 532 (by decide +kernel) (by decide +kernel), gw_mem 79 (by decide +kernel) (by decide +kernel)⟩
theorem r_copy (X : cx_ok G p s m args meth c cc nL own ret) (S : st_ok G n I J s H locs) {k0 i0 k1 i1 n0 n1 idx : Nat} (ho0 : ly_ok n k0 i0) (ho1 : ly_ok n k1 i1) (hm0 : mm_m k0 = false) (hm1 : mm_m k1 = false) (hf0 : ∀ f : Nat → Int32, ly_K G k0 i0 f = .inl (cx_c G 0, n0, .inl f)) (hf1 : ∀ f : Nat → Int32, ly_K G k1 i1 f = .inl (cx_c G 0, n1, .inl f)) (hls : ls.size = nL) (hk : Cond.methodLink own idx arraycopyName ∈ gw_t) {sp dp k : Int32} (g : pz_cp sp dp k n0 n1 = true) (hfr : 1 ≤ R.frames) (hlo : (rest.map fun v => v.category).sum + (nativeFrameWords "java/lang/System" "arraycopy" 5 + 11) ≤ R.locals) (hd : decode cc pc = .ok (.invokestatic idx, 3))
    (kk : ∀ (I1 : mm_T) (H1 : Heap) (locs1 : List Loc), I1 = mm_row I k1 i1 (va_cpy (I k0 i0) (I k1 i1) sp.toNatClampNeg dp.toNatClampNeg k.toNatClampNeg) → st_ok G n I1 J s H1 locs1 → W p l e R s m args below meth c H1 locs1 cells slots Q (F0 m (pc + 3) ls rest)) : W p l e R s m args below meth c H locs cells slots Q (F0 m pc ls (.int k :: .int dp :: .ref (cx_b G + ly_loc k1 i1) :: .int sp :: .ref (cx_b G + ly_loc k0 i0) :: rest)) := by
  unfold pz_cp at g
  obtain ⟨g1, g2, g3, g4, g5⟩ := of_decide_eq_true g
  refine va_copyi X.1 X.2.1 (X.2.2.1.trans hls.symm) X.2.2.2.1 (X.2.2.2.2.1 _ hk) (X.2.2.2.2.1 _ ac_w.1) (X.2.2.2.2.1 _ ac_w.2.1) (X.2.2.2.2.1 _ ac_w.2.2) X.2.2.2.2.2.1.1 S.1 gm_D S.2.2.1 (ly_loc k0 i0) (ly_loc k1 i1) 0 0 (by rw [ly_get ho0, hf0]) (by rw [ly_get ho1, hf1]) rfl (ty := .int) rfl rfl g1 g2 g3 g4 g5 (fun _ _ => rfl) hfr hlo hd (fun H1 locs1 hP _ hS => ?_)
  rw [ly_set ho1 (hf1 _)] at hP
  refine kk _ H1 locs1 rfl (st_rowI S hm1 ?_ hS)
  rw [mm_mx_I hm0, mm_mx_I hm1] at hP
  exact hP
end RJ
set_option maxRecDepth 100000 in
set_option maxHeartbeats 4000000 in
theorem w_fill {l : Launch} {G : cx_T} {p : Program} {e : Env} {s : State} {m : MethodId} {args : Array Value} {below : List Frame} {meth : Method} {c : Code} {n k i N : Nat} {I J : mm_T} (X : cx_ok G p s m args meth c cJ7_fill_53178 4 RJ7 none) (ho : ly_ok n k i) (hm : mm_m k = false) (hf : ∀ f : Nat → Int32, ly_K G k i f = .inl (cx_c G 0, N, .inl f)) (hN : N < 2 ^ 31) {v : Int32} : ∀ (cnt j : Nat) {x : Int32} {I1 : mm_T} {H : Heap} {locs : List Loc} {ls : Array Slot}, N ≤ j + cnt → j ≤ N → x = nI j → I1 = mm_row I k i (pz_fill (I k i) j v) → st_ok G n I1 J s H locs → lv_has ls 4 [(0, .ref (cx_b G + ly_loc k i)), (1, .int v), (2, .int x), (3, .int (Int32.ofNat N))] → W p l e ({ frames := 0, cells := 0, slots := 0, locals := 0 }) s m args below meth c H locs 0 0 (MQ below (ct_qv G n (mm_row I k i (pz_fill (I k i) N v)) J) args s 0 0 (cx_A G)) (F0 m 5 ls []) := by
  intro cnt
  induction cnt with
  | zero =>
    intro j x I1 H locs ls h1 h2 ex eI S hl
    have hj : j = N := by omega
    subst hj
    refine lv_iload_n X.1 X.2.1 dJ7_fill_53178_5 rfl (lv_at hl 2 rfl) ?_
    refine lv_iload_n X.1 X.2.1 dJ7_fill_53178_6 rfl (lv_at hl 3 rfl) ?_
    refine lv_icmp_ge (tgt := 20) X.1 X.2.1 dJ7_fill_53178_7 (by decide) (fun cq => ?_) (fun cq => ?_)
    · rw [eI] at S
      exact r_vret X S dJ7_fill_53178_20
    · exact absurd (by rw [ex]; exact nI_le (Nat.le_refl _) hN) cq
  | succ cnt ih =>
    intro j x I1 H locs ls h1 h2 ex eI S hl
    refine lv_iload_n X.1 X.2.1 dJ7_fill_53178_5 rfl (lv_at hl 2 rfl) ?_
    refine lv_iload_n X.1 X.2.1 dJ7_fill_53178_6 rfl (lv_at hl 3 rfl) ?_
    refine lv_icmp_ge (tgt := 20) X.1 X.2.1 dJ7_fill_53178_7 (by decide) (fun cq => ?_) (fun cq => ?_)
    · have hj : j = N := by
        rcases Nat.lt_or_ge j N with q | q
        · exact absurd (show nI N ≤ nI j by rw [← ex]; exact cq) (nI_ge q hN)
        · omega
      subst hj
      rw [eI] at S
      exact r_vret X S dJ7_fill_53178_20
    · have hj : j < N := by
        rcases Nat.lt_or_ge j N with q | q
        · exact q
        · exact absurd (by rw [ex]; exact nI_le q (by omega)) cq
      refine lv_aload_n X.1 X.2.1 dJ7_fill_53178_10 rfl (lv_at hl 0 rfl) ?_
      refine lv_iload_n X.1 X.2.1 dJ7_fill_53178_11 rfl (lv_at hl 2 rfl) ?_
      refine lv_iload_n X.1 X.2.1 dJ7_fill_53178_12 rfl (lv_at hl 1 rfl) ?_
      refine r_iastI X S ho hm hf (by rw [ex]; exact decide_eq_true (vp_in_nI hj hN)) dJ7_fill_53178_13 (fun I2 H locs eI2 S => ?_)
      obtain ⟨x2, ex2⟩ : ∃ y : Int32, y = x + 1 := ⟨_, rfl⟩
      refine lv_iinc (v := x2) (lv' := [(2, .int x2), (0, .ref (cx_b G + ly_loc k i)), (1, .int v), (3, .int (Int32.ofNat N))]) X.1 X.2.1 dJ7_fill_53178_14 hl (k := 2) rfl (by rw [ex2]; rfl) (by decide) rfl (fun ls hl => ?_)
      refine lv_goto (tgt := 5) X.1 X.2.1 dJ7_fill_53178_17 (by decide) ?_
      refine ih (j + 1) (by omega) hj (by rw [ex2, ex]; exact nI_1 j) ?_ S (lv_sub hl [1, 2, 0, 3] rfl)
      rw [eI2, eI]
      unfold mm_up
      rw [mm_row_row, mm_row_at, ex, nI_clamp (by omega), pz_fill_s]
set_option maxRecDepth 100000 in
theorem c_fill {l : Launch} {G : cx_T} {n k i N : Nat} {I J : mm_T} (ho : ly_ok n k i) (hm : mm_m k = false) (hf : ∀ f : Nat → Int32, ly_K G k i f = .inl (cx_c G 0, N, .inl f)) (hN : N < 2 ^ 31) {v : Int32} : ct_m l G n yJ7_fill_53178 cJ7_fill_53178 4 none ({ frames := 0, cells := 0, slots := 0, locals := 0 }) [.ref (cx_b G + ly_loc k i), .int v] I J (ct_qv G n (mm_row I k i (pz_fill (I k i) N v)) J) := by
  refine ct_en (by decide) (Nat.le_of_ble_eq_true rfl) ?_
  intro p e s m args below meth c ls X S hl
  have X : cx_ok G p s m args meth c cJ7_fill_53178 4 RJ7 none := X
  have hl : lv_has ls 4 [(0, .ref (cx_b G + ly_loc k i)), (1, .int v)] := hl
  refine lv_iconst (v := 0) X.1 X.2.1 dJ7_fill_53178_0 (by decide) ?_
  refine lv_istore_n (lv' := [(2, .int 0), (0, .ref (cx_b G + ly_loc k i)), (1, .int v)]) X.1 X.2.1 dJ7_fill_53178_1 rfl hl (by decide) rfl (fun ls hl => ?_)
  refine lv_aload_n X.1 X.2.1 dJ7_fill_53178_2 rfl (lv_at hl 1 rfl) ?_
  refine r_alen X S ho (hf _) rfl dJ7_fill_53178_3 ?_
  refine lv_istore_n (lv' := [(3, .int (Int32.ofNat N)), (2, .int 0), (0, .ref (cx_b G + ly_loc k i)), (1, .int v)]) X.1 X.2.1 dJ7_fill_53178_4 rfl hl (by decide) rfl (fun ls hl => ?_)
  exact w_fill X ho hm hf hN N 0 (by omega) (Nat.zero_le _) nI_0.symm (by rw [pz_fill_0, mm_row_self]) S (lv_sub hl [2, 3, 1, 0] rfl)
theorem mc_J7_150 : Cond.methodLink RJ7 150 arraycopyName ∈ gw_t := gw_mem 531 (by decide +kernel) (by decide +kernel)
theorem mc_X0_75 : Cond.methodLink RX0 75 arraycopyName ∈ gw_t := gw_mem 772 (by decide +kernel) (by decide +kernel)
theorem mc_X8_226 : Cond.methodLink RX8 226 arraycopyName ∈ gw_t := gw_mem 912 (by decide +kernel) (by decide +kernel)
end
section
def f_J6_bitCount_0f7a4 (N : Nat) (p1 : Int32) : Option (Int32) := pz_lt (p1 - (((p1.toUInt32 >>> ((1 : Int32).toUInt32 &&& Int32.toUInt32 31)).toInt32) &&& (1431655765 : Int32))) fun x_1 => pz_lt ((x_1 &&& (858993459 : Int32)) + (((x_1.toUInt32 >>> ((2 : Int32).toUInt32 &&& Int32.toUInt32 31)).toInt32) &&& (858993459 : Int32))) fun x_2 => pz_lt ((x_2 + ((x_2.toUInt32 >>> ((4 : Int32).toUInt32 &&& Int32.toUInt32 31)).toInt32)) &&& (252645135 : Int32)) fun x_3 => pz_lt (x_3 + ((x_3.toUInt32 >>> ((8 : Int32).toUInt32 &&& Int32.toUInt32 31)).toInt32)) fun x_4 => pz_lt (x_4 + ((x_4.toUInt32 >>> ((16 : Int32).toUInt32 &&& Int32.toUInt32 31)).toInt32)) fun x_5 => some (x_5 &&& (63 : Int32))
set_option maxRecDepth 100000 in
set_option maxHeartbeats 4000000 in
theorem c_J6_bitCount_0f7a4 {l : Launch} {G : cx_T} {N n : Nat} {I J : mm_T} {p1 : Int32} {z : Int32} (h : f_J6_bitCount_0f7a4 N p1 = some z) : ct_m l G n yJ6_bitCount_0f7a4 cJ6_bitCount_0f7a4 1 (some .int) ({ frames := 0, cells := 0, slots := 0, locals := 0 }) [.int p1] I J (ct_qi G n I J z) := by
  refine ct_en (by decide) (Nat.le_of_ble_eq_true rfl) ?_
  intro p e s m args below meth c ls X S hl
  have X : cx_ok G p s m args meth c cJ6_bitCount_0f7a4 1 RJ6 (some .int) := X
  have hl : lv_has ls 1 [(0, .int p1)] := hl
  have hn := S.2.2.2
  unfold f_J6_bitCount_0f7a4 at h
  refine lv_iload_n X.1 X.2.1 dJ6_bitCount_0f7a4_0 rfl (lv_at hl 0 rfl) ?_
  refine lv_iload_n X.1 X.2.1 dJ6_bitCount_0f7a4_1 rfl (lv_at hl 0 rfl) ?_
  refine lv_iconst (v := 1) X.1 X.2.1 dJ6_bitCount_0f7a4_2 (by decide) ?_
  refine lv_iushr X.1 X.2.1 dJ6_bitCount_0f7a4_3 rfl ?_
  refine lv_ldcw (v := 1431655765) X.1 X.2.1 X.2.2.2.1 (X.2.2.2.2.1 _ kw_J6_265) dJ6_bitCount_0f7a4_4 ?_
  refine lv_iand X.1 X.2.1 dJ6_bitCount_0f7a4_7 ?_
  refine lv_isub X.1 X.2.1 dJ6_bitCount_0f7a4_8 ?_
  refine lv_topi (fun x_1 ex_1 => ?_)
  have h := pz_lt_e h ex_1
  refine lv_istore_n (lv' := [(0, .int x_1)]) X.1 X.2.1 dJ6_bitCount_0f7a4_9 rfl hl (by decide) rfl (fun ls hl => ?_)
  refine lv_iload_n X.1 X.2.1 dJ6_bitCount_0f7a4_10 rfl (lv_at hl 0 rfl) ?_
  refine lv_ldcw (v := 858993459) X.1 X.2.1 X.2.2.2.1 (X.2.2.2.2.1 _ kw_J6_266) dJ6_bitCount_0f7a4_11 ?_
  refine lv_iand X.1 X.2.1 dJ6_bitCount_0f7a4_14 ?_
  refine lv_iload_n X.1 X.2.1 dJ6_bitCount_0f7a4_15 rfl (lv_at hl 0 rfl) ?_
  refine lv_iconst (v := 2) X.1 X.2.1 dJ6_bitCount_0f7a4_16 (by decide) ?_
  refine lv_iushr X.1 X.2.1 dJ6_bitCount_0f7a4_17 rfl ?_
  refine lv_ldcw (v := 858993459) X.1 X.2.1 X.2.2.2.1 (X.2.2.2.2.1 _ kw_J6_266) dJ6_bitCount_0f7a4_18 ?_
  refine lv_iand X.1 X.2.1 dJ6_bitCount_0f7a4_21 ?_
  refine lv_iadd X.1 X.2.1 dJ6_bitCount_0f7a4_22 ?_
  refine lv_topi (fun x_2 ex_2 => ?_)
  have h := pz_lt_e h ex_2
  refine lv_istore_n (lv' := [(0, .int x_2)]) X.1 X.2.1 dJ6_bitCount_0f7a4_23 rfl hl (by decide) rfl (fun ls hl => ?_)
  refine lv_iload_n X.1 X.2.1 dJ6_bitCount_0f7a4_24 rfl (lv_at hl 0 rfl) ?_
  refine lv_iload_n X.1 X.2.1 dJ6_bitCount_0f7a4_25 rfl (lv_at hl 0 rfl) ?_
  refine lv_iconst (v := 4) X.1 X.2.1 dJ6_bitCount_0f7a4_26 (by decide) ?_
  refine lv_iushr X.1 X.2.1 dJ6_bitCount_0f7a4_27 rfl ?_
  refine lv_iadd X.1 X.2.1 dJ6_bitCount_0f7a4_28 ?_
  refine lv_ldcw (v := 252645135) X.1 X.2.1 X.2.2.2.1 (X.2.2.2.2.1 _ kw_J6_267) dJ6_bitCount_0f7a4_29 ?_
  refine lv_iand X.1 X.2.1 dJ6_bitCount_0f7a4_32 ?_
  refine lv_topi (fun x_3 ex_3 => ?_)
  have h := pz_lt_e h ex_3
  refine lv_istore_n (lv' := [(0, .int x_3)]) X.1 X.2.1 dJ6_bitCount_0f7a4_33 rfl hl (by decide) rfl (fun ls hl => ?_)
  refine lv_iload_n X.1 X.2.1 dJ6_bitCount_0f7a4_34 rfl (lv_at hl 0 rfl) ?_
  refine lv_iload_n X.1 X.2.1 dJ6_bitCount_0f7a4_35 rfl (lv_at hl 0 rfl) ?_
  refine lv_bipush (v := 8) X.1 X.2.1 dJ6_bitCount_0f7a4_36 (by decide) ?_
  refine lv_iushr X.1 X.2.1 dJ6_bitCount_0f7a4_38 rfl ?_
  refine lv_iadd X.1 X.2.1 dJ6_bitCount_0f7a4_39 ?_
  refine lv_topi (fun x_4 ex_4 => ?_)
  have h := pz_lt_e h ex_4
  refine lv_istore_n (lv' := [(0, .int x_4)]) X.1 X.2.1 dJ6_bitCount_0f7a4_40 rfl hl (by decide) rfl (fun ls hl => ?_)
  refine lv_iload_n X.1 X.2.1 dJ6_bitCount_0f7a4_41 rfl (lv_at hl 0 rfl) ?_
  refine lv_iload_n X.1 X.2.1 dJ6_bitCount_0f7a4_42 rfl (lv_at hl 0 rfl) ?_
  refine lv_bipush (v := 16) X.1 X.2.1 dJ6_bitCount_0f7a4_43 (by decide) ?_
  refine lv_iushr X.1 X.2.1 dJ6_bitCount_0f7a4_45 rfl ?_
  refine lv_iadd X.1 X.2.1 dJ6_bitCount_0f7a4_46 ?_
  refine lv_topi (fun x_5 ex_5 => ?_)
  have h := pz_lt_e h ex_5
  refine lv_istore_n (lv' := [(0, .int x_5)]) X.1 X.2.1 dJ6_bitCount_0f7a4_47 rfl hl (by decide) rfl (fun ls hl => ?_)
  refine lv_iload_n X.1 X.2.1 dJ6_bitCount_0f7a4_48 rfl (lv_at hl 0 rfl) ?_
  refine lv_bipush (v := 63) X.1 X.2.1 dJ6_bitCount_0f7a4_49 (by decide) ?_
  refine lv_iand X.1 X.2.1 dJ6_bitCount_0f7a4_51 ?_
  cases h
  exact r_iret X S dJ6_bitCount_0f7a4_52
def f_J0_coder_7d493 (N : Nat) (k0 : Nat) : Option (Int32) := if (1 : Int32) = 0 then (some (1 : Int32)) else (some (0 : Int32))
set_option maxRecDepth 100000 in
set_option maxHeartbeats 4000000 in
theorem c_J0_coder_7d493 {l : Launch} {G : cx_T} {N n : Nat} {I J : mm_T} {k0 : Nat} (hk0 : k0 < 14) {z : Int32} (h : f_J0_coder_7d493 N k0 = some z) : ct_m l G n yJ0_coder_7d493 cJ0_coder_7d493 1 (some .byte) ({ frames := 0, cells := 0, slots := 0, locals := 0 }) [.ref (cx_K G k0)] I J (ct_qi G n I J z) := by
  refine ct_en (by decide) (Nat.le_of_ble_eq_true rfl) ?_
  intro p e s m args below meth c ls X S hl
  have X : cx_ok G p s m args meth c cJ0_coder_7d493 1 RJ0 (some .byte) := X
  have hl : lv_has ls 1 [(0, .ref (cx_K G k0))] := hl
  have hn := S.2.2.2
  unfold f_J0_coder_7d493 at h
  refine r_scomp X S lk_J0_38 dJ0_coder_7d493_0 ?_
  refine lv_if_eq (tgt := 13) X.1 X.2.1 dJ0_coder_7d493_3 (by decide) (fun c_1 => ?_) (fun c_1 => ?_)
  · have h := pz_t c_1 h
    refine lv_iconst (v := 1) X.1 X.2.1 dJ0_coder_7d493_13 (by decide) ?_
    cases h
    exact r_nret (v := 1) X S rfl dJ0_coder_7d493_14
  have h := pz_f c_1 h
  refine lv_aload_n X.1 X.2.1 dJ0_coder_7d493_6 rfl (lv_at hl 0 rfl) ?_
  refine r_scoder X S hk0 lk_J0_15 dJ0_coder_7d493_7 ?_
  refine lv_goto (tgt := 14) X.1 X.2.1 dJ0_coder_7d493_10 (by decide) ?_
  cases h
  exact r_nret (v := 0) X S rfl dJ0_coder_7d493_14
def f_J0_isLatin1_aae02 (N : Nat) (k0 : Nat) : Option (Int32) := if (1 : Int32) = 0 then (some (0 : Int32)) else (if (0 : Int32) = 0 then (some (1 : Int32)) else (some (0 : Int32)))
set_option maxRecDepth 100000 in
set_option maxHeartbeats 4000000 in
theorem c_J0_isLatin1_aae02 {l : Launch} {G : cx_T} {N n : Nat} {I J : mm_T} {k0 : Nat} (hk0 : k0 < 14) {z : Int32} (h : f_J0_isLatin1_aae02 N k0 = some z) : ct_m l G n yJ0_isLatin1_aae02 cJ0_isLatin1_aae02 1 (some .boolean) ({ frames := 0, cells := 0, slots := 0, locals := 0 }) [.ref (cx_K G k0)] I J (ct_qi G n I J z) := by
  refine ct_en (by decide) (Nat.le_of_ble_eq_true rfl) ?_
  intro p e s m args below meth c ls X S hl
  have X : cx_ok G p s m args meth c cJ0_isLatin1_aae02 1 RJ0 (some .boolean) := X
  have hl : lv_has ls 1 [(0, .ref (cx_K G k0))] := hl
  have hn := S.2.2.2
  unfold f_J0_isLatin1_aae02 at h
  refine r_scomp X S lk_J0_38 dJ0_isLatin1_aae02_0 ?_
  refine lv_if_eq (tgt := 17) X.1 X.2.1 dJ0_isLatin1_aae02_3 (by decide) (fun c_1 => ?_) (fun c_1 => ?_)
  · have h := pz_t c_1 h
    refine lv_iconst (v := 0) X.1 X.2.1 dJ0_isLatin1_aae02_17 (by decide) ?_
    cases h
    exact r_zret (v := 0) X S rfl dJ0_isLatin1_aae02_18
  have h := pz_f c_1 h
  refine lv_aload_n X.1 X.2.1 dJ0_isLatin1_aae02_6 rfl (lv_at hl 0 rfl) ?_
  refine r_scoder X S hk0 lk_J0_15 dJ0_isLatin1_aae02_7 ?_
  refine lv_if_ne (tgt := 17) X.1 X.2.1 dJ0_isLatin1_aae02_10 (by decide) (fun c_2 => ?_) (fun c_2 => ?_)
  · have h := pz_f c_2 h
    refine lv_iconst (v := 0) X.1 X.2.1 dJ0_isLatin1_aae02_17 (by decide) ?_
    cases h
    exact r_zret (v := 0) X S rfl dJ0_isLatin1_aae02_18
  have h := pz_t c_2 h
  refine lv_iconst (v := 1) X.1 X.2.1 dJ0_isLatin1_aae02_13 (by decide) ?_
  refine lv_goto (tgt := 18) X.1 X.2.1 dJ0_isLatin1_aae02_14 (by decide) ?_
  cases h
  exact r_zret (v := 1) X S rfl dJ0_isLatin1_aae02_18
def f_J3_checkIndex_8e157 (N : Nat) (p1 : Int32) (p2 : Int32) : Option (Int32) := if p1 < 0 then (none) else (if p1 < p2 then (some p1) else (none))
set_option maxRecDepth 100000 in
set_option maxHeartbeats 4000000 in
theorem c_J3_checkIndex_8e157 {l : Launch} {G : cx_T} {N n : Nat} {I J : mm_T} {p1 : Int32} {p2 : Int32} {v3 : Value} (hv3 : v3 = .null ∨ ∃ a, v3 = .ref a) {z : Int32} (h : f_J3_checkIndex_8e157 N p1 p2 = some z) : ct_m l G n yJ3_checkIndex_8e157 cJ3_checkIndex_8e157 3 (some .int) ({ frames := 1, cells := 0, slots := 0, locals := 60 }) [.int p1, .int p2, v3] I J (ct_qi G n I J z) := by
  refine ct_en (by decide) (by rcases hv3 with rfl | ⟨_, rfl⟩ <;> exact Nat.le_of_ble_eq_true rfl) ?_
  intro p e s m args below meth c ls X S hl
  have X : cx_ok G p s m args meth c cJ3_checkIndex_8e157 3 RJ3 (some .int) := X
  have hl : lv_has ls 3 [(0, .int p1), (1, .int p2), (2, v3)] := hl
  have hn := S.2.2.2
  unfold f_J3_checkIndex_8e157 at h
  refine lv_iload_n X.1 X.2.1 dJ3_checkIndex_8e157_0 rfl (lv_at hl 0 rfl) ?_
  refine lv_if_lt (tgt := 9) X.1 X.2.1 dJ3_checkIndex_8e157_1 (by decide) (fun c_1 => ?_) (fun c_1 => ?_)
  · have h := pz_t c_1 h
    cases h
  have h := pz_f c_1 h
  refine lv_iload_n X.1 X.2.1 dJ3_checkIndex_8e157_4 rfl (lv_at hl 0 rfl) ?_
  refine lv_iload_n X.1 X.2.1 dJ3_checkIndex_8e157_5 rfl (lv_at hl 1 rfl) ?_
  refine lv_icmp_lt (tgt := 16) X.1 X.2.1 dJ3_checkIndex_8e157_6 (by decide) (fun c_2 => ?_) (fun c_2 => ?_)
  · have h := pz_t c_2 h
    refine lv_iload_n X.1 X.2.1 dJ3_checkIndex_8e157_16 rfl (lv_at hl 0 rfl) ?_
    cases h
    exact r_iret X S dJ3_checkIndex_8e157_17
  have h := pz_f c_2 h
  cases h
def f_J0_checkIndex_df160 (N : Nat) (p1 : Int32) (p2 : Int32) : Option (Unit) := pz_bd (f_J3_checkIndex_8e157 N p1 p2) fun q_2 => some ()
set_option maxRecDepth 100000 in
set_option maxHeartbeats 4000000 in
theorem c_J0_checkIndex_df160 {l : Launch} {G : cx_T} {N n : Nat} {I J : mm_T} {p1 : Int32} {p2 : Int32} {z : Unit} (h : f_J0_checkIndex_df160 N p1 p2 = some z) : ct_m l G n yJ0_checkIndex_df160 cJ0_checkIndex_df160 2 none ({ frames := 2, cells := 0, slots := 0, locals := 82 }) [.int p1, .int p2] I J (ct_qv G n I J) := by
  refine ct_en (by decide) (Nat.le_of_ble_eq_true rfl) ?_
  intro p e s m args below meth c ls X S hl
  have X : cx_ok G p s m args meth c cJ0_checkIndex_df160 2 RJ0 none := X
  have hl : lv_has ls 2 [(0, .int p1), (1, .int p2)] := hl
  have hn := S.2.2.2
  unfold f_J0_checkIndex_df160 at h
  refine lv_iload_n X.1 X.2.1 dJ0_checkIndex_df160_0 rfl (lv_at hl 0 rfl) ?_
  refine lv_iload_n X.1 X.2.1 dJ0_checkIndex_df160_1 rfl (lv_at hl 1 rfl) ?_
  refine r_sfmt X S lk_J0_1053 dJ0_checkIndex_df160_2 (fun v_1 hv_1 => ?_)
  obtain ⟨q_2, eq_2, h⟩ := pz_bd_e h
  refine r_Si X S (c_J3_checkIndex_8e157 hv_1 eq_2) gd_J0_1059 ny_J3_checkIndex_8e157 ⟨rfl, rfl⟩ ⟨Nat.le_of_ble_eq_true rfl, Nat.le_of_ble_eq_true rfl⟩ rfl rfl hl.1 (Nat.le_of_ble_eq_true rfl) dJ0_checkIndex_df160_5 (fun H locs S => ?_)
  refine lv_pop X.1 X.2.1 dJ0_checkIndex_df160_8 rfl ?_
  cases h
  exact r_vret X S dJ0_checkIndex_df160_9
def f_J1_charAt_3b067 (N : Nat) (k1 : Nat) (p2 : Int32) : Option (Int32) := pz_bd (f_J0_checkIndex_df160 N p2 (Int32.ofNat (cx_len.getD k1 0))) fun q_1 => pz_gd (ix_in p2 (cx_len.getD k1 0)) <| pz_gd (pz_nc (((((cx_byt.getD k1 []).getD p2.toNatClampNeg 0) &&& (255 : Int32)).toUInt32 % 65536).toInt32)) <| some (((((cx_byt.getD k1 []).getD p2.toNatClampNeg 0) &&& (255 : Int32)).toUInt32 % 65536).toInt32)
set_option maxRecDepth 100000 in
set_option maxHeartbeats 4000000 in
theorem c_J1_charAt_3b067 {l : Launch} {G : cx_T} {N n : Nat} {I J : mm_T} {k1 : Nat} {p2 : Int32} (hk1 : k1 < 14) {z : Int32} (h : f_J1_charAt_3b067 N k1 p2 = some z) : ct_m l G n yJ1_charAt_3b067 cJ1_charAt_3b067 2 (some .char) ({ frames := 3, cells := 0, slots := 0, locals := 103 }) [.ref (cx_V G k1), .int p2] I J (ct_qi G n I J z) := by
  refine ct_en (by decide) (Nat.le_of_ble_eq_true rfl) ?_
  intro p e s m args below meth c ls X S hl
  have X : cx_ok G p s m args meth c cJ1_charAt_3b067 2 RJ1 (some .char) := X
  have hl : lv_has ls 2 [(0, .ref (cx_V G k1)), (1, .int p2)] := hl
  have hn := S.2.2.2
  unfold f_J1_charAt_3b067 at h
  refine lv_iload_n X.1 X.2.1 dJ1_charAt_3b067_0 rfl (lv_at hl 1 rfl) ?_
  refine lv_aload_n X.1 X.2.1 dJ1_charAt_3b067_1 rfl (lv_at hl 0 rfl) ?_
  refine r_slen X S hk1 dJ1_charAt_3b067_2 ?_
  obtain ⟨q_1, eq_1, h⟩ := pz_bd_e h
  refine r_Sv X S (c_J0_checkIndex_df160 eq_1) gd_J1_9 ny_J0_checkIndex_df160 ⟨rfl, rfl⟩ ⟨Nat.le_of_ble_eq_true rfl, Nat.le_of_ble_eq_true rfl⟩ rfl rfl hl.1 (Nat.le_of_ble_eq_true rfl) dJ1_charAt_3b067_3 (fun H locs S => ?_)
  refine lv_aload_n X.1 X.2.1 dJ1_charAt_3b067_6 rfl (lv_at hl 0 rfl) ?_
  refine lv_iload_n X.1 X.2.1 dJ1_charAt_3b067_7 rfl (lv_at hl 1 rfl) ?_
  obtain ⟨g_2, h⟩ := pz_gd_e h
  refine r_sbyte X S hk1 g_2 dJ1_charAt_3b067_8 ?_
  refine lv_sipush (v := 255) X.1 X.2.1 dJ1_charAt_3b067_9 (by decide) ?_
  refine lv_iand X.1 X.2.1 dJ1_charAt_3b067_12 ?_
  refine lv_i2c X.1 X.2.1 dJ1_charAt_3b067_13 rfl ?_
  obtain ⟨g_3, h⟩ := pz_gd_e h
  cases h
  exact r_nret X S (pz_ncn g_3) dJ1_charAt_3b067_14
def f_J0_charAt_5068e (N : Nat) (k0 : Nat) (p1 : Int32) : Option (Int32) := pz_bd (f_J0_isLatin1_aae02 N k0) fun q_1 => if q_1 = 0 then (none) else (pz_bd (f_J1_charAt_3b067 N k0 p1) fun q_3 => pz_gd (pz_nc q_3) <| some q_3)
set_option maxRecDepth 100000 in
set_option maxHeartbeats 4000000 in
theorem c_J0_charAt_5068e {l : Launch} {G : cx_T} {N n : Nat} {I J : mm_T} {k0 : Nat} {p1 : Int32} (hk0 : k0 < 14) {z : Int32} (h : f_J0_charAt_5068e N k0 p1 = some z) : ct_m l G n yJ0_charAt_5068e cJ0_charAt_5068e 2 (some .char) ({ frames := 4, cells := 0, slots := 0, locals := 124 }) [.ref (cx_K G k0), .int p1] I J (ct_qi G n I J z) := by
  refine ct_en (by decide) (Nat.le_of_ble_eq_true rfl) ?_
  intro p e s m args below meth c ls X S hl
  have X : cx_ok G p s m args meth c cJ0_charAt_5068e 2 RJ0 (some .char) := X
  have hl : lv_has ls 2 [(0, .ref (cx_K G k0)), (1, .int p1)] := hl
  have hn := S.2.2.2
  unfold f_J0_charAt_5068e at h
  refine lv_aload_n X.1 X.2.1 dJ0_charAt_5068e_0 rfl (lv_at hl 0 rfl) ?_
  obtain ⟨q_1, eq_1, h⟩ := pz_bd_e h
  refine r_Vi X S (c_J0_isLatin1_aae02 hk0 eq_1) gd_J0_492 ⟨rfl, ny_J0_isLatin1_aae02⟩ ⟨rfl, rfl⟩ ⟨Nat.le_of_ble_eq_true rfl, Nat.le_of_ble_eq_true rfl⟩ (r_srecv X S hk0) rfl rfl hl.1 (Nat.le_of_ble_eq_true rfl) dJ0_charAt_5068e_1 (fun H locs S => ?_)
  refine lv_if_eq (tgt := 16) X.1 X.2.1 dJ0_charAt_5068e_4 (by decide) (fun c_2 => ?_) (fun c_2 => ?_)
  · have h := pz_t c_2 h
    cases h
  have h := pz_f c_2 h
  refine lv_aload_n X.1 X.2.1 dJ0_charAt_5068e_7 rfl (lv_at hl 0 rfl) ?_
  refine r_svalue X S hk0 lk_J0_9 dJ0_charAt_5068e_8 ?_
  refine lv_iload_n X.1 X.2.1 dJ0_charAt_5068e_11 rfl (lv_at hl 1 rfl) ?_
  obtain ⟨q_3, eq_3, h⟩ := pz_bd_e h
  refine r_Si X S (c_J1_charAt_3b067 hk0 eq_3) gd_J0_495 ny_J1_charAt_3b067 ⟨rfl, rfl⟩ ⟨Nat.le_of_ble_eq_true rfl, Nat.le_of_ble_eq_true rfl⟩ rfl rfl hl.1 (Nat.le_of_ble_eq_true rfl) dJ0_charAt_5068e_12 (fun H locs S => ?_)
  obtain ⟨g_4, h⟩ := pz_gd_e h
  cases h
  exact r_nret X S (pz_ncn g_4) dJ0_charAt_5068e_15
def f_J0_length_8abf5 (N : Nat) (k0 : Nat) : Option (Int32) := pz_bd (f_J0_coder_7d493 N k0) fun q_1 => some ((Int32.ofNat (cx_len.getD k0 0)) >>> (q_1 &&& 31))
set_option maxRecDepth 100000 in
set_option maxHeartbeats 4000000 in
theorem c_J0_length_8abf5 {l : Launch} {G : cx_T} {N n : Nat} {I J : mm_T} {k0 : Nat} (hk0 : k0 < 14) {z : Int32} (h : f_J0_length_8abf5 N k0 = some z) : ct_m l G n yJ0_length_8abf5 cJ0_length_8abf5 1 (some .int) ({ frames := 1, cells := 0, slots := 0, locals := 20 }) [.ref (cx_K G k0)] I J (ct_qi G n I J z) := by
  refine ct_en (by decide) (Nat.le_of_ble_eq_true rfl) ?_
  intro p e s m args below meth c ls X S hl
  have X : cx_ok G p s m args meth c cJ0_length_8abf5 1 RJ0 (some .int) := X
  have hl : lv_has ls 1 [(0, .ref (cx_K G k0))] := hl
  have hn := S.2.2.2
  unfold f_J0_length_8abf5 at h
  refine lv_aload_n X.1 X.2.1 dJ0_length_8abf5_0 rfl (lv_at hl 0 rfl) ?_
  refine r_svalue X S hk0 lk_J0_9 dJ0_length_8abf5_1 ?_
  refine r_slen X S hk0 dJ0_length_8abf5_4 ?_
  refine lv_aload_n X.1 X.2.1 dJ0_length_8abf5_5 rfl (lv_at hl 0 rfl) ?_
  obtain ⟨q_1, eq_1, h⟩ := pz_bd_e h
  refine r_Vi X S (c_J0_coder_7d493 hk0 eq_1) gd_J0_335 ⟨rfl, ny_J0_coder_7d493⟩ ⟨rfl, rfl⟩ ⟨Nat.le_of_ble_eq_true rfl, Nat.le_of_ble_eq_true rfl⟩ (r_srecv X S hk0) rfl rfl hl.1 (Nat.le_of_ble_eq_true rfl) dJ0_length_8abf5_6 (fun H locs S => ?_)
  refine lv_ishr X.1 X.2.1 dJ0_length_8abf5_9 ?_
  cases h
  exact r_iret X S dJ0_length_8abf5_10
def f_J1_canEncode_9a6ad (N : Nat) (p1 : Int32) : Option (Int32) := if p1 < 0 then (some (0 : Int32)) else (if (255 : Int32) < p1 then (some (0 : Int32)) else (some (1 : Int32)))
set_option maxRecDepth 100000 in
set_option maxHeartbeats 4000000 in
theorem c_J1_canEncode_9a6ad {l : Launch} {G : cx_T} {N n : Nat} {I J : mm_T} {p1 : Int32} {z : Int32} (h : f_J1_canEncode_9a6ad N p1 = some z) : ct_m l G n yJ1_canEncode_9a6ad cJ1_canEncode_9a6ad 1 (some .boolean) ({ frames := 0, cells := 0, slots := 0, locals := 0 }) [.int p1] I J (ct_qi G n I J z) := by
  refine ct_en (by decide) (Nat.le_of_ble_eq_true rfl) ?_
  intro p e s m args below meth c ls X S hl
  have X : cx_ok G p s m args meth c cJ1_canEncode_9a6ad 1 RJ1 (some .boolean) := X
  have hl : lv_has ls 1 [(0, .int p1)] := hl
  have hn := S.2.2.2
  unfold f_J1_canEncode_9a6ad at h
  refine lv_iload_n X.1 X.2.1 dJ1_canEncode_9a6ad_0 rfl (lv_at hl 0 rfl) ?_
  refine lv_if_lt (tgt := 15) X.1 X.2.1 dJ1_canEncode_9a6ad_1 (by decide) (fun c_1 => ?_) (fun c_1 => ?_)
  · have h := pz_t c_1 h
    refine lv_iconst (v := 0) X.1 X.2.1 dJ1_canEncode_9a6ad_15 (by decide) ?_
    cases h
    exact r_zret (v := 0) X S rfl dJ1_canEncode_9a6ad_16
  have h := pz_f c_1 h
  refine lv_iload_n X.1 X.2.1 dJ1_canEncode_9a6ad_4 rfl (lv_at hl 0 rfl) ?_
  refine lv_sipush (v := 255) X.1 X.2.1 dJ1_canEncode_9a6ad_5 (by decide) ?_
  refine lv_icmp_gt (tgt := 15) X.1 X.2.1 dJ1_canEncode_9a6ad_8 (by decide) (fun c_2 => ?_) (fun c_2 => ?_)
  · have h := pz_t c_2 h
    refine lv_iconst (v := 0) X.1 X.2.1 dJ1_canEncode_9a6ad_15 (by decide) ?_
    cases h
    exact r_zret (v := 0) X S rfl dJ1_canEncode_9a6ad_16
  have h := pz_f c_2 h
  refine lv_iconst (v := 1) X.1 X.2.1 dJ1_canEncode_9a6ad_11 (by decide) ?_
  refine lv_goto (tgt := 16) X.1 X.2.1 dJ1_canEncode_9a6ad_12 (by decide) ?_
  cases h
  exact r_zret (v := 1) X S rfl dJ1_canEncode_9a6ad_16
def f_J1_indexOfChar_4cfef_L7 (N : Nat) (k1 : Nat) (p2 : Int32) (p3 : Int32) (p4 : Int32) : Nat → Int32 → Int32 → Int32 → Option (Int32)
  | 0, _, _, _ => none
  | cnt + 1, a3, a4, a5 => if a3 ≤ a5 then (some (-1 : Int32)) else (pz_gd (ix_in a5 (cx_len.getD k1 0)) <| if ((cx_byt.getD k1 []).getD a5.toNatClampNeg 0) = a4 then (some a5) else (pz_lt (a5 + (1 : Int32)) fun x_5 => f_J1_indexOfChar_4cfef_L7 N k1 p2 p3 p4 cnt a3 a4 x_5))
set_option maxRecDepth 100000 in
set_option maxHeartbeats 4000000 in
theorem w_J1_indexOfChar_4cfef_L7 {l : Launch} {G : cx_T} {p : Program} {e : Env} {s : State} {m : MethodId} {args : Array Value} {below : List Frame} {meth : Method} {c : Code} {N n : Nat} {I J : mm_T} {k1 : Nat} {p2 : Int32} {p3 : Int32} {p4 : Int32} (X : cx_ok G p s m args meth c cJ1_indexOfChar_4cfef 6 RJ1 (some .int)) (hn : 144 ≤ n) (hk1 : k1 < 14) {z : Int32} : ∀ (cnt : Nat) {a3 : Int32} {a4 : Int32} {a5 : Int32} {H : Heap} {locs : List Loc} {ls : Array Slot} , f_J1_indexOfChar_4cfef_L7 N k1 p2 p3 p4 cnt a3 a4 a5 = some z → st_ok G n I J s H locs → lv_has ls 6 [(0, .ref (cx_V G k1)), (3, .int a3), (4, .int a4), (5, .int a5)] → W p l e ({ frames := 0, cells := 0, slots := 0, locals := 0 }) s m args below meth c H locs 0 0 (MQ below (ct_qi G n I J z) args s 0 0 (cx_A G)) (F0 m 7 ls []) := by
  intro cnt
  induction cnt with
  | zero =>
    intro a3 a4 a5 H locs ls h
    rw [f_J1_indexOfChar_4cfef_L7] at h
    cases h
  | succ cnt ih =>
    intro a3 a4 a5 H locs ls h S hl
    rw [f_J1_indexOfChar_4cfef_L7] at h
    refine lv_iload X.1 X.2.1 dJ1_indexOfChar_4cfef_7 (lv_at hl 3 rfl) ?_
    refine lv_iload_n X.1 X.2.1 dJ1_indexOfChar_4cfef_9 rfl (lv_at hl 1 rfl) ?_
    refine lv_icmp_ge (tgt := 31) X.1 X.2.1 dJ1_indexOfChar_4cfef_10 (by decide) (fun c_2 => ?_) (fun c_2 => ?_)
    · have h := pz_t c_2 h
      refine lv_iconst (v := -1) X.1 X.2.1 dJ1_indexOfChar_4cfef_31 (by decide) ?_
      cases h
      exact r_iret X S dJ1_indexOfChar_4cfef_32
    have h := pz_f c_2 h
    refine lv_aload_n X.1 X.2.1 dJ1_indexOfChar_4cfef_13 rfl (lv_at hl 0 rfl) ?_
    refine lv_iload X.1 X.2.1 dJ1_indexOfChar_4cfef_14 (lv_at hl 3 rfl) ?_
    obtain ⟨g_3, h⟩ := pz_gd_e h
    refine r_sbyte X S hk1 g_3 dJ1_indexOfChar_4cfef_16 ?_
    refine lv_iload X.1 X.2.1 dJ1_indexOfChar_4cfef_17 (lv_at hl 2 rfl) ?_
    refine lv_icmp_ne (tgt := 25) X.1 X.2.1 dJ1_indexOfChar_4cfef_19 (by decide) (fun c_4 => ?_) (fun c_4 => ?_)
    · have h := pz_f c_4 h
      obtain ⟨x_5, ex_5⟩ : ∃ y : Int32, y = (a5 + (1 : Int32)) := ⟨_, rfl⟩
      have h := pz_lt_e h ex_5
      refine lv_iinc (v := x_5) (lv' := [(5, .int x_5), (0, .ref (cx_V G k1)), (3, .int a3), (4, .int a4)]) X.1 X.2.1 dJ1_indexOfChar_4cfef_25 hl (k := 3) rfl (by rw [ex_5]; rfl) (by decide) rfl (fun ls hl => ?_)
      refine lv_goto (tgt := 7) X.1 X.2.1 dJ1_indexOfChar_4cfef_28 (by decide) ?_
      exact ih h S (lv_sub hl [1, 2, 3, 0] rfl)
    have h := pz_t c_4 h
    refine lv_iload X.1 X.2.1 dJ1_indexOfChar_4cfef_22 (lv_at hl 3 rfl) ?_
    cases h
    exact r_iret X S dJ1_indexOfChar_4cfef_24
def f_J1_indexOfChar_4cfef (N : Nat) (k1 : Nat) (p2 : Int32) (p3 : Int32) (p4 : Int32) : Option (Int32) := pz_lt (p2.toInt8.toInt32) fun x_1 => f_J1_indexOfChar_4cfef_L7 N k1 p2 p3 p4 N p4 x_1 p3
set_option maxRecDepth 100000 in
set_option maxHeartbeats 4000000 in
theorem c_J1_indexOfChar_4cfef {l : Launch} {G : cx_T} {N n : Nat} {I J : mm_T} {k1 : Nat} {p2 : Int32} {p3 : Int32} {p4 : Int32} (hk1 : k1 < 14) {z : Int32} (h : f_J1_indexOfChar_4cfef N k1 p2 p3 p4 = some z) : ct_m l G n yJ1_indexOfChar_4cfef cJ1_indexOfChar_4cfef 6 (some .int) ({ frames := 0, cells := 0, slots := 0, locals := 0 }) [.ref (cx_V G k1), .int p2, .int p3, .int p4] I J (ct_qi G n I J z) := by
  refine ct_en (by decide) (Nat.le_of_ble_eq_true rfl) ?_
  intro p e s m args below meth c ls X S hl
  have X : cx_ok G p s m args meth c cJ1_indexOfChar_4cfef 6 RJ1 (some .int) := X
  have hl : lv_has ls 6 [(0, .ref (cx_V G k1)), (1, .int p2), (2, .int p3), (3, .int p4)] := hl
  have hn := S.2.2.2
  unfold f_J1_indexOfChar_4cfef at h
  refine lv_iload_n X.1 X.2.1 dJ1_indexOfChar_4cfef_0 rfl (lv_at hl 1 rfl) ?_
  refine lv_i2b X.1 X.2.1 dJ1_indexOfChar_4cfef_1 rfl ?_
  refine lv_topi (fun x_1 ex_1 => ?_)
  have h := pz_lt_e h ex_1
  refine lv_istore (lv' := [(4, .int x_1), (0, .ref (cx_V G k1)), (1, .int p2), (2, .int p3), (3, .int p4)]) X.1 X.2.1 dJ1_indexOfChar_4cfef_2 hl (by decide) rfl (fun ls hl => ?_)
  refine lv_iload_n X.1 X.2.1 dJ1_indexOfChar_4cfef_4 rfl (lv_at hl 3 rfl) ?_
  refine lv_istore (lv' := [(5, .int p3), (4, .int x_1), (0, .ref (cx_V G k1)), (1, .int p2), (2, .int p3), (3, .int p4)]) X.1 X.2.1 dJ1_indexOfChar_4cfef_5 hl (by decide) rfl (fun ls hl => ?_)
  exact w_J1_indexOfChar_4cfef_L7 X hn hk1 N h S (lv_sub hl [2, 5, 1, 0] rfl)
def f_J1_indexOf_4cfef (N : Nat) (k1 : Nat) (p2 : Int32) (p3 : Int32) (p4 : Int32) : Option (Int32) := pz_bd (f_J1_canEncode_9a6ad N p2) fun q_1 => if q_1 = 0 then (some (-1 : Int32)) else (pz_lt (if p3 < (0 : Int32) then (0 : Int32) else p3) fun x_3 => pz_lt (if (Int32.ofNat (cx_len.getD k1 0)) < p4 then (Int32.ofNat (cx_len.getD k1 0)) else p4) fun x_4 => if x_3 < x_4 then (pz_bd (f_J1_indexOfChar_4cfef N k1 p2 x_3 x_4) fun q_6 => some q_6) else (some (-1 : Int32)))
set_option maxRecDepth 100000 in
set_option maxHeartbeats 4000000 in
theorem c_J1_indexOf_4cfef {l : Launch} {G : cx_T} {N n : Nat} {I J : mm_T} {k1 : Nat} {p2 : Int32} {p3 : Int32} {p4 : Int32} (hk1 : k1 < 14) {z : Int32} (h : f_J1_indexOf_4cfef N k1 p2 p3 p4 = some z) : ct_m l G n yJ1_indexOf_4cfef cJ1_indexOf_4cfef 4 (some .int) ({ frames := 1, cells := 0, slots := 0, locals := 60 }) [.ref (cx_V G k1), .int p2, .int p3, .int p4] I J (ct_qi G n I J z) := by
  refine ct_en (by decide) (Nat.le_of_ble_eq_true rfl) ?_
  intro p e s m args below meth c ls X S hl
  have X : cx_ok G p s m args meth c cJ1_indexOf_4cfef 4 RJ1 (some .int) := X
  have hl : lv_has ls 4 [(0, .ref (cx_V G k1)), (1, .int p2), (2, .int p3), (3, .int p4)] := hl
  have hn := S.2.2.2
  unfold f_J1_indexOf_4cfef at h
  refine lv_iload_n X.1 X.2.1 dJ1_indexOf_4cfef_0 rfl (lv_at hl 1 rfl) ?_
  obtain ⟨q_1, eq_1, h⟩ := pz_bd_e h
  refine r_Si X S (c_J1_canEncode_9a6ad eq_1) gd_J1_88 ny_J1_canEncode_9a6ad ⟨rfl, rfl⟩ ⟨Nat.le_of_ble_eq_true rfl, Nat.le_of_ble_eq_true rfl⟩ rfl rfl hl.1 (Nat.le_of_ble_eq_true rfl) dJ1_indexOf_4cfef_1 (fun H locs S => ?_)
  refine lv_if_ne (tgt := 9) X.1 X.2.1 dJ1_indexOf_4cfef_4 (by decide) (fun c_2 => ?_) (fun c_2 => ?_)
  · have h := pz_f c_2 h
    refine lv_iload_n X.1 X.2.1 dJ1_indexOf_4cfef_9 rfl (lv_at hl 2 rfl) ?_
    refine lv_iconst (v := 0) X.1 X.2.1 dJ1_indexOf_4cfef_10 (by decide) ?_
    refine r_max X S (hl.1) mk_J1_92 (Nat.le_of_ble_eq_true rfl) (Nat.le_of_ble_eq_true rfl) dJ1_indexOf_4cfef_11 ?_
    refine lv_topi (fun x_3 ex_3 => ?_)
    have h := pz_lt_e h ex_3
    refine lv_istore_n (lv' := [(2, .int x_3), (0, .ref (cx_V G k1)), (1, .int p2), (3, .int p4)]) X.1 X.2.1 dJ1_indexOf_4cfef_14 rfl hl (by decide) rfl (fun ls hl => ?_)
    refine lv_iload_n X.1 X.2.1 dJ1_indexOf_4cfef_15 rfl (lv_at hl 3 rfl) ?_
    refine lv_aload_n X.1 X.2.1 dJ1_indexOf_4cfef_16 rfl (lv_at hl 1 rfl) ?_
    refine r_slen X S hk1 dJ1_indexOf_4cfef_17 ?_
    refine r_min X S (hl.1) mk_J1_38 (Nat.le_of_ble_eq_true rfl) (Nat.le_of_ble_eq_true rfl) dJ1_indexOf_4cfef_18 ?_
    refine lv_topi (fun x_4 ex_4 => ?_)
    have h := pz_lt_e h ex_4
    refine lv_istore_n (lv' := [(3, .int x_4), (2, .int x_3), (0, .ref (cx_V G k1)), (1, .int p2)]) X.1 X.2.1 dJ1_indexOf_4cfef_21 rfl hl (by decide) rfl (fun ls hl => ?_)
    refine lv_iload_n X.1 X.2.1 dJ1_indexOf_4cfef_22 rfl (lv_at hl 1 rfl) ?_
    refine lv_iload_n X.1 X.2.1 dJ1_indexOf_4cfef_23 rfl (lv_at hl 0 rfl) ?_
    refine lv_icmp_lt (tgt := 29) X.1 X.2.1 dJ1_indexOf_4cfef_24 (by decide) (fun c_5 => ?_) (fun c_5 => ?_)
    · have h := pz_t c_5 h
      refine lv_aload_n X.1 X.2.1 dJ1_indexOf_4cfef_29 rfl (lv_at hl 2 rfl) ?_
      refine lv_iload_n X.1 X.2.1 dJ1_indexOf_4cfef_30 rfl (lv_at hl 3 rfl) ?_
      refine lv_iload_n X.1 X.2.1 dJ1_indexOf_4cfef_31 rfl (lv_at hl 1 rfl) ?_
      refine lv_iload_n X.1 X.2.1 dJ1_indexOf_4cfef_32 rfl (lv_at hl 0 rfl) ?_
      obtain ⟨q_6, eq_6, h⟩ := pz_bd_e h
      refine r_Si X S (c_J1_indexOfChar_4cfef hk1 eq_6) gd_J1_95 ny_J1_indexOfChar_4cfef ⟨rfl, rfl⟩ ⟨Nat.le_of_ble_eq_true rfl, Nat.le_of_ble_eq_true rfl⟩ rfl rfl hl.1 (Nat.le_of_ble_eq_true rfl) dJ1_indexOf_4cfef_33 (fun H locs S => ?_)
      cases h
      exact r_iret X S dJ1_indexOf_4cfef_36
    have h := pz_f c_5 h
    refine lv_iconst (v := -1) X.1 X.2.1 dJ1_indexOf_4cfef_27 (by decide) ?_
    cases h
    exact r_iret X S dJ1_indexOf_4cfef_28
  have h := pz_t c_2 h
  refine lv_iconst (v := -1) X.1 X.2.1 dJ1_indexOf_4cfef_7 (by decide) ?_
  cases h
  exact r_iret X S dJ1_indexOf_4cfef_8
def f_J0_indexOf_7cf53 (N : Nat) (k0 : Nat) (p1 : Int32) (p2 : Int32) : Option (Int32) := pz_bd (f_J0_isLatin1_aae02 N k0) fun q_1 => if q_1 = 0 then (none) else (pz_bd (f_J0_length_8abf5 N k0) fun q_3 => pz_bd (f_J1_indexOf_4cfef N k0 p1 p2 q_3) fun q_4 => some q_4)
set_option maxRecDepth 100000 in
set_option maxHeartbeats 4000000 in
theorem c_J0_indexOf_7cf53 {l : Launch} {G : cx_T} {N n : Nat} {I J : mm_T} {k0 : Nat} {p1 : Int32} {p2 : Int32} (hk0 : k0 < 14) {z : Int32} (h : f_J0_indexOf_7cf53 N k0 p1 p2 = some z) : ct_m l G n yJ0_indexOf_7cf53 cJ0_indexOf_7cf53 3 (some .int) ({ frames := 2, cells := 0, slots := 0, locals := 83 }) [.ref (cx_K G k0), .int p1, .int p2] I J (ct_qi G n I J z) := by
  refine ct_en (by decide) (Nat.le_of_ble_eq_true rfl) ?_
  intro p e s m args below meth c ls X S hl
  have X : cx_ok G p s m args meth c cJ0_indexOf_7cf53 3 RJ0 (some .int) := X
  have hl : lv_has ls 3 [(0, .ref (cx_K G k0)), (1, .int p1), (2, .int p2)] := hl
  have hn := S.2.2.2
  unfold f_J0_indexOf_7cf53 at h
  refine lv_aload_n X.1 X.2.1 dJ0_indexOf_7cf53_0 rfl (lv_at hl 0 rfl) ?_
  obtain ⟨q_1, eq_1, h⟩ := pz_bd_e h
  refine r_Vi X S (c_J0_isLatin1_aae02 hk0 eq_1) gd_J0_492 ⟨rfl, ny_J0_isLatin1_aae02⟩ ⟨rfl, rfl⟩ ⟨Nat.le_of_ble_eq_true rfl, Nat.le_of_ble_eq_true rfl⟩ (r_srecv X S hk0) rfl rfl hl.1 (Nat.le_of_ble_eq_true rfl) dJ0_indexOf_7cf53_1 (fun H locs S => ?_)
  refine lv_if_eq (tgt := 23) X.1 X.2.1 dJ0_indexOf_7cf53_4 (by decide) (fun c_2 => ?_) (fun c_2 => ?_)
  · have h := pz_t c_2 h
    cases h
  have h := pz_f c_2 h
  refine lv_aload_n X.1 X.2.1 dJ0_indexOf_7cf53_7 rfl (lv_at hl 0 rfl) ?_
  refine r_svalue X S hk0 lk_J0_9 dJ0_indexOf_7cf53_8 ?_
  refine lv_iload_n X.1 X.2.1 dJ0_indexOf_7cf53_11 rfl (lv_at hl 1 rfl) ?_
  refine lv_iload_n X.1 X.2.1 dJ0_indexOf_7cf53_12 rfl (lv_at hl 2 rfl) ?_
  refine lv_aload_n X.1 X.2.1 dJ0_indexOf_7cf53_13 rfl (lv_at hl 0 rfl) ?_
  obtain ⟨q_3, eq_3, h⟩ := pz_bd_e h
  refine r_Vi X S (c_J0_length_8abf5 hk0 eq_3) gd_J0_505 ⟨rfl, ny_J0_length_8abf5⟩ ⟨rfl, rfl⟩ ⟨Nat.le_of_ble_eq_true rfl, Nat.le_of_ble_eq_true rfl⟩ (r_srecv X S hk0) rfl rfl hl.1 (Nat.le_of_ble_eq_true rfl) dJ0_indexOf_7cf53_14 (fun H locs S => ?_)
  obtain ⟨q_4, eq_4, h⟩ := pz_bd_e h
  refine r_Si X S (c_J1_indexOf_4cfef hk0 eq_4) gd_J0_637 ny_J1_indexOf_4cfef ⟨rfl, rfl⟩ ⟨Nat.le_of_ble_eq_true rfl, Nat.le_of_ble_eq_true rfl⟩ rfl rfl hl.1 (Nat.le_of_ble_eq_true rfl) dJ0_indexOf_7cf53_17 (fun H locs S => ?_)
  refine lv_goto (tgt := 36) X.1 X.2.1 dJ0_indexOf_7cf53_20 (by decide) ?_
  cases h
  exact r_iret X S dJ0_indexOf_7cf53_36
def f_J0_indexOf_0f7a4 (N : Nat) (k0 : Nat) (p1 : Int32) : Option (Int32) := pz_bd (f_J0_indexOf_7cf53 N k0 p1 (0 : Int32)) fun q_1 => some q_1
set_option maxRecDepth 100000 in
set_option maxHeartbeats 4000000 in
theorem c_J0_indexOf_0f7a4 {l : Launch} {G : cx_T} {N n : Nat} {I J : mm_T} {k0 : Nat} {p1 : Int32} (hk0 : k0 < 14) {z : Int32} (h : f_J0_indexOf_0f7a4 N k0 p1 = some z) : ct_m l G n yJ0_indexOf_0f7a4 cJ0_indexOf_0f7a4 2 (some .int) ({ frames := 3, cells := 0, slots := 0, locals := 105 }) [.ref (cx_K G k0), .int p1] I J (ct_qi G n I J z) := by
  refine ct_en (by decide) (Nat.le_of_ble_eq_true rfl) ?_
  intro p e s m args below meth c ls X S hl
  have X : cx_ok G p s m args meth c cJ0_indexOf_0f7a4 2 RJ0 (some .int) := X
  have hl : lv_has ls 2 [(0, .ref (cx_K G k0)), (1, .int p1)] := hl
  have hn := S.2.2.2
  unfold f_J0_indexOf_0f7a4 at h
  refine lv_aload_n X.1 X.2.1 dJ0_indexOf_0f7a4_0 rfl (lv_at hl 0 rfl) ?_
  refine lv_iload_n X.1 X.2.1 dJ0_indexOf_0f7a4_1 rfl (lv_at hl 1 rfl) ?_
  refine lv_iconst (v := 0) X.1 X.2.1 dJ0_indexOf_0f7a4_2 (by decide) ?_
  obtain ⟨q_1, eq_1, h⟩ := pz_bd_e h
  refine r_Vi X S (c_J0_indexOf_7cf53 hk0 eq_1) gd_J0_633 ⟨rfl, ny_J0_indexOf_7cf53⟩ ⟨rfl, rfl⟩ ⟨Nat.le_of_ble_eq_true rfl, Nat.le_of_ble_eq_true rfl⟩ (r_srecv X S hk0) rfl rfl hl.1 (Nat.le_of_ble_eq_true rfl) dJ0_indexOf_0f7a4_3 (fun H locs S => ?_)
  cases h
  exact r_iret X S dJ0_indexOf_0f7a4_6
end
