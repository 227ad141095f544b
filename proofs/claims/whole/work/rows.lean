section
-- ===== PART A: goes FIRST, ahead of the names: the tables' words, and 'selects' of the private methods out of them =====
/-- a private method of a class that the tables say can be made, by its rows of tables_1 -/
def lw_okq (q : MethodName × Nat) : Prop := (q.1.cls ≠ "java/lang/invoke/MethodHandle" ∧ q.1.cls ≠ "java/lang/invoke/VarHandle") ∧ Cond.instantiable q.1.cls q.2 ∈ tables_1 ∧ Cond.privateMethod q.1 ∈ tables_1 ∧ Cond.instanceMethod q.1 ∈ tables_1
theorem lw_p0 : lw_okq (⟨"WhoSingsNext$Reader", "readToken", "()V"⟩, 11) := ⟨⟨by decide +kernel, by decide +kernel⟩, List.mem_of_getElem? (i := 122) (by decide +kernel), List.mem_of_getElem? (i := 321) (by decide +kernel), List.mem_of_getElem? (i := 322) (by decide +kernel)⟩
theorem lw_p1 : lw_okq (⟨"WhoSingsNext$Reader", "readWord", "()V"⟩, 11) := ⟨⟨by decide +kernel, by decide +kernel⟩, List.mem_of_getElem? (i := 122) (by decide +kernel), List.mem_of_getElem? (i := 328) (by decide +kernel), List.mem_of_getElem? (i := 329) (by decide +kernel)⟩
theorem lw_p2 : lw_okq (⟨"WhoSingsNext$Reader", "spells", "(Ljava/lang/String;)Z"⟩, 11) := ⟨⟨by decide +kernel, by decide +kernel⟩, List.mem_of_getElem? (i := 122) (by decide +kernel), List.mem_of_getElem? (i := 333) (by decide +kernel), List.mem_of_getElem? (i := 334) (by decide +kernel)⟩
theorem lw_p3 : lw_okq (⟨"WhoSingsNext$Reader", "readNumber", "()V"⟩, 11) := ⟨⟨by decide +kernel, by decide +kernel⟩, List.mem_of_getElem? (i := 122) (by decide +kernel), List.mem_of_getElem? (i := 353) (by decide +kernel), List.mem_of_getElem? (i := 354) (by decide +kernel)⟩
theorem lw_p4 : lw_okq (⟨"WhoSingsNext$Reader", "readPart", "(I)V"⟩, 11) := ⟨⟨by decide +kernel, by decide +kernel⟩, List.mem_of_getElem? (i := 122) (by decide +kernel), List.mem_of_getElem? (i := 417) (by decide +kernel), List.mem_of_getElem? (i := 418) (by decide +kernel)⟩
theorem lw_p5 : lw_okq (⟨"WhoSingsNext$Reader", "pass", "(I)V"⟩, 11) := ⟨⟨by decide +kernel, by decide +kernel⟩, List.mem_of_getElem? (i := 122) (by decide +kernel), List.mem_of_getElem? (i := 421) (by decide +kernel), List.mem_of_getElem? (i := 422) (by decide +kernel)⟩
theorem lw_p6 : lw_okq (⟨"WhoSingsNext$Reader", "fail", "()V"⟩, 11) := ⟨⟨by decide +kernel, by decide +kernel⟩, List.mem_of_getElem? (i := 122) (by decide +kernel), List.mem_of_getElem? (i := 425) (by decide +kernel), List.mem_of_getElem? (i := 426) (by decide +kernel)⟩
theorem lw_p7 : lw_okq (⟨"WhoSingsNext$Reader", "readLevel", "(II)V"⟩, 11) := ⟨⟨by decide +kernel, by decide +kernel⟩, List.mem_of_getElem? (i := 122) (by decide +kernel), List.mem_of_getElem? (i := 429) (by decide +kernel), List.mem_of_getElem? (i := 430) (by decide +kernel)⟩
theorem lw_p8 : lw_okq (⟨"WhoSingsNext$Reader", "readOne", "(I)V"⟩, 11) := ⟨⟨by decide +kernel, by decide +kernel⟩, List.mem_of_getElem? (i := 122) (by decide +kernel), List.mem_of_getElem? (i := 433) (by decide +kernel), List.mem_of_getElem? (i := 434) (by decide +kernel)⟩
theorem lw_p9 : lw_okq (⟨"WhoSingsNext$Reader", "emit", "(I)V"⟩, 11) := ⟨⟨by decide +kernel, by decide +kernel⟩, List.mem_of_getElem? (i := 122) (by decide +kernel), List.mem_of_getElem? (i := 437) (by decide +kernel), List.mem_of_getElem? (i := 438) (by decide +kernel)⟩
theorem lw_p10 : lw_okq (⟨"WhoSingsNext$Reader", "readNot", "(I)V"⟩, 11) := ⟨⟨by decide +kernel, by decide +kernel⟩, List.mem_of_getElem? (i := 122) (by decide +kernel), List.mem_of_getElem? (i := 444) (by decide +kernel), List.mem_of_getElem? (i := 445) (by decide +kernel)⟩
theorem lw_p11 : lw_okq (⟨"WhoSingsNext$Reader", "joins", "(I)Z"⟩, 11) := ⟨⟨by decide +kernel, by decide +kernel⟩, List.mem_of_getElem? (i := 122) (by decide +kernel), List.mem_of_getElem? (i := 448) (by decide +kernel), List.mem_of_getElem? (i := 449) (by decide +kernel)⟩
theorem lw_p12 : lw_okq (⟨"WhoSingsNext", "rule", "()LWhoSingsNext$Text;"⟩, 9) := ⟨⟨by decide +kernel, by decide +kernel⟩, List.mem_of_getElem? (i := 21) (by decide +kernel), List.mem_of_getElem? (i := 612) (by decide +kernel), List.mem_of_getElem? (i := 613) (by decide +kernel)⟩
theorem lw_p13 : lw_okq (⟨"WhoSingsNext$Evening", "wouldBeSung", "(I)Z"⟩, 16) := ⟨⟨by decide +kernel, by decide +kernel⟩, List.mem_of_getElem? (i := 167) (by decide +kernel), List.mem_of_getElem? (i := 637) (by decide +kernel), List.mem_of_getElem? (i := 638) (by decide +kernel)⟩
theorem lw_p14 : lw_okq (⟨"WhoSingsNext$Evening", "nameAll", "(III)V"⟩, 16) := ⟨⟨by decide +kernel, by decide +kernel⟩, List.mem_of_getElem? (i := 167) (by decide +kernel), List.mem_of_getElem? (i := 654) (by decide +kernel), List.mem_of_getElem? (i := 655) (by decide +kernel)⟩
theorem lw_p15 : lw_okq (⟨"WhoSingsNext$Evening", "letLeave", "()V"⟩, 16) := ⟨⟨by decide +kernel, by decide +kernel⟩, List.mem_of_getElem? (i := 167) (by decide +kernel), List.mem_of_getElem? (i := 676) (by decide +kernel), List.mem_of_getElem? (i := 677) (by decide +kernel)⟩
def lw_privs_1 : List (MethodName × Nat) := [(⟨"WhoSingsNext$Reader", "readToken", "()V"⟩, 11), (⟨"WhoSingsNext$Reader", "readWord", "()V"⟩, 11), (⟨"WhoSingsNext$Reader", "spells", "(Ljava/lang/String;)Z"⟩, 11), (⟨"WhoSingsNext$Reader", "readNumber", "()V"⟩, 11), (⟨"WhoSingsNext$Reader", "readPart", "(I)V"⟩, 11), (⟨"WhoSingsNext$Reader", "pass", "(I)V"⟩, 11), (⟨"WhoSingsNext$Reader", "fail", "()V"⟩, 11), (⟨"WhoSingsNext$Reader", "readLevel", "(II)V"⟩, 11), (⟨"WhoSingsNext$Reader", "readOne", "(I)V"⟩, 11), (⟨"WhoSingsNext$Reader", "emit", "(I)V"⟩, 11), (⟨"WhoSingsNext$Reader", "readNot", "(I)V"⟩, 11), (⟨"WhoSingsNext$Reader", "joins", "(I)Z"⟩, 11), (⟨"WhoSingsNext", "rule", "()LWhoSingsNext$Text;"⟩, 9), (⟨"WhoSingsNext$Evening", "wouldBeSung", "(I)Z"⟩, 16), (⟨"WhoSingsNext$Evening", "nameAll", "(III)V"⟩, 16), (⟨"WhoSingsNext$Evening", "letLeave", "()V"⟩, 16)]
theorem lw_r1 : ∀ q ∈ lw_privs_1, lw_okq q := List.forall_mem_cons.mpr ⟨lw_p0, List.forall_mem_cons.mpr ⟨lw_p1, List.forall_mem_cons.mpr ⟨lw_p2, List.forall_mem_cons.mpr ⟨lw_p3, List.forall_mem_cons.mpr ⟨lw_p4, List.forall_mem_cons.mpr ⟨lw_p5, List.forall_mem_cons.mpr ⟨lw_p6, List.forall_mem_cons.mpr ⟨lw_p7, List.forall_mem_cons.mpr ⟨lw_p8, List.forall_mem_cons.mpr ⟨lw_p9, List.forall_mem_cons.mpr ⟨lw_p10, List.forall_mem_cons.mpr ⟨lw_p11, List.forall_mem_cons.mpr ⟨lw_p12, List.forall_mem_cons.mpr ⟨lw_p13, List.forall_mem_cons.mpr ⟨lw_p14, List.forall_mem_cons.mpr ⟨lw_p15, fun _ h => absurd h List.not_mem_nil⟩⟩⟩⟩⟩⟩⟩⟩⟩⟩⟩⟩⟩⟩⟩⟩
theorem lw_p16 : lw_okq (⟨"WhoSingsNext$Evening", "rowAsDigits", "()I"⟩, 16) := ⟨⟨by decide +kernel, by decide +kernel⟩, List.mem_of_getElem? (i := 167) (by decide +kernel), List.mem_of_getElem? (i := 684) (by decide +kernel), List.mem_of_getElem? (i := 685) (by decide +kernel)⟩
theorem lw_p17 : lw_okq (⟨"WhoSingsNext$Search", "note", "(ILWhoSingsNext$Evening;I)V"⟩, 7) := ⟨⟨by decide +kernel, by decide +kernel⟩, List.mem_of_getElem? (i := 231) (by decide +kernel), List.mem_of_getElem? (i := 697) (by decide +kernel), List.mem_of_getElem? (i := 698) (by decide +kernel)⟩
theorem lw_p18 : lw_okq (⟨"WhoSingsNext$Search", "goOn", "(II)V"⟩, 7) := ⟨⟨by decide +kernel, by decide +kernel⟩, List.mem_of_getElem? (i := 231) (by decide +kernel), List.mem_of_getElem? (i := 701) (by decide +kernel), List.mem_of_getElem? (i := 702) (by decide +kernel)⟩
theorem lw_p19 : lw_okq (⟨"WhoSingsNext$Search", "losesFewer", "(LWhoSingsNext$Evening;)Z"⟩, 7) := ⟨⟨by decide +kernel, by decide +kernel⟩, List.mem_of_getElem? (i := 231) (by decide +kernel), List.mem_of_getElem? (i := 712) (by decide +kernel), List.mem_of_getElem? (i := 713) (by decide +kernel)⟩
theorem lw_p20 : lw_okq (⟨"WhoSingsNext", "runDesk", "(LWhoSingsNext$Text;I)V"⟩, 9) := ⟨⟨by decide +kernel, by decide +kernel⟩, List.mem_of_getElem? (i := 21) (by decide +kernel), List.mem_of_getElem? (i := 724) (by decide +kernel), List.mem_of_getElem? (i := 725) (by decide +kernel)⟩
theorem lw_p21 : lw_okq (⟨"WhoSingsNext$Evening", "firstByDesk", "()I"⟩, 16) := ⟨⟨by decide +kernel, by decide +kernel⟩, List.mem_of_getElem? (i := 167) (by decide +kernel), List.mem_of_getElem? (i := 736) (by decide +kernel), List.mem_of_getElem? (i := 737) (by decide +kernel)⟩
theorem lw_p22 : lw_okq (⟨"WhoSingsNext", "judged", "(LWhoSingsNext$Sheet;LWhoSingsNext$Text;)I"⟩, 9) := ⟨⟨by decide +kernel, by decide +kernel⟩, List.mem_of_getElem? (i := 21) (by decide +kernel), List.mem_of_getElem? (i := 768) (by decide +kernel), List.mem_of_getElem? (i := 769) (by decide +kernel)⟩
theorem lw_p23 : lw_okq (⟨"WhoSingsNext$Evening", "uncalled", "(I)I"⟩, 16) := ⟨⟨by decide +kernel, by decide +kernel⟩, List.mem_of_getElem? (i := 167) (by decide +kernel), List.mem_of_getElem? (i := 789) (by decide +kernel), List.mem_of_getElem? (i := 790) (by decide +kernel)⟩
theorem lw_p24 : lw_okq (⟨"WhoSingsNextModel", "spell", "(IIIIIIIII)V"⟩, 61) := ⟨⟨by decide +kernel, by decide +kernel⟩, List.mem_of_getElem? (i := 863) (by decide +kernel), List.mem_of_getElem? (i := 869) (by decide +kernel), List.mem_of_getElem? (i := 870) (by decide +kernel)⟩
theorem lw_p25 : lw_okq (⟨"WhoSingsNextModel", "isOne", "(I)Z"⟩, 61) := ⟨⟨by decide +kernel, by decide +kernel⟩, List.mem_of_getElem? (i := 863) (by decide +kernel), List.mem_of_getElem? (i := 1072) (by decide +kernel), List.mem_of_getElem? (i := 1073) (by decide +kernel)⟩
theorem lw_p26 : lw_okq (⟨"WhoSingsNextModel", "isSlip", "(I)Z"⟩, 61) := ⟨⟨by decide +kernel, by decide +kernel⟩, List.mem_of_getElem? (i := 863) (by decide +kernel), List.mem_of_getElem? (i := 1083) (by decide +kernel), List.mem_of_getElem? (i := 1084) (by decide +kernel)⟩
theorem lw_p27 : lw_okq (⟨"WhoSingsNextModel", "read", "(II)I"⟩, 61) := ⟨⟨by decide +kernel, by decide +kernel⟩, List.mem_of_getElem? (i := 863) (by decide +kernel), List.mem_of_getElem? (i := 1103) (by decide +kernel), List.mem_of_getElem? (i := 1104) (by decide +kernel)⟩
theorem lw_p28 : lw_okq (⟨"WhoSingsNextModel", "next", "()V"⟩, 61) := ⟨⟨by decide +kernel, by decide +kernel⟩, List.mem_of_getElem? (i := 863) (by decide +kernel), List.mem_of_getElem? (i := 1107) (by decide +kernel), List.mem_of_getElem? (i := 1108) (by decide +kernel)⟩
theorem lw_p29 : lw_okq (⟨"WhoSingsNextModel", "byteAt", "(I)I"⟩, 61) := ⟨⟨by decide +kernel, by decide +kernel⟩, List.mem_of_getElem? (i := 863) (by decide +kernel), List.mem_of_getElem? (i := 1111) (by decide +kernel), List.mem_of_getElem? (i := 1112) (by decide +kernel)⟩
theorem lw_p30 : lw_okq (⟨"WhoSingsNextModel", "isWord", "(IIIIIIII)Z"⟩, 61) := ⟨⟨by decide +kernel, by decide +kernel⟩, List.mem_of_getElem? (i := 863) (by decide +kernel), List.mem_of_getElem? (i := 1119) (by decide +kernel), List.mem_of_getElem? (i := 1120) (by decide +kernel)⟩
theorem lw_p31 : lw_okq (⟨"WhoSingsNextModel", "isLetter", "(II)Z"⟩, 61) := ⟨⟨by decide +kernel, by decide +kernel⟩, List.mem_of_getElem? (i := 863) (by decide +kernel), List.mem_of_getElem? (i := 1123) (by decide +kernel), List.mem_of_getElem? (i := 1124) (by decide +kernel)⟩
def lw_privs_2 : List (MethodName × Nat) := [(⟨"WhoSingsNext$Evening", "rowAsDigits", "()I"⟩, 16), (⟨"WhoSingsNext$Search", "note", "(ILWhoSingsNext$Evening;I)V"⟩, 7), (⟨"WhoSingsNext$Search", "goOn", "(II)V"⟩, 7), (⟨"WhoSingsNext$Search", "losesFewer", "(LWhoSingsNext$Evening;)Z"⟩, 7), (⟨"WhoSingsNext", "runDesk", "(LWhoSingsNext$Text;I)V"⟩, 9), (⟨"WhoSingsNext$Evening", "firstByDesk", "()I"⟩, 16), (⟨"WhoSingsNext", "judged", "(LWhoSingsNext$Sheet;LWhoSingsNext$Text;)I"⟩, 9), (⟨"WhoSingsNext$Evening", "uncalled", "(I)I"⟩, 16), (⟨"WhoSingsNextModel", "spell", "(IIIIIIIII)V"⟩, 61), (⟨"WhoSingsNextModel", "isOne", "(I)Z"⟩, 61), (⟨"WhoSingsNextModel", "isSlip", "(I)Z"⟩, 61), (⟨"WhoSingsNextModel", "read", "(II)I"⟩, 61), (⟨"WhoSingsNextModel", "next", "()V"⟩, 61), (⟨"WhoSingsNextModel", "byteAt", "(I)I"⟩, 61), (⟨"WhoSingsNextModel", "isWord", "(IIIIIIII)Z"⟩, 61), (⟨"WhoSingsNextModel", "isLetter", "(II)Z"⟩, 61)]
theorem lw_r2 : ∀ q ∈ lw_privs_2, lw_okq q := List.forall_mem_cons.mpr ⟨lw_p16, List.forall_mem_cons.mpr ⟨lw_p17, List.forall_mem_cons.mpr ⟨lw_p18, List.forall_mem_cons.mpr ⟨lw_p19, List.forall_mem_cons.mpr ⟨lw_p20, List.forall_mem_cons.mpr ⟨lw_p21, List.forall_mem_cons.mpr ⟨lw_p22, List.forall_mem_cons.mpr ⟨lw_p23, List.forall_mem_cons.mpr ⟨lw_p24, List.forall_mem_cons.mpr ⟨lw_p25, List.forall_mem_cons.mpr ⟨lw_p26, List.forall_mem_cons.mpr ⟨lw_p27, List.forall_mem_cons.mpr ⟨lw_p28, List.forall_mem_cons.mpr ⟨lw_p29, List.forall_mem_cons.mpr ⟨lw_p30, List.forall_mem_cons.mpr ⟨lw_p31, fun _ h => absurd h List.not_mem_nil⟩⟩⟩⟩⟩⟩⟩⟩⟩⟩⟩⟩⟩⟩⟩⟩
theorem lw_p32 : lw_okq (⟨"WhoSingsNextModel", "part", "(Z)I"⟩, 61) := ⟨⟨by decide +kernel, by decide +kernel⟩, List.mem_of_getElem? (i := 863) (by decide +kernel), List.mem_of_getElem? (i := 1127) (by decide +kernel), List.mem_of_getElem? (i := 1128) (by decide +kernel)⟩
theorem lw_p33 : lw_okq (⟨"WhoSingsNextModel", "fail", "()V"⟩, 61) := ⟨⟨by decide +kernel, by decide +kernel⟩, List.mem_of_getElem? (i := 863) (by decide +kernel), List.mem_of_getElem? (i := 1131) (by decide +kernel), List.mem_of_getElem? (i := 1132) (by decide +kernel)⟩
theorem lw_p34 : lw_okq (⟨"WhoSingsNextModel", "either", "()I"⟩, 61) := ⟨⟨by decide +kernel, by decide +kernel⟩, List.mem_of_getElem? (i := 863) (by decide +kernel), List.mem_of_getElem? (i := 1135) (by decide +kernel), List.mem_of_getElem? (i := 1136) (by decide +kernel)⟩
theorem lw_p35 : lw_okq (⟨"WhoSingsNextModel", "both", "()I"⟩, 61) := ⟨⟨by decide +kernel, by decide +kernel⟩, List.mem_of_getElem? (i := 863) (by decide +kernel), List.mem_of_getElem? (i := 1139) (by decide +kernel), List.mem_of_getElem? (i := 1140) (by decide +kernel)⟩
theorem lw_p36 : lw_okq (⟨"WhoSingsNextModel", "not", "()I"⟩, 61) := ⟨⟨by decide +kernel, by decide +kernel⟩, List.mem_of_getElem? (i := 863) (by decide +kernel), List.mem_of_getElem? (i := 1143) (by decide +kernel), List.mem_of_getElem? (i := 1144) (by decide +kernel)⟩
theorem lw_p37 : lw_okq (⟨"WhoSingsNextModel", "opens", "()Z"⟩, 61) := ⟨⟨by decide +kernel, by decide +kernel⟩, List.mem_of_getElem? (i := 863) (by decide +kernel), List.mem_of_getElem? (i := 1147) (by decide +kernel), List.mem_of_getElem? (i := 1148) (by decide +kernel)⟩
theorem lw_p38 : lw_okq (⟨"WhoSingsNextModel", "added", "()I"⟩, 61) := ⟨⟨by decide +kernel, by decide +kernel⟩, List.mem_of_getElem? (i := 863) (by decide +kernel), List.mem_of_getElem? (i := 1151) (by decide +kernel), List.mem_of_getElem? (i := 1152) (by decide +kernel)⟩
theorem lw_p39 : lw_okq (⟨"WhoSingsNextModel", "term", "()I"⟩, 61) := ⟨⟨by decide +kernel, by decide +kernel⟩, List.mem_of_getElem? (i := 863) (by decide +kernel), List.mem_of_getElem? (i := 1155) (by decide +kernel), List.mem_of_getElem? (i := 1156) (by decide +kernel)⟩
theorem lw_p40 : lw_okq (⟨"WhoSingsNextModel", "atom", "()I"⟩, 61) := ⟨⟨by decide +kernel, by decide +kernel⟩, List.mem_of_getElem? (i := 863) (by decide +kernel), List.mem_of_getElem? (i := 1159) (by decide +kernel), List.mem_of_getElem? (i := 1160) (by decide +kernel)⟩
theorem lw_p41 : lw_okq (⟨"WhoSingsNextModel", "isSign", "(I)Z"⟩, 61) := ⟨⟨by decide +kernel, by decide +kernel⟩, List.mem_of_getElem? (i := 863) (by decide +kernel), List.mem_of_getElem? (i := 1163) (by decide +kernel), List.mem_of_getElem? (i := 1164) (by decide +kernel)⟩
theorem lw_p42 : lw_okq (⟨"WhoSingsNextModel", "name", "()I"⟩, 61) := ⟨⟨by decide +kernel, by decide +kernel⟩, List.mem_of_getElem? (i := 863) (by decide +kernel), List.mem_of_getElem? (i := 1167) (by decide +kernel), List.mem_of_getElem? (i := 1168) (by decide +kernel)⟩
theorem lw_p43 : lw_okq (⟨"WhoSingsNextModel", "isRow", "(I)Z"⟩, 61) := ⟨⟨by decide +kernel, by decide +kernel⟩, List.mem_of_getElem? (i := 863) (by decide +kernel), List.mem_of_getElem? (i := 1181) (by decide +kernel), List.mem_of_getElem? (i := 1182) (by decide +kernel)⟩
theorem lw_p44 : lw_okq (⟨"WhoSingsNextModel", "goes", "(I)V"⟩, 61) := ⟨⟨by decide +kernel, by decide +kernel⟩, List.mem_of_getElem? (i := 863) (by decide +kernel), List.mem_of_getElem? (i := 1185) (by decide +kernel), List.mem_of_getElem? (i := 1186) (by decide +kernel)⟩
theorem lw_p45 : lw_okq (⟨"WhoSingsNextModel", "begins", "()V"⟩, 61) := ⟨⟨by decide +kernel, by decide +kernel⟩, List.mem_of_getElem? (i := 863) (by decide +kernel), List.mem_of_getElem? (i := 1189) (by decide +kernel), List.mem_of_getElem? (i := 1190) (by decide +kernel)⟩
theorem lw_p46 : lw_okq (⟨"WhoSingsNextModel", "calls", "(I)V"⟩, 61) := ⟨⟨by decide +kernel, by decide +kernel⟩, List.mem_of_getElem? (i := 863) (by decide +kernel), List.mem_of_getElem? (i := 1196) (by decide +kernel), List.mem_of_getElem? (i := 1197) (by decide +kernel)⟩
theorem lw_p47 : lw_okq (⟨"WhoSingsNextModel", "canSing", "(I)Z"⟩, 61) := ⟨⟨by decide +kernel, by decide +kernel⟩, List.mem_of_getElem? (i := 863) (by decide +kernel), List.mem_of_getElem? (i := 1200) (by decide +kernel), List.mem_of_getElem? (i := 1201) (by decide +kernel)⟩
def lw_privs_3 : List (MethodName × Nat) := [(⟨"WhoSingsNextModel", "part", "(Z)I"⟩, 61), (⟨"WhoSingsNextModel", "fail", "()V"⟩, 61), (⟨"WhoSingsNextModel", "either", "()I"⟩, 61), (⟨"WhoSingsNextModel", "both", "()I"⟩, 61), (⟨"WhoSingsNextModel", "not", "()I"⟩, 61), (⟨"WhoSingsNextModel", "opens", "()Z"⟩, 61), (⟨"WhoSingsNextModel", "added", "()I"⟩, 61), (⟨"WhoSingsNextModel", "term", "()I"⟩, 61), (⟨"WhoSingsNextModel", "atom", "()I"⟩, 61), (⟨"WhoSingsNextModel", "isSign", "(I)Z"⟩, 61), (⟨"WhoSingsNextModel", "name", "()I"⟩, 61), (⟨"WhoSingsNextModel", "isRow", "(I)Z"⟩, 61), (⟨"WhoSingsNextModel", "goes", "(I)V"⟩, 61), (⟨"WhoSingsNextModel", "begins", "()V"⟩, 61), (⟨"WhoSingsNextModel", "calls", "(I)V"⟩, 61), (⟨"WhoSingsNextModel", "canSing", "(I)Z"⟩, 61)]
theorem lw_r3 : ∀ q ∈ lw_privs_3, lw_okq q := List.forall_mem_cons.mpr ⟨lw_p32, List.forall_mem_cons.mpr ⟨lw_p33, List.forall_mem_cons.mpr ⟨lw_p34, List.forall_mem_cons.mpr ⟨lw_p35, List.forall_mem_cons.mpr ⟨lw_p36, List.forall_mem_cons.mpr ⟨lw_p37, List.forall_mem_cons.mpr ⟨lw_p38, List.forall_mem_cons.mpr ⟨lw_p39, List.forall_mem_cons.mpr ⟨lw_p40, List.forall_mem_cons.mpr ⟨lw_p41, List.forall_mem_cons.mpr ⟨lw_p42, List.forall_mem_cons.mpr ⟨lw_p43, List.forall_mem_cons.mpr ⟨lw_p44, List.forall_mem_cons.mpr ⟨lw_p45, List.forall_mem_cons.mpr ⟨lw_p46, List.forall_mem_cons.mpr ⟨lw_p47, fun _ h => absurd h List.not_mem_nil⟩⟩⟩⟩⟩⟩⟩⟩⟩⟩⟩⟩⟩⟩⟩⟩
theorem lw_p48 : lw_okq (⟨"WhoSingsNextModel", "moves", "(II)I"⟩, 61) := ⟨⟨by decide +kernel, by decide +kernel⟩, List.mem_of_getElem? (i := 863) (by decide +kernel), List.mem_of_getElem? (i := 1204) (by decide +kernel), List.mem_of_getElem? (i := 1205) (by decide +kernel)⟩
theorem lw_p49 : lw_okq (⟨"WhoSingsNextModel", "thirst", "(II)I"⟩, 61) := ⟨⟨by decide +kernel, by decide +kernel⟩, List.mem_of_getElem? (i := 863) (by decide +kernel), List.mem_of_getElem? (i := 1214) (by decide +kernel), List.mem_of_getElem? (i := 1215) (by decide +kernel)⟩
theorem lw_p50 : lw_okq (⟨"WhoSingsNextModel", "says", "(IIII)I"⟩, 61) := ⟨⟨by decide +kernel, by decide +kernel⟩, List.mem_of_getElem? (i := 863) (by decide +kernel), List.mem_of_getElem? (i := 1218) (by decide +kernel), List.mem_of_getElem? (i := 1219) (by decide +kernel)⟩
theorem lw_p51 : lw_okq (⟨"WhoSingsNextModel", "tells", "(I)I"⟩, 61) := ⟨⟨by decide +kernel, by decide +kernel⟩, List.mem_of_getElem? (i := 863) (by decide +kernel), List.mem_of_getElem? (i := 1222) (by decide +kernel), List.mem_of_getElem? (i := 1223) (by decide +kernel)⟩
theorem lw_p52 : lw_okq (⟨"WhoSingsNextModel", "leftMany", "()I"⟩, 61) := ⟨⟨by decide +kernel, by decide +kernel⟩, List.mem_of_getElem? (i := 863) (by decide +kernel), List.mem_of_getElem? (i := 1226) (by decide +kernel), List.mem_of_getElem? (i := 1227) (by decide +kernel)⟩
theorem lw_p53 : lw_okq (⟨"WhoSingsNextModel", "rows", "(III)V"⟩, 61) := ⟨⟨by decide +kernel, by decide +kernel⟩, List.mem_of_getElem? (i := 863) (by decide +kernel), List.mem_of_getElem? (i := 1239) (by decide +kernel), List.mem_of_getElem? (i := 1240) (by decide +kernel)⟩
theorem lw_p54 : lw_okq (⟨"WhoSingsNextModel", "isBetter", "(I)Z"⟩, 61) := ⟨⟨by decide +kernel, by decide +kernel⟩, List.mem_of_getElem? (i := 863) (by decide +kernel), List.mem_of_getElem? (i := 1243) (by decide +kernel), List.mem_of_getElem? (i := 1244) (by decide +kernel)⟩
theorem lw_p55 : lw_okq (⟨"WhoSingsNextModel", "lays", "(I)V"⟩, 61) := ⟨⟨by decide +kernel, by decide +kernel⟩, List.mem_of_getElem? (i := 863) (by decide +kernel), List.mem_of_getElem? (i := 1247) (by decide +kernel), List.mem_of_getElem? (i := 1248) (by decide +kernel)⟩
theorem lw_p56 : lw_okq (⟨"WhoSingsNextModel", "laysBack", "(I)V"⟩, 61) := ⟨⟨by decide +kernel, by decide +kernel⟩, List.mem_of_getElem? (i := 863) (by decide +kernel), List.mem_of_getElem? (i := 1251) (by decide +kernel), List.mem_of_getElem? (i := 1252) (by decide +kernel)⟩
theorem lw_p57 : lw_okq (⟨"WhoSingsNextModel", "desks", "(I)V"⟩, 61) := ⟨⟨by decide +kernel, by decide +kernel⟩, List.mem_of_getElem? (i := 863) (by decide +kernel), List.mem_of_getElem? (i := 1259) (by decide +kernel), List.mem_of_getElem? (i := 1260) (by decide +kernel)⟩
theorem lw_p58 : lw_okq (⟨"WhoSingsNextModel", "goesOn", "(I)V"⟩, 61) := ⟨⟨by decide +kernel, by decide +kernel⟩, List.mem_of_getElem? (i := 863) (by decide +kernel), List.mem_of_getElem? (i := 1263) (by decide +kernel), List.mem_of_getElem? (i := 1264) (by decide +kernel)⟩
theorem lw_p59 : lw_okq (⟨"WhoSingsNextModel", "deskCalls", "(I)I"⟩, 61) := ⟨⟨by decide +kernel, by decide +kernel⟩, List.mem_of_getElem? (i := 863) (by decide +kernel), List.mem_of_getElem? (i := 1267) (by decide +kernel), List.mem_of_getElem? (i := 1268) (by decide +kernel)⟩
theorem lw_p60 : lw_okq (⟨"WhoSingsNextModel", "tellBad", "(I)I"⟩, 61) := ⟨⟨by decide +kernel, by decide +kernel⟩, List.mem_of_getElem? (i := 863) (by decide +kernel), List.mem_of_getElem? (i := 1291) (by decide +kernel), List.mem_of_getElem? (i := 1292) (by decide +kernel)⟩
theorem lw_p61 : lw_okq (⟨"WhoSingsNextModel", "wrongAt", "(I)I"⟩, 61) := ⟨⟨by decide +kernel, by decide +kernel⟩, List.mem_of_getElem? (i := 863) (by decide +kernel), List.mem_of_getElem? (i := 1298) (by decide +kernel), List.mem_of_getElem? (i := 1299) (by decide +kernel)⟩
theorem lw_p62 : lw_okq (⟨"WhoSingsNextModel", "draws", "(I)V"⟩, 61) := ⟨⟨by decide +kernel, by decide +kernel⟩, List.mem_of_getElem? (i := 863) (by decide +kernel), List.mem_of_getElem? (i := 1314) (by decide +kernel), List.mem_of_getElem? (i := 1315) (by decide +kernel)⟩
def lw_privs_4 : List (MethodName × Nat) := [(⟨"WhoSingsNextModel", "moves", "(II)I"⟩, 61), (⟨"WhoSingsNextModel", "thirst", "(II)I"⟩, 61), (⟨"WhoSingsNextModel", "says", "(IIII)I"⟩, 61), (⟨"WhoSingsNextModel", "tells", "(I)I"⟩, 61), (⟨"WhoSingsNextModel", "leftMany", "()I"⟩, 61), (⟨"WhoSingsNextModel", "rows", "(III)V"⟩, 61), (⟨"WhoSingsNextModel", "isBetter", "(I)Z"⟩, 61), (⟨"WhoSingsNextModel", "lays", "(I)V"⟩, 61), (⟨"WhoSingsNextModel", "laysBack", "(I)V"⟩, 61), (⟨"WhoSingsNextModel", "desks", "(I)V"⟩, 61), (⟨"WhoSingsNextModel", "goesOn", "(I)V"⟩, 61), (⟨"WhoSingsNextModel", "deskCalls", "(I)I"⟩, 61), (⟨"WhoSingsNextModel", "tellBad", "(I)I"⟩, 61), (⟨"WhoSingsNextModel", "wrongAt", "(I)I"⟩, 61), (⟨"WhoSingsNextModel", "draws", "(I)V"⟩, 61)]
theorem lw_r4 : ∀ q ∈ lw_privs_4, lw_okq q := List.forall_mem_cons.mpr ⟨lw_p48, List.forall_mem_cons.mpr ⟨lw_p49, List.forall_mem_cons.mpr ⟨lw_p50, List.forall_mem_cons.mpr ⟨lw_p51, List.forall_mem_cons.mpr ⟨lw_p52, List.forall_mem_cons.mpr ⟨lw_p53, List.forall_mem_cons.mpr ⟨lw_p54, List.forall_mem_cons.mpr ⟨lw_p55, List.forall_mem_cons.mpr ⟨lw_p56, List.forall_mem_cons.mpr ⟨lw_p57, List.forall_mem_cons.mpr ⟨lw_p58, List.forall_mem_cons.mpr ⟨lw_p59, List.forall_mem_cons.mpr ⟨lw_p60, List.forall_mem_cons.mpr ⟨lw_p61, List.forall_mem_cons.mpr ⟨lw_p62, fun _ h => absurd h List.not_mem_nil⟩⟩⟩⟩⟩⟩⟩⟩⟩⟩⟩⟩⟩⟩⟩
def lw_privs : List (MethodName × Nat) := lw_privs_1 ++ (lw_privs_2 ++ (lw_privs_3 ++ (lw_privs_4)))
def lw_tbl : List Cond := k2_sels lw_privs ++ tables_1
theorem lw_privs_ok : ∀ q ∈ lw_privs, lw_okq q := by
  show ∀ q ∈ lw_privs_1 ++ (lw_privs_2 ++ (lw_privs_3 ++ (lw_privs_4))), lw_okq q
  exact List.forall_mem_append.mpr ⟨lw_r1, List.forall_mem_append.mpr ⟨lw_r2, List.forall_mem_append.mpr ⟨lw_r3, lw_r4⟩⟩⟩
-- ===== end of PART A; then your names; then what follows =====
end
section
def RX0 : String := "WhoSingsNext$Evening"
def TX0 : u_T := fun k => match k with
  | 0 => ("WhoSingsNext$Evening", "house", "LWhoSingsNext$House;", true)
  | 1 => ("WhoSingsNext$Evening", "rule", "LWhoSingsNext$Text;", false)
  | 2 => ("WhoSingsNext$Evening", "names", "[I", true)
  | 3 => ("WhoSingsNext$Evening", "lastSang", "[I", true)
  | 4 => ("WhoSingsNext$Evening", "sungBy", "[I", true)
  | 5 => ("WhoSingsNext$Evening", "bears", "[I", true)
  | 6 => ("WhoSingsNext$Evening", "row", "[I", true)
  | 7 => ("WhoSingsNext$Evening", "calls", "I", false)
  | 8 => ("WhoSingsNext$Evening", "begins", "[I", true)
  | 9 => ("WhoSingsNext$Evening", "called", "I", false)
  | 10 => ("WhoSingsNext$Evening", "minute", "I", false)
  | 11 => ("WhoSingsNext$Evening", "mood", "I", false)
  | 12 => ("WhoSingsNext$Evening", "bar", "I", false)
  | 13 => ("WhoSingsNext$Evening", "left", "I", false)
  | 14 => ("WhoSingsNext$Evening", "sung", "I", false)
  | _ => ("WhoSingsNext$Evening", "there", "I", false)
def tyX0 : Nat → FieldType := fun k => match k with
  | 0 => .object "WhoSingsNext$House"
  | 1 => .object "WhoSingsNext$Text"
  | 2 => .array .int
  | 3 => .array .int
  | 4 => .array .int
  | 5 => .array .int
  | 6 => .array .int
  | 7 => .int
  | 8 => .array .int
  | 9 => .int
  | 10 => .int
  | 11 => .int
  | 12 => .int
  | 13 => .int
  | 14 => .int
  | _ => .int
abbrev wsX00 : List Cond := u_ws RX0 TX0 16
theorem nmX0 : ∀ a, a < 16 → ∀ b, b < 16 → a ≠ b → (TX0 a).2.1 ≠ (TX0 b).2.1 := by decide +kernel
theorem tyX0_ok : ∀ k, k < 16 → parseFieldDescriptor (TX0 k).2.2.1 = some (tyX0 k) := by decide +kernel
abbrev cX0_init : ByteArray := prog_2_method_1_code
def yX0_init : MethodName := ⟨RX0, "<init>", "(LWhoSingsNext$House;)V"⟩
abbrev cX0_begin : ByteArray := prog_2_method_2_code
def yX0_begin : MethodName := ⟨RX0, "begin", "(LWhoSingsNext$Text;)V"⟩
abbrev cX0_goOnFrom : ByteArray := prog_2_method_3_code
def yX0_goOnFrom : MethodName := ⟨RX0, "goOnFrom", "(LWhoSingsNext$Evening;)V"⟩
abbrev cX0_answer : ByteArray := prog_2_method_4_code
def yX0_answer : MethodName := ⟨RX0, "answer", "(I)I"⟩
abbrev cX0_rowAsDigits : ByteArray := prog_2_method_5_code
def yX0_rowAsDigits : MethodName := ⟨RX0, "rowAsDigits", "()I"⟩
abbrev cX0_wasCalled : ByteArray := prog_2_method_6_code
def yX0_wasCalled : MethodName := ⟨RX0, "wasCalled", "(I)Z"⟩
abbrev cX0_leaveOut : ByteArray := prog_2_method_7_code
def yX0_leaveOut : MethodName := ⟨RX0, "leaveOut", "(I)V"⟩
abbrev cX0_wouldBeSung : ByteArray := prog_2_method_8_code
def yX0_wouldBeSung : MethodName := ⟨RX0, "wouldBeSung", "(I)Z"⟩
abbrev cX0_callSlip : ByteArray := prog_2_method_9_code
def yX0_callSlip : MethodName := ⟨RX0, "callSlip", "(I)V"⟩
abbrev cX0_nameAll : ByteArray := prog_2_method_10_code
def yX0_nameAll : MethodName := ⟨RX0, "nameAll", "(III)V"⟩
abbrev cX0_letLeave : ByteArray := prog_2_method_11_code
def yX0_letLeave : MethodName := ⟨RX0, "letLeave", "()V"⟩
abbrev cX0_callRow : ByteArray := prog_2_method_12_code
def yX0_callRow : MethodName := ⟨RX0, "callRow", "(I)V"⟩
abbrev cX0_callByDesk : ByteArray := prog_2_method_13_code
def yX0_callByDesk : MethodName := ⟨RX0, "callByDesk", "()V"⟩
abbrev cX0_firstByDesk : ByteArray := prog_2_method_14_code
def yX0_firstByDesk : MethodName := ⟨RX0, "firstByDesk", "()I"⟩
abbrev cX0_callByChance : ByteArray := prog_2_method_15_code
def yX0_callByChance : MethodName := ⟨RX0, "callByChance", "(I)V"⟩
abbrev cX0_uncalled : ByteArray := prog_2_method_16_code
def yX0_uncalled : MethodName := ⟨RX0, "uncalled", "(I)I"⟩
def RX1 : String := "WhoSingsNext$House"
def TX1 : u_T := fun k => match k with
  | 0 => ("WhoSingsNext$House", "people", "[LWhoSingsNext$Person;", true)
  | 1 => ("WhoSingsNext$House", "slips", "[LWhoSingsNext$Slip;", true)
  | 2 => ("WhoSingsNext$House", "peopleCount", "I", false)
  | 3 => ("WhoSingsNext$House", "slipCount", "I", false)
  | 4 => ("WhoSingsNext$House", "mood", "I", false)
  | 5 => ("WhoSingsNext$House", "till", "I", false)
  | 6 => ("WhoSingsNext$House", "rule", "I", false)
  | _ => ("WhoSingsNext$House", "changes", "I", false)
def tyX1 : Nat → FieldType := fun k => match k with
  | 0 => .array (.object "WhoSingsNext$Person")
  | 1 => .array (.object "WhoSingsNext$Slip")
  | 2 => .int
  | 3 => .int
  | 4 => .int
  | 5 => .int
  | 6 => .int
  | _ => .int
abbrev wsX10 : List Cond := u_ws RX1 TX1 8
theorem nmX1 : ∀ a, a < 8 → ∀ b, b < 8 → a ≠ b → (TX1 a).2.1 ≠ (TX1 b).2.1 := by decide +kernel
theorem tyX1_ok : ∀ k, k < 8 → parseFieldDescriptor (TX1 k).2.2.1 = some (tyX1 k) := by decide +kernel
abbrev cX1_init : ByteArray := prog_3_method_1_code
def yX1_init : MethodName := ⟨RX1, "<init>", "()V"⟩
abbrev cX1_hasPerson : ByteArray := prog_3_method_2_code
def yX1_hasPerson : MethodName := ⟨RX1, "hasPerson", "(I)Z"⟩
abbrev cX1_hasSlip : ByteArray := prog_3_method_3_code
def yX1_hasSlip : MethodName := ⟨RX1, "hasSlip", "(I)Z"⟩
abbrev cX1_groupOf : ByteArray := prog_3_method_4_code
def yX1_groupOf : MethodName := ⟨RX1, "groupOf", "(LWhoSingsNext$Slip;)I"⟩
abbrev cX1_addPerson : ByteArray := prog_3_method_5_code
def yX1_addPerson : MethodName := ⟨RX1, "addPerson", "(II)I"⟩
abbrev cX1_addSlip : ByteArray := prog_3_method_6_code
def yX1_addSlip : MethodName := ⟨RX1, "addSlip", "(III)I"⟩
abbrev cX1_hasValue : ByteArray := prog_3_method_7_code
def yX1_hasValue : MethodName := ⟨RX1, "hasValue", "(II)Z"⟩
abbrev cX1_allows : ByteArray := prog_3_method_8_code
def yX1_allows : MethodName := ⟨RX1, "allows", "(II)Z"⟩
abbrev cX1_valueOf : ByteArray := prog_3_method_9_code
def yX1_valueOf : MethodName := ⟨RX1, "valueOf", "(II)I"⟩
abbrev cX1_change : ByteArray := prog_3_method_10_code
def yX1_change : MethodName := ⟨RX1, "change", "(III)V"⟩
abbrev cX1_follow : ByteArray := prog_3_method_11_code
def yX1_follow : MethodName := ⟨RX1, "follow", "(I)V"⟩
abbrev cX1_become : ByteArray := prog_3_method_12_code
def yX1_become : MethodName := ⟨RX1, "become", "(LWhoSingsNext$House;)V"⟩
abbrev cX1_isRow : ByteArray := prog_3_method_13_code
def yX1_isRow : MethodName := ⟨RX1, "isRow", "(I)Z"⟩
def RX2 : String := "WhoSingsNext$Person"
def TX2 : u_T := fun k => match k with
  | 0 => ("WhoSingsNext$Person", "patience", "I", false)
  | _ => ("WhoSingsNext$Person", "group", "I", false)
def tyX2 : Nat → FieldType := fun k => match k with
  | 0 => .int
  | _ => .int
abbrev wsX20 : List Cond := u_ws RX2 TX2 2
theorem nmX2 : ∀ a, a < 2 → ∀ b, b < 2 → a ≠ b → (TX2 a).2.1 ≠ (TX2 b).2.1 := by decide +kernel
theorem tyX2_ok : ∀ k, k < 2 → parseFieldDescriptor (TX2 k).2.2.1 = some (tyX2 k) := by decide +kernel
abbrev cX2_init : ByteArray := prog_4_method_1_code
def yX2_init : MethodName := ⟨RX2, "<init>", "()V"⟩
abbrev cX2_become : ByteArray := prog_4_method_2_code
def yX2_become : MethodName := ⟨RX2, "become", "(LWhoSingsNext$Person;)V"⟩
def RX3 : String := "WhoSingsNext$Reader"
def TX3 : u_T := fun k => match k with
  | 0 => ("WhoSingsNext$Reader", "tape", "[I", true)
  | 1 => ("WhoSingsNext$Reader", "bytes", "I", false)
  | 2 => ("WhoSingsNext$Reader", "code", "[I", true)
  | 3 => ("WhoSingsNext$Reader", "codes", "I", false)
  | 4 => ("WhoSingsNext$Reader", "takesAt", "I", false)
  | 5 => ("WhoSingsNext$Reader", "firstAt", "I", false)
  | 6 => ("WhoSingsNext$Reader", "token", "I", false)
  | 7 => ("WhoSingsNext$Reader", "number", "I", false)
  | 8 => ("WhoSingsNext$Reader", "place", "I", false)
  | 9 => ("WhoSingsNext$Reader", "next", "I", false)
  | _ => ("WhoSingsNext$Reader", "fault", "I", false)
def tyX3 : Nat → FieldType := fun k => match k with
  | 0 => .array .int
  | 1 => .int
  | 2 => .array .int
  | 3 => .int
  | 4 => .int
  | 5 => .int
  | 6 => .int
  | 7 => .int
  | 8 => .int
  | 9 => .int
  | _ => .int
abbrev wsX30 : List Cond := u_ws RX3 TX3 11
theorem nmX3 : ∀ a, a < 11 → ∀ b, b < 11 → a ≠ b → (TX3 a).2.1 ≠ (TX3 b).2.1 := by decide +kernel
theorem tyX3_ok : ∀ k, k < 11 → parseFieldDescriptor (TX3 k).2.2.1 = some (tyX3 k) := by decide +kernel
abbrev cX3_init : ByteArray := prog_5_method_1_code
def yX3_init : MethodName := ⟨RX3, "<init>", "()V"⟩
abbrev cX3_add : ByteArray := prog_5_method_2_code
def yX3_add : MethodName := ⟨RX3, "add", "(I)Z"⟩
abbrev cX3_readTape : ByteArray := prog_5_method_3_code
def yX3_readTape : MethodName := ⟨RX3, "readTape", "()Z"⟩
abbrev cX3_made : ByteArray := prog_5_method_4_code
def yX3_made : MethodName := ⟨RX3, "made", "()LWhoSingsNext$Text;"⟩
abbrev cX3_readPart : ByteArray := prog_5_method_5_code
def yX3_readPart : MethodName := ⟨RX3, "readPart", "(I)V"⟩
abbrev cX3_pass : ByteArray := prog_5_method_6_code
def yX3_pass : MethodName := ⟨RX3, "pass", "(I)V"⟩
abbrev cX3_fail : ByteArray := prog_5_method_7_code
def yX3_fail : MethodName := ⟨RX3, "fail", "()V"⟩
abbrev cX3_readLevel : ByteArray := prog_5_method_8_code
def yX3_readLevel : MethodName := ⟨RX3, "readLevel", "(II)V"⟩
abbrev cX3_joins : ByteArray := prog_5_method_9_code
def yX3_joins : MethodName := ⟨RX3, "joins", "(I)Z"⟩
abbrev cX3_readNot : ByteArray := prog_5_method_10_code
def yX3_readNot : MethodName := ⟨RX3, "readNot", "(I)V"⟩
abbrev cX3_readOne : ByteArray := prog_5_method_11_code
def yX3_readOne : MethodName := ⟨RX3, "readOne", "(I)V"⟩
abbrev cX3_isName : ByteArray := prog_5_method_12_code
def yX3_isName : MethodName := ⟨RX3, "isName", "(I)Z"⟩
abbrev cX3_emit : ByteArray := prog_5_method_13_code
def yX3_emit : MethodName := ⟨RX3, "emit", "(I)V"⟩
abbrev cX3_readToken : ByteArray := prog_5_method_14_code
def yX3_readToken : MethodName := ⟨RX3, "readToken", "()V"⟩
abbrev cX3_isLetter : ByteArray := prog_5_method_15_code
def yX3_isLetter : MethodName := ⟨RX3, "isLetter", "(I)Z"⟩
abbrev cX3_isDigit : ByteArray := prog_5_method_16_code
def yX3_isDigit : MethodName := ⟨RX3, "isDigit", "(I)Z"⟩
abbrev cX3_readNumber : ByteArray := prog_5_method_17_code
def yX3_readNumber : MethodName := ⟨RX3, "readNumber", "()V"⟩
abbrev cX3_readWord : ByteArray := prog_5_method_18_code
def yX3_readWord : MethodName := ⟨RX3, "readWord", "()V"⟩
abbrev cX3_spells : ByteArray := prog_5_method_19_code
def yX3_spells : MethodName := ⟨RX3, "spells", "(Ljava/lang/String;)Z"⟩
def RX4 : String := "WhoSingsNext$Search"
def TX4 : u_T := fun k => match k with
  | 0 => ("WhoSingsNext$Search", "house", "LWhoSingsNext$House;", true)
  | 1 => ("WhoSingsNext$Search", "evenings", "[LWhoSingsNext$Evening;", true)
  | 2 => ("WhoSingsNext$Search", "taken", "[I", true)
  | 3 => ("WhoSingsNext$Search", "left", "[I", true)
  | 4 => ("WhoSingsNext$Search", "sung", "[I", true)
  | 5 => ("WhoSingsNext$Search", "row", "[I", true)
  | _ => ("WhoSingsNext$Search", "looked", "I", false)
def tyX4 : Nat → FieldType := fun k => match k with
  | 0 => .object "WhoSingsNext$House"
  | 1 => .array (.object "WhoSingsNext$Evening")
  | 2 => .array .int
  | 3 => .array .int
  | 4 => .array .int
  | 5 => .array .int
  | _ => .int
abbrev wsX40 : List Cond := u_ws RX4 TX4 7
theorem nmX4 : ∀ a, a < 7 → ∀ b, b < 7 → a ≠ b → (TX4 a).2.1 ≠ (TX4 b).2.1 := by decide +kernel
theorem tyX4_ok : ∀ k, k < 7 → parseFieldDescriptor (TX4 k).2.2.1 = some (tyX4 k) := by decide +kernel
abbrev cX4_init : ByteArray := prog_6_method_1_code
def yX4_init : MethodName := ⟨RX4, "<init>", "(LWhoSingsNext$House;)V"⟩
abbrev cX4_look : ByteArray := prog_6_method_2_code
def yX4_look : MethodName := ⟨RX4, "look", "(LWhoSingsNext$Text;)V"⟩
abbrev cX4_answer : ByteArray := prog_6_method_3_code
def yX4_answer : MethodName := ⟨RX4, "answer", "(II)I"⟩
abbrev cX4_note : ByteArray := prog_6_method_4_code
def yX4_note : MethodName := ⟨RX4, "note", "(ILWhoSingsNext$Evening;I)V"⟩
abbrev cX4_goOn : ByteArray := prog_6_method_5_code
def yX4_goOn : MethodName := ⟨RX4, "goOn", "(II)V"⟩
abbrev cX4_losesFewer : ByteArray := prog_6_method_6_code
def yX4_losesFewer : MethodName := ⟨RX4, "losesFewer", "(LWhoSingsNext$Evening;)Z"⟩
def RX5 : String := "WhoSingsNext$Sheet"
def TX5 : u_T := fun k => match k with
  | 0 => ("WhoSingsNext$Sheet", "items", "[I", true)
  | 1 => ("WhoSingsNext$Sheet", "sort", "I", false)
  | _ => ("WhoSingsNext$Sheet", "size", "I", false)
def tyX5 : Nat → FieldType := fun k => match k with
  | 0 => .array .int
  | 1 => .int
  | _ => .int
abbrev wsX50 : List Cond := u_ws RX5 TX5 3
theorem nmX5 : ∀ a, a < 3 → ∀ b, b < 3 → a ≠ b → (TX5 a).2.1 ≠ (TX5 b).2.1 := by decide +kernel
theorem tyX5_ok : ∀ k, k < 3 → parseFieldDescriptor (TX5 k).2.2.1 = some (tyX5 k) := by decide +kernel
abbrev cX5_init : ByteArray := prog_7_method_1_code
def yX5_init : MethodName := ⟨RX5, "<init>", "()V"⟩
abbrev cX5_remake : ByteArray := prog_7_method_2_code
def yX5_remake : MethodName := ⟨RX5, "remake", "(II)V"⟩
abbrev cX5_holds : ByteArray := prog_7_method_3_code
def yX5_holds : MethodName := ⟨RX5, "holds", "(II)Z"⟩
abbrev cX5_put : ByteArray := prog_7_method_4_code
def yX5_put : MethodName := ⟨RX5, "put", "(II)V"⟩
def RX6 : String := "WhoSingsNext$Slip"
def TX6 : u_T := fun k => match k with
  | 0 => ("WhoSingsNext$Slip", "kind", "I", false)
  | 1 => ("WhoSingsNext$Slip", "number", "I", false)
  | 2 => ("WhoSingsNext$Slip", "minutes", "I", false)
  | _ => ("WhoSingsNext$Slip", "whose", "I", false)
def tyX6 : Nat → FieldType := fun k => match k with
  | 0 => .int
  | 1 => .int
  | 2 => .int
  | _ => .int
abbrev wsX60 : List Cond := u_ws RX6 TX6 4
theorem nmX6 : ∀ a, a < 4 → ∀ b, b < 4 → a ≠ b → (TX6 a).2.1 ≠ (TX6 b).2.1 := by decide +kernel
theorem tyX6_ok : ∀ k, k < 4 → parseFieldDescriptor (TX6 k).2.2.1 = some (tyX6 k) := by decide +kernel
abbrev cX6_init : ByteArray := prog_8_method_1_code
def yX6_init : MethodName := ⟨RX6, "<init>", "()V"⟩
abbrev cX6_become : ByteArray := prog_8_method_2_code
def yX6_become : MethodName := ⟨RX6, "become", "(LWhoSingsNext$Slip;)V"⟩
abbrev cX6_moves : ByteArray := prog_8_method_3_code
def yX6_moves : MethodName := ⟨RX6, "moves", "(I)I"⟩
abbrev cX6_thirst : ByteArray := prog_8_method_4_code
def yX6_thirst : MethodName := ⟨RX6, "thirst", "(I)I"⟩
abbrev cX6_isOf : ByteArray := prog_8_method_5_code
def yX6_isOf : MethodName := ⟨RX6, "isOf", "(I)Z"⟩
def RX7 : String := "WhoSingsNext$Text"
def TX7 : u_T := fun k => match k with
  | 0 => ("WhoSingsNext$Text", "code", "[I", true)
  | 1 => ("WhoSingsNext$Text", "takesAt", "I", true)
  | 2 => ("WhoSingsNext$Text", "firstAt", "I", true)
  | _ => ("WhoSingsNext$Text", "pending", "[I", true)
def tyX7 : Nat → FieldType := fun k => match k with
  | 0 => .array .int
  | 1 => .int
  | 2 => .int
  | _ => .array .int
abbrev wsX70 : List Cond := u_ws RX7 TX7 4
theorem nmX7 : ∀ a, a < 4 → ∀ b, b < 4 → a ≠ b → (TX7 a).2.1 ≠ (TX7 b).2.1 := by decide +kernel
theorem tyX7_ok : ∀ k, k < 4 → parseFieldDescriptor (TX7 k).2.2.1 = some (tyX7 k) := by decide +kernel
abbrev cX7_init : ByteArray := prog_9_method_1_code
def yX7_init : MethodName := ⟨RX7, "<init>", "([III)V"⟩
abbrev cX7_worth : ByteArray := prog_9_method_2_code
def yX7_worth : MethodName := ⟨RX7, "worth", "(I[I)I"⟩
abbrev cX7_joined : ByteArray := prog_9_method_3_code
def yX7_joined : MethodName := ⟨RX7, "joined", "(III)I"⟩
def RX8 : String := "WhoSingsNext"
def TX8 : u_T := fun k => match k with
  | 0 => ("WhoSingsNext", "house", "LWhoSingsNext$House;", true)
  | 1 => ("WhoSingsNext", "kept", "LWhoSingsNext$House;", true)
  | 2 => ("WhoSingsNext", "isKept", "Z", false)
  | 3 => ("WhoSingsNext", "reader", "LWhoSingsNext$Reader;", true)
  | 4 => ("WhoSingsNext", "texts", "[LWhoSingsNext$Text;", true)
  | 5 => ("WhoSingsNext", "textCount", "I", false)
  | 6 => ("WhoSingsNext", "tonight", "LWhoSingsNext$Evening;", true)
  | 7 => ("WhoSingsNext", "search", "LWhoSingsNext$Search;", true)
  | _ => ("WhoSingsNext", "sheets", "[LWhoSingsNext$Sheet;", true)
def tyX8 : Nat → FieldType := fun k => match k with
  | 0 => .object "WhoSingsNext$House"
  | 1 => .object "WhoSingsNext$House"
  | 2 => .boolean
  | 3 => .object "WhoSingsNext$Reader"
  | 4 => .array (.object "WhoSingsNext$Text")
  | 5 => .int
  | 6 => .object "WhoSingsNext$Evening"
  | 7 => .object "WhoSingsNext$Search"
  | _ => .array (.object "WhoSingsNext$Sheet")
abbrev wsX80 : List Cond := u_ws RX8 TX8 9
theorem nmX8 : ∀ a, a < 9 → ∀ b, b < 9 → a ≠ b → (TX8 a).2.1 ≠ (TX8 b).2.1 := by decide +kernel
theorem tyX8_ok : ∀ k, k < 9 → parseFieldDescriptor (TX8 k).2.2.1 = some (tyX8 k) := by decide +kernel
abbrev cX8_init : ByteArray := prog_1_method_1_code
def yX8_init : MethodName := ⟨RX8, "<init>", "()V"⟩
abbrev cX8_come : ByteArray := prog_1_method_2_code
def yX8_come : MethodName := ⟨RX8, "come", "(II)I"⟩
abbrev cX8_slip : ByteArray := prog_1_method_3_code
def yX8_slip : MethodName := ⟨RX8, "slip", "(III)I"⟩
abbrev cX8_set : ByteArray := prog_1_method_4_code
def yX8_set : MethodName := ⟨RX8, "set", "(III)I"⟩
abbrev cX8_told : ByteArray := prog_1_method_5_code
def yX8_told : MethodName := ⟨RX8, "told", "(II)I"⟩
abbrev cX8_feed : ByteArray := prog_1_method_6_code
def yX8_feed : MethodName := ⟨RX8, "feed", "(I)I"⟩
abbrev cX8_text : ByteArray := prog_1_method_7_code
def yX8_text : MethodName := ⟨RX8, "text", "()I"⟩
abbrev cX8_force : ByteArray := prog_1_method_8_code
def yX8_force : MethodName := ⟨RX8, "force", "(I)I"⟩
abbrev cX8_evening : ByteArray := prog_1_method_9_code
def yX8_evening : MethodName := ⟨RX8, "evening", "(II)I"⟩
abbrev cX8_best : ByteArray := prog_1_method_10_code
def yX8_best : MethodName := ⟨RX8, "best", "(II)I"⟩
abbrev cX8_desk : ByteArray := prog_1_method_11_code
def yX8_desk : MethodName := ⟨RX8, "desk", "(I)I"⟩
abbrev cX8_hold : ByteArray := prog_1_method_12_code
def yX8_hold : MethodName := ⟨RX8, "hold", "(I)I"⟩
abbrev cX8_wait : ByteArray := prog_1_method_13_code
def yX8_wait : MethodName := ⟨RX8, "wait", "(I)I"⟩
abbrev cX8_refuse : ByteArray := prog_1_method_14_code
def yX8_refuse : MethodName := ⟨RX8, "refuse", "(I)I"⟩
abbrev cX8_coin : ByteArray := prog_1_method_15_code
def yX8_coin : MethodName := ⟨RX8, "coin", "(I)I"⟩
abbrev cX8_harm : ByteArray := prog_1_method_16_code
def yX8_harm : MethodName := ⟨RX8, "harm", "(I)I"⟩
abbrev cX8_judge : ByteArray := prog_1_method_17_code
def yX8_judge : MethodName := ⟨RX8, "judge", "(I)I"⟩
abbrev cX8_which : ByteArray := prog_1_method_18_code
def yX8_which : MethodName := ⟨RX8, "which", "(I)I"⟩
abbrev cX8_behind : ByteArray := prog_1_method_19_code
def yX8_behind : MethodName := ⟨RX8, "behind", "()I"⟩
abbrev cX8_drawn : ByteArray := prog_1_method_20_code
def yX8_drawn : MethodName := ⟨RX8, "drawn", "(I)I"⟩
abbrev cX8_chance : ByteArray := prog_1_method_21_code
def yX8_chance : MethodName := ⟨RX8, "chance", "(III)J"⟩
abbrev cX8_image : ByteArray := prog_1_method_22_code
def yX8_image : MethodName := ⟨RX8, "image", "()I"⟩
abbrev cX8_back : ByteArray := prog_1_method_23_code
def yX8_back : MethodName := ⟨RX8, "back", "()I"⟩
abbrev cX8_count : ByteArray := prog_1_method_24_code
def yX8_count : MethodName := ⟨RX8, "count", "(I)I"⟩
abbrev cX8_sheet : ByteArray := prog_1_method_25_code
def yX8_sheet : MethodName := ⟨RX8, "sheet", "(III)I"⟩
abbrev cX8_cell : ByteArray := prog_1_method_26_code
def yX8_cell : MethodName := ⟨RX8, "cell", "(III)I"⟩
abbrev cX8_copy : ByteArray := prog_1_method_27_code
def yX8_copy : MethodName := ⟨RX8, "copy", "(IIIII)I"⟩
abbrev cX8_slips : ByteArray := prog_1_method_28_code
def yX8_slips : MethodName := ⟨RX8, "slips", "(IIII)I"⟩
abbrev cX8_taken : ByteArray := prog_1_method_29_code
def yX8_taken : MethodName := ⟨RX8, "taken", "(II)I"⟩
abbrev cX8_rule : ByteArray := prog_1_method_30_code
def yX8_rule : MethodName := ⟨RX8, "rule", "()LWhoSingsNext$Text;"⟩
abbrev cX8_isSheet : ByteArray := prog_1_method_31_code
def yX8_isSheet : MethodName := ⟨RX8, "isSheet", "(I)Z"⟩
abbrev cX8_runDesk : ByteArray := prog_1_method_32_code
def yX8_runDesk : MethodName := ⟨RX8, "runDesk", "(LWhoSingsNext$Text;I)V"⟩
abbrev cX8_judged : ByteArray := prog_1_method_33_code
def yX8_judged : MethodName := ⟨RX8, "judged", "(LWhoSingsNext$Sheet;LWhoSingsNext$Text;)I"⟩
abbrev cX8_commonDivisor : ByteArray := prog_1_method_34_code
def yX8_commonDivisor : MethodName := ⟨RX8, "commonDivisor", "(II)I"⟩
abbrev cX8_within : ByteArray := prog_1_method_35_code
def yX8_within : MethodName := ⟨RX8, "within", "(III)I"⟩
def RX9 : String := "WhoSingsNextModel"
def TX9 : u_T := fun k => match k with
  | 0 => ("WhoSingsNextModel", "thrown", "I", false)
  | 1 => ("WhoSingsNextModel", "texts", "[I", true)
  | 2 => ("WhoSingsNextModel", "textSize", "[I", true)
  | 3 => ("WhoSingsNextModel", "textCount", "I", false)
  | 4 => ("WhoSingsNextModel", "rule", "I", false)
  | 5 => ("WhoSingsNextModel", "tape", "[I", true)
  | 6 => ("WhoSingsNextModel", "taped", "I", false)
  | 7 => ("WhoSingsNextModel", "patience", "[I", true)
  | 8 => ("WhoSingsNextModel", "groups", "[I", true)
  | 9 => ("WhoSingsNextModel", "people", "I", false)
  | 10 => ("WhoSingsNextModel", "kinds", "[I", true)
  | 11 => ("WhoSingsNextModel", "numbers", "[I", true)
  | 12 => ("WhoSingsNextModel", "longs", "[I", true)
  | 13 => ("WhoSingsNextModel", "owners", "[I", true)
  | 14 => ("WhoSingsNextModel", "slipCount", "I", false)
  | 15 => ("WhoSingsNextModel", "mood", "I", false)
  | 16 => ("WhoSingsNextModel", "till", "I", false)
  | 17 => ("WhoSingsNextModel", "ofMinute", "I", false)
  | 18 => ("WhoSingsNextModel", "ofWaited", "I", false)
  | 19 => ("WhoSingsNextModel", "ofSung", "I", false)
  | 20 => ("WhoSingsNextModel", "ofSort", "I", false)
  | 21 => ("WhoSingsNextModel", "ofBar", "I", false)
  | 22 => ("WhoSingsNextModel", "ofMood", "I", false)
  | 23 => ("WhoSingsNextModel", "from", "I", false)
  | 24 => ("WhoSingsNextModel", "size", "I", false)
  | 25 => ("WhoSingsNextModel", "here", "I", false)
  | 26 => ("WhoSingsNextModel", "token", "I", false)
  | 27 => ("WhoSingsNextModel", "tokenAt", "I", false)
  | 28 => ("WhoSingsNextModel", "tokenWorth", "J", false)
  | 29 => ("WhoSingsNextModel", "open", "I", false)
  | 30 => ("WhoSingsNextModel", "bad", "Z", false)
  | 31 => ("WhoSingsNextModel", "fault", "I", false)
  | 32 => ("WhoSingsNextModel", "minute", "I", false)
  | 33 => ("WhoSingsNextModel", "moodNow", "I", false)
  | 34 => ("WhoSingsNextModel", "bar", "I", false)
  | 35 => ("WhoSingsNextModel", "there", "I", false)
  | 36 => ("WhoSingsNextModel", "sungMany", "I", false)
  | 37 => ("WhoSingsNextModel", "lastSang", "[I", true)
  | 38 => ("WhoSingsNextModel", "sungBy", "[I", true)
  | 39 => ("WhoSingsNextModel", "called", "I", false)
  | 40 => ("WhoSingsNextModel", "sungSet", "I", false)
  | 41 => ("WhoSingsNextModel", "began", "[I", true)
  | 42 => ("WhoSingsNextModel", "asideRow", "[I", true)
  | 43 => ("WhoSingsNextModel", "asideLast", "[I", true)
  | 44 => ("WhoSingsNextModel", "asideSung", "[I", true)
  | 45 => ("WhoSingsNextModel", "bestRow", "I", false)
  | 46 => ("WhoSingsNextModel", "bestBar", "I", false)
  | 47 => ("WhoSingsNextModel", "bestLeft", "I", false)
  | 48 => ("WhoSingsNextModel", "bestSung", "I", false)
  | 49 => ("WhoSingsNextModel", "deskRow", "I", false)
  | 50 => ("WhoSingsNextModel", "onesKept", "[I", true)
  | 51 => ("WhoSingsNextModel", "slipsKept", "[I", true)
  | 52 => ("WhoSingsNextModel", "slipsMany", "I", false)
  | 53 => ("WhoSingsNextModel", "peopleKept", "I", false)
  | 54 => ("WhoSingsNextModel", "moodKept", "I", false)
  | 55 => ("WhoSingsNextModel", "tillKept", "I", false)
  | 56 => ("WhoSingsNextModel", "ruleKept", "I", false)
  | 57 => ("WhoSingsNextModel", "isThere", "[Z", true)
  | 58 => ("WhoSingsNextModel", "sorts", "[I", true)
  | 59 => ("WhoSingsNextModel", "sheetSize", "[I", true)
  | _ => ("WhoSingsNextModel", "items", "[I", true)
def tyX9 : Nat → FieldType := fun k => match k with
  | 0 => .int
  | 1 => .array .int
  | 2 => .array .int
  | 3 => .int
  | 4 => .int
  | 5 => .array .int
  | 6 => .int
  | 7 => .array .int
  | 8 => .array .int
  | 9 => .int
  | 10 => .array .int
  | 11 => .array .int
  | 12 => .array .int
  | 13 => .array .int
  | 14 => .int
  | 15 => .int
  | 16 => .int
  | 17 => .int
  | 18 => .int
  | 19 => .int
  | 20 => .int
  | 21 => .int
  | 22 => .int
  | 23 => .int
  | 24 => .int
  | 25 => .int
  | 26 => .int
  | 27 => .int
  | 28 => .long
  | 29 => .int
  | 30 => .boolean
  | 31 => .int
  | 32 => .int
  | 33 => .int
  | 34 => .int
  | 35 => .int
  | 36 => .int
  | 37 => .array .int
  | 38 => .array .int
  | 39 => .int
  | 40 => .int
  | 41 => .array .int
  | 42 => .array .int
  | 43 => .array .int
  | 44 => .array .int
  | 45 => .int
  | 46 => .int
  | 47 => .int
  | 48 => .int
  | 49 => .int
  | 50 => .array .int
  | 51 => .array .int
  | 52 => .int
  | 53 => .int
  | 54 => .int
  | 55 => .int
  | 56 => .int
  | 57 => .array .boolean
  | 58 => .array .int
  | 59 => .array .int
  | _ => .array .int
abbrev wsX90 : List Cond := u_ws RX9 TX9 61
theorem nmX9 : ∀ a, a < 61 → ∀ b, b < 61 → a ≠ b → (TX9 a).2.1 ≠ (TX9 b).2.1 := by decide +kernel
theorem tyX9_ok : ∀ k, k < 61 → parseFieldDescriptor (TX9 k).2.2.1 = some (tyX9 k) := by decide +kernel
abbrev cX9_in : ByteArray := prog_11_method_2_code
def yX9_in : MethodName := ⟨RX9, "in", "(JJJ)Z"⟩
abbrev cX9_within : ByteArray := prog_11_method_3_code
def yX9_within : MethodName := ⟨RX9, "within", "(III)I"⟩
abbrev cX9_bitsOf : ByteArray := prog_11_method_4_code
def yX9_bitsOf : MethodName := ⟨RX9, "bitsOf", "(I)I"⟩
abbrev cX9_init : ByteArray := prog_11_method_5_code
def yX9_init : MethodName := ⟨RX9, "<init>", "()V"⟩
abbrev cX9_spell : ByteArray := prog_11_method_6_code
def yX9_spell : MethodName := ⟨RX9, "spell", "(IIIIIIIII)V"⟩
abbrev cX9_isOne : ByteArray := prog_11_method_7_code
def yX9_isOne : MethodName := ⟨RX9, "isOne", "(I)Z"⟩
abbrev cX9_isSlip : ByteArray := prog_11_method_8_code
def yX9_isSlip : MethodName := ⟨RX9, "isSlip", "(I)Z"⟩
abbrev cX9_come : ByteArray := prog_11_method_9_code
def yX9_come : MethodName := ⟨RX9, "come", "(II)I"⟩
abbrev cX9_slip : ByteArray := prog_11_method_10_code
def yX9_slip : MethodName := ⟨RX9, "slip", "(III)I"⟩
abbrev cX9_set : ByteArray := prog_11_method_11_code
def yX9_set : MethodName := ⟨RX9, "set", "(III)I"⟩
abbrev cX9_told : ByteArray := prog_11_method_12_code
def yX9_told : MethodName := ⟨RX9, "told", "(II)I"⟩
abbrev cX9_moves : ByteArray := prog_11_method_13_code
def yX9_moves : MethodName := ⟨RX9, "moves", "(II)I"⟩
abbrev cX9_thirst : ByteArray := prog_11_method_14_code
def yX9_thirst : MethodName := ⟨RX9, "thirst", "(II)I"⟩
abbrev cX9_feed : ByteArray := prog_11_method_15_code
def yX9_feed : MethodName := ⟨RX9, "feed", "(I)I"⟩
abbrev cX9_byteAt : ByteArray := prog_11_method_16_code
def yX9_byteAt : MethodName := ⟨RX9, "byteAt", "(I)I"⟩
abbrev cX9_next : ByteArray := prog_11_method_17_code
def yX9_next : MethodName := ⟨RX9, "next", "()V"⟩
abbrev cX9_fail : ByteArray := prog_11_method_18_code
def yX9_fail : MethodName := ⟨RX9, "fail", "()V"⟩
abbrev cX9_isLetter : ByteArray := prog_11_method_19_code
def yX9_isLetter : MethodName := ⟨RX9, "isLetter", "(II)Z"⟩
abbrev cX9_isWord : ByteArray := prog_11_method_20_code
def yX9_isWord : MethodName := ⟨RX9, "isWord", "(IIIIIIII)Z"⟩
abbrev cX9_isSign : ByteArray := prog_11_method_21_code
def yX9_isSign : MethodName := ⟨RX9, "isSign", "(I)Z"⟩
abbrev cX9_opens : ByteArray := prog_11_method_22_code
def yX9_opens : MethodName := ⟨RX9, "opens", "()Z"⟩
abbrev cX9_name : ByteArray := prog_11_method_23_code
def yX9_name : MethodName := ⟨RX9, "name", "()I"⟩
abbrev cX9_atom : ByteArray := prog_11_method_24_code
def yX9_atom : MethodName := ⟨RX9, "atom", "()I"⟩
abbrev cX9_term : ByteArray := prog_11_method_25_code
def yX9_term : MethodName := ⟨RX9, "term", "()I"⟩
abbrev cX9_added : ByteArray := prog_11_method_26_code
def yX9_added : MethodName := ⟨RX9, "added", "()I"⟩
abbrev cX9_not : ByteArray := prog_11_method_27_code
def yX9_not : MethodName := ⟨RX9, "not", "()I"⟩
abbrev cX9_both : ByteArray := prog_11_method_28_code
def yX9_both : MethodName := ⟨RX9, "both", "()I"⟩
abbrev cX9_either : ByteArray := prog_11_method_29_code
def yX9_either : MethodName := ⟨RX9, "either", "()I"⟩
abbrev cX9_part : ByteArray := prog_11_method_30_code
def yX9_part : MethodName := ⟨RX9, "part", "(Z)I"⟩
abbrev cX9_read : ByteArray := prog_11_method_31_code
def yX9_read : MethodName := ⟨RX9, "read", "(II)I"⟩
abbrev cX9_text : ByteArray := prog_11_method_32_code
def yX9_text : MethodName := ⟨RX9, "text", "()I"⟩
abbrev cX9_force : ByteArray := prog_11_method_33_code
def yX9_force : MethodName := ⟨RX9, "force", "(I)I"⟩
abbrev cX9_says : ByteArray := prog_11_method_34_code
def yX9_says : MethodName := ⟨RX9, "says", "(IIII)I"⟩
abbrev cX9_begins : ByteArray := prog_11_method_35_code
def yX9_begins : MethodName := ⟨RX9, "begins", "()V"⟩
abbrev cX9_canSing : ByteArray := prog_11_method_36_code
def yX9_canSing : MethodName := ⟨RX9, "canSing", "(I)Z"⟩
abbrev cX9_calls : ByteArray := prog_11_method_37_code
def yX9_calls : MethodName := ⟨RX9, "calls", "(I)V"⟩
abbrev cX9_leftMany : ByteArray := prog_11_method_38_code
def yX9_leftMany : MethodName := ⟨RX9, "leftMany", "()I"⟩
abbrev cX9_tells : ByteArray := prog_11_method_39_code
def yX9_tells : MethodName := ⟨RX9, "tells", "(I)I"⟩
abbrev cX9_sizeOf : ByteArray := prog_11_method_40_code
def yX9_sizeOf : MethodName := ⟨RX9, "sizeOf", "(I)I"⟩
abbrev cX9_isRow : ByteArray := prog_11_method_41_code
def yX9_isRow : MethodName := ⟨RX9, "isRow", "(I)Z"⟩
abbrev cX9_goes : ByteArray := prog_11_method_42_code
def yX9_goes : MethodName := ⟨RX9, "goes", "(I)V"⟩
abbrev cX9_evening : ByteArray := prog_11_method_43_code
def yX9_evening : MethodName := ⟨RX9, "evening", "(II)I"⟩
abbrev cX9_hold : ByteArray := prog_11_method_44_code
def yX9_hold : MethodName := ⟨RX9, "hold", "(I)I"⟩
abbrev cX9_lays : ByteArray := prog_11_method_45_code
def yX9_lays : MethodName := ⟨RX9, "lays", "(I)V"⟩
abbrev cX9_laysBack : ByteArray := prog_11_method_46_code
def yX9_laysBack : MethodName := ⟨RX9, "laysBack", "(I)V"⟩
abbrev cX9_isBetter : ByteArray := prog_11_method_47_code
def yX9_isBetter : MethodName := ⟨RX9, "isBetter", "(I)Z"⟩
abbrev cX9_rows : ByteArray := prog_11_method_48_code
def yX9_rows : MethodName := ⟨RX9, "rows", "(III)V"⟩
abbrev cX9_best : ByteArray := prog_11_method_49_code
def yX9_best : MethodName := ⟨RX9, "best", "(II)I"⟩
abbrev cX9_deskCalls : ByteArray := prog_11_method_50_code
def yX9_deskCalls : MethodName := ⟨RX9, "deskCalls", "(I)I"⟩
abbrev cX9_goesOn : ByteArray := prog_11_method_51_code
def yX9_goesOn : MethodName := ⟨RX9, "goesOn", "(I)V"⟩
abbrev cX9_desks : ByteArray := prog_11_method_52_code
def yX9_desks : MethodName := ⟨RX9, "desks", "(I)V"⟩
abbrev cX9_desk : ByteArray := prog_11_method_53_code
def yX9_desk : MethodName := ⟨RX9, "desk", "(I)I"⟩
abbrev cX9_wait : ByteArray := prog_11_method_54_code
def yX9_wait : MethodName := ⟨RX9, "wait", "(I)I"⟩
abbrev cX9_refuse : ByteArray := prog_11_method_55_code
def yX9_refuse : MethodName := ⟨RX9, "refuse", "(I)I"⟩
abbrev cX9_coin : ByteArray := prog_11_method_56_code
def yX9_coin : MethodName := ⟨RX9, "coin", "(I)I"⟩
abbrev cX9_harm : ByteArray := prog_11_method_57_code
def yX9_harm : MethodName := ⟨RX9, "harm", "(I)I"⟩
abbrev cX9_wrongAt : ByteArray := prog_11_method_58_code
def yX9_wrongAt : MethodName := ⟨RX9, "wrongAt", "(I)I"⟩
abbrev cX9_tellBad : ByteArray := prog_11_method_59_code
def yX9_tellBad : MethodName := ⟨RX9, "tellBad", "(I)I"⟩
abbrev cX9_judge : ByteArray := prog_11_method_60_code
def yX9_judge : MethodName := ⟨RX9, "judge", "(I)I"⟩
abbrev cX9_which : ByteArray := prog_11_method_61_code
def yX9_which : MethodName := ⟨RX9, "which", "(I)I"⟩
abbrev cX9_behind : ByteArray := prog_11_method_62_code
def yX9_behind : MethodName := ⟨RX9, "behind", "()I"⟩
abbrev cX9_draws : ByteArray := prog_11_method_63_code
def yX9_draws : MethodName := ⟨RX9, "draws", "(I)V"⟩
abbrev cX9_drawn : ByteArray := prog_11_method_64_code
def yX9_drawn : MethodName := ⟨RX9, "drawn", "(I)I"⟩
abbrev cX9_chance : ByteArray := prog_11_method_65_code
def yX9_chance : MethodName := ⟨RX9, "chance", "(III)J"⟩
abbrev cX9_image : ByteArray := prog_11_method_66_code
def yX9_image : MethodName := ⟨RX9, "image", "()I"⟩
abbrev cX9_back : ByteArray := prog_11_method_67_code
def yX9_back : MethodName := ⟨RX9, "back", "()I"⟩
abbrev cX9_count : ByteArray := prog_11_method_68_code
def yX9_count : MethodName := ⟨RX9, "count", "(I)I"⟩
abbrev cX9_isSheet : ByteArray := prog_11_method_69_code
def yX9_isSheet : MethodName := ⟨RX9, "isSheet", "(I)Z"⟩
abbrev cX9_sheet : ByteArray := prog_11_method_70_code
def yX9_sheet : MethodName := ⟨RX9, "sheet", "(III)I"⟩
abbrev cX9_cell : ByteArray := prog_11_method_71_code
def yX9_cell : MethodName := ⟨RX9, "cell", "(III)I"⟩
abbrev cX9_copy : ByteArray := prog_11_method_72_code
def yX9_copy : MethodName := ⟨RX9, "copy", "(IIIII)I"⟩
abbrev cX9_slips : ByteArray := prog_11_method_73_code
def yX9_slips : MethodName := ⟨RX9, "slips", "(IIII)I"⟩
abbrev cX9_over : ByteArray := prog_11_method_74_code
def yX9_over : MethodName := ⟨RX9, "over", "(I)I"⟩
abbrev cX9_taken : ByteArray := prog_11_method_75_code
def yX9_taken : MethodName := ⟨RX9, "taken", "(II)I"⟩
def RJ11 : String := "java/lang/Character"
def TJ11 : u_T := fun k => match k with
  | _ => ("", "", "", false)
def tyJ11 : Nat → FieldType := fun k => match k with
  | _ => .int
abbrev wsJ110 : List Cond := u_ws RJ11 TJ11 0
theorem nmJ11 : ∀ a, a < 0 → ∀ b, b < 0 → a ≠ b → (TJ11 a).2.1 ≠ (TJ11 b).2.1 := by decide +kernel
theorem tyJ11_ok : ∀ k, k < 0 → parseFieldDescriptor (TJ11 k).2.2.1 = some (tyJ11 k) := by decide +kernel
abbrev cJ11_isValidCodePoint_9a6ad : ByteArray := prog_12_method_11_code
def yJ11_isValidCodePoint_9a6ad : MethodName := ⟨RJ11, "isValidCodePoint", "(I)Z"⟩
abbrev cJ11_highSurrogate_5068e : ByteArray := prog_12_method_28_code
def yJ11_highSurrogate_5068e : MethodName := ⟨RJ11, "highSurrogate", "(I)C"⟩
abbrev cJ11_lowSurrogate_5068e : ByteArray := prog_12_method_29_code
def yJ11_lowSurrogate_5068e : MethodName := ⟨RJ11, "lowSurrogate", "(I)C"⟩
def RJ6 : String := "java/lang/Integer"
def TJ6 : u_T := fun k => match k with
  | _ => ("", "", "", false)
def tyJ6 : Nat → FieldType := fun k => match k with
  | _ => .int
abbrev wsJ60 : List Cond := u_ws RJ6 TJ6 0
theorem nmJ6 : ∀ a, a < 0 → ∀ b, b < 0 → a ≠ b → (TJ6 a).2.1 ≠ (TJ6 b).2.1 := by decide +kernel
theorem tyJ6_ok : ∀ k, k < 0 → parseFieldDescriptor (TJ6 k).2.2.1 = some (tyJ6 k) := by decide +kernel
abbrev cJ6_bitCount_0f7a4 : ByteArray := prog_14_method_49_code
def yJ6_bitCount_0f7a4 : MethodName := ⟨RJ6, "bitCount", "(I)I"⟩
def RJ9 : String := "java/lang/Math"
def TJ9 : u_T := fun k => match k with
  | _ => ("", "", "", false)
def tyJ9 : Nat → FieldType := fun k => match k with
  | _ => .int
abbrev wsJ90 : List Cond := u_ws RJ9 TJ9 0
theorem nmJ9 : ∀ a, a < 0 → ∀ b, b < 0 → a ≠ b → (TJ9 a).2.1 ≠ (TJ9 b).2.1 := by decide +kernel
theorem tyJ9_ok : ∀ k, k < 0 → parseFieldDescriptor (TJ9 k).2.2.1 = some (tyJ9 k) := by decide +kernel
abbrev cJ9_max_7cf53 : ByteArray := prog_15_method_65_code
def yJ9_max_7cf53 : MethodName := ⟨RJ9, "max", "(II)I"⟩
abbrev cJ9_min_7cf53 : ByteArray := prog_15_method_69_code
def yJ9_min_7cf53 : MethodName := ⟨RJ9, "min", "(II)I"⟩
def RJ0 : String := "java/lang/String"
def TJ0 : u_T := fun k => match k with
  | _ => ("", "", "", false)
def tyJ0 : Nat → FieldType := fun k => match k with
  | _ => .int
abbrev wsJ00 : List Cond := u_ws RJ0 TJ0 0
theorem nmJ0 : ∀ a, a < 0 → ∀ b, b < 0 → a ≠ b → (TJ0 a).2.1 ≠ (TJ0 b).2.1 := by decide +kernel
theorem tyJ0_ok : ∀ k, k < 0 → parseFieldDescriptor (TJ0 k).2.2.1 = some (tyJ0 k) := by decide +kernel
abbrev cJ0_length_8abf5 : ByteArray := prog_16_method_54_code
def yJ0_length_8abf5 : MethodName := ⟨RJ0, "length", "()I"⟩
abbrev cJ0_charAt_5068e : ByteArray := prog_16_method_56_code
def yJ0_charAt_5068e : MethodName := ⟨RJ0, "charAt", "(I)C"⟩
abbrev cJ0_indexOf_0f7a4 : ByteArray := prog_16_method_79_code
def yJ0_indexOf_0f7a4 : MethodName := ⟨RJ0, "indexOf", "(I)I"⟩
abbrev cJ0_indexOf_7cf53 : ByteArray := prog_16_method_80_code
def yJ0_indexOf_7cf53 : MethodName := ⟨RJ0, "indexOf", "(II)I"⟩
abbrev cJ0_coder_7d493 : ByteArray := prog_16_method_152_code
def yJ0_coder_7d493 : MethodName := ⟨RJ0, "coder", "()B"⟩
abbrev cJ0_isLatin1_aae02 : ByteArray := prog_16_method_154_code
def yJ0_isLatin1_aae02 : MethodName := ⟨RJ0, "isLatin1", "()Z"⟩
abbrev cJ0_checkIndex_df160 : ByteArray := prog_16_method_155_code
def yJ0_checkIndex_df160 : MethodName := ⟨RJ0, "checkIndex", "(II)V"⟩
abbrev cJ0_checkBoundsBeginEnd_23922 : ByteArray := prog_16_method_158_code
def yJ0_checkBoundsBeginEnd_23922 : MethodName := ⟨RJ0, "checkBoundsBeginEnd", "(III)V"⟩
def RJ1 : String := "java/lang/StringLatin1"
def TJ1 : u_T := fun k => match k with
  | _ => ("", "", "", false)
def tyJ1 : Nat → FieldType := fun k => match k with
  | _ => .int
abbrev wsJ10 : List Cond := u_ws RJ1 TJ1 0
theorem nmJ1 : ∀ a, a < 0 → ∀ b, b < 0 → a ≠ b → (TJ1 a).2.1 ≠ (TJ1 b).2.1 := by decide +kernel
theorem tyJ1_ok : ∀ k, k < 0 → parseFieldDescriptor (TJ1 k).2.2.1 = some (tyJ1 k) := by decide +kernel
abbrev cJ1_charAt_3b067 : ByteArray := prog_17_method_2_code
def yJ1_charAt_3b067 : MethodName := ⟨RJ1, "charAt", "([BI)C"⟩
abbrev cJ1_canEncode_9a6ad : ByteArray := prog_17_method_4_code
def yJ1_canEncode_9a6ad : MethodName := ⟨RJ1, "canEncode", "(I)Z"⟩
abbrev cJ1_indexOf_4cfef : ByteArray := prog_17_method_22_code
def yJ1_indexOf_4cfef : MethodName := ⟨RJ1, "indexOf", "([BIII)I"⟩
abbrev cJ1_indexOfChar_4cfef : ByteArray := prog_17_method_23_code
def yJ1_indexOfChar_4cfef : MethodName := ⟨RJ1, "indexOfChar", "([BIII)I"⟩
def RJ2 : String := "java/lang/StringUTF16"
def TJ2 : u_T := fun k => match k with
  | _ => ("", "", "", false)
def tyJ2 : Nat → FieldType := fun k => match k with
  | _ => .int
abbrev wsJ20 : List Cond := u_ws RJ2 TJ2 0
theorem nmJ2 : ∀ a, a < 0 → ∀ b, b < 0 → a ≠ b → (TJ2 a).2.1 ≠ (TJ2 b).2.1 := by decide +kernel
theorem tyJ2_ok : ∀ k, k < 0 → parseFieldDescriptor (TJ2 k).2.2.1 = some (tyJ2 k) := by decide +kernel
abbrev cJ2_getChar_3b067 : ByteArray := prog_18_method_5_code
def yJ2_getChar_3b067 : MethodName := ⟨RJ2, "getChar", "([BI)C"⟩
abbrev cJ2_length_9d52b : ByteArray := prog_18_method_6_code
def yJ2_length_9d52b : MethodName := ⟨RJ2, "length", "([B)I"⟩
abbrev cJ2_indexOf_4cfef : ByteArray := prog_18_method_40_code
def yJ2_indexOf_4cfef : MethodName := ⟨RJ2, "indexOf", "([BIII)I"⟩
abbrev cJ2_indexOfChar_4cfef : ByteArray := prog_18_method_47_code
def yJ2_indexOfChar_4cfef : MethodName := ⟨RJ2, "indexOfChar", "([BIII)I"⟩
abbrev cJ2_indexOfCharUnsafe_4cfef : ByteArray := prog_18_method_48_code
def yJ2_indexOfCharUnsafe_4cfef : MethodName := ⟨RJ2, "indexOfCharUnsafe", "([BIII)I"⟩
abbrev cJ2_indexOfSupplementary_4cfef : ByteArray := prog_18_method_49_code
def yJ2_indexOfSupplementary_4cfef : MethodName := ⟨RJ2, "indexOfSupplementary", "([BIII)I"⟩
abbrev cJ2_charAt_3b067 : ByteArray := prog_18_method_83_code
def yJ2_charAt_3b067 : MethodName := ⟨RJ2, "charAt", "([BI)C"⟩
abbrev cJ2_checkIndex_2214a : ByteArray := prog_18_method_91_code
def yJ2_checkIndex_2214a : MethodName := ⟨RJ2, "checkIndex", "(I[B)V"⟩
abbrev cJ2_checkBoundsBeginEnd_d044e : ByteArray := prog_18_method_93_code
def yJ2_checkBoundsBeginEnd_d044e : MethodName := ⟨RJ2, "checkBoundsBeginEnd", "(II[B)V"⟩
def RJ10 : String := "java/lang/System"
def TJ10 : u_T := fun k => match k with
  | _ => ("", "", "", false)
def tyJ10 : Nat → FieldType := fun k => match k with
  | _ => .int
abbrev wsJ100 : List Cond := u_ws RJ10 TJ10 0
theorem nmJ10 : ∀ a, a < 0 → ∀ b, b < 0 → a ≠ b → (TJ10 a).2.1 ≠ (TJ10 b).2.1 := by decide +kernel
theorem tyJ10_ok : ∀ k, k < 0 → parseFieldDescriptor (TJ10 k).2.2.1 = some (tyJ10 k) := by decide +kernel
def RJ7 : String := "java/util/Arrays"
def TJ7 : u_T := fun k => match k with
  | _ => ("", "", "", false)
def tyJ7 : Nat → FieldType := fun k => match k with
  | _ => .int
abbrev wsJ70 : List Cond := u_ws RJ7 TJ7 0
theorem nmJ7 : ∀ a, a < 0 → ∀ b, b < 0 → a ≠ b → (TJ7 a).2.1 ≠ (TJ7 b).2.1 := by decide +kernel
theorem tyJ7_ok : ∀ k, k < 0 → parseFieldDescriptor (TJ7 k).2.2.1 = some (tyJ7 k) := by decide +kernel
abbrev cJ7_fill_53178 : ByteArray := prog_20_method_103_code
def yJ7_fill_53178 : MethodName := ⟨RJ7, "fill", "([II)V"⟩
abbrev cJ7_copyOf_59c91 : ByteArray := prog_20_method_123_code
def yJ7_copyOf_59c91 : MethodName := ⟨RJ7, "copyOf", "([II)[I"⟩
def RJ3 : String := "jdk/internal/util/Preconditions"
def TJ3 : u_T := fun k => match k with
  | _ => ("", "", "", false)
def tyJ3 : Nat → FieldType := fun k => match k with
  | _ => .int
abbrev wsJ30 : List Cond := u_ws RJ3 TJ3 0
theorem nmJ3 : ∀ a, a < 0 → ∀ b, b < 0 → a ≠ b → (TJ3 a).2.1 ≠ (TJ3 b).2.1 := by decide +kernel
theorem tyJ3_ok : ∀ k, k < 0 → parseFieldDescriptor (TJ3 k).2.2.1 = some (tyJ3 k) := by decide +kernel
abbrev cJ3_checkIndex_8e157 : ByteArray := prog_21_method_11_code
def yJ3_checkIndex_8e157 : MethodName := ⟨RJ3, "checkIndex", "(IILjava/util/function/BiFunction;)I"⟩
abbrev cJ3_checkFromToIndex_8c36e : ByteArray := prog_21_method_12_code
def yJ3_checkFromToIndex_8c36e : MethodName := ⟨RJ3, "checkFromToIndex", "(IIILjava/util/function/BiFunction;)I"⟩
def RL : String := "WhoSingsNextLaw"
abbrev cL_law : ByteArray := code
def yL_law : MethodName := ⟨RL, "law", "([I)Z"⟩
abbrev vwCl : List vw_C := [(RX0, TX0, 16), (RX1, TX1, 8), (RX2, TX2, 2), (RX3, TX3, 11), (RX4, TX4, 7), (RX5, TX5, 3), (RX6, TX6, 4), (RX7, TX7, 4), (RX8, TX8, 9), (RX9, TX9, 61)]
end
section
/-! ===== memory: all ints of all cells, by kind, instance, place ===== -/
def gw_t : List Cond := lw_tbl.filter goodWord
theorem gw_mem {w : Cond} (k : Nat) (h : lw_tbl[k]? = some w) (g : goodWord w = true) : w ∈ gw_t := List.mem_filter.mpr ⟨List.mem_of_getElem? h, g⟩
theorem gw_good : GoodIn gw_t gw_t := fun w h => ⟨h, good_of_word (List.mem_filter.mp h).2⟩
theorem gw_law : GoodIn lw_tbl gw_t := fun w h => ⟨(List.mem_filter.mp h).1, good_of_word (List.mem_filter.mp h).2⟩
abbrev mm_T : Type := Nat → Nat → Nat → Int32
def mm_row (I : mm_T) (k i : Nat) (f : Nat → Int32) : mm_T := fun a => if a = k then (fun b => if b = i then f else I a b) else I a
def mm_up (I : mm_T) (k i j : Nat) (v : Int32) : mm_T := mm_row I k i (upd (I k i) j v)
theorem mm_row_ne {I : mm_T} {k i : Nat} {f : Nat → Int32} {a : Nat} (h : a ≠ k) : mm_row I k i f a = I a := by unfold mm_row; rw [if_neg h]
theorem mm_row_at {I : mm_T} {k i : Nat} {f : Nat → Int32} : mm_row I k i f k i = f := by unfold mm_row; rw [if_pos rfl]; exact if_pos rfl
theorem mm_row_ni {I : mm_T} {k i : Nat} {f : Nat → Int32} {b : Nat} (h : b ≠ i) : mm_row I k i f k b = I k b := by unfold mm_row; rw [if_pos rfl]; exact if_neg h
theorem mm_up_ne {I : mm_T} {k i j : Nat} {v : Int32} {a : Nat} (h : a ≠ k) : mm_up I k i j v a = I a := mm_row_ne h
theorem mm_up_at {I : mm_T} {k i j : Nat} {v : Int32} : mm_up I k i j v k i = upd (I k i) j v := mm_row_at
theorem mm_up_ni {I : mm_T} {k i j : Nat} {v : Int32} {b : Nat} (h : b ≠ i) : mm_up I k i j v k b = I k b := mm_row_ni h
/-- the class's memory and the reference's, as one -/
def mm_m (k : Nat) : Bool := k == 9 || 30 ≤ k
def mm_mx (I J : mm_T) : mm_T := fun k => if mm_m k = true then J k else I k
theorem mm_mx_I {I J : mm_T} {k : Nat} (h : mm_m k = false) : mm_mx I J k = I k := by unfold mm_mx; rw [h]; rfl
theorem mm_mx_J {I J : mm_T} {k : Nat} (h : mm_m k = true) : mm_mx I J k = J k := by unfold mm_mx; rw [h]; rfl
theorem mm_mx_rowI {I J : mm_T} {k i : Nat} {f : Nat → Int32} (h : mm_m k = false) : mm_mx (mm_row I k i f) J = mm_row (mm_mx I J) k i f := by
  funext a
  by_cases ha : a = k
  · subst ha
    funext b
    by_cases hb : b = i
    · subst hb; rw [mm_mx_I h, mm_row_at, mm_row_at]
    · rw [mm_mx_I h, mm_row_ni hb, mm_row_ni hb, mm_mx_I h]
  · rw [mm_row_ne ha]; unfold mm_mx; rw [mm_row_ne ha]
theorem mm_mx_rowJ {I J : mm_T} {k i : Nat} {f : Nat → Int32} (h : mm_m k = true) : mm_mx I (mm_row J k i f) = mm_row (mm_mx I J) k i f := by
  funext a
  by_cases ha : a = k
  · subst ha
    funext b
    by_cases hb : b = i
    · subst hb; rw [mm_mx_J h, mm_row_at, mm_row_at]
    · rw [mm_mx_J h, mm_row_ni hb, mm_row_ni hb, mm_mx_J h]
  · rw [mm_row_ne ha]; unfold mm_mx; rw [mm_row_ne ha]
/-! ===== a world of cells side by side from an address on ===== -/
def gm_W (b n : Nat) (M : Nat → va_E) : va_W := (List.range n).map fun k => (b + k, M k)
theorem gm_len {b n : Nat} {M : Nat → va_E} : (gm_W b n M).length = n := by simp [gm_W]
theorem gm_get {b n k : Nat} {M : Nat → va_E} (h : k < n) : (gm_W b n M)[k]? = some (b + k, M k) := by
  simp [gm_W, h]
theorem gm_lt {b n k : Nat} {M : Nat → va_E} {q : Nat × va_E} (h : (gm_W b n M)[k]? = some q) : k < n ∧ q = (b + k, M k) := by
  have hk : k < n := by
    have := (List.getElem?_eq_some_iff.mp h).1
    rwa [gm_len] at this
  rw [gm_get hk] at h
  exact ⟨hk, (Option.some.inj h).symm⟩
theorem gm_D {b n : Nat} {M : Nat → va_E} : va_D (fun q => b ≤ q) (gm_W b n M) := by
  refine ⟨fun i j p q hp hq e => ?_, fun k q hk => ?_⟩
  · obtain ⟨-, rfl⟩ := gm_lt hp
    obtain ⟨-, rfl⟩ := gm_lt hq
    simp only at e
    omega
  · obtain ⟨-, rfl⟩ := gm_lt hk
    exact Nat.le_add_right b k
theorem gm_set {b n k : Nat} {M : Nat → va_E} {e : va_E} : (gm_W b n M).set k (b + k, e) = gm_W b n (va_up M k e) := by
  apply List.ext_getElem?
  intro j
  rw [List.getElem?_set]
  by_cases hj : j < n
  · rw [gm_get (M := va_up M k e) hj]
    by_cases hk : k = j
    · subst hk
      rw [if_pos rfl, gm_len, if_pos hj]
      unfold va_up
      rw [if_pos rfl]
    · rw [if_neg hk, gm_get hj]
      unfold va_up
      rw [if_neg (fun h => hk h.symm)]
  · have h1 : (gm_W b n (va_up M k e))[j]? = none := by rw [List.getElem?_eq_none_iff, gm_len]; omega
    have h2 : (gm_W b n M)[j]? = none := by rw [List.getElem?_eq_none_iff, gm_len]; omega
    rw [h1, h2, gm_len]
    by_cases hk : k = j
    · rw [if_pos hk, if_neg (by omega)]
    · rw [if_neg hk]
theorem gm_push {b n : Nat} {M : Nat → va_E} {e : va_E} : gm_W b n M ++ [(b + n, e)] = gm_W b (n + 1) (va_up M n e) := by
  unfold gm_W
  rw [List.range_succ, List.map_append]
  congr 1
  · apply List.map_congr_left
    intro k hk
    have := List.mem_range.mp hk
    unfold va_up
    rw [if_neg (by omega)]
  · simp [va_up]
/-! ===== the layout ===== -/
/-- tables' names, array classes, the first address, the addresses of the text constants and of their bytes -/
abbrev cx_T : Type := va_G × (Nat → ClassId) × Nat × (Nat → Nat) × (Nat → Nat)
abbrev cx_D (G : cx_T) : va_G := G.1
abbrev cx_c (G : cx_T) : Nat → ClassId := G.2.1
abbrev cx_b (G : cx_T) : Nat := G.2.2.1
abbrev cx_K (G : cx_T) : Nat → Nat := G.2.2.2.1
abbrev cx_V (G : cx_T) : Nat → Nat := G.2.2.2.2
def ly_loc (k i : Nat) : Nat := match k with
  | 0 => if i = 0 then 41 else 47 + 7 * i
  | 1 => 1 + 18 * i
  | 2 => 4 + 18 * (i / 8) + i % 8
  | 3 => 37 + i
  | 4 => 48 + i
  | 5 => 114 + 2 * i
  | 6 => 12 + 18 * (i / 7) + i % 7
  | 7 => if i = 0 then 111 else 141 + 3 * i
  | 8 => i
  | 9 => 122 + i
  | 10 => if i = 0 then 42 else 48 + 7 * i
  | 11 => if i = 0 then 43 else 49 + 7 * i
  | 12 => if i = 0 then 44 else 50 + 7 * i
  | 13 => if i = 0 then 45 else 51 + 7 * i
  | 14 => if i = 0 then 46 else 52 + 7 * i
  | 15 => if i = 0 then 47 else 53 + 7 * i
  | 16 => 2 + 18 * i
  | 17 => 3 + 18 * i
  | 18 => 38 + i
  | 19 => 39 + i
  | 20 => 40 + i
  | 21 => 49 + i
  | 22 => 50 + i
  | 23 => 51 + i
  | 24 => 52 + i
  | 25 => 53 + i
  | 26 => 110 + i
  | 27 => 115 + 2 * i
  | 28 => if i = 0 then 112 else 142 + 3 * i
  | 29 => if i = 0 then 113 else 143 + 3 * i
  | 30 => 123 + i
  | 31 => 124 + i
  | 32 => 125 + i
  | 33 => 126 + i
  | 34 => 127 + i
  | 35 => 128 + i
  | 36 => 129 + i
  | 37 => 130 + i
  | 38 => 131 + i
  | 39 => 132 + i
  | 40 => 133 + i
  | 41 => 134 + i
  | 42 => 135 + i
  | 43 => 136 + i
  | 44 => 137 + i
  | 45 => 138 + i
  | 46 => 139 + i
  | 47 => 140 + i
  | 48 => 141 + i
  | 49 => 142 + i
  | _ => 143 + i
def ly_tab : List (Nat × Nat) := [(8, 0), (1, 0), (16, 0), (17, 0), (2, 0), (2, 1), (2, 2), (2, 3), (2, 4), (2, 5), (2, 6), (2, 7), (6, 0), (6, 1), (6, 2), (6, 3), (6, 4), (6, 5), (6, 6), (1, 1), (16, 1), (17, 1), (2, 8), (2, 9), (2, 10), (2, 11), (2, 12), (2, 13), (2, 14), (2, 15), (6, 7), (6, 8), (6, 9), (6, 10), (6, 11), (6, 12), (6, 13), (3, 0), (18, 0), (19, 0), (20, 0), (0, 0), (10, 0), (11, 0), (12, 0), (13, 0), (14, 0), (15, 0), (4, 0), (21, 0), (22, 0), (23, 0), (24, 0), (25, 0), (0, 1), (10, 1), (11, 1), (12, 1), (13, 1), (14, 1), (15, 1), (0, 2), (10, 2), (11, 2), (12, 2), (13, 2), (14, 2), (15, 2), (0, 3), (10, 3), (11, 3), (12, 3), (13, 3), (14, 3), (15, 3), (0, 4), (10, 4), (11, 4), (12, 4), (13, 4), (14, 4), (15, 4), (0, 5), (10, 5), (11, 5), (12, 5), (13, 5), (14, 5), (15, 5), (0, 6), (10, 6), (11, 6), (12, 6), (13, 6), (14, 6), (15, 6), (0, 7), (10, 7), (11, 7), (12, 7), (13, 7), (14, 7), (15, 7), (0, 8), (10, 8), (11, 8), (12, 8), (13, 8), (14, 8), (15, 8), (26, 0), (7, 0), (28, 0), (29, 0), (5, 0), (27, 0), (5, 1), (27, 1), (5, 2), (27, 2), (5, 3), (27, 3), (9, 0), (30, 0), (31, 0), (32, 0), (33, 0), (34, 0), (35, 0), (36, 0), (37, 0), (38, 0), (39, 0), (40, 0), (41, 0), (42, 0), (43, 0), (44, 0), (45, 0), (46, 0), (47, 0), (48, 0), (49, 0), (50, 0)]
def ly_lay (k : Nat) : Nat × Nat := if k < 144 then ly_tab.getD k (0, 0) else ((if (k - 144) % 3 = 0 then 7 else if (k - 144) % 3 = 1 then 28 else 29), (k - 144) / 3 + 1)
theorem ly_inv0 : ∀ k, k < 144 → ly_loc (ly_tab.getD k (0, 0)).1 (ly_tab.getD k (0, 0)).2 = k := by decide +kernel
theorem ly_inv (k : Nat) : ly_loc (ly_lay k).1 (ly_lay k).2 = k := by
  unfold ly_lay
  by_cases h : k < 144
  · rw [if_pos h]; exact ly_inv0 k h
  · rw [if_neg h]
    have h3 : (k - 144) % 3 = 0 ∨ (k - 144) % 3 = 1 ∨ (k - 144) % 3 = 2 := by omega
    rcases h3 with h3 | h3 | h3
    · rw [if_pos h3]; show (if (k - 144) / 3 + 1 = 0 then 111 else 141 + 3 * ((k - 144) / 3 + 1)) = k; rw [if_neg (by omega)]; omega
    · rw [if_neg (by omega), if_pos h3]; show (if (k - 144) / 3 + 1 = 0 then 112 else 142 + 3 * ((k - 144) / 3 + 1)) = k; rw [if_neg (by omega)]; omega
    · rw [if_neg (by omega), if_neg (by omega)]; show (if (k - 144) / 3 + 1 = 0 then 113 else 143 + 3 * ((k - 144) / 3 + 1)) = k; rw [if_neg (by omega)]; omega
theorem ly_inj {a b : Nat} (h : ly_lay a = ly_lay b) : a = b := by rw [← ly_inv a, ← ly_inv b, h]
def ly_tx (G : cx_T) (v : Int32) : Value := if v = -1 then .null else .ref (cx_b G + ly_loc 7 v.toNatClampNeg)
def ly_K (G : cx_T) (k i : Nat) (c : Nat → Int32) : va_E := match k with
  | 0 => .inr (0, [.ref (cx_b G + ly_loc 1 0), ly_tx G (c 1), .ref (cx_b G + ly_loc 10 i), .ref (cx_b G + ly_loc 11 i), .ref (cx_b G + ly_loc 12 i), .ref (cx_b G + ly_loc 13 i), .ref (cx_b G + ly_loc 14 i), .int (c 7), .ref (cx_b G + ly_loc 15 i), .int (c 9), .int (c 10), .int (c 11), .int (c 12), .int (c 13), .int (c 14), .int (c 15)])
  | 1 => .inr (1, [.ref (cx_b G + ly_loc 16 i), .ref (cx_b G + ly_loc 17 i), .int (c 2), .int (c 3), .int (c 4), .int (c 5), .int (c 6), .int (c 7)])
  | 2 => .inr (2, [.int (c 0), .int (c 1)])
  | 3 => .inr (3, [.ref (cx_b G + ly_loc 18 0), .int (c 1), .ref (cx_b G + ly_loc 19 0), .int (c 3), .int (c 4), .int (c 5), .int (c 6), .int (c 7), .int (c 8), .int (c 9), .int (c 10)])
  | 4 => .inr (4, [.ref (cx_b G + ly_loc 1 0), .ref (cx_b G + ly_loc 21 0), .ref (cx_b G + ly_loc 22 0), .ref (cx_b G + ly_loc 23 0), .ref (cx_b G + ly_loc 24 0), .ref (cx_b G + ly_loc 25 0), .int (c 6)])
  | 5 => .inr (5, [.ref (cx_b G + ly_loc 27 i), .int (c 1), .int (c 2)])
  | 6 => .inr (6, [.int (c 0), .int (c 1), .int (c 2), .int (c 3)])
  | 7 => .inr (7, [.ref (cx_b G + ly_loc 28 i), .int (c 1), .int (c 2), .ref (cx_b G + ly_loc 29 i)])
  | 8 => .inr (8, [.ref (cx_b G + ly_loc 1 0), .ref (cx_b G + ly_loc 1 1), .int (c 2), .ref (cx_b G + ly_loc 3 0), .ref (cx_b G + ly_loc 20 0), .int (c 5), .ref (cx_b G + ly_loc 0 0), .ref (cx_b G + ly_loc 4 0), .ref (cx_b G + ly_loc 26 0)])
  | 9 => .inr (9, [.int (c 0), .ref (cx_b G + ly_loc 30 0), .ref (cx_b G + ly_loc 31 0), .int (c 3), .int (c 4), .ref (cx_b G + ly_loc 32 0), .int (c 6), .ref (cx_b G + ly_loc 33 0), .ref (cx_b G + ly_loc 34 0), .int (c 9), .ref (cx_b G + ly_loc 35 0), .ref (cx_b G + ly_loc 36 0), .ref (cx_b G + ly_loc 37 0), .ref (cx_b G + ly_loc 38 0), .int (c 14), .int (c 15), .int (c 16), .int (c 17), .int (c 18), .int (c 19), .int (c 20), .int (c 21), .int (c 22), .int (c 23), .int (c 24), .int (c 25), .int (c 26), .int (c 27), .long (c 28).toInt64, .int (c 29), .int (c 30), .int (c 31), .int (c 32), .int (c 33), .int (c 34), .int (c 35), .int (c 36), .ref (cx_b G + ly_loc 39 0), .ref (cx_b G + ly_loc 40 0), .int (c 39), .int (c 40), .ref (cx_b G + ly_loc 41 0), .ref (cx_b G + ly_loc 42 0), .ref (cx_b G + ly_loc 43 0), .ref (cx_b G + ly_loc 44 0), .int (c 45), .int (c 46), .int (c 47), .int (c 48), .int (c 49), .ref (cx_b G + ly_loc 45 0), .ref (cx_b G + ly_loc 46 0), .int (c 52), .int (c 53), .int (c 54), .int (c 55), .int (c 56), .ref (cx_b G + ly_loc 47 0), .ref (cx_b G + ly_loc 48 0), .ref (cx_b G + ly_loc 49 0), .ref (cx_b G + ly_loc 50 0)])
  | 10 => .inl (cx_c G 0, 6, .inl c)
  | 11 => .inl (cx_c G 0, 8, .inl c)
  | 12 => .inl (cx_c G 0, 8, .inl c)
  | 13 => .inl (cx_c G 0, 8, .inl c)
  | 14 => .inl (cx_c G 0, 7, .inl c)
  | 15 => .inl (cx_c G 0, 7, .inl c)
  | 16 => .inl (cx_c G 2, 8, .inr (.inr (.inr (.inr (fun j => some (cx_b G + ly_loc 2 (8 * i + j)))))))
  | 17 => .inl (cx_c G 3, 7, .inr (.inr (.inr (.inr (fun j => some (cx_b G + ly_loc 6 (7 * i + j)))))))
  | 18 => .inl (cx_c G 0, 160, .inl c)
  | 19 => .inl (cx_c G 0, 160, .inl c)
  | 20 => .inl (cx_c G 4, 6, .inr (.inr (.inr (.inr (fun j => some (cx_b G + ly_loc 7 (c j).toNatClampNeg))))))
  | 21 => .inl (cx_c G 5, 8, .inr (.inr (.inr (.inr (fun j => some (cx_b G + ly_loc 0 (j + 1)))))))
  | 22 => .inl (cx_c G 0, 2, .inl c)
  | 23 => .inl (cx_c G 0, 2, .inl c)
  | 24 => .inl (cx_c G 0, 2, .inl c)
  | 25 => .inl (cx_c G 0, 2, .inl c)
  | 26 => .inl (cx_c G 6, 4, .inr (.inr (.inr (.inr (fun j => some (cx_b G + ly_loc 5 j))))))
  | 27 => .inl (cx_c G 0, 40, .inl c)
  | 28 => .inl (cx_c G 0, (c 1000).toNatClampNeg, .inl c)
  | 29 => .inl (cx_c G 0, 31, .inl c)
  | 30 => .inl (cx_c G 0, 960, .inl c)
  | 31 => .inl (cx_c G 0, 6, .inl c)
  | 32 => .inl (cx_c G 0, 160, .inl c)
  | 33 => .inl (cx_c G 0, 8, .inl c)
  | 34 => .inl (cx_c G 0, 8, .inl c)
  | 35 => .inl (cx_c G 0, 7, .inl c)
  | 36 => .inl (cx_c G 0, 7, .inl c)
  | 37 => .inl (cx_c G 0, 7, .inl c)
  | 38 => .inl (cx_c G 0, 7, .inl c)
  | 39 => .inl (cx_c G 0, 8, .inl c)
  | 40 => .inl (cx_c G 0, 8, .inl c)
  | 41 => .inl (cx_c G 0, 7, .inl c)
  | 42 => .inl (cx_c G 0, 56, .inl c)
  | 43 => .inl (cx_c G 0, 64, .inl c)
  | 44 => .inl (cx_c G 0, 64, .inl c)
  | 45 => .inl (cx_c G 0, 16, .inl c)
  | 46 => .inl (cx_c G 0, 21, .inl c)
  | 47 => .inl (cx_c G 1, 4, .inl c)
  | 48 => .inl (cx_c G 0, 4, .inl c)
  | 49 => .inl (cx_c G 0, 4, .inl c)
  | _ => .inl (cx_c G 0, 160, .inl c)
def ly_cell (G : cx_T) (M : mm_T) (k : Nat) : va_E := ly_K G (ly_lay k).1 (ly_lay k).2 (M (ly_lay k).1 (ly_lay k).2)
/-- an instance that is there -/
def ly_ok (n k i : Nat) : Prop := ly_lay (ly_loc k i) = (k, i) ∧ ly_loc k i < n
theorem ly_at {G : cx_T} {M : mm_T} {n k i : Nat} (h : ly_ok n k i) : ly_cell G M (ly_loc k i) = ly_K G k i (M k i) := by unfold ly_cell; rw [h.1]
theorem ly_get {G : cx_T} {M : mm_T} {b n k i : Nat} (h : ly_ok n k i) : (gm_W b n (ly_cell G M))[ly_loc k i]? = some (b + ly_loc k i, ly_K G k i (M k i)) := by rw [gm_get h.2, ly_at h]
theorem ly_up {G : cx_T} {M : mm_T} {n k i : Nat} {f : Nat → Int32} (h : ly_ok n k i) : ly_cell G (mm_row M k i f) = va_up (ly_cell G M) (ly_loc k i) (ly_K G k i f) := by
  funext q
  unfold va_up
  by_cases hq : q = ly_loc k i
  · subst hq
    rw [if_pos rfl, ly_at h, mm_row_at]
  · rw [if_neg hq]
    have hne : ly_lay q ≠ (k, i) := fun e => hq (ly_inj (e.trans h.1.symm))
    unfold ly_cell
    by_cases h1 : (ly_lay q).1 = k
    · have h2 : (ly_lay q).2 ≠ i := fun e => hne (Prod.ext h1 e)
      rw [h1, mm_row_ni h2]
    · rw [mm_row_ne h1]
theorem ly_set {G : cx_T} {M : mm_T} {b n k i : Nat} {f : Nat → Int32} {e : va_E} (h : ly_ok n k i) (he : ly_K G k i f = e) : (gm_W b n (ly_cell G M)).set (ly_loc k i) (b + ly_loc k i, e) = gm_W b n (ly_cell G (mm_row M k i f)) := by
  rw [gm_set, ly_up h, he]
theorem ly_ok_0_0 : ∀ i, i < 9 → ly_lay (ly_loc 0 i) = (0, i) ∧ ly_loc 0 i < 144 := by decide +kernel
theorem ly_ok_0 {n i : Nat} (h : i < 9) (hn : 144 ≤ n) : ly_ok n 0 i := ⟨(ly_ok_0_0 i h).1, Nat.lt_of_lt_of_le (ly_ok_0_0 i h).2 hn⟩
theorem ly_ok_1_0 : ∀ i, i < 2 → ly_lay (ly_loc 1 i) = (1, i) ∧ ly_loc 1 i < 144 := by decide +kernel
theorem ly_ok_1 {n i : Nat} (h : i < 2) (hn : 144 ≤ n) : ly_ok n 1 i := ⟨(ly_ok_1_0 i h).1, Nat.lt_of_lt_of_le (ly_ok_1_0 i h).2 hn⟩
theorem ly_ok_2_0 : ∀ i, i < 16 → ly_lay (ly_loc 2 i) = (2, i) ∧ ly_loc 2 i < 144 := by decide +kernel
theorem ly_ok_2 {n i : Nat} (h : i < 16) (hn : 144 ≤ n) : ly_ok n 2 i := ⟨(ly_ok_2_0 i h).1, Nat.lt_of_lt_of_le (ly_ok_2_0 i h).2 hn⟩
theorem ly_ok_3_0 : ∀ i, i < 1 → ly_lay (ly_loc 3 i) = (3, i) ∧ ly_loc 3 i < 144 := by decide +kernel
theorem ly_ok_3 {n i : Nat} (h : i < 1) (hn : 144 ≤ n) : ly_ok n 3 i := ⟨(ly_ok_3_0 i h).1, Nat.lt_of_lt_of_le (ly_ok_3_0 i h).2 hn⟩
theorem ly_ok_4_0 : ∀ i, i < 1 → ly_lay (ly_loc 4 i) = (4, i) ∧ ly_loc 4 i < 144 := by decide +kernel
theorem ly_ok_4 {n i : Nat} (h : i < 1) (hn : 144 ≤ n) : ly_ok n 4 i := ⟨(ly_ok_4_0 i h).1, Nat.lt_of_lt_of_le (ly_ok_4_0 i h).2 hn⟩
theorem ly_ok_5_0 : ∀ i, i < 4 → ly_lay (ly_loc 5 i) = (5, i) ∧ ly_loc 5 i < 144 := by decide +kernel
theorem ly_ok_5 {n i : Nat} (h : i < 4) (hn : 144 ≤ n) : ly_ok n 5 i := ⟨(ly_ok_5_0 i h).1, Nat.lt_of_lt_of_le (ly_ok_5_0 i h).2 hn⟩
theorem ly_ok_6_0 : ∀ i, i < 14 → ly_lay (ly_loc 6 i) = (6, i) ∧ ly_loc 6 i < 144 := by decide +kernel
theorem ly_ok_6 {n i : Nat} (h : i < 14) (hn : 144 ≤ n) : ly_ok n 6 i := ⟨(ly_ok_6_0 i h).1, Nat.lt_of_lt_of_le (ly_ok_6_0 i h).2 hn⟩
theorem ly_ok_8_0 : ∀ i, i < 1 → ly_lay (ly_loc 8 i) = (8, i) ∧ ly_loc 8 i < 144 := by decide +kernel
theorem ly_ok_8 {n i : Nat} (h : i < 1) (hn : 144 ≤ n) : ly_ok n 8 i := ⟨(ly_ok_8_0 i h).1, Nat.lt_of_lt_of_le (ly_ok_8_0 i h).2 hn⟩
theorem ly_ok_9_0 : ∀ i, i < 1 → ly_lay (ly_loc 9 i) = (9, i) ∧ ly_loc 9 i < 144 := by decide +kernel
theorem ly_ok_9 {n i : Nat} (h : i < 1) (hn : 144 ≤ n) : ly_ok n 9 i := ⟨(ly_ok_9_0 i h).1, Nat.lt_of_lt_of_le (ly_ok_9_0 i h).2 hn⟩
theorem ly_ok_10_0 : ∀ i, i < 9 → ly_lay (ly_loc 10 i) = (10, i) ∧ ly_loc 10 i < 144 := by decide +kernel
theorem ly_ok_10 {n i : Nat} (h : i < 9) (hn : 144 ≤ n) : ly_ok n 10 i := ⟨(ly_ok_10_0 i h).1, Nat.lt_of_lt_of_le (ly_ok_10_0 i h).2 hn⟩
theorem ly_ok_11_0 : ∀ i, i < 9 → ly_lay (ly_loc 11 i) = (11, i) ∧ ly_loc 11 i < 144 := by decide +kernel
theorem ly_ok_11 {n i : Nat} (h : i < 9) (hn : 144 ≤ n) : ly_ok n 11 i := ⟨(ly_ok_11_0 i h).1, Nat.lt_of_lt_of_le (ly_ok_11_0 i h).2 hn⟩
theorem ly_ok_12_0 : ∀ i, i < 9 → ly_lay (ly_loc 12 i) = (12, i) ∧ ly_loc 12 i < 144 := by decide +kernel
theorem ly_ok_12 {n i : Nat} (h : i < 9) (hn : 144 ≤ n) : ly_ok n 12 i := ⟨(ly_ok_12_0 i h).1, Nat.lt_of_lt_of_le (ly_ok_12_0 i h).2 hn⟩
theorem ly_ok_13_0 : ∀ i, i < 9 → ly_lay (ly_loc 13 i) = (13, i) ∧ ly_loc 13 i < 144 := by decide +kernel
theorem ly_ok_13 {n i : Nat} (h : i < 9) (hn : 144 ≤ n) : ly_ok n 13 i := ⟨(ly_ok_13_0 i h).1, Nat.lt_of_lt_of_le (ly_ok_13_0 i h).2 hn⟩
theorem ly_ok_14_0 : ∀ i, i < 9 → ly_lay (ly_loc 14 i) = (14, i) ∧ ly_loc 14 i < 144 := by decide +kernel
theorem ly_ok_14 {n i : Nat} (h : i < 9) (hn : 144 ≤ n) : ly_ok n 14 i := ⟨(ly_ok_14_0 i h).1, Nat.lt_of_lt_of_le (ly_ok_14_0 i h).2 hn⟩
theorem ly_ok_15_0 : ∀ i, i < 9 → ly_lay (ly_loc 15 i) = (15, i) ∧ ly_loc 15 i < 144 := by decide +kernel
theorem ly_ok_15 {n i : Nat} (h : i < 9) (hn : 144 ≤ n) : ly_ok n 15 i := ⟨(ly_ok_15_0 i h).1, Nat.lt_of_lt_of_le (ly_ok_15_0 i h).2 hn⟩
theorem ly_ok_16_0 : ∀ i, i < 2 → ly_lay (ly_loc 16 i) = (16, i) ∧ ly_loc 16 i < 144 := by decide +kernel
theorem ly_ok_16 {n i : Nat} (h : i < 2) (hn : 144 ≤ n) : ly_ok n 16 i := ⟨(ly_ok_16_0 i h).1, Nat.lt_of_lt_of_le (ly_ok_16_0 i h).2 hn⟩
theorem ly_ok_17_0 : ∀ i, i < 2 → ly_lay (ly_loc 17 i) = (17, i) ∧ ly_loc 17 i < 144 := by decide +kernel
theorem ly_ok_17 {n i : Nat} (h : i < 2) (hn : 144 ≤ n) : ly_ok n 17 i := ⟨(ly_ok_17_0 i h).1, Nat.lt_of_lt_of_le (ly_ok_17_0 i h).2 hn⟩
theorem ly_ok_18_0 : ∀ i, i < 1 → ly_lay (ly_loc 18 i) = (18, i) ∧ ly_loc 18 i < 144 := by decide +kernel
theorem ly_ok_18 {n i : Nat} (h : i < 1) (hn : 144 ≤ n) : ly_ok n 18 i := ⟨(ly_ok_18_0 i h).1, Nat.lt_of_lt_of_le (ly_ok_18_0 i h).2 hn⟩
theorem ly_ok_19_0 : ∀ i, i < 1 → ly_lay (ly_loc 19 i) = (19, i) ∧ ly_loc 19 i < 144 := by decide +kernel
theorem ly_ok_19 {n i : Nat} (h : i < 1) (hn : 144 ≤ n) : ly_ok n 19 i := ⟨(ly_ok_19_0 i h).1, Nat.lt_of_lt_of_le (ly_ok_19_0 i h).2 hn⟩
theorem ly_ok_20_0 : ∀ i, i < 1 → ly_lay (ly_loc 20 i) = (20, i) ∧ ly_loc 20 i < 144 := by decide +kernel
theorem ly_ok_20 {n i : Nat} (h : i < 1) (hn : 144 ≤ n) : ly_ok n 20 i := ⟨(ly_ok_20_0 i h).1, Nat.lt_of_lt_of_le (ly_ok_20_0 i h).2 hn⟩
theorem ly_ok_21_0 : ∀ i, i < 1 → ly_lay (ly_loc 21 i) = (21, i) ∧ ly_loc 21 i < 144 := by decide +kernel
theorem ly_ok_21 {n i : Nat} (h : i < 1) (hn : 144 ≤ n) : ly_ok n 21 i := ⟨(ly_ok_21_0 i h).1, Nat.lt_of_lt_of_le (ly_ok_21_0 i h).2 hn⟩
theorem ly_ok_22_0 : ∀ i, i < 1 → ly_lay (ly_loc 22 i) = (22, i) ∧ ly_loc 22 i < 144 := by decide +kernel
theorem ly_ok_22 {n i : Nat} (h : i < 1) (hn : 144 ≤ n) : ly_ok n 22 i := ⟨(ly_ok_22_0 i h).1, Nat.lt_of_lt_of_le (ly_ok_22_0 i h).2 hn⟩
theorem ly_ok_23_0 : ∀ i, i < 1 → ly_lay (ly_loc 23 i) = (23, i) ∧ ly_loc 23 i < 144 := by decide +kernel
theorem ly_ok_23 {n i : Nat} (h : i < 1) (hn : 144 ≤ n) : ly_ok n 23 i := ⟨(ly_ok_23_0 i h).1, Nat.lt_of_lt_of_le (ly_ok_23_0 i h).2 hn⟩
theorem ly_ok_24_0 : ∀ i, i < 1 → ly_lay (ly_loc 24 i) = (24, i) ∧ ly_loc 24 i < 144 := by decide +kernel
theorem ly_ok_24 {n i : Nat} (h : i < 1) (hn : 144 ≤ n) : ly_ok n 24 i := ⟨(ly_ok_24_0 i h).1, Nat.lt_of_lt_of_le (ly_ok_24_0 i h).2 hn⟩
theorem ly_ok_25_0 : ∀ i, i < 1 → ly_lay (ly_loc 25 i) = (25, i) ∧ ly_loc 25 i < 144 := by decide +kernel
theorem ly_ok_25 {n i : Nat} (h : i < 1) (hn : 144 ≤ n) : ly_ok n 25 i := ⟨(ly_ok_25_0 i h).1, Nat.lt_of_lt_of_le (ly_ok_25_0 i h).2 hn⟩
theorem ly_ok_26_0 : ∀ i, i < 1 → ly_lay (ly_loc 26 i) = (26, i) ∧ ly_loc 26 i < 144 := by decide +kernel
theorem ly_ok_26 {n i : Nat} (h : i < 1) (hn : 144 ≤ n) : ly_ok n 26 i := ⟨(ly_ok_26_0 i h).1, Nat.lt_of_lt_of_le (ly_ok_26_0 i h).2 hn⟩
theorem ly_ok_27_0 : ∀ i, i < 4 → ly_lay (ly_loc 27 i) = (27, i) ∧ ly_loc 27 i < 144 := by decide +kernel
theorem ly_ok_27 {n i : Nat} (h : i < 4) (hn : 144 ≤ n) : ly_ok n 27 i := ⟨(ly_ok_27_0 i h).1, Nat.lt_of_lt_of_le (ly_ok_27_0 i h).2 hn⟩
theorem ly_ok_30_0 : ∀ i, i < 1 → ly_lay (ly_loc 30 i) = (30, i) ∧ ly_loc 30 i < 144 := by decide +kernel
theorem ly_ok_30 {n i : Nat} (h : i < 1) (hn : 144 ≤ n) : ly_ok n 30 i := ⟨(ly_ok_30_0 i h).1, Nat.lt_of_lt_of_le (ly_ok_30_0 i h).2 hn⟩
theorem ly_ok_31_0 : ∀ i, i < 1 → ly_lay (ly_loc 31 i) = (31, i) ∧ ly_loc 31 i < 144 := by decide +kernel
theorem ly_ok_31 {n i : Nat} (h : i < 1) (hn : 144 ≤ n) : ly_ok n 31 i := ⟨(ly_ok_31_0 i h).1, Nat.lt_of_lt_of_le (ly_ok_31_0 i h).2 hn⟩
theorem ly_ok_32_0 : ∀ i, i < 1 → ly_lay (ly_loc 32 i) = (32, i) ∧ ly_loc 32 i < 144 := by decide +kernel
theorem ly_ok_32 {n i : Nat} (h : i < 1) (hn : 144 ≤ n) : ly_ok n 32 i := ⟨(ly_ok_32_0 i h).1, Nat.lt_of_lt_of_le (ly_ok_32_0 i h).2 hn⟩
theorem ly_ok_33_0 : ∀ i, i < 1 → ly_lay (ly_loc 33 i) = (33, i) ∧ ly_loc 33 i < 144 := by decide +kernel
theorem ly_ok_33 {n i : Nat} (h : i < 1) (hn : 144 ≤ n) : ly_ok n 33 i := ⟨(ly_ok_33_0 i h).1, Nat.lt_of_lt_of_le (ly_ok_33_0 i h).2 hn⟩
theorem ly_ok_34_0 : ∀ i, i < 1 → ly_lay (ly_loc 34 i) = (34, i) ∧ ly_loc 34 i < 144 := by decide +kernel
theorem ly_ok_34 {n i : Nat} (h : i < 1) (hn : 144 ≤ n) : ly_ok n 34 i := ⟨(ly_ok_34_0 i h).1, Nat.lt_of_lt_of_le (ly_ok_34_0 i h).2 hn⟩
theorem ly_ok_35_0 : ∀ i, i < 1 → ly_lay (ly_loc 35 i) = (35, i) ∧ ly_loc 35 i < 144 := by decide +kernel
theorem ly_ok_35 {n i : Nat} (h : i < 1) (hn : 144 ≤ n) : ly_ok n 35 i := ⟨(ly_ok_35_0 i h).1, Nat.lt_of_lt_of_le (ly_ok_35_0 i h).2 hn⟩
theorem ly_ok_36_0 : ∀ i, i < 1 → ly_lay (ly_loc 36 i) = (36, i) ∧ ly_loc 36 i < 144 := by decide +kernel
theorem ly_ok_36 {n i : Nat} (h : i < 1) (hn : 144 ≤ n) : ly_ok n 36 i := ⟨(ly_ok_36_0 i h).1, Nat.lt_of_lt_of_le (ly_ok_36_0 i h).2 hn⟩
theorem ly_ok_37_0 : ∀ i, i < 1 → ly_lay (ly_loc 37 i) = (37, i) ∧ ly_loc 37 i < 144 := by decide +kernel
theorem ly_ok_37 {n i : Nat} (h : i < 1) (hn : 144 ≤ n) : ly_ok n 37 i := ⟨(ly_ok_37_0 i h).1, Nat.lt_of_lt_of_le (ly_ok_37_0 i h).2 hn⟩
theorem ly_ok_38_0 : ∀ i, i < 1 → ly_lay (ly_loc 38 i) = (38, i) ∧ ly_loc 38 i < 144 := by decide +kernel
theorem ly_ok_38 {n i : Nat} (h : i < 1) (hn : 144 ≤ n) : ly_ok n 38 i := ⟨(ly_ok_38_0 i h).1, Nat.lt_of_lt_of_le (ly_ok_38_0 i h).2 hn⟩
theorem ly_ok_39_0 : ∀ i, i < 1 → ly_lay (ly_loc 39 i) = (39, i) ∧ ly_loc 39 i < 144 := by decide +kernel
theorem ly_ok_39 {n i : Nat} (h : i < 1) (hn : 144 ≤ n) : ly_ok n 39 i := ⟨(ly_ok_39_0 i h).1, Nat.lt_of_lt_of_le (ly_ok_39_0 i h).2 hn⟩
theorem ly_ok_40_0 : ∀ i, i < 1 → ly_lay (ly_loc 40 i) = (40, i) ∧ ly_loc 40 i < 144 := by decide +kernel
theorem ly_ok_40 {n i : Nat} (h : i < 1) (hn : 144 ≤ n) : ly_ok n 40 i := ⟨(ly_ok_40_0 i h).1, Nat.lt_of_lt_of_le (ly_ok_40_0 i h).2 hn⟩
theorem ly_ok_41_0 : ∀ i, i < 1 → ly_lay (ly_loc 41 i) = (41, i) ∧ ly_loc 41 i < 144 := by decide +kernel
theorem ly_ok_41 {n i : Nat} (h : i < 1) (hn : 144 ≤ n) : ly_ok n 41 i := ⟨(ly_ok_41_0 i h).1, Nat.lt_of_lt_of_le (ly_ok_41_0 i h).2 hn⟩
theorem ly_ok_42_0 : ∀ i, i < 1 → ly_lay (ly_loc 42 i) = (42, i) ∧ ly_loc 42 i < 144 := by decide +kernel
theorem ly_ok_42 {n i : Nat} (h : i < 1) (hn : 144 ≤ n) : ly_ok n 42 i := ⟨(ly_ok_42_0 i h).1, Nat.lt_of_lt_of_le (ly_ok_42_0 i h).2 hn⟩
theorem ly_ok_43_0 : ∀ i, i < 1 → ly_lay (ly_loc 43 i) = (43, i) ∧ ly_loc 43 i < 144 := by decide +kernel
theorem ly_ok_43 {n i : Nat} (h : i < 1) (hn : 144 ≤ n) : ly_ok n 43 i := ⟨(ly_ok_43_0 i h).1, Nat.lt_of_lt_of_le (ly_ok_43_0 i h).2 hn⟩
theorem ly_ok_44_0 : ∀ i, i < 1 → ly_lay (ly_loc 44 i) = (44, i) ∧ ly_loc 44 i < 144 := by decide +kernel
theorem ly_ok_44 {n i : Nat} (h : i < 1) (hn : 144 ≤ n) : ly_ok n 44 i := ⟨(ly_ok_44_0 i h).1, Nat.lt_of_lt_of_le (ly_ok_44_0 i h).2 hn⟩
theorem ly_ok_45_0 : ∀ i, i < 1 → ly_lay (ly_loc 45 i) = (45, i) ∧ ly_loc 45 i < 144 := by decide +kernel
theorem ly_ok_45 {n i : Nat} (h : i < 1) (hn : 144 ≤ n) : ly_ok n 45 i := ⟨(ly_ok_45_0 i h).1, Nat.lt_of_lt_of_le (ly_ok_45_0 i h).2 hn⟩
theorem ly_ok_46_0 : ∀ i, i < 1 → ly_lay (ly_loc 46 i) = (46, i) ∧ ly_loc 46 i < 144 := by decide +kernel
theorem ly_ok_46 {n i : Nat} (h : i < 1) (hn : 144 ≤ n) : ly_ok n 46 i := ⟨(ly_ok_46_0 i h).1, Nat.lt_of_lt_of_le (ly_ok_46_0 i h).2 hn⟩
theorem ly_ok_47_0 : ∀ i, i < 1 → ly_lay (ly_loc 47 i) = (47, i) ∧ ly_loc 47 i < 144 := by decide +kernel
theorem ly_ok_47 {n i : Nat} (h : i < 1) (hn : 144 ≤ n) : ly_ok n 47 i := ⟨(ly_ok_47_0 i h).1, Nat.lt_of_lt_of_le (ly_ok_47_0 i h).2 hn⟩
theorem ly_ok_48_0 : ∀ i, i < 1 → ly_lay (ly_loc 48 i) = (48, i) ∧ ly_loc 48 i < 144 := by decide +kernel
theorem ly_ok_48 {n i : Nat} (h : i < 1) (hn : 144 ≤ n) : ly_ok n 48 i := ⟨(ly_ok_48_0 i h).1, Nat.lt_of_lt_of_le (ly_ok_48_0 i h).2 hn⟩
theorem ly_ok_49_0 : ∀ i, i < 1 → ly_lay (ly_loc 49 i) = (49, i) ∧ ly_loc 49 i < 144 := by decide +kernel
theorem ly_ok_49 {n i : Nat} (h : i < 1) (hn : 144 ≤ n) : ly_ok n 49 i := ⟨(ly_ok_49_0 i h).1, Nat.lt_of_lt_of_le (ly_ok_49_0 i h).2 hn⟩
theorem ly_ok_50_0 : ∀ i, i < 1 → ly_lay (ly_loc 50 i) = (50, i) ∧ ly_loc 50 i < 144 := by decide +kernel
theorem ly_ok_50 {n i : Nat} (h : i < 1) (hn : 144 ≤ n) : ly_ok n 50 i := ⟨(ly_ok_50_0 i h).1, Nat.lt_of_lt_of_le (ly_ok_50_0 i h).2 hn⟩
theorem ly_ok_7 {n t : Nat} (h : 3 * t + 144 ≤ n) : ly_ok n 7 t := by
  have hl : ly_loc 7 t = if t = 0 then 111 else 141 + 3 * t := rfl
  unfold ly_ok
  by_cases h0 : t = 0
  · subst h0; exact ⟨by decide +kernel, Nat.lt_of_lt_of_le (show ly_loc 7 0 < 144 by decide +kernel) (by omega)⟩
  · rw [hl, if_neg h0]
    refine ⟨?_, by omega⟩
    unfold ly_lay
    rw [if_neg (by omega)]
    have e1 : (141 + 3 * t - 144) % 3 = 0 := by omega
    have e2 : (141 + 3 * t - 144) / 3 + 1 = t := by omega
    rw [e1, e2]
    rfl
theorem ly_ok_28 {n t : Nat} (h : 3 * t + 144 ≤ n) : ly_ok n 28 t := by
  have hl : ly_loc 28 t = if t = 0 then 112 else 142 + 3 * t := rfl
  unfold ly_ok
  by_cases h0 : t = 0
  · subst h0; exact ⟨by decide +kernel, Nat.lt_of_lt_of_le (show ly_loc 28 0 < 144 by decide +kernel) (by omega)⟩
  · rw [hl, if_neg h0]
    refine ⟨?_, by omega⟩
    unfold ly_lay
    rw [if_neg (by omega)]
    have e1 : (142 + 3 * t - 144) % 3 = 1 := by omega
    have e2 : (142 + 3 * t - 144) / 3 + 1 = t := by omega
    rw [e1, e2]
    rfl
theorem ly_ok_29 {n t : Nat} (h : 3 * t + 144 ≤ n) : ly_ok n 29 t := by
  have hl : ly_loc 29 t = if t = 0 then 113 else 143 + 3 * t := rfl
  unfold ly_ok
  by_cases h0 : t = 0
  · subst h0; exact ⟨by decide +kernel, Nat.lt_of_lt_of_le (show ly_loc 29 0 < 144 by decide +kernel) (by omega)⟩
  · rw [hl, if_neg h0]
    refine ⟨?_, by omega⟩
    unfold ly_lay
    rw [if_neg (by omega)]
    have e1 : (143 + 3 * t - 144) % 3 = 2 := by omega
    have e2 : (143 + 3 * t - 144) / 3 + 1 = t := by omega
    rw [e1, e2]
    rfl
abbrev cx_t (G : cx_T) : List (ClassId × FieldType) := [(cx_c G 0, .int), (cx_c G 1, .boolean), (cx_c G 2, .object "WhoSingsNext$Person"), (cx_c G 3, .object "WhoSingsNext$Slip"), (cx_c G 4, .object "WhoSingsNext$Text"), (cx_c G 5, .object "WhoSingsNext$Evening"), (cx_c G 6, .object "WhoSingsNext$Sheet")]
end
section
/-! ===== what holds of the tables and of what lay in the heap before ===== -/
def cx_strs : List (String × Nat × String) := [("WhoSingsNext", 54, "bears 10 ; takes 2 + mood ; first waited - sung * 9 ;"), ("WhoSingsNext$Reader", 110, "minute"), ("WhoSingsNext$Reader", 116, "waited"), ("WhoSingsNext$Reader", 118, "sung"), ("WhoSingsNext$Reader", 120, "sort"), ("WhoSingsNext$Reader", 122, "bar"), ("WhoSingsNext$Reader", 124, "mood"), ("WhoSingsNext$Reader", 126, "bears"), ("WhoSingsNext$Reader", 128, "takes"), ("WhoSingsNext$Reader", 130, "first"), ("WhoSingsNext$Reader", 132, "or"), ("WhoSingsNext$Reader", 134, "and"), ("WhoSingsNext$Reader", 136, "not"), ("WhoSingsNext$Reader", 102, "();+-*<=")]
def cx_len : List Nat := [53, 6, 6, 4, 4, 3, 4, 5, 5, 5, 2, 3, 3, 8]
def cx_byt : List (List Int32) := [[98, 101, 97, 114, 115, 32, 49, 48, 32, 59, 32, 116, 97, 107, 101, 115, 32, 50, 32, 43, 32, 109, 111, 111, 100, 32, 59, 32, 102, 105, 114, 115, 116, 32, 119, 97, 105, 116, 101, 100, 32, 45, 32, 115, 117, 110, 103, 32, 42, 32, 57, 32, 59], [109, 105, 110, 117, 116, 101], [119, 97, 105, 116, 101, 100], [115, 117, 110, 103], [115, 111, 114, 116], [98, 97, 114], [109, 111, 111, 100], [98, 101, 97, 114, 115], [116, 97, 107, 101, 115], [102, 105, 114, 115, 116], [111, 114], [97, 110, 100], [110, 111, 116], [40, 41, 59, 43, 45, 42, 60, 61]]
def nw_is : Cond → Bool
  | .fieldLinkNest .. => true
  | .methodLinkNest .. => true
  | _ => false
def nw_t : List Cond := lw_tbl.filter nw_is
theorem nw_mem {w : Cond} (k : Nat) (h : lw_tbl[k]? = some w) (g : nw_is w = true) : w ∈ nw_t := List.mem_filter.mpr ⟨List.mem_of_getElem? h, g⟩
theorem nw_warm {w : Cond} {s U : State} (h : w ∈ nw_t) (hW : s.WarmedH U.vm) (hZ : va_Nw w s) : va_Nw w U := by
  have hi := (List.mem_filter.mp h).2
  cases w <;> first | exact hZ.warmF hW | exact hZ.warmM hW | (exact absurd hi (by simp [nw_is]))
theorem nw_same {w : Cond} {u U : State} (h : w ∈ nw_t) (hv : u.vm = U.vm) (hZ : va_Nw w u) : va_Nw w U := by
  have hi := (List.mem_filter.mp h).2
  cases w <;> first | exact va_Nw.same rfl hv hZ | (exact absurd hi (by simp [nw_is]))
def cx_Kx (G : cx_T) (U : State) : Prop := va_K (cx_D G) vwCl (cx_t G) U ∧ vk_S 14 cx_len cx_byt (cx_K G) (cx_V G) (fun q => cx_b G ≤ q) U U.heap ∧ (∀ (i : Nat) (r : String × Nat × String), cx_strs[i]? = some r → vk_R r.1 r.2.1 r.2.2 (cx_K G i) U) ∧ va_Z "java/lang/String" "COMPACT_STRINGS" "Z" (.int 1) (fun q => cx_b G ≤ q) U U.heap ∧ va_Zq "jdk/internal/util/Preconditions" "SIOOBE_FORMATTER" "Ljava/util/function/BiFunction;" (fun q => cx_b G ≤ q) U U.heap ∧ ∀ w ∈ nw_t, va_Nw w U
theorem cx_Kx.at {G : cx_T} {s U : State} {H : Heap} {locs : List Loc} (h : cx_Kx G s) (hS : va_S (fun q => cx_b G ≤ q) s.heap H locs) (hU : U.heap = H) (hW : s.WarmedH U.vm) : cx_Kx G U := by
  obtain ⟨h1, h2, h3, h4, h5, h6⟩ := h
  refine ⟨va_K.moved hW.alike h1, ?_, fun i r hr => (h3 i r hr).warm hW, ?_, ?_, fun w hw => nw_warm hw hW (h6 w hw)⟩
  · rw [hU]; exact vk_S.moved hW.alike (h2.kept hS.2.1)
  · rw [hU]; exact va_Z.moved hW.alike (h4.kept hS.2.1)
  · rw [hU]; exact va_Zq.moved hW.alike (h5.kept hS.2.1)
theorem cx_Kx.call {G : cx_T} {U : State} {g : JFrame} {mk : MethodId} {a : Array Value} (h : cx_Kx G U) : cx_Kx G (U.calling g mk a) := by
  obtain ⟨h1, h2, h3, h4, h5, h6⟩ := h
  exact ⟨va_K.moved (u := U) (U := U.calling g mk a) (Vm.Alike.refl U.vm) h1, vk_S.moved (u := U) (U := U.calling g mk a) (Vm.Alike.refl U.vm) h2, fun i r hr => vk_R.same (u := U) (U := U.calling g mk a) rfl (h3 i r hr), va_Z.moved (u := U) (U := U.calling g mk a) (Vm.Alike.refl U.vm) h4, va_Zq.moved (u := U) (U := U.calling g mk a) (Vm.Alike.refl U.vm) h5, fun w hw => nw_same (u := U) (U := U.calling g mk a) hw rfl (h6 w hw)⟩
/-- a method's frame: the machine, its code, the tables -/
def cx_ok (G : cx_T) (p : Program) (s : State) (m : MethodId) (args : Array Value) (meth : Method) (c : Code) (cc : ByteArray) (nL : Nat) (own : String) (ret : Option FieldType) : Prop :=
  p.tables.exec = Jvm.exec ∧ c.code = cc ∧ c.maxLocals = nL ∧ s.vm.findClass own = some m.cls ∧ (∀ w ∈ gw_t, w.before args s = true) ∧ cx_Kx G s ∧ meth.sig.returnType = ret ∧ meth.locks = false
/-- the world at a place of the walk -/
def st_ok (G : cx_T) (n : Nat) (I J : mm_T) (s : State) (H : Heap) (locs : List Loc) : Prop :=
  va_P (cx_D G) vwCl (gm_W (cx_b G) n (ly_cell G (mm_mx I J))) H ∧ s.heap.size = cx_b G + n ∧ va_S (fun q => cx_b G ≤ q) s.heap H locs ∧ 144 ≤ n
def wd_ok (G : cx_T) (n : Nat) (I J : mm_T) (U : State) : Prop := va_P (cx_D G) vwCl (gm_W (cx_b G) n (ly_cell G (mm_mx I J))) U.heap ∧ U.heap.size = cx_b G + n ∧ 144 ≤ n
def wd_pre (G : cx_T) (n : Nat) (I J : mm_T) (U : State) : Prop := wd_ok G n I J U ∧ cx_Kx G U
abbrev cx_A (G : cx_T) : Nat → Prop := fun q => cx_b G ≤ q
def ct_qv (G : cx_T) (n : Nat) (I J : mm_T) : Array Value → State → Outcome → State → Prop := va_Qv (fun _ : Unit => True) (fun _ => wd_ok G n I J) (cx_A G)
def ct_qi (G : cx_T) (n : Nat) (I J : mm_T) (r : Int32) : Array Value → State → Outcome → State → Prop := va_Qi (fun (x : Int32) (_ : Unit) => x = r) (fun _ => wd_ok G n I J) (cx_A G)
def ct_ql (G : cx_T) (n : Nat) (I J : mm_T) (r : Int64) : Array Value → State → Outcome → State → Prop := va_Ql (fun (x : Int64) (_ : Unit) => x = r) (fun _ => wd_ok G n I J) (cx_A G)
def ct_qr (G : cx_T) (n : Nat) (I J : mm_T) (a : Nat) : Array Value → State → Outcome → State → Prop := va_Qr (fun _ : Unit => True) (fun _ x t => x = a ∧ wd_ok G n I J t) (cx_A G)
/-- a contract: from memory (I, J) with these arguments to the end Qc -/
def ct_m (l : Launch) (G : cx_T) (n : Nat) (y : MethodName) (cc : ByteArray) (ml : Nat) (ret : Option FieldType) (rm : Room) (av : List Value) (I J : mm_T) (Qc : Array Value → State → Outcome → State → Prop) : Prop :=
  Met l y (.code y cc ml ret :: gw_t) rm (va_Pc av (wd_pre G n I J)) Qc 0 0 (cx_A G)
theorem wd_blind {G : cx_T} {n : Nat} {I J : mm_T} {av : List Value} : FrameBlind (va_Pc av (wd_pre G n I J)) := fun a U g mk q => ⟨q.1, q.2.1, q.2.2.call⟩
theorem ct_en {l : Launch} {G : cx_T} {n : Nat} {y : MethodName} {cc : ByteArray} {ml : Nat} {ret : Option FieldType} {rm : Room} {av : List Value} {I J : mm_T} {Qc : Array Value → State → Outcome → State → Prop} (hy : plainName y.cls = true) (hav : (lg_sl av).length ≤ ml)
    (body : ∀ (p : Program) (e : Env) (s : State) (m : MethodId) (args : Array Value) (below : List Frame) (meth : Method) (c : Code) (ls : Array Slot), cx_ok G p s m args meth c cc ml y.cls ret → st_ok G n I J s s.heap [] → lv_has ls ml (lv_args 0 av) → W p l e rm s m args below meth c s.heap [] 0 0 (MQ below Qc args s 0 0 (cx_A G)) (F0 m 0 ls [])) : ct_m l G n y cc ml ret rm av I J Qc := by
  unfold ct_m
  refine Met.ofW (cc := cc) (maxL := ml) (ret := ret) hy rfl ?_
  intro p e s m args below meth c s₁ B hml hv
  obtain ⟨rfl, ⟨hP, hsz, hn⟩, hK⟩ := hv
  have hts := atoms_spec (ws := .code y cc ml ret :: gw_t) B.pre
  have hl := lv_entry av (n := ml) hav
  rw [lg_entry_eq]
  exact body p e s m av.toArray below meth c _ ⟨B.exec, B.bytes, hml, findClass_of_methodNamed B.named, fun w h => hts w (List.mem_cons_of_mem _ h), hK, B.returns, B.notSynchronized⟩ ⟨hP, hsz, va_S.rf, hn⟩ hl
section RW
variable {p : Program} {l : Launch} {e : Env} {R : Room} {s : State} {m : MethodId} {args : Array Value} {below : List Frame} {meth : Method} {c : Code} {H : Heap} {locs : List Loc} {cells slots : Nat} {Q : State → Prop}
variable {cc : ByteArray} {pc : Nat} {ls : Array Slot} {rest : List Value} {G : cx_T} {n nL : Nat} {I J : mm_T} {own : String} {ret : Option FieldType}
theorem r_size {g : JFrame} (kk : s.heap.size ≤ H.size → H.size ≤ s.heap.size + cells → W p l e R s m args below meth c H locs cells slots Q g) : W p l e R s m args below meth c H locs cells slots Q g := fun T hT X => kk (by rw [← hT]; exact X.same.2.1) (by rw [← hT]; exact X.same.2.2.1) T hT X
theorem st_ok.wd (S : st_ok G n I J s H locs) (h1 : s.heap.size ≤ H.size) (h2 : H.size ≤ s.heap.size + 0) {t : State} (ht : t.heap = H) : wd_ok G n I J t := ⟨by rw [ht]; exact S.1, by rw [ht]; have := S.2.1; omega, S.2.2.2⟩
theorem st_ok.wb {t : State} (S : st_ok G n I J s H locs) {I' J' : mm_T} {H1 : Heap} {locs1 : List Loc} (h : wd_ok G n I' J' t) (ht : t.heap = H1) (hS : va_S (cx_A G) s.heap H1 locs1) : st_ok G n I' J' s H1 locs1 := ⟨by rw [← ht]; exact h.1, S.2.1, hS, h.2.2⟩
theorem st_ok.pre (X : cx_ok G p s m args meth c cc nL own ret) (S : st_ok G n I J s H locs) (h1 : s.heap.size ≤ H.size) (h2 : H.size ≤ s.heap.size + 0) {U : State} (hU : U.heap = H) (hW : s.WarmedH U.vm) : wd_pre G n I J U := ⟨S.wd h1 h2 hU, X.2.2.2.2.2.1.at S.2.2.1 hU hW⟩
/-! ends -/
theorem r_vret (X : cx_ok G p s m args meth c cc nL own none) (S : st_ok G n I J s H locs) (hd : decode cc pc = .ok (.return_, 1)) : W p l e R s m args below meth c H locs 0 0 (MQ below (ct_qv G n I J) args s 0 0 (cx_A G)) (F0 m pc ls []) :=
  r_size (fun h1 h2 => W.vret X.1 X.2.1 X.2.2.2.2.2.2.1 (fun t ht hW => ⟨⟨(), rfl, trivial, S.wd h1 h2 ht⟩, S.2.2.1.F ht⟩) S.2.2.1.2.2 hd X.2.2.2.2.2.2.2)
theorem r_iret (X : cx_ok G p s m args meth c cc nL own (some .int)) (S : st_ok G n I J s H locs) {v : Int32} (hd : decode cc pc = .ok (.ireturn, 1)) : W p l e R s m args below meth c H locs 0 0 (MQ below (ct_qi G n I J v) args s 0 0 (cx_A G)) (F0 m pc ls [.int v]) :=
  r_size (fun h1 h2 => W.iret X.1 X.2.1 X.2.2.2.2.2.2.1 (fun t ht hW => ⟨⟨v, (), rfl, rfl, S.wd h1 h2 ht⟩, S.2.2.1.F ht⟩) S.2.2.1.2.2 hd X.2.2.2.2.2.2.2)
theorem r_zret (X : cx_ok G p s m args meth c cc nL own (some .boolean)) (S : st_ok G n I J s H locs) {v : Int32} (hv : narrow .boolean (.int v) = .int v) (hd : decode cc pc = .ok (.ireturn, 1)) : W p l e R s m args below meth c H locs 0 0 (MQ below (ct_qi G n I J v) args s 0 0 (cx_A G)) (F0 m pc ls [.int v]) :=
  r_size (fun h1 h2 => W.zret X.1 X.2.1 X.2.2.2.2.2.2.1 hv (fun t ht hW => ⟨⟨v, (), rfl, rfl, S.wd h1 h2 ht⟩, S.2.2.1.F ht⟩) S.2.2.1.2.2 hd X.2.2.2.2.2.2.2)
theorem r_lret (X : cx_ok G p s m args meth c cc nL own (some .long)) (S : st_ok G n I J s H locs) {v : Int64} (hd : decode cc pc = .ok (.lreturn, 1)) : W p l e R s m args below meth c H locs 0 0 (MQ below (ct_ql G n I J v) args s 0 0 (cx_A G)) (F0 m pc ls [.long v]) :=
  r_size (fun h1 h2 => W.lret X.1 X.2.1 X.2.2.2.2.2.2.1 (fun t ht hW => ⟨⟨v, (), rfl, rfl, S.wd h1 h2 ht⟩, S.2.2.1.F ht⟩) S.2.2.1.2.2 hd X.2.2.2.2.2.2.2)
theorem r_aret {C : String} (X : cx_ok G p s m args meth c cc nL own (some (.object C))) (S : st_ok G n I J s H locs) {a : Nat} (hd : decode cc pc = .ok (.areturn, 1)) : W p l e R s m args below meth c H locs 0 0 (MQ below (ct_qr G n I J a) args s 0 0 (cx_A G)) (F0 m pc ls [.ref a]) :=
  r_size (fun h1 h2 => W.aret X.1 X.2.1 X.2.2.2.2.2.2.1 (Or.inl ⟨_, rfl⟩) (Or.inr ⟨_, rfl⟩) (fun t ht hW => ⟨⟨(), a, rfl, trivial, rfl, S.wd h1 h2 ht⟩, S.2.2.1.F ht⟩) S.2.2.1.2.2 hd X.2.2.2.2.2.2.2)
/-! fields -/
theorem r_get (X : cx_ok G p s m args meth c cc nL own ret) (S : st_ok G n I J s H locs) {k i ci idx : Nat} (ho : ly_ok n k i) {fs : List Value} (hf : ly_K G k i (mm_mx I J k i) = .inr (ci, fs)) {C : String} {T : u_T} {N : Nat} (hc : vwCl[ci]? = some (C, T, N)) (hin : ∀ w ∈ u_ws C T N, w ∈ gw_t) (j : Nat) (hj : j < N) (hw : Cond.fieldLink own idx (T j).1 (T j).2.1 (T j).2.2.1 ∈ gw_t) {v : Value} (hv : fs[j]? = some v) (hd : decode cc pc = .ok (.getfield idx, 3))
    (kk : W p l e R s m args below meth c H locs cells slots Q (F0 m (pc + 3) ls (v :: rest))) : W p l e R s m args below meth c H locs cells slots Q (F0 m pc ls (.ref (cx_b G + ly_loc k i) :: rest)) :=
  va_get (D := cx_D G) (ci := ci) (v := v) (C := C) (T := T) (N := N) X.1 X.2.1 X.2.2.2.2.1 hin X.2.2.2.1 X.2.2.2.2.2.1.1 S.1 (ly_loc k i) (by rw [ly_get ho, hf]) hc j hj (X.2.2.2.2.1 _ hw) (fun _ h => h) hv hd kk
theorem r_getN (X : cx_ok G p s m args meth c cc nL own ret) (S : st_ok G n I J s H locs) {k i ci idx : Nat} {host : String} (ho : ly_ok n k i) {fs : List Value} (hf : ly_K G k i (mm_mx I J k i) = .inr (ci, fs)) {C : String} {T : u_T} {N : Nat} (hc : vwCl[ci]? = some (C, T, N)) (hin : ∀ w ∈ u_ws C T N, w ∈ gw_t) (j : Nat) (hj : j < N) (hw : Cond.fieldLinkNest own idx (T j).1 (T j).2.1 (T j).2.2.1 host ∈ nw_t) {v : Value} (hv : fs[j]? = some v) (hd : decode cc pc = .ok (.getfield idx, 3))
    (kk : W p l e R s m args below meth c H locs cells slots Q (F0 m (pc + 3) ls (v :: rest))) : W p l e R s m args below meth c H locs cells slots Q (F0 m pc ls (.ref (cx_b G + ly_loc k i) :: rest)) :=
  va_getN (D := cx_D G) (ci := ci) (v := v) (C := C) (T := T) (N := N) X.1 X.2.1 X.2.2.2.2.1 hin X.2.2.2.1 X.2.2.2.2.2.1.1 S.1 (ly_loc k i) (by rw [ly_get ho, hf]) hc j hj ((X.2.2.2.2.2.1.2.2.2.2.2 _ hw).use rfl) (fun _ h => h) hv hd kk
theorem st_rowI (S : st_ok G n I J s H locs) {k i : Nat} (hm : mm_m k = false) {f : Nat → Int32} {H1 : Heap} {locs1 : List Loc} (hP : va_P (cx_D G) vwCl (gm_W (cx_b G) n (ly_cell G (mm_row (mm_mx I J) k i f))) H1) (hS : va_S (cx_A G) s.heap H1 locs1) : st_ok G n (mm_row I k i f) J s H1 locs1 := ⟨by rw [mm_mx_rowI hm]; exact hP, S.2.1, hS, S.2.2.2⟩
theorem st_rowJ (S : st_ok G n I J s H locs) {k i : Nat} (hm : mm_m k = true) {f : Nat → Int32} {H1 : Heap} {locs1 : List Loc} (hP : va_P (cx_D G) vwCl (gm_W (cx_b G) n (ly_cell G (mm_row (mm_mx I J) k i f))) H1) (hS : va_S (cx_A G) s.heap H1 locs1) : st_ok G n I (mm_row J k i f) s H1 locs1 := ⟨by rw [mm_mx_rowJ hm]; exact hP, S.2.1, hS, S.2.2.2⟩
theorem r_putI (X : cx_ok G p s m args meth c cc nL own ret) (S : st_ok G n I J s H locs) {k i ci idx : Nat} (ho : ly_ok n k i) (hm : mm_m k = false) {fs : List Value} (hf : ly_K G k i (mm_mx I J k i) = .inr (ci, fs)) {C : String} {T : u_T} {N : Nat} {ty0 : Nat → FieldType} (hc : vwCl[ci]? = some (C, T, N)) (hin : ∀ w ∈ u_ws C T N, w ∈ gw_t) (hty : ∀ k, k < N → parseFieldDescriptor (T k).2.2.1 = some (ty0 k)) (hnm : ∀ a, a < N → ∀ b, b < N → a ≠ b → (T a).2.1 ≠ (T b).2.1) (j : Nat) (hj : j < N) (hw : Cond.fieldLink own idx (T j).1 (T j).2.1 (T j).2.2.1 ∈ gw_t ∨ ∃ host, Cond.fieldLinkNest own idx (T j).1 (T j).2.1 (T j).2.2.1 host ∈ nw_t) (hfin : (T j).2.2.2 = false) {v : Value} {x : Int32} (hn : narrow (ty0 j) v = v) (hfit : fits (ty0 j) v = true) (hl : j < fs.length) (hu : ly_K G k i (upd (mm_mx I J k i) j x) = .inr (ci, fs.set j v)) (hd : decode cc pc = .ok (.putfield idx, 3))
    (kk : ∀ (I1 : mm_T) (H1 : Heap) (locs1 : List Loc), I1 = mm_up I k i j x → st_ok G n I1 J s H1 locs1 → W p l e R s m args below meth c H1 locs1 cells slots Q (F0 m (pc + 3) ls rest)) : W p l e R s m args below meth c H locs cells slots Q (F0 m pc ls (v :: .ref (cx_b G + ly_loc k i) :: rest)) := by
  rcases hw with hw | ⟨host, hw⟩
  · refine va_put (D := cx_D G) (ci := ci) (v := v) (ty := ty0 j) (C := C) (T := T) (N := N) X.1 X.2.1 X.2.2.2.2.1 hin ty0 hty hnm X.2.2.2.1 X.2.2.2.2.2.1.1 S.1 gm_D S.2.2.1 (ly_loc k i) (by rw [ly_get ho, hf]) hc j hj (X.2.2.2.2.1 _ hw) (fun _ h => h) hfin (hty j hj) hn hfit hl hd (fun H1 locs1 hP _ hS => ?_)
    rw [ly_set ho hu] at hP
    refine kk _ H1 locs1 rfl (st_rowI S hm ?_ hS)
    rw [mm_mx_I hm] at hP
    exact hP
  · refine va_putN (D := cx_D G) (ci := ci) (v := v) (ty := ty0 j) (C := C) (T := T) (N := N) X.1 X.2.1 X.2.2.2.2.1 hin ty0 hty hnm X.2.2.2.1 X.2.2.2.2.2.1.1 S.1 gm_D S.2.2.1 (ly_loc k i) (by rw [ly_get ho, hf]) hc j hj ((X.2.2.2.2.2.1.2.2.2.2.2 _ hw).use rfl) (fun _ h => h) hfin (hty j hj) hn hfit hl hd (fun H1 locs1 hP _ hS => ?_)
    rw [ly_set ho hu] at hP
    refine kk _ H1 locs1 rfl (st_rowI S hm ?_ hS)
    rw [mm_mx_I hm] at hP
    exact hP
theorem r_putJ (X : cx_ok G p s m args meth c cc nL own ret) (S : st_ok G n I J s H locs) {k i ci idx : Nat} (ho : ly_ok n k i) (hm : mm_m k = true) {fs : List Value} (hf : ly_K G k i (mm_mx I J k i) = .inr (ci, fs)) {C : String} {T : u_T} {N : Nat} {ty0 : Nat → FieldType} (hc : vwCl[ci]? = some (C, T, N)) (hin : ∀ w ∈ u_ws C T N, w ∈ gw_t) (hty : ∀ k, k < N → parseFieldDescriptor (T k).2.2.1 = some (ty0 k)) (hnm : ∀ a, a < N → ∀ b, b < N → a ≠ b → (T a).2.1 ≠ (T b).2.1) (j : Nat) (hj : j < N) (hw : Cond.fieldLink own idx (T j).1 (T j).2.1 (T j).2.2.1 ∈ gw_t) (hfin : (T j).2.2.2 = false) {v : Value} {x : Int32} (hn : narrow (ty0 j) v = v) (hfit : fits (ty0 j) v = true) (hl : j < fs.length) (hu : ly_K G k i (upd (mm_mx I J k i) j x) = .inr (ci, fs.set j v)) (hd : decode cc pc = .ok (.putfield idx, 3))
    (kk : ∀ (J1 : mm_T) (H1 : Heap) (locs1 : List Loc), J1 = mm_up J k i j x → st_ok G n I J1 s H1 locs1 → W p l e R s m args below meth c H1 locs1 cells slots Q (F0 m (pc + 3) ls rest)) : W p l e R s m args below meth c H locs cells slots Q (F0 m pc ls (v :: .ref (cx_b G + ly_loc k i) :: rest)) := by
  refine va_put (D := cx_D G) (ci := ci) (v := v) (ty := ty0 j) (C := C) (T := T) (N := N) X.1 X.2.1 X.2.2.2.2.1 hin ty0 hty hnm X.2.2.2.1 X.2.2.2.2.2.1.1 S.1 gm_D S.2.2.1 (ly_loc k i) (by rw [ly_get ho, hf]) hc j hj (X.2.2.2.2.1 _ hw) (fun _ h => h) hfin (hty j hj) hn hfit hl hd (fun H1 locs1 hP _ hS => ?_)
  rw [ly_set ho hu] at hP
  refine kk _ H1 locs1 rfl (st_rowJ S hm ?_ hS)
  rw [mm_mx_J hm] at hP
  exact hP
/-! arrays -/
def ix_in (i : Int32) (n : Nat) : Bool := decide (¬ (i < 0 ∨ n ≤ i.toNatClampNeg))
theorem ix_vp {i : Int32} {n : Nat} (h : ix_in i n = true) : vp_in i n := by unfold ix_in at h; unfold vp_in; exact of_decide_eq_true h
theorem r_iald (X : cx_ok G p s m args meth c cc nL own ret) (S : st_ok G n I J s H locs) {k i N : Nat} {f : Nat → Int32} (ho : ly_ok n k i) (hf : ly_K G k i (mm_mx I J k i) = .inl (cx_c G 0, N, .inl f)) {x : Int32} (hx : ix_in x N = true) (hd : decode cc pc = .ok (.iaload, 1))
    (kk : W p l e R s m args below meth c H locs cells slots Q (F0 m (pc + 1) ls (.int (f x.toNatClampNeg) :: rest))) : W p l e R s m args below meth c H locs cells slots Q (F0 m pc ls (.int x :: .ref (cx_b G + ly_loc k i) :: rest)) :=
  va_iald X.1 X.2.1 X.2.2.2.2.2.1.1 S.1 (ly_loc k i) 0 (by rw [ly_get ho, hf]) rfl (ix_vp hx) hd kk
theorem r_zald (X : cx_ok G p s m args meth c cc nL own ret) (S : st_ok G n I J s H locs) {k i N : Nat} {f : Nat → Int32} (ho : ly_ok n k i) (hf : ly_K G k i (mm_mx I J k i) = .inl (cx_c G 1, N, .inl f)) {x : Int32} (hx : ix_in x N = true) (hd : decode cc pc = .ok (.baload, 1))
    (kk : W p l e R s m args below meth c H locs cells slots Q (F0 m (pc + 1) ls (.int (f x.toNatClampNeg) :: rest))) : W p l e R s m args below meth c H locs cells slots Q (F0 m pc ls (.int x :: .ref (cx_b G + ly_loc k i) :: rest)) :=
  va_zald X.1 X.2.1 X.2.2.2.2.2.1.1 S.1 (ly_loc k i) 1 (by rw [ly_get ho, hf]) rfl (ix_vp hx) hd kk
theorem r_aald (X : cx_ok G p s m args meth c cc nL own ret) (S : st_ok G n I J s H locs) {k i N t0 : Nat} {C : String} {f : Nat → Option Nat} (ho : ly_ok n k i) (hf : ly_K G k i (mm_mx I J k i) = .inl (cx_c G t0, N, .inr (.inr (.inr (.inr f))))) (ht : (cx_t G)[t0]? = some (cx_c G t0, .object C)) {x : Int32} (hx : ix_in x N = true) {a : Nat} (ha : f x.toNatClampNeg = some a) (hd : decode cc pc = .ok (.aaload, 1))
    (kk : W p l e R s m args below meth c H locs cells slots Q (F0 m (pc + 1) ls (.ref a :: rest))) : W p l e R s m args below meth c H locs cells slots Q (F0 m pc ls (.int x :: .ref (cx_b G + ly_loc k i) :: rest)) :=
  va_aldq X.1 X.2.1 X.2.2.2.2.2.1.1 S.1 (ly_loc k i) t0 (by rw [ly_get ho, hf]) ht (ix_vp hx) hd (by rw [ha]; exact kk)
theorem r_alen (X : cx_ok G p s m args meth c cc nL own ret) (S : st_ok G n I J s H locs) {k i : Nat} {x : vp_A} (ho : ly_ok n k i) (hf : ly_K G k i (mm_mx I J k i) = .inl (cx_c G 0, x)) {v : Int32} (hv : Int32.ofNat x.1 = v) (hd : decode cc pc = .ok (.arraylength, 1))
    (kk : W p l e R s m args below meth c H locs cells slots Q (F0 m (pc + 1) ls (.int v :: rest))) : W p l e R s m args below meth c H locs cells slots Q (F0 m pc ls (.ref (cx_b G + ly_loc k i) :: rest)) :=
  va_alen X.1 X.2.1 X.2.2.2.2.2.1.1 S.1 (ly_loc k i) 0 (by rw [ly_get ho, hf]) (ty := .int) rfl hv hd kk
theorem r_iastI (X : cx_ok G p s m args meth c cc nL own ret) (S : st_ok G n I J s H locs) {k i N : Nat} (ho : ly_ok n k i) (hm : mm_m k = false) (hf : ∀ f : Nat → Int32, ly_K G k i f = .inl (cx_c G 0, N, .inl f)) {x y : Int32} (hx : ix_in x N = true) (hd : decode cc pc = .ok (.iastore, 1))
    (kk : ∀ (I1 : mm_T) (H1 : Heap) (locs1 : List Loc), I1 = mm_up I k i x.toNatClampNeg y → st_ok G n I1 J s H1 locs1 → W p l e R s m args below meth c H1 locs1 cells slots Q (F0 m (pc + 1) ls rest)) : W p l e R s m args below meth c H locs cells slots Q (F0 m pc ls (.int y :: .int x :: .ref (cx_b G + ly_loc k i) :: rest)) := by
  refine va_iast X.1 X.2.1 X.2.2.2.2.2.1.1 S.1 gm_D S.2.2.1 (ly_loc k i) 0 (by rw [ly_get ho, hf]) rfl (ix_vp hx) hd (fun H1 locs1 hP _ hS => ?_)
  rw [ly_set ho (hf _)] at hP
  refine kk _ H1 locs1 rfl (st_rowI S hm ?_ hS)
  rw [mm_mx_I hm] at hP
  exact hP
theorem r_iastJ (X : cx_ok G p s m args meth c cc nL own ret) (S : st_ok G n I J s H locs) {k i N : Nat} (ho : ly_ok n k i) (hm : mm_m k = true) (hf : ∀ f : Nat → Int32, ly_K G k i f = .inl (cx_c G 0, N, .inl f)) {x y : Int32} (hx : ix_in x N = true) (hd : decode cc pc = .ok (.iastore, 1))
    (kk : ∀ (J1 : mm_T) (H1 : Heap) (locs1 : List Loc), J1 = mm_up J k i x.toNatClampNeg y → st_ok G n I J1 s H1 locs1 → W p l e R s m args below meth c H1 locs1 cells slots Q (F0 m (pc + 1) ls rest)) : W p l e R s m args below meth c H locs cells slots Q (F0 m pc ls (.int y :: .int x :: .ref (cx_b G + ly_loc k i) :: rest)) := by
  refine va_iast X.1 X.2.1 X.2.2.2.2.2.1.1 S.1 gm_D S.2.2.1 (ly_loc k i) 0 (by rw [ly_get ho, hf]) rfl (ix_vp hx) hd (fun H1 locs1 hP _ hS => ?_)
  rw [ly_set ho (hf _)] at hP
  refine kk _ H1 locs1 rfl (st_rowJ S hm ?_ hS)
  rw [mm_mx_J hm] at hP
  exact hP
theorem r_zastJ (X : cx_ok G p s m args meth c cc nL own ret) (S : st_ok G n I J s H locs) {k i N : Nat} (ho : ly_ok n k i) (hm : mm_m k = true) (hf : ∀ f : Nat → Int32, ly_K G k i f = .inl (cx_c G 1, N, .inl f)) {x y : Int32} (hx : ix_in x N = true) (hd : decode cc pc = .ok (.bastore, 1))
    (kk : ∀ (J1 : mm_T) (H1 : Heap) (locs1 : List Loc), J1 = mm_up J k i x.toNatClampNeg (vp_nar .boolean y) → st_ok G n I J1 s H1 locs1 → W p l e R s m args below meth c H1 locs1 cells slots Q (F0 m (pc + 1) ls rest)) : W p l e R s m args below meth c H locs cells slots Q (F0 m pc ls (.int y :: .int x :: .ref (cx_b G + ly_loc k i) :: rest)) := by
  refine va_zast X.1 X.2.1 X.2.2.2.2.2.1.1 S.1 gm_D S.2.2.1 (ly_loc k i) 1 (by rw [ly_get ho, hf]) rfl (ix_vp hx) hd (fun H1 locs1 hP _ hS => ?_)
  rw [ly_set ho (hf _)] at hP
  refine kk _ H1 locs1 rfl (st_rowJ S hm ?_ hS)
  rw [mm_mx_J hm] at hP
  exact hP
theorem r_recv (X : cx_ok G p s m args meth c cc nL own ret) (S : st_ok G n I J s H locs) {k i ci : Nat} (ho : ly_ok n k i) {fs : List Value} (hf : ly_K G k i (mm_mx I J k i) = .inr (ci, fs)) {C : String} {T : u_T} {N : Nat} (hc : vwCl[ci]? = some (C, T, N)) : ∃ cell : Cell, H[cx_b G + ly_loc k i]? = some cell ∧ cell.vm.isStatics = false ∧ s.vm.findClass C = some cell.cls :=
  va_recv (q := (C, T, N)) X.2.2.2.2.2.1.1 S.1 hc (by rw [ly_get ho, hf])
theorem r_Vv (X : cx_ok G p s m args meth c cc nL own ret) (S : st_ok G n I J s H locs) {y : MethodName} {cy : ByteArray} {ml : Nat} {ry : Option FieldType} {rm : Room} {a : Nat} {As : List Value} {I1 J1 : mm_T} (hM : ct_m l G n y cy ml ry rm (.ref a :: As) I J (ct_qv G n I1 J1)) {C : String} {idx np : Nat} (hG : GoodIn gw_t (wsV own idx C y (.code y cy ml ry :: gw_t))) (hy : y.cls = C ∧ y.cls ≠ "java/lang/invoke/MethodHandle" ∧ y.cls ≠ "java/lang/invoke/VarHandle" ∧ (parseMethodDescriptor y.desc).map (fun d => d.parameters.length) = some np) (hrc : rm.cells = 0 ∧ rm.slots = 0) (hR : rm.frames + 1 ≤ R.frames ∧ 8 + (ml + 11) + rm.locals ≤ R.locals) (hrec : ∃ cell : Cell, H[a]? = some cell ∧ cell.vm.isStatics = false ∧ s.vm.findClass C = some cell.cls) (hn : As.length = np) {st0 : List Value} (hst : st0 = As.reverse ++ .ref a :: rest) (hls : ls.size = nL) (hro : (rest.map fun v => v.category).sum ≤ 8) (hd : decode cc pc = .ok (.invokevirtual idx, 3))
    (kk : ∀ (H1 : Heap) (locs1 : List Loc), st_ok G n I1 J1 s H1 locs1 → W p l e R s m args below meth c H1 locs1 0 0 Q (F0 m (pc + 3) ls (rest))) : W p l e R s m args below meth c H locs 0 0 Q (F0 m pc ls st0) := by
  subst hst
  refine r_size (fun h1 h2 => ?_)
  refine va_callv (va_runV (As := As) (rest := rest) ⟨X.1, X.2.1, X.2.2.1, X.2.2.2.1, X.2.2.2.2.1⟩ hM (cwV np X.2.2.2.2.1 hG rfl hrc.1 hrc.2 hy hR) ⟨wd_blind, hrec, fun U hU hW => ⟨rfl, S.pre X h1 h2 hU hW⟩⟩ rfl hn hls rfl (lv_room hro) hd ⟨Nat.zero_le _, Nat.zero_le _⟩) S.2.2.1 (fun _ _ h => h) (fun _ h => h) (fun u t H1 locs1 ht hvm hw hB hz1 hk1 hS => ?_)
  exact kk H1 locs1 (S.wb hB ht hS)
theorem r_Sv (X : cx_ok G p s m args meth c cc nL own ret) (S : st_ok G n I J s H locs) {y : MethodName} {cy : ByteArray} {ml : Nat} {ry : Option FieldType} {rm : Room} {As : List Value} {I1 J1 : mm_T} (hM : ct_m l G n y cy ml ry rm As I J (ct_qv G n I1 J1)) {idx np : Nat} (hG : GoodIn gw_t (va_wsS own idx y (.code y cy ml ry :: gw_t))) (hy : y.cls ≠ "java/lang/invoke/MethodHandle" ∧ y.cls ≠ "java/lang/invoke/VarHandle" ∧ (parseMethodDescriptor y.desc).map (fun d => d.parameters.length) = some np) (hrc : rm.cells = 0 ∧ rm.slots = 0) (hR : rm.frames + 1 ≤ R.frames ∧ 8 + (ml + 11) + rm.locals ≤ R.locals) (hn : As.length = np) {st0 : List Value} (hst : st0 = As.reverse ++ rest) (hls : ls.size = nL) (hro : (rest.map fun v => v.category).sum ≤ 8) (hd : decode cc pc = .ok (.invokestatic idx, 3))
    (kk : ∀ (H1 : Heap) (locs1 : List Loc), st_ok G n I1 J1 s H1 locs1 → W p l e R s m args below meth c H1 locs1 0 0 Q (F0 m (pc + 3) ls (rest))) : W p l e R s m args below meth c H locs 0 0 Q (F0 m pc ls st0) := by
  subst hst
  refine r_size (fun h1 h2 => ?_)
  refine va_callv (va_runS (As := As) (rest := rest) ⟨X.1, X.2.1, X.2.2.1, X.2.2.2.1, X.2.2.2.2.1⟩ hM (va_cwS np X.2.2.2.2.1 hG rfl hrc.1 hrc.2 hy hR) ⟨wd_blind, fun U hU hW => ⟨rfl, S.pre X h1 h2 hU hW⟩⟩ rfl hn hls rfl (lv_room hro) hd ⟨Nat.zero_le _, Nat.zero_le _⟩) S.2.2.1 (fun _ _ h => h) (fun _ h => h) (fun u t H1 locs1 ht hvm hw hB hz1 hk1 hS => ?_)
  exact kk H1 locs1 (S.wb hB ht hS)
theorem r_Vi (X : cx_ok G p s m args meth c cc nL own ret) (S : st_ok G n I J s H locs) {y : MethodName} {cy : ByteArray} {ml : Nat} {ry : Option FieldType} {rm : Room} {a : Nat} {As : List Value} {I1 J1 : mm_T} {r : Int32} (hM : ct_m l G n y cy ml ry rm (.ref a :: As) I J (ct_qi G n I1 J1 r)) {C : String} {idx np : Nat} (hG : GoodIn gw_t (wsV own idx C y (.code y cy ml ry :: gw_t))) (hy : y.cls = C ∧ y.cls ≠ "java/lang/invoke/MethodHandle" ∧ y.cls ≠ "java/lang/invoke/VarHandle" ∧ (parseMethodDescriptor y.desc).map (fun d => d.parameters.length) = some np) (hrc : rm.cells = 0 ∧ rm.slots = 0) (hR : rm.frames + 1 ≤ R.frames ∧ 8 + (ml + 11) + rm.locals ≤ R.locals) (hrec : ∃ cell : Cell, H[a]? = some cell ∧ cell.vm.isStatics = false ∧ s.vm.findClass C = some cell.cls) (hn : As.length = np) {st0 : List Value} (hst : st0 = As.reverse ++ .ref a :: rest) (hls : ls.size = nL) (hro : (rest.map fun v => v.category).sum ≤ 8) (hd : decode cc pc = .ok (.invokevirtual idx, 3))
    (kk : ∀ (H1 : Heap) (locs1 : List Loc), st_ok G n I1 J1 s H1 locs1 → W p l e R s m args below meth c H1 locs1 0 0 Q (F0 m (pc + 3) ls (.int r :: rest))) : W p l e R s m args below meth c H locs 0 0 Q (F0 m pc ls st0) := by
  subst hst
  refine r_size (fun h1 h2 => ?_)
  refine va_calli (va_runV (As := As) (rest := rest) ⟨X.1, X.2.1, X.2.2.1, X.2.2.2.1, X.2.2.2.2.1⟩ hM (cwV np X.2.2.2.2.1 hG rfl hrc.1 hrc.2 hy hR) ⟨wd_blind, hrec, fun U hU hW => ⟨rfl, S.pre X h1 h2 hU hW⟩⟩ rfl hn hls rfl (lv_room hro) hd ⟨Nat.zero_le _, Nat.zero_le _⟩) S.2.2.1 (fun _ _ h => h) (fun _ h => h) (fun rr u t H1 locs1 ht hvm hw hB hz1 hk1 hS => ?_)
  subst hw; exact kk H1 locs1 (S.wb hB ht hS)
theorem r_Si (X : cx_ok G p s m args meth c cc nL own ret) (S : st_ok G n I J s H locs) {y : MethodName} {cy : ByteArray} {ml : Nat} {ry : Option FieldType} {rm : Room} {As : List Value} {I1 J1 : mm_T} {r : Int32} (hM : ct_m l G n y cy ml ry rm As I J (ct_qi G n I1 J1 r)) {idx np : Nat} (hG : GoodIn gw_t (va_wsS own idx y (.code y cy ml ry :: gw_t))) (hy : y.cls ≠ "java/lang/invoke/MethodHandle" ∧ y.cls ≠ "java/lang/invoke/VarHandle" ∧ (parseMethodDescriptor y.desc).map (fun d => d.parameters.length) = some np) (hrc : rm.cells = 0 ∧ rm.slots = 0) (hR : rm.frames + 1 ≤ R.frames ∧ 8 + (ml + 11) + rm.locals ≤ R.locals) (hn : As.length = np) {st0 : List Value} (hst : st0 = As.reverse ++ rest) (hls : ls.size = nL) (hro : (rest.map fun v => v.category).sum ≤ 8) (hd : decode cc pc = .ok (.invokestatic idx, 3))
    (kk : ∀ (H1 : Heap) (locs1 : List Loc), st_ok G n I1 J1 s H1 locs1 → W p l e R s m args below meth c H1 locs1 0 0 Q (F0 m (pc + 3) ls (.int r :: rest))) : W p l e R s m args below meth c H locs 0 0 Q (F0 m pc ls st0) := by
  subst hst
  refine r_size (fun h1 h2 => ?_)
  refine va_calli (va_runS (As := As) (rest := rest) ⟨X.1, X.2.1, X.2.2.1, X.2.2.2.1, X.2.2.2.2.1⟩ hM (va_cwS np X.2.2.2.2.1 hG rfl hrc.1 hrc.2 hy hR) ⟨wd_blind, fun U hU hW => ⟨rfl, S.pre X h1 h2 hU hW⟩⟩ rfl hn hls rfl (lv_room hro) hd ⟨Nat.zero_le _, Nat.zero_le _⟩) S.2.2.1 (fun _ _ h => h) (fun _ h => h) (fun rr u t H1 locs1 ht hvm hw hB hz1 hk1 hS => ?_)
  subst hw; exact kk H1 locs1 (S.wb hB ht hS)
theorem r_Vl (X : cx_ok G p s m args meth c cc nL own ret) (S : st_ok G n I J s H locs) {y : MethodName} {cy : ByteArray} {ml : Nat} {ry : Option FieldType} {rm : Room} {a : Nat} {As : List Value} {I1 J1 : mm_T} {r : Int64} (hM : ct_m l G n y cy ml ry rm (.ref a :: As) I J (ct_ql G n I1 J1 r)) {C : String} {idx np : Nat} (hG : GoodIn gw_t (wsV own idx C y (.code y cy ml ry :: gw_t))) (hy : y.cls = C ∧ y.cls ≠ "java/lang/invoke/MethodHandle" ∧ y.cls ≠ "java/lang/invoke/VarHandle" ∧ (parseMethodDescriptor y.desc).map (fun d => d.parameters.length) = some np) (hrc : rm.cells = 0 ∧ rm.slots = 0) (hR : rm.frames + 1 ≤ R.frames ∧ 8 + (ml + 11) + rm.locals ≤ R.locals) (hrec : ∃ cell : Cell, H[a]? = some cell ∧ cell.vm.isStatics = false ∧ s.vm.findClass C = some cell.cls) (hn : As.length = np) {st0 : List Value} (hst : st0 = As.reverse ++ .ref a :: rest) (hls : ls.size = nL) (hro : (rest.map fun v => v.category).sum ≤ 8) (hd : decode cc pc = .ok (.invokevirtual idx, 3))
    (kk : ∀ (H1 : Heap) (locs1 : List Loc), st_ok G n I1 J1 s H1 locs1 → W p l e R s m args below meth c H1 locs1 0 0 Q (F0 m (pc + 3) ls (.long r :: rest))) : W p l e R s m args below meth c H locs 0 0 Q (F0 m pc ls st0) := by
  subst hst
  refine r_size (fun h1 h2 => ?_)
  refine va_calll (va_runV (As := As) (rest := rest) ⟨X.1, X.2.1, X.2.2.1, X.2.2.2.1, X.2.2.2.2.1⟩ hM (cwV np X.2.2.2.2.1 hG rfl hrc.1 hrc.2 hy hR) ⟨wd_blind, hrec, fun U hU hW => ⟨rfl, S.pre X h1 h2 hU hW⟩⟩ rfl hn hls rfl (lv_room hro) hd ⟨Nat.zero_le _, Nat.zero_le _⟩) S.2.2.1 (fun _ _ h => h) (fun _ h => h) (fun rr u t H1 locs1 ht hvm hw hB hz1 hk1 hS => ?_)
  subst hw; exact kk H1 locs1 (S.wb hB ht hS)
theorem r_Sl (X : cx_ok G p s m args meth c cc nL own ret) (S : st_ok G n I J s H locs) {y : MethodName} {cy : ByteArray} {ml : Nat} {ry : Option FieldType} {rm : Room} {As : List Value} {I1 J1 : mm_T} {r : Int64} (hM : ct_m l G n y cy ml ry rm As I J (ct_ql G n I1 J1 r)) {idx np : Nat} (hG : GoodIn gw_t (va_wsS own idx y (.code y cy ml ry :: gw_t))) (hy : y.cls ≠ "java/lang/invoke/MethodHandle" ∧ y.cls ≠ "java/lang/invoke/VarHandle" ∧ (parseMethodDescriptor y.desc).map (fun d => d.parameters.length) = some np) (hrc : rm.cells = 0 ∧ rm.slots = 0) (hR : rm.frames + 1 ≤ R.frames ∧ 8 + (ml + 11) + rm.locals ≤ R.locals) (hn : As.length = np) {st0 : List Value} (hst : st0 = As.reverse ++ rest) (hls : ls.size = nL) (hro : (rest.map fun v => v.category).sum ≤ 8) (hd : decode cc pc = .ok (.invokestatic idx, 3))
    (kk : ∀ (H1 : Heap) (locs1 : List Loc), st_ok G n I1 J1 s H1 locs1 → W p l e R s m args below meth c H1 locs1 0 0 Q (F0 m (pc + 3) ls (.long r :: rest))) : W p l e R s m args below meth c H locs 0 0 Q (F0 m pc ls st0) := by
  subst hst
  refine r_size (fun h1 h2 => ?_)
  refine va_calll (va_runS (As := As) (rest := rest) ⟨X.1, X.2.1, X.2.2.1, X.2.2.2.1, X.2.2.2.2.1⟩ hM (va_cwS np X.2.2.2.2.1 hG rfl hrc.1 hrc.2 hy hR) ⟨wd_blind, fun U hU hW => ⟨rfl, S.pre X h1 h2 hU hW⟩⟩ rfl hn hls rfl (lv_room hro) hd ⟨Nat.zero_le _, Nat.zero_le _⟩) S.2.2.1 (fun _ _ h => h) (fun _ h => h) (fun rr u t H1 locs1 ht hvm hw hB hz1 hk1 hS => ?_)
  subst hw; exact kk H1 locs1 (S.wb hB ht hS)
theorem r_Vr (X : cx_ok G p s m args meth c cc nL own ret) (S : st_ok G n I J s H locs) {y : MethodName} {cy : ByteArray} {ml : Nat} {ry : Option FieldType} {rm : Room} {a : Nat} {As : List Value} {I1 J1 : mm_T} {r : Nat} (hM : ct_m l G n y cy ml ry rm (.ref a :: As) I J (ct_qr G n I1 J1 r)) {C : String} {idx np : Nat} (hG : GoodIn gw_t (wsV own idx C y (.code y cy ml ry :: gw_t))) (hy : y.cls = C ∧ y.cls ≠ "java/lang/invoke/MethodHandle" ∧ y.cls ≠ "java/lang/invoke/VarHandle" ∧ (parseMethodDescriptor y.desc).map (fun d => d.parameters.length) = some np) (hrc : rm.cells = 0 ∧ rm.slots = 0) (hR : rm.frames + 1 ≤ R.frames ∧ 8 + (ml + 11) + rm.locals ≤ R.locals) (hrec : ∃ cell : Cell, H[a]? = some cell ∧ cell.vm.isStatics = false ∧ s.vm.findClass C = some cell.cls) (hn : As.length = np) {st0 : List Value} (hst : st0 = As.reverse ++ .ref a :: rest) (hls : ls.size = nL) (hro : (rest.map fun v => v.category).sum ≤ 8) (hd : decode cc pc = .ok (.invokevirtual idx, 3))
    (kk : ∀ (H1 : Heap) (locs1 : List Loc), st_ok G n I1 J1 s H1 locs1 → W p l e R s m args below meth c H1 locs1 0 0 Q (F0 m (pc + 3) ls (.ref r :: rest))) : W p l e R s m args below meth c H locs 0 0 Q (F0 m pc ls st0) := by
  subst hst
  refine r_size (fun h1 h2 => ?_)
  refine va_callr (va_runV (As := As) (rest := rest) ⟨X.1, X.2.1, X.2.2.1, X.2.2.2.1, X.2.2.2.2.1⟩ hM (cwV np X.2.2.2.2.1 hG rfl hrc.1 hrc.2 hy hR) ⟨wd_blind, hrec, fun U hU hW => ⟨rfl, S.pre X h1 h2 hU hW⟩⟩ rfl hn hls rfl (lv_room hro) hd ⟨Nat.zero_le _, Nat.zero_le _⟩) S.2.2.1 (fun _ _ h => h) (fun _ h => h) (fun u rr t H1 locs1 ht hvm hw hB hz1 hk1 hS => ?_)
  obtain ⟨rfl, hB⟩ := hB; exact kk H1 locs1 (S.wb hB ht hS)
theorem r_Sr (X : cx_ok G p s m args meth c cc nL own ret) (S : st_ok G n I J s H locs) {y : MethodName} {cy : ByteArray} {ml : Nat} {ry : Option FieldType} {rm : Room} {As : List Value} {I1 J1 : mm_T} {r : Nat} (hM : ct_m l G n y cy ml ry rm As I J (ct_qr G n I1 J1 r)) {idx np : Nat} (hG : GoodIn gw_t (va_wsS own idx y (.code y cy ml ry :: gw_t))) (hy : y.cls ≠ "java/lang/invoke/MethodHandle" ∧ y.cls ≠ "java/lang/invoke/VarHandle" ∧ (parseMethodDescriptor y.desc).map (fun d => d.parameters.length) = some np) (hrc : rm.cells = 0 ∧ rm.slots = 0) (hR : rm.frames + 1 ≤ R.frames ∧ 8 + (ml + 11) + rm.locals ≤ R.locals) (hn : As.length = np) {st0 : List Value} (hst : st0 = As.reverse ++ rest) (hls : ls.size = nL) (hro : (rest.map fun v => v.category).sum ≤ 8) (hd : decode cc pc = .ok (.invokestatic idx, 3))
    (kk : ∀ (H1 : Heap) (locs1 : List Loc), st_ok G n I1 J1 s H1 locs1 → W p l e R s m args below meth c H1 locs1 0 0 Q (F0 m (pc + 3) ls (.ref r :: rest))) : W p l e R s m args below meth c H locs 0 0 Q (F0 m pc ls st0) := by
  subst hst
  refine r_size (fun h1 h2 => ?_)
  refine va_callr (va_runS (As := As) (rest := rest) ⟨X.1, X.2.1, X.2.2.1, X.2.2.2.1, X.2.2.2.2.1⟩ hM (va_cwS np X.2.2.2.2.1 hG rfl hrc.1 hrc.2 hy hR) ⟨wd_blind, fun U hU hW => ⟨rfl, S.pre X h1 h2 hU hW⟩⟩ rfl hn hls rfl (lv_room hro) hd ⟨Nat.zero_le _, Nat.zero_le _⟩) S.2.2.1 (fun _ _ h => h) (fun _ h => h) (fun u rr t H1 locs1 ht hvm hw hB hz1 hk1 hS => ?_)
  obtain ⟨rfl, hB⟩ := hB; exact kk H1 locs1 (S.wb hB ht hS)
theorem r_SiN (X : cx_ok G p s m args meth c cc nL own ret) (S : st_ok G n I J s H locs) {y : MethodName} {cy : ByteArray} {ml : Nat} {ry : Option FieldType} {rm : Room} {As : List Value} {I1 J1 : mm_T} {r : Int32} {host : String} (hM : ct_m l G n y cy ml ry rm As I J (ct_qi G n I1 J1 r)) {idx np : Nat} (hk : Cond.methodLinkNest own idx y host ∈ nw_t) (hst1 : Cond.static y ∈ gw_t) (hini : Cond.initialized y.cls ∈ gw_t) (hcw : Cond.code y cy ml ry ∈ gw_t) (hy : y.cls ≠ "java/lang/invoke/MethodHandle" ∧ y.cls ≠ "java/lang/invoke/VarHandle" ∧ (parseMethodDescriptor y.desc).map (fun d => d.parameters.length) = some np) (hrc : rm.cells = 0 ∧ rm.slots = 0) (hR : rm.frames + 1 ≤ R.frames ∧ 8 + (ml + 11) + rm.locals ≤ R.locals) (hn : As.length = np) {st0 : List Value} (hst : st0 = As.reverse ++ rest) (hls : ls.size = nL) (hro : (rest.map fun v => v.category).sum ≤ 8) (hd : decode cc pc = .ok (.invokestatic idx, 3))
    (kk : ∀ (H1 : Heap) (locs1 : List Loc), st_ok G n I1 J1 s H1 locs1 → W p l e R s m args below meth c H1 locs1 0 0 Q (F0 m (pc + 3) ls (.int r :: rest))) : W p l e R s m args below meth c H locs 0 0 Q (F0 m pc ls st0) := by
  subst hst
  refine r_size (fun h1 h2 => ?_)
  refine va_calli (va_runSN (As := As) (rest := rest) ⟨X.1, X.2.1, X.2.2.1, X.2.2.2.1, X.2.2.2.2.1⟩ hM ⟨va_cnB np X.2.2.2.2.1 (fun w h => gw_good w ((List.mem_cons.mp h).elim (fun e => e ▸ hcw) id)) rfl hrc.1 hrc.2 (X.2.2.2.2.2.1.2.2.2.2.2 _ hk) (X.2.2.2.2.1 _ hini) hy hR, ⟨X.2.2.2.2.1 _ hst1, trivial⟩⟩ ⟨wd_blind, fun U hU hW => ⟨rfl, S.pre X h1 h2 hU hW⟩⟩ rfl hn hls rfl (lv_room hro) hd ⟨Nat.zero_le _, Nat.zero_le _⟩) S.2.2.1 (fun _ _ h => h) (fun _ h => h) (fun rr u t H1 locs1 ht hvm hw hB hz1 hk1 hS => ?_)
  subst hw; exact kk H1 locs1 (S.wb hB ht hS)
end RW
end
