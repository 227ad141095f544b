section
-- ===== PART A: goes FIRST, ahead of the names: the tables' words, and 'selects' of the private methods out of them =====
/-- a private method of a class that the tables say can be made, by its rows of tables_1 -/
def lw_okq (q : MethodName × Nat) : Prop := (q.1.cls ≠ "java/lang/invoke/MethodHandle" ∧ q.1.cls ≠ "java/lang/invoke/VarHandle") ∧ Cond.instantiable q.1.cls q.2 ∈ tables_1 ∧ Cond.privateMethod q.1 ∈ tables_1 ∧ Cond.instanceMethod q.1 ∈ tables_1
theorem lw_p0 : lw_okq (⟨"WhoSingsNext$Reader", "readToken", "()V"⟩, 11) := ⟨⟨by decide +kernel, by decide +kernel⟩, List.mem_of_getElem? (i := 122) (by decide +kernel), List.mem_of_getElem? (i := 321) (by decide +kernel), List.mem_of_getElem? (i := 322) (by decide +kernel)⟩
theorem lw_p1 : lw_okq (⟨"WhoSingsNext$Reader", "readWord", "()V"⟩, 11) := ⟨⟨by decide +kernel, by decide +kernel⟩, List.mem_of_getElem? (i := 122) (by decide +kernel), List.mem_of_getElem? (i := 328) (by decide +kernel), List.mem_of_getElem? (i := 329) (by decide +kernel)⟩
theorem lw_p2 : lw_okq (⟨"WhoSingsNext$Reader", "spells", "(Ljava/lang/String;)Z"⟩, 11) := ⟨⟨by decide +kernel, by decide +kernel⟩, List.mem_of_getElem? (i := 122) (by decide +kernel), List.mem_of_getElem? (i := 333) (by decide +kernel), List.mem_of_getElem? (i := 334) (by decide +kernel)⟩
theorem lw_p3 : lw_okq (⟨"WhoSingsNext$Reader", "readNumber", "()V"⟩, 11) := ⟨⟨by decide +kernel, by decide +kernel⟩, List.mem_of_getElem? (i := 122) (by decide +kernel), List.mem_of_getElem? (i := 353) (by decide +kernel), List.mem_of_getElem? (i := 354) (by decide +kernel)⟩
theorem lw_p4 : lw_okq (⟨"WhoSingsNext$Reader", "readPart", "(I)V"⟩, 11) := ⟨⟨by decide +kernel, by decide +kernel⟩, List.mem_of_getElem? (i := 122) (by decide +kernel), List.mem_of_getElem? (i := 417) (by decide +kernel), List.mem_of_getElem? (i := 418) (by decide +kernel)⟩
theorem lw_p5 : lw_okq (⟨"WhoSingsNext$Reader", "pass", "(I)V"⟩, 11) := ⟨⟨by decide +kernel, by decide +kernel⟩, List.mem_of_getElem? (i := 122) (by decide +kernel), List.mem_of_getElem? (i := 421) (by decide +kernel), List.mem_of_getElem? (i := 422) (by decide +kernel)⟩
theorem lw_p6 : lw_okq (⟨"WhoSingsNext$Reader", "fail", "()V"⟩, 11) := ⟨⟨by decide +kernel, by decide +kernel⟩, List.mem_of_getElem? (i := 122) (by decide +kernel), List.mem_of_getElem? (i := 425) (by decide +kernel), List.mem_of_getElem? (i := 426) (by decide +kernel)⟩
theorem lw_p7 : lw_okq (⟨"WhoSingsNext$Reader", "readLevel", "(II)V"⟩, 11) := ⟨⟨by decide +kernel, by decide +kernel⟩, List.mem_of_getElem? (i := 122) (by decide +kernel), List.mem_of_getElem? (i := 429) (by decide +kernel), List.mem_of_getElem? (i := 430) (by decide +kernel)⟩
theorem lw_p8 : lw_okq (⟨"WhoSingsNext$Reader", "readOne", "(I)V"⟩, 11) := ⟨⟨by decide +kernel, by decide +kernel⟩, List.mem_of_getElem? (i := 122) (by decide +kernel), List.mem_of_getElem? (i := 433) (by decide +kernel), List.mem_of_getElem? (i := 434) (by decide +kernel)⟩
theorem lw_p9 : lw_okq (⟨"WhoSingsNext$Reader", "emit", "(I)V"⟩, 11) := ⟨⟨by decide +kernel, by decide +kernel⟩, List.mem_of_getElem? (i := 122) (by decide +kernel), List.mem_of_getElem? (i := 437) (by decide +kernel), List.mem_of_getElem? (i := 438) (by decide +kernel)⟩
theorem lw_p10 : lw_okq (⟨"WhoSingsNext$Reader", "readNot", "(I)V"⟩, 11) := ⟨⟨by decide +kernel, by decide +kernel⟩, List.mem_of_getElem? (i := 122) (by decide +kernel), List.mem_of_getElem? (i := 444) (by decide +kernel), List.mem_of_getElem? (i := 445) (by decide +kernel)⟩
theorem lw_p11 : lw_okq (⟨"WhoSingsNext$Reader", "joins", "(I)Z"⟩, 11) := ⟨⟨by decide +kernel, by decide +kernel⟩, List.mem_of_getElem? (i := 122) (by decide +kernel), List.mem_of_getElem? (i := 448) (by decide +kernel), List.mem_of_getElem? (i := 449) (by decide +kernel)⟩
theorem lw_p12 : lw_okq (⟨"WhoSingsNext", "rule", "()LWhoSingsNext$Text;"⟩, 9) := ⟨⟨by decide +kernel, by decide +kernel⟩, List.mem_of_getElem? (i := 21) (by decide +kernel), List.mem_of_getElem? (i := 612) (by decide +kernel), List.mem_of_getElem? (i := 613) (by decide +kernel)⟩
theorem lw_p13 : lw_okq (⟨"WhoSingsNext$Evening", "wouldBeSung", "(I)Z"⟩, 16) := ⟨⟨by decide +kernel, by decide +kernel⟩, List.mem_of_getElem? (i := 167) (by decide +kernel), List.mem_of_getElem? (i := 637) (by decide +kernel), List.mem_of_getElem? (i := 638) (by decide +kernel)⟩
theorem lw_p14 : lw_okq (⟨"WhoSingsNext$Evening", "nameAll", "(III)V"⟩, 16) := ⟨⟨by decide +kernel, by decide +kernel⟩, List.mem_of_getElem? (i := 167) (by decide +kernel), List.mem_of_getElem? (i := 654) (by decide +kernel), List.mem_of_getElem? (i := 655) (by decide +kernel)⟩
theorem lw_p15 : lw_okq (⟨"WhoSingsNext$Evening", "letLeave", "()V"⟩, 16) := ⟨⟨by decide +kernel, by decide +kernel⟩, List.mem_of_getElem? (i := 167) (by decide +kernel), List.mem_of_getElem? (i := 676) (by decide +kernel), List.mem_of_getElem? (i := 677) (by decide +kernel)⟩
def lw_privs_1 : List (MethodName × Nat) := [(⟨"WhoSingsNext$Reader", "readToken", "()V"⟩, 11), (⟨"WhoSingsNext$Reader", "readWord", "()V"⟩, 11), (⟨"WhoSingsNext$Reader", "spells", "(Ljava/lang/String;)Z"⟩, 11), (⟨"WhoSingsNext$Reader", "readNumber", "()V"⟩, 11), (⟨"WhoSingsNext$Reader", "readPart", "(I)V"⟩, 11), (⟨"WhoSingsNext$Reader", "pass", "(I)V"⟩, 11), (⟨"WhoSingsNext$Reader", "fail", "()V"⟩, 11), (⟨"WhoSingsNext$Reader", "readLevel", "(II)V"⟩, 11), (⟨"WhoSingsNext$Reader", "readOne", "(I)V"⟩, 11), (⟨"WhoSingsNext$Reader", "emit", "(I)V"⟩, 11), (⟨"WhoSingsNext$Reader", "readNot", "(I)V"⟩, 11), (⟨"WhoSingsNext$Reader", "joins", "(I)Z"⟩, 11), (⟨"WhoSingsNext", "rule", "()LWhoSingsNext$Text;"⟩, 9), (⟨"WhoSingsNext$Evening", "wouldBeSung", "(I)Z"⟩, 16), (⟨"WhoSingsNext$Evening", "nameAll", "(III)V"⟩, 16), (⟨"WhoSingsNext$Evening", "letLeave", "()V"⟩, 16)]
theorem lw_r1 : ∀ q ∈ lw_privs_1, lw_okq q := List.forall_mem_cons.mpr ⟨lw_p0, List.forall_mem_cons.mpr ⟨lw_p1, List.forall_mem_cons.mpr ⟨lw_p2, List.forall_mem_cons.mpr ⟨lw_p3, List.forall_mem_cons.mpr ⟨lw_p4, List.forall_mem_cons.mpr ⟨lw_p5, List.forall_mem_cons.mpr ⟨lw_p6, List.forall_mem_cons.mpr ⟨lw_p7, List.forall_mem_cons.mpr ⟨lw_p8, List.forall_mem_cons.mpr ⟨lw_p9, List.forall_mem_cons.mpr ⟨lw_p10, List.forall_mem_cons.mpr ⟨lw_p11, List.forall_mem_cons.mpr ⟨lw_p12, List.forall_mem_cons.mpr ⟨lw_p13, List.forall_mem_cons.mpr ⟨lw_p14, List.forall_mem_cons.mpr ⟨lw_p15, fun _ h => absurd h List.not_mem_nil⟩⟩⟩⟩⟩⟩⟩⟩⟩⟩⟩⟩⟩⟩⟩⟩
theorem lw_p16 : lw_okq (⟨"WhoSingsNext$Evening", "rowAsDigits", "()I"⟩, 16) := ⟨⟨by decide +kernel, by decide +kernel⟩, List.mem_of_getElem? (i := 167) (by decide +kernel), List.mem_of_getElem? (i := 684) (by decide +kernel), List.mem_of_getElem? (i := 685) (by decide +kernel)⟩
theorem lw_p17 : lw_okq (⟨"WhoSingsNext$Search", "note", "(ILWhoSingsNext$Evening;I)V"⟩, 7) := ⟨⟨by decide +kernel, by decide +kernel⟩, List.mem_of_getElem? (i := 231) (by decide +kernel), List.mem_of_getElem? (i := 697) (by decide +kernel), List.mem_of_getElem? (i := 698) (by decide +kernel)⟩
theorem lw_p18 : lw_okq (⟨"WhoSingsNext$Search", "goOn", "(II)V"⟩, 7) := ⟨⟨by decide +kernel, by decide +kernel⟩, List.mem_of_getElem? (i := 231) (by decide +kernel), List.mem_of_getElem? (i := 701) (by decide +kernel), List.mem_of_getElem? (i := 702) (by decide +kernel)⟩
theorem lw_p19 : lw_okq (⟨"WhoSingsNext$Search", "losesFewer", "(LWhoSingsNext$Evening;)Z"⟩, 7) := ⟨⟨by decide +kernel, by decide +kernel⟩, List.mem_of_getElem? (i := 231) (by decide +kernel), List.mem_of_getElem? (i := 712) (by decide +kernel), List.mem_of_getElem? (i := 713) (by decide +kernel)⟩
theorem lw_p20 : lw_okq (⟨"WhoSingsNext", "runDesk", "(LWhoSingsNext$Text;I)V"⟩, 9) := ⟨⟨by decide +kernel, by decide +kernel⟩, List.mem_of_getElem? (i := 21) (by decide +kernel), List.mem_of_getElem? (i := 724) (by decide +kernel), List.mem_of_getElem? (i := 725) (by decide +kernel)⟩
theorem lw_p21 : lw_okq (⟨"WhoSingsNext$Evening", "firstByDesk", "()I"⟩, 16) := ⟨⟨by decide +kernel, by decide +kernel⟩, List.mem_of_getElem? (i := 167) (by decide +kernel), List.mem_of_getElem? (i := 736) (by decide +kernel), List.mem_of_getElem? (i := 737) (by decide +kernel)⟩
theorem lw_p22 : lw_okq (⟨"WhoSingsNext", "judged", "(LWhoSingsNext$Sheet;LWhoSingsNext$Text;)I"⟩, 9) := ⟨⟨by decide +kernel, by decide +kernel⟩, List.mem_of_getElem? (i := 21) (by decide +kernel), List.mem_of_getElem? (i := 768) (by decide +kernel), List.mem_of_getElem? (i := 769) (by decide +kernel)⟩
theorem lw_p23 : lw_okq (⟨"WhoSingsNext$Evening", "uncalled", "(I)I"⟩, 16) := ⟨⟨by decide +kernel, by decide +kernel⟩, List.mem_of_getElem? (i := 167) (by decide +kernel), List.mem_of_getElem? (i := 789) (by decide +kernel), List.mem_of_getElem? (i := 790) (by decide +kernel)⟩
theorem lw_p24 : lw_okq (⟨"WhoSingsNextModel", "spell", "(IIIIIIIII)V"⟩, 61) := ⟨⟨by decide +kernel, by decide +kernel⟩, List.mem_of_getElem? (i := 863) (by decide +kernel), List.mem_of_getElem? (i := 869) (by decide +kernel), List.mem_of_getElem? (i := 870) (by decide +kernel)⟩
theorem lw_p25 : lw_okq (⟨"WhoSingsNextModel", "isOne", "(I)Z"⟩, 61) := ⟨⟨by decide +kernel, by decide +kernel⟩, List.mem_of_getElem? (i := 863) (by decide +kernel), List.mem_of_getElem? (i := 1072) (by decide +kernel), List.mem_of_getElem? (i := 1073) (by decide +kernel)⟩
theorem lw_p26 : lw_okq (⟨"WhoSingsNextModel", "isSlip", "(I)Z"⟩, 61) := ⟨⟨by decide +kernel, by decide +kernel⟩, List.mem_of_getElem? (i := 863) (by decide +kernel), List.mem_of_getElem? (i := 1083) (by decide +kernel), List.mem_of_getElem? (i := 1084) (by decide +kernel)⟩
theorem lw_p27 : lw_okq (⟨"WhoSingsNextModel", "read", "(II)I"⟩, 61) := ⟨⟨by decide +kernel, by decide +kernel⟩, List.mem_of_getElem? (i := 863) (by decide +kernel), List.mem_of_getElem? (i := 1103) (by decide +kernel), List.mem_of_getElem? (i := 1104) (by decide +kernel)⟩
theorem lw_p28 : lw_okq (⟨"WhoSingsNextModel", "next", "()V"⟩, 61) := ⟨⟨by decide +kernel, by decide +kernel⟩, List.mem_of_getElem? (i := 863) (by decide +kernel), List.mem_of_getElem? (i := 1107) (by decide +kernel), List.mem_of_getElem? (i := 1108) (by decide +kernel)⟩
theorem lw_p29 : lw_okq (⟨"WhoSingsNextModel", "byteAt", "(I)I"⟩, 61) := ⟨⟨by decide +kernel, by decide +kernel⟩, List.mem_of_getElem? (i := 863) (by decide +kernel), List.mem_of_getElem? (i := 1111) (by decide +kernel), List.mem_of_getElem? (i := 1112) (by decide +kernel)⟩
theorem lw_p30 : lw_okq (⟨"WhoSingsNextModel", "isWord", "(IIIIIIII)Z"⟩, 61) := ⟨⟨by decide +kernel, by decide +kernel⟩, List.mem_of_getElem? (i := 863) (by decide +kernel), List.mem_of_getElem? (i := 1119) (by decide +kernel), List.mem_of_getElem? (i := 1120) (by decide +kernel)⟩
theorem lw_p31 : lw_okq (⟨"WhoSingsNextModel", "isLetter", "(II)Z"⟩, 61) := ⟨⟨by decide +kernel, by decide +kernel⟩, List.mem_of_getElem? (i := 863) (by decide +kernel), List.mem_of_getElem? (i := 1123) (by decide +kernel), List.mem_of_getElem? (i := 1124) (by decide +kernel)⟩
def lw_privs_2 : List (MethodName × Nat) := [(⟨"WhoSingsNext$Evening", "rowAsDigits", "()I"⟩, 16), (⟨"WhoSingsNext$Search", "note", "(ILWhoSingsNext$Evening;I)V"⟩, 7), (⟨"WhoSingsNext$Search", "goOn", "(II)V"⟩, 7), (⟨"WhoSingsNext$Search", "losesFewer", "(LWhoSingsNext$Evening;)Z"⟩, 7), (⟨"WhoSingsNext", "runDesk", "(LWhoSingsNext$Text;I)V"⟩, 9), (⟨"WhoSingsNext$Evening", "firstByDesk", "()I"⟩, 16), (⟨"WhoSingsNext", "judged", "(LWhoSingsNext$Sheet;LWhoSingsNext$Text;)I"⟩, 9), (⟨"WhoSingsNext$Evening", "uncalled", "(I)I"⟩, 16), (⟨"WhoSingsNextModel", "spell", "(IIIIIIIII)V"⟩, 61), (⟨"WhoSingsNextModel", "isOne", "(I)Z"⟩, 61), (⟨"WhoSingsNextModel", "isSlip", "(I)Z"⟩, 61), (⟨"WhoSingsNextModel", "read", "(II)I"⟩, 61), (⟨"WhoSingsNextModel", "next", "()V"⟩, 61), (⟨"WhoSingsNextModel", "byteAt", "(I)I"⟩, 61), (⟨"WhoSingsNextModel", "isWord", "(IIIIIIII)Z"⟩, 61), (⟨"WhoSingsNextModel", "isLetter", "(II)Z"⟩, 61)]
theorem lw_r2 : ∀ q ∈ lw_privs_2, lw_okq q := List.forall_mem_cons.mpr ⟨lw_p16, List.forall_mem_cons.mpr ⟨lw_p17, List.forall_mem_cons.mpr ⟨lw_p18, List.forall_mem_cons.mpr ⟨lw_p19, List.forall_mem_cons.mpr ⟨lw_p20, List.forall_mem_cons.mpr ⟨lw_p21, List.forall_mem_cons.mpr ⟨lw_p22, List.forall_mem_cons.mpr ⟨lw_p23, List.forall_mem_cons.mpr ⟨lw_p24, List.forall_mem_cons.mpr ⟨lw_p25, List.forall_mem_cons.mpr ⟨lw_p26, List.forall_mem_cons.mpr ⟨lw_p27, List.forall_mem_cons.mpr ⟨lw_p28, List.forall_mem_cons.mpr ⟨lw_p29, List.forall_mem_cons.mpr ⟨lw_p30, List.forall_mem_cons.mpr ⟨lw_p31, fun _ h => absurd h List.not_mem_nil⟩⟩⟩⟩⟩⟩⟩⟩⟩⟩⟩⟩⟩⟩⟩⟩
theorem lw_p32 : lw_okq (⟨"WhoSingsNextModel", "part", "(Z)I"⟩, 61) := ⟨⟨by decide +kernel, by decide +kernel⟩, List.mem_of_getElem? (i := 863) (by decide +kernel), List.mem_of_getElem? (i := 1127) (by decide +kernel), List.mem_of_getElem? (i := 1128) (by decide +kernel)⟩
theorem lw_p33 : lw_okq (⟨"WhoSingsNextModel", "fail", "()V"⟩, 61) := ⟨⟨by decide +kernel, by decide +kernel⟩, List.mem_of_getElem? (i := 863) (by decide +kernel), List.mem_of_getElem? (i := 1131) (by decide +kernel), List.mem_of_getElem? (i := 1132) (by decide +kernel)⟩
theorem lw_p34 : lw_okq (⟨"WhoSingsNextModel", "either", "()I"⟩, 61) := ⟨⟨by decide +kernel, by decide +kernel⟩, List.mem_of_getElem? (i := 863) (by decide +kernel), List.mem_of_getElem? (i := 1135) (by decide +kernel), List.mem_of_getElem? (i := 1136) (by decide +kernel)⟩
theorem lw_p35 : lw_okq (⟨"WhoSingsNextModel", "both", "()I"⟩, 61) := ⟨⟨by decide +kernel, by decide +kernel⟩, List.mem_of_getElem? (i := 863) (by decide +kernel), List.mem_of_getElem? (i := 1139) (by decide +kernel), List.mem_of_getElem? (i := 1140) (by decide +kernel)⟩
theorem lw_p36 : lw_okq (⟨"WhoSingsNextModel", "not", "()I"⟩, 61) := ⟨⟨by decide +kernel, by decide +kernel⟩, List.mem_of_getElem? (i := 863) (by decide +kernel), List.mem_of_getElem? (i := 1143) (by decide +kernel), List.mem_of_getElem? (i := 1144) (by decide +kernel)⟩
theorem lw_p37 : lw_okq (⟨"WhoSingsNextModel", "opens", "()Z"⟩, 61) := ⟨⟨by decide +kernel, by decide +kernel⟩, List.mem_of_getElem? (i := 863) (by decide +kernel), List.mem_of_getElem? (i := 1147) (by decide +kernel), List.mem_of_getElem? (i := 1148) (by decide +kernel)⟩
theorem lw_p38 : lw_okq (⟨"WhoSingsNextModel", "added", "()I"⟩, 61) := ⟨⟨by decide +kernel, by decide +kernel⟩, List.mem_of_getElem? (i := 863) (by decide +kernel), List.mem_of_getElem? (i := 1151) (by decide +kernel), List.mem_of_getElem? (i := 1152) (by decide +kernel)⟩
theorem lw_p39 : lw_okq (⟨"WhoSingsNextModel", "term", "()I"⟩, 61) := ⟨⟨by decide +kernel, by decide +kernel⟩, List.mem_of_getElem? (i := 863) (by decide +kernel), List.mem_of_getElem? (i := 1155) (by decide +kernel), List.mem_of_getElem? (i := 1156) (by decide +kernel)⟩
theorem lw_p40 : lw_okq (⟨"WhoSingsNextModel", "atom", "()I"⟩, 61) := ⟨⟨by decide +kernel, by decide +kernel⟩, List.mem_of_getElem? (i := 863) (by decide +kernel), List.mem_of_getElem? (i := 1159) (by decide +kernel), List.mem_of_getElem? (i := 1160) (by decide +kernel)⟩
theorem lw_p41 : lw_okq (⟨"WhoSingsNextModel", "isSign", "(I)Z"⟩, 61) := ⟨⟨by decide +kernel, by decide +kernel⟩, List.mem_of_getElem? (i := 863) (by decide +kernel), List.mem_of_getElem? (i := 1163) (by decide +kernel), List.mem_of_getElem? (i := 1164) (by decide +kernel)⟩
theorem lw_p42 : lw_okq (⟨"WhoSingsNextModel", "name", "()I"⟩, 61) := ⟨⟨by decide +kernel, by decide +kernel⟩, List.mem_of_getElem? (i := 863) (by decide +kernel), List.mem_of_getElem? (i := 1167) (by decide +kernel), List.mem_of_getElem? (i := 1168) (by decide +kernel)⟩
theorem lw_p43 : lw_okq (⟨"WhoSingsNextModel", "isRow", "(I)Z"⟩, 61) := ⟨⟨by decide +kernel, by decide +kernel⟩, List.mem_of_getElem? (i := 863) (by decide +kernel), List.mem_of_getElem? (i := 1181) (by decide +kernel), List.mem_of_getElem? (i := 1182) (by decide +kernel)⟩
theorem lw_p44 : lw_okq (⟨"WhoSingsNextModel", "goes", "(I)V"⟩, 61) := ⟨⟨by decide +kernel, by decide +kernel⟩, List.mem_of_getElem? (i := 863) (by decide +kernel), List.mem_of_getElem? (i := 1185) (by decide +kernel), List.mem_of_getElem? (i := 1186) (by decide +kernel)⟩
theorem lw_p45 : lw_okq (⟨"WhoSingsNextModel", "begins", "()V"⟩, 61) := ⟨⟨by decide +kernel, by decide +kernel⟩, List.mem_of_getElem? (i := 863) (by decide +kernel), List.mem_of_getElem? (i := 1189) (by decide +kernel), List.mem_of_getElem? (i := 1190) (by decide +kernel)⟩
theorem lw_p46 : lw_okq (⟨"WhoSingsNextModel", "calls", "(I)V"⟩, 61) := ⟨⟨by decide +kernel, by decide +kernel⟩, List.mem_of_getElem? (i := 863) (by decide +kernel), List.mem_of_getElem? (i := 1196) (by decide +kernel), List.mem_of_getElem? (i := 1197) (by decide +kernel)⟩
theorem lw_p47 : lw_okq (⟨"WhoSingsNextModel", "canSing", "(I)Z"⟩, 61) := ⟨⟨by decide +kernel, by decide +kernel⟩, List.mem_of_getElem? (i := 863) (by decide +kernel), List.mem_of_getElem? (i := 1200) (by decide +kernel), List.mem_of_getElem? (i := 1201) (by decide +kernel)⟩
def lw_privs_3 : List (MethodName × Nat) := [(⟨"WhoSingsNextModel", "part", "(Z)I"⟩, 61), (⟨"WhoSingsNextModel", "fail", "()V"⟩, 61), (⟨"WhoSingsNextModel", "either", "()I"⟩, 61), (⟨"WhoSingsNextModel", "both", "()I"⟩, 61), (⟨"WhoSingsNextModel", "not", "()I"⟩, 61), (⟨"WhoSingsNextModel", "opens", "()Z"⟩, 61), (⟨"WhoSingsNextModel", "added", "()I"⟩, 61), (⟨"WhoSingsNextModel", "term", "()I"⟩, 61), (⟨"WhoSingsNextModel", "atom", "()I"⟩, 61), (⟨"WhoSingsNextModel", "isSign", "(I)Z"⟩, 61), (⟨"WhoSingsNextModel", "name", "()I"⟩, 61), (⟨"WhoSingsNextModel", "isRow", "(I)Z"⟩, 61), (⟨"WhoSingsNextModel", "goes", "(I)V"⟩, 61), (⟨"WhoSingsNextModel", "begins", "()V"⟩, 61), (⟨"WhoSingsNextModel", "calls", "(I)V"⟩, 61), (⟨"WhoSingsNextModel", "canSing", "(I)Z"⟩, 61)]
theorem lw_r3 : ∀ q ∈ lw_privs_3, lw_okq q := List.forall_mem_cons.mpr ⟨lw_p32, List.forall_mem_cons.mpr ⟨lw_p33, List.forall_mem_cons.mpr ⟨lw_p34, List.forall_mem_cons.mpr ⟨lw_p35, List.forall_mem_cons.mpr ⟨lw_p36, List.forall_mem_cons.mpr ⟨lw_p37, List.forall_mem_cons.mpr ⟨lw_p38, List.forall_mem_cons.mpr ⟨lw_p39, List.forall_mem_cons.mpr ⟨lw_p40, List.forall_mem_cons.mpr ⟨lw_p41, List.forall_mem_cons.mpr ⟨lw_p42, List.forall_mem_cons.mpr ⟨lw_p43, List.forall_mem_cons.mpr ⟨lw_p44, List.forall_mem_cons.mpr ⟨lw_p45, List.forall_mem_cons.mpr ⟨lw_p46, List.forall_mem_cons.mpr ⟨lw_p47, fun _ h => absurd h List.not_mem_nil⟩⟩⟩⟩⟩⟩⟩⟩⟩⟩⟩⟩⟩⟩⟩⟩
theorem lw_p48 : lw_okq (⟨"WhoSingsNextModel", "moves", "(II)I"⟩, 61) := ⟨⟨by decide +kernel, by decide +kernel⟩, List.mem_of_getElem? (i := 863) (by decide +kernel), List.mem_of_getElem? (i := 1204) (by decide +kernel), List.mem_of_getElem? (i := 1205) (by decide +kernel)⟩
theorem lw_p49 : lw_okq (⟨"WhoSingsNextModel", "thirst", "(II)I"⟩, 61) := ⟨⟨by decide +kernel, by decide +kernel⟩, List.mem_of_getElem? (i := 863) (by decide +kernel), List.mem_of_getElem? (i := 1214) (by decide +kernel), List.mem_of_getElem? (i := 1215) (by decide +kernel)⟩
theorem lw_p50 : lw_okq (⟨"WhoSingsNextModel", "says", "(IIII)I"⟩, 61) := ⟨⟨by decide +kernel, by decide +kernel⟩, List.mem_of_getElem? (i := 863) (by decide +kernel), List.mem_of_getElem? (i := 1218) (by decide +kernel), List.mem_of_getElem? (i := 1219) (by decide +kernel)⟩
theorem lw_p51 : lw_okq (⟨"WhoSingsNextModel", "tells", "(I)I"⟩, 61) := ⟨⟨by decide +kernel, by decide +kernel⟩, List.mem_of_getElem? (i := 863) (by decide +kernel), List.mem_of_getElem? (i := 1222) (by decide +kernel), List.mem_of_getElem? (i := 1223) (by decide +kernel)⟩
theorem lw_p52 : lw_okq (⟨"WhoSingsNextModel", "leftMany", "()I"⟩, 61) := ⟨⟨by decide +kernel, by decide +kernel⟩, List.mem_of_getElem? (i := 863) (by decide +kernel), List.mem_of_getElem? (i := 1226) (by decide +kernel), List.mem_of_getElem? (i := 1227) (by decide +kernel)⟩
theorem lw_p53 : lw_okq (⟨"WhoSingsNextModel", "rows", "(III)V"⟩, 61) := ⟨⟨by decide +kernel, by decide +kernel⟩, List.mem_of_getElem? (i := 863) (by decide +kernel), List.mem_of_getElem? (i := 1239) (by decide +kernel), List.mem_of_getElem? (i := 1240) (by decide +kernel)⟩
theorem lw_p54 : lw_okq (⟨"WhoSingsNextModel", "isBetter", "(I)Z"⟩, 61) := ⟨⟨by decide +kernel, by decide +kernel⟩, List.mem_of_getElem? (i := 863) (by decide +kernel), List.mem_of_getElem? (i := 1243) (by decide +kernel), List.mem_of_getElem? (i := 1244) (by decide +kernel)⟩
theorem lw_p55 : lw_okq (⟨"WhoSingsNextModel", "lays", "(I)V"⟩, 61) := ⟨⟨by decide +kernel, by decide +kernel⟩, List.mem_of_getElem? (i := 863) (by decide +kernel), List.mem_of_getElem? (i := 1247) (by decide +kernel), List.mem_of_getElem? (i := 1248) (by decide +kernel)⟩
theorem lw_p56 : lw_okq (⟨"WhoSingsNextModel", "laysBack", "(I)V"⟩, 61) := ⟨⟨by decide +kernel, by decide +kernel⟩, List.mem_of_getElem? (i := 863) (by decide +kernel), List.mem_of_getElem? (i := 1251) (by decide +kernel), List.mem_of_getElem? (i := 1252) (by decide +kernel)⟩
theorem lw_p57 : lw_okq (⟨"WhoSingsNextModel", "desks", "(I)V"⟩, 61) := ⟨⟨by decide +kernel, by decide +kernel⟩, List.mem_of_getElem? (i := 863) (by decide +kernel), List.mem_of_getElem? (i := 1259) (by decide +kernel), List.mem_of_getElem? (i := 1260) (by decide +kernel)⟩
theorem lw_p58 : lw_okq (⟨"WhoSingsNextModel", "goesOn", "(I)V"⟩, 61) := ⟨⟨by decide +kernel, by decide +kernel⟩, List.mem_of_getElem? (i := 863) (by decide +kernel), List.mem_of_getElem? (i := 1263) (by decide +kernel), List.mem_of_getElem? (i := 1264) (by decide +kernel)⟩
theorem lw_p59 : lw_okq (⟨"WhoSingsNextModel", "deskCalls", "(I)I"⟩, 61) := ⟨⟨by decide +kernel, by decide +kernel⟩, List.mem_of_getElem? (i := 863) (by decide +kernel), List.mem_of_getElem? (i := 1267) (by decide +kernel), List.mem_of_getElem? (i := 1268) (by decide +kernel)⟩
theorem lw_p60 : lw_okq (⟨"WhoSingsNextModel", "tellBad", "(I)I"⟩, 61) := ⟨⟨by decide +kernel, by decide +kernel⟩, List.mem_of_getElem? (i := 863) (by decide +kernel), List.mem_of_getElem? (i := 1291) (by decide +kernel), List.mem_of_getElem? (i := 1292) (by decide +kernel)⟩
theorem lw_p61 : lw_okq (⟨"WhoSingsNextModel", "wrongAt", "(I)I"⟩, 61) := ⟨⟨by decide +kernel, by decide +kernel⟩, List.mem_of_getElem? (i := 863) (by decide +kernel), List.mem_of_getElem? (i := 1298) (by decide +kernel), List.mem_of_getElem? (i := 1299) (by decide +kernel)⟩
theorem lw_p62 : lw_okq (⟨"WhoSingsNextModel", "draws", "(I)V"⟩, 61) := ⟨⟨by decide +kernel, by decide +kernel⟩, List.mem_of_getElem? (i := 863) (by decide +kernel), List.mem_of_getElem? (i := 1314) (by decide +kernel), List.mem_of_getElem? (i := 1315) (by decide +kernel)⟩
def lw_privs_4 : List (MethodName × Nat) := [(⟨"WhoSingsNextModel", "moves", "(II)I"⟩, 61), (⟨"WhoSingsNextModel", "thirst", "(II)I"⟩, 61), (⟨"WhoSingsNextModel", "says", "(IIII)I"⟩, 61), (⟨"WhoSingsNextModel", "tells", "(I)I"⟩, 61), (⟨"WhoSingsNextModel", "leftMany", "()I"⟩, 61), (⟨"WhoSingsNextModel", "rows", "(III)V"⟩, 61), (⟨"WhoSingsNextModel", "isBetter", "(I)Z"⟩, 61), (⟨"WhoSingsNextModel", "lays", "(I)V"⟩, 61), (⟨"WhoSingsNextModel", "laysBack", "(I)V"⟩, 61), (⟨"WhoSingsNextModel", "desks", "(I)V"⟩, 61), (⟨"WhoSingsNextModel", "goesOn", "(I)V"⟩, 61), (⟨"WhoSingsNextModel", "deskCalls", "(I)I"⟩, 61), (⟨"WhoSingsNextModel", "tellBad", "(I)I"⟩, 61), (⟨"WhoSingsNextModel", "wrongAt", "(I)I"⟩, 61), (⟨"WhoSingsNextModel", "draws", "(I)V"⟩, 61)]
theorem lw_r4 : ∀ q ∈ lw_privs_4, lw_okq q := List.forall_mem_cons.mpr ⟨lw_p48, List.forall_mem_cons.mpr ⟨lw_p49, List.forall_mem_cons.mpr ⟨lw_p50, List.forall_mem_cons.mpr ⟨lw_p51, List.forall_mem_cons.mpr ⟨lw_p52, List.forall_mem_cons.mpr ⟨lw_p53, List.forall_mem_cons.mpr ⟨lw_p54, List.forall_mem_cons.mpr ⟨lw_p55, List.forall_mem_cons.mpr ⟨lw_p56, List.forall_mem_cons.mpr ⟨lw_p57, List.forall_mem_cons.mpr ⟨lw_p58, List.forall_mem_cons.mpr ⟨lw_p59, List.forall_mem_cons.mpr ⟨lw_p60, List.forall_mem_cons.mpr ⟨lw_p61, List.forall_mem_cons.mpr ⟨lw_p62, fun _ h => absurd h List.not_mem_nil⟩⟩⟩⟩⟩⟩⟩⟩⟩⟩⟩⟩⟩⟩⟩
def lw_privs : List (MethodName × Nat) := lw_privs_1 ++ (lw_privs_2 ++ (lw_privs_3 ++ (lw_privs_4)))
def lw_tbl : List Cond := k2_sels lw_privs ++ tables_1
theorem lw_privs_ok : ∀ q ∈ lw_privs, lw_okq q := by
  show ∀ q ∈ lw_privs_1 ++ (lw_privs_2 ++ (lw_privs_3 ++ (lw_privs_4))), lw_okq q
  exact List.forall_mem_append.mpr ⟨lw_r1, List.forall_mem_append.mpr ⟨lw_r2, List.forall_mem_append.mpr ⟨lw_r3, lw_r4⟩⟩⟩
-- ===== end of PART A; then your names; then what follows =====
end
section
def RX0 : String := "WhoSingsNext$Evening"
def TX0 : u_T := fun k => match k with
  | 0 => ("WhoSingsNext$Evening", "house", "LWhoSingsNext$House;", true)
  | 1 => ("WhoSingsNext$Evening", "rule", "LWhoSingsNext$Text;", false)
  | 2 => ("WhoSingsNext$Evening", "names", "[I", true)
  | 3 => ("WhoSingsNext$Evening", "lastSang", "[I", true)
  | 4 => ("WhoSingsNext$Evening", "sungBy", "[I", true)
  | 5 => ("WhoSingsNext$Evening", "bears", "[I", true)
  | 6 => ("WhoSingsNext$Evening", "row", "[I", true)
  | 7 => ("WhoSingsNext$Evening", "calls", "I", false)
  | 8 => ("WhoSingsNext$Evening", "begins", "[I", true)
  | 9 => ("WhoSingsNext$Evening", "called", "I", false)
  | 10 => ("WhoSingsNext$Evening", "minute", "I", false)
  | 11 => ("WhoSingsNext$Evening", "mood", "I", false)
  | 12 => ("WhoSingsNext$Evening", "bar", "I", false)
  | 13 => ("WhoSingsNext$Evening", "left", "I", false)
  | 14 => ("WhoSingsNext$Evening", "sung", "I", false)
  | _ => ("WhoSingsNext$Evening", "there", "I", false)
def tyX0 : Nat → FieldType := fun k => match k with
  | 0 => .object "WhoSingsNext$House"
  | 1 => .object "WhoSingsNext$Text"
  | 2 => .array .int
  | 3 => .array .int
  | 4 => .array .int
  | 5 => .array .int
  | 6 => .array .int
  | 7 => .int
  | 8 => .array .int
  | 9 => .int
  | 10 => .int
  | 11 => .int
  | 12 => .int
  | 13 => .int
  | 14 => .int
  | _ => .int
abbrev wsX00 : List Cond := u_ws RX0 TX0 16
theorem nmX0 : ∀ a, a < 16 → ∀ b, b < 16 → a ≠ b → (TX0 a).2.1 ≠ (TX0 b).2.1 := by decide +kernel
theorem tyX0_ok : ∀ k, k < 16 → parseFieldDescriptor (TX0 k).2.2.1 = some (tyX0 k) := by decide +kernel
abbrev cX0_init : ByteArray := prog_2_method_1_code
def yX0_init : MethodName := ⟨RX0, "<init>", "(LWhoSingsNext$House;)V"⟩
abbrev cX0_begin : ByteArray := prog_2_method_2_code
def yX0_begin : MethodName := ⟨RX0, "begin", "(LWhoSingsNext$Text;)V"⟩
abbrev cX0_goOnFrom : ByteArray := prog_2_method_3_code
def yX0_goOnFrom : MethodName := ⟨RX0, "goOnFrom", "(LWhoSingsNext$Evening;)V"⟩
abbrev cX0_answer : ByteArray := prog_2_method_4_code
def yX0_answer : MethodName := ⟨RX0, "answer", "(I)I"⟩
abbrev cX0_rowAsDigits : ByteArray := prog_2_method_5_code
def yX0_rowAsDigits : MethodName := ⟨RX0, "rowAsDigits", "()I"⟩
abbrev cX0_wasCalled : ByteArray := prog_2_method_6_code
def yX0_wasCalled : MethodName := ⟨RX0, "wasCalled", "(I)Z"⟩
abbrev cX0_leaveOut : ByteArray := prog_2_method_7_code
def yX0_leaveOut : MethodName := ⟨RX0, "leaveOut", "(I)V"⟩
abbrev cX0_wouldBeSung : ByteArray := prog_2_method_8_code
def yX0_wouldBeSung : MethodName := ⟨RX0, "wouldBeSung", "(I)Z"⟩
abbrev cX0_callSlip : ByteArray := prog_2_method_9_code
def yX0_callSlip : MethodName := ⟨RX0, "callSlip", "(I)V"⟩
abbrev cX0_nameAll : ByteArray := prog_2_method_10_code
def yX0_nameAll : MethodName := ⟨RX0, "nameAll", "(III)V"⟩
abbrev cX0_letLeave : ByteArray := prog_2_method_11_code
def yX0_letLeave : MethodName := ⟨RX0, "letLeave", "()V"⟩
abbrev cX0_callRow : ByteArray := prog_2_method_12_code
def yX0_callRow : MethodName := ⟨RX0, "callRow", "(I)V"⟩
abbrev cX0_callByDesk : ByteArray := prog_2_method_13_code
def yX0_callByDesk : MethodName := ⟨RX0, "callByDesk", "()V"⟩
abbrev cX0_firstByDesk : ByteArray := prog_2_method_14_code
def yX0_firstByDesk : MethodName := ⟨RX0, "firstByDesk", "()I"⟩
abbrev cX0_callByChance : ByteArray := prog_2_method_15_code
def yX0_callByChance : MethodName := ⟨RX0, "callByChance", "(I)V"⟩
abbrev cX0_uncalled : ByteArray := prog_2_method_16_code
def yX0_uncalled : MethodName := ⟨RX0, "uncalled", "(I)I"⟩
def RX1 : String := "WhoSingsNext$House"
def TX1 : u_T := fun k => match k with
  | 0 => ("WhoSingsNext$House", "people", "[LWhoSingsNext$Person;", true)
  | 1 => ("WhoSingsNext$House", "slips", "[LWhoSingsNext$Slip;", true)
  | 2 => ("WhoSingsNext$House", "peopleCount", "I", false)
  | 3 => ("WhoSingsNext$House", "slipCount", "I", false)
  | 4 => ("WhoSingsNext$House", "mood", "I", false)
  | 5 => ("WhoSingsNext$House", "till", "I", false)
  | 6 => ("WhoSingsNext$House", "rule", "I", false)
  | _ => ("WhoSingsNext$House", "changes", "I", false)
def tyX1 : Nat → FieldType := fun k => match k with
  | 0 => .array (.object "WhoSingsNext$Person")
  | 1 => .array (.object "WhoSingsNext$Slip")
  | 2 => .int
  | 3 => .int
  | 4 => .int
  | 5 => .int
  | 6 => .int
  | _ => .int
abbrev wsX10 : List Cond := u_ws RX1 TX1 8
theorem nmX1 : ∀ a, a < 8 → ∀ b, b < 8 → a ≠ b → (TX1 a).2.1 ≠ (TX1 b).2.1 := by decide +kernel
theorem tyX1_ok : ∀ k, k < 8 → parseFieldDescriptor (TX1 k).2.2.1 = some (tyX1 k) := by decide +kernel
abbrev cX1_init : ByteArray := prog_3_method_1_code
def yX1_init : MethodName := ⟨RX1, "<init>", "()V"⟩
abbrev cX1_hasPerson : ByteArray := prog_3_method_2_code
def yX1_hasPerson : MethodName := ⟨RX1, "hasPerson", "(I)Z"⟩
abbrev cX1_hasSlip : ByteArray := prog_3_method_3_code
def yX1_hasSlip : MethodName := ⟨RX1, "hasSlip", "(I)Z"⟩
abbrev cX1_groupOf : ByteArray := prog_3_method_4_code
def yX1_groupOf : MethodName := ⟨RX1, "groupOf", "(LWhoSingsNext$Slip;)I"⟩
abbrev cX1_addPerson : ByteArray := prog_3_method_5_code
def yX1_addPerson : MethodName := ⟨RX1, "addPerson", "(II)I"⟩
abbrev cX1_addSlip : ByteArray := prog_3_method_6_code
def yX1_addSlip : MethodName := ⟨RX1, "addSlip", "(III)I"⟩
abbrev cX1_hasValue : ByteArray := prog_3_method_7_code
def yX1_hasValue : MethodName := ⟨RX1, "hasValue", "(II)Z"⟩
abbrev cX1_allows : ByteArray := prog_3_method_8_code
def yX1_allows : MethodName := ⟨RX1, "allows", "(II)Z"⟩
abbrev cX1_valueOf : ByteArray := prog_3_method_9_code
def yX1_valueOf : MethodName := ⟨RX1, "valueOf", "(II)I"⟩
abbrev cX1_change : ByteArray := prog_3_method_10_code
def yX1_change : MethodName := ⟨RX1, "change", "(III)V"⟩
abbrev cX1_follow : ByteArray := prog_3_method_11_code
def yX1_follow : MethodName := ⟨RX1, "follow", "(I)V"⟩
abbrev cX1_become : ByteArray := prog_3_method_12_code
def yX1_become : MethodName := ⟨RX1, "become", "(LWhoSingsNext$House;)V"⟩
abbrev cX1_isRow : ByteArray := prog_3_method_13_code
def yX1_isRow : MethodName := ⟨RX1, "isRow", "(I)Z"⟩
def RX2 : String := "WhoSingsNext$Person"
def TX2 : u_T := fun k => match k with
  | 0 => ("WhoSingsNext$Person", "patience", "I", false)
  | _ => ("WhoSingsNext$Person", "group", "I", false)
def tyX2 : Nat → FieldType := fun k => match k with
  | 0 => .int
  | _ => .int
abbrev wsX20 : List Cond := u_ws RX2 TX2 2
theorem nmX2 : ∀ a, a < 2 → ∀ b, b < 2 → a ≠ b → (TX2 a).2.1 ≠ (TX2 b).2.1 := by decide +kernel
theorem tyX2_ok : ∀ k, k < 2 → parseFieldDescriptor (TX2 k).2.2.1 = some (tyX2 k) := by decide +kernel
abbrev cX2_init : ByteArray := prog_4_method_1_code
def yX2_init : MethodName := ⟨RX2, "<init>", "()V"⟩
abbrev cX2_become : ByteArray := prog_4_method_2_code
def yX2_become : MethodName := ⟨RX2, "become", "(LWhoSingsNext$Person;)V"⟩
def RX3 : String := "WhoSingsNext$Reader"
def TX3 : u_T := fun k => match k with
  | 0 => ("WhoSingsNext$Reader", "tape", "[I", true)
  | 1 => ("WhoSingsNext$Reader", "bytes", "I", false)
  | 2 => ("WhoSingsNext$Reader", "code", "[I", true)
  | 3 => ("WhoSingsNext$Reader", "codes", "I", false)
  | 4 => ("WhoSingsNext$Reader", "takesAt", "I", false)
  | 5 => ("WhoSingsNext$Reader", "firstAt", "I", false)
  | 6 => ("WhoSingsNext$Reader", "token", "I", false)
  | 7 => ("WhoSingsNext$Reader", "number", "I", false)
  | 8 => ("WhoSingsNext$Reader", "place", "I", false)
  | 9 => ("WhoSingsNext$Reader", "next", "I", false)
  | _ => ("WhoSingsNext$Reader", "fault", "I", false)
def tyX3 : Nat → FieldType := fun k => match k with
  | 0 => .array .int
  | 1 => .int
  | 2 => .array .int
  | 3 => .int
  | 4 => .int
  | 5 => .int
  | 6 => .int
  | 7 => .int
  | 8 => .int
  | 9 => .int
  | _ => .int
abbrev wsX30 : List Cond := u_ws RX3 TX3 11
theorem nmX3 : ∀ a, a < 11 → ∀ b, b < 11 → a ≠ b → (TX3 a).2.1 ≠ (TX3 b).2.1 := by decide +kernel
theorem tyX3_ok : ∀ k, k < 11 → parseFieldDescriptor (TX3 k).2.2.1 = some (tyX3 k) := by decide +kernel
abbrev cX3_init : ByteArray := prog_5_method_1_code
def yX3_init : MethodName := ⟨RX3, "<init>", "()V"⟩
abbrev cX3_add : ByteArray := prog_5_method_2_code
def yX3_add : MethodName := ⟨RX3, "add", "(I)Z"⟩
abbrev cX3_readTape : ByteArray := prog_5_method_3_code
def yX3_readTape : MethodName := ⟨RX3, "readTape", "()Z"⟩
abbrev cX3_made : ByteArray := prog_5_method_4_code
def yX3_made : MethodName := ⟨RX3, "made", "()LWhoSingsNext$Text;"⟩
abbrev cX3_readPart : ByteArray := prog_5_method_5_code
def yX3_readPart : MethodName := ⟨RX3, "readPart", "(I)V"⟩
abbrev cX3_pass : ByteArray := prog_5_method_6_code
def yX3_pass : MethodName := ⟨RX3, "pass", "(I)V"⟩
abbrev cX3_fail : ByteArray := prog_5_method_7_code
def yX3_fail : MethodName := ⟨RX3, "fail", "()V"⟩
abbrev cX3_readLevel : ByteArray := prog_5_method_8_code
def yX3_readLevel : MethodName := ⟨RX3, "readLevel", "(II)V"⟩
abbrev cX3_joins : ByteArray := prog_5_method_9_code
def yX3_joins : MethodName := ⟨RX3, "joins", "(I)Z"⟩
abbrev cX3_readNot : ByteArray := prog_5_method_10_code
def yX3_readNot : MethodName := ⟨RX3, "readNot", "(I)V"⟩
abbrev cX3_readOne : ByteArray := prog_5_method_11_code
def yX3_readOne : MethodName := ⟨RX3, "readOne", "(I)V"⟩
abbrev cX3_isName : ByteArray := prog_5_method_12_code
def yX3_isName : MethodName := ⟨RX3, "isName", "(I)Z"⟩
abbrev cX3_emit : ByteArray := prog_5_method_13_code
def yX3_emit : MethodName := ⟨RX3, "emit", "(I)V"⟩
abbrev cX3_readToken : ByteArray := prog_5_method_14_code
def yX3_readToken : MethodName := ⟨RX3, "readToken", "()V"⟩
abbrev cX3_isLetter : ByteArray := prog_5_method_15_code
def yX3_isLetter : MethodName := ⟨RX3, "isLetter", "(I)Z"⟩
abbrev cX3_isDigit : ByteArray := prog_5_method_16_code
def yX3_isDigit : MethodName := ⟨RX3, "isDigit", "(I)Z"⟩
abbrev cX3_readNumber : ByteArray := prog_5_method_17_code
def yX3_readNumber : MethodName := ⟨RX3, "readNumber", "()V"⟩
abbrev cX3_readWord : ByteArray := prog_5_method_18_code
def yX3_readWord : MethodName := ⟨RX3, "readWord", "()V"⟩
abbrev cX3_spells : ByteArray := prog_5_method_19_code
def yX3_spells : MethodName := ⟨RX3, "spells", "(Ljava/lang/String;)Z"⟩
def RX4 : String := "WhoSingsNext$Search"
def TX4 : u_T := fun k => match k with
  | 0 => ("WhoSingsNext$Search", "house", "LWhoSingsNext$House;", true)
  | 1 => ("WhoSingsNext$Search", "evenings", "[LWhoSingsNext$Evening;", true)
  | 2 => ("WhoSingsNext$Search", "taken", "[I", true)
  | 3 => ("WhoSingsNext$Search", "left", "[I", true)
  | 4 => ("WhoSingsNext$Search", "sung", "[I", true)
  | 5 => ("WhoSingsNext$Search", "row", "[I", true)
  | _ => ("WhoSingsNext$Search", "looked", "I", false)
def tyX4 : Nat → FieldType := fun k => match k with
  | 0 => .object "WhoSingsNext$House"
  | 1 => .array (.object "WhoSingsNext$Evening")
  | 2 => .array .int
  | 3 => .array .int
  | 4 => .array .int
  | 5 => .array .int
  | _ => .int
abbrev wsX40 : List Cond := u_ws RX4 TX4 7
theorem nmX4 : ∀ a, a < 7 → ∀ b, b < 7 → a ≠ b → (TX4 a).2.1 ≠ (TX4 b).2.1 := by decide +kernel
theorem tyX4_ok : ∀ k, k < 7 → parseFieldDescriptor (TX4 k).2.2.1 = some (tyX4 k) := by decide +kernel
abbrev cX4_init : ByteArray := prog_6_method_1_code
def yX4_init : MethodName := ⟨RX4, "<init>", "(LWhoSingsNext$House;)V"⟩
abbrev cX4_look : ByteArray := prog_6_method_2_code
def yX4_look : MethodName := ⟨RX4, "look", "(LWhoSingsNext$Text;)V"⟩
abbrev cX4_answer : ByteArray := prog_6_method_3_code
def yX4_answer : MethodName := ⟨RX4, "answer", "(II)I"⟩
abbrev cX4_note : ByteArray := prog_6_method_4_code
def yX4_note : MethodName := ⟨RX4, "note", "(ILWhoSingsNext$Evening;I)V"⟩
abbrev cX4_goOn : ByteArray := prog_6_method_5_code
def yX4_goOn : MethodName := ⟨RX4, "goOn", "(II)V"⟩
abbrev cX4_losesFewer : ByteArray := prog_6_method_6_code
def yX4_losesFewer : MethodName := ⟨RX4, "losesFewer", "(LWhoSingsNext$Evening;)Z"⟩
def RX5 : String := "WhoSingsNext$Sheet"
def TX5 : u_T := fun k => match k with
  | 0 => ("WhoSingsNext$Sheet", "items", "[I", true)
  | 1 => ("WhoSingsNext$Sheet", "sort", "I", false)
  | _ => ("WhoSingsNext$Sheet", "size", "I", false)
def tyX5 : Nat → FieldType := fun k => match k with
  | 0 => .array .int
  | 1 => .int
  | _ => .int
abbrev wsX50 : List Cond := u_ws RX5 TX5 3
theorem nmX5 : ∀ a, a < 3 → ∀ b, b < 3 → a ≠ b → (TX5 a).2.1 ≠ (TX5 b).2.1 := by decide +kernel
theorem tyX5_ok : ∀ k, k < 3 → parseFieldDescriptor (TX5 k).2.2.1 = some (tyX5 k) := by decide +kernel
abbrev cX5_init : ByteArray := prog_7_method_1_code
def yX5_init : MethodName := ⟨RX5, "<init>", "()V"⟩
abbrev cX5_remake : ByteArray := prog_7_method_2_code
def yX5_remake : MethodName := ⟨RX5, "remake", "(II)V"⟩
abbrev cX5_holds : ByteArray := prog_7_method_3_code
def yX5_holds : MethodName := ⟨RX5, "holds", "(II)Z"⟩
abbrev cX5_put : ByteArray := prog_7_method_4_code
def yX5_put : MethodName := ⟨RX5, "put", "(II)V"⟩
def RX6 : String := "WhoSingsNext$Slip"
def TX6 : u_T := fun k => match k with
  | 0 => ("WhoSingsNext$Slip", "kind", "I", false)
  | 1 => ("WhoSingsNext$Slip", "number", "I", false)
  | 2 => ("WhoSingsNext$Slip", "minutes", "I", false)
  | _ => ("WhoSingsNext$Slip", "whose", "I", false)
def tyX6 : Nat → FieldType := fun k => match k with
  | 0 => .int
  | 1 => .int
  | 2 => .int
  | _ => .int
abbrev wsX60 : List Cond := u_ws RX6 TX6 4
theorem nmX6 : ∀ a, a < 4 → ∀ b, b < 4 → a ≠ b → (TX6 a).2.1 ≠ (TX6 b).2.1 := by decide +kernel
theorem tyX6_ok : ∀ k, k < 4 → parseFieldDescriptor (TX6 k).2.2.1 = some (tyX6 k) := by decide +kernel
abbrev cX6_init : ByteArray := prog_8_method_1_code
def yX6_init : MethodName := ⟨RX6, "<init>", "()V"⟩
abbrev cX6_become : ByteArray := prog_8_method_2_code
def yX6_become : MethodName := ⟨RX6, "become", "(LWhoSingsNext$Slip;)V"⟩
abbrev cX6_moves : ByteArray := prog_8_method_3_code
def yX6_moves : MethodName := ⟨RX6, "moves", "(I)I"⟩
abbrev cX6_thirst : ByteArray := prog_8_method_4_code
def yX6_thirst : MethodName := ⟨RX6, "thirst", "(I)I"⟩
abbrev cX6_isOf : ByteArray := prog_8_method_5_code
def yX6_isOf : MethodName := ⟨RX6, "isOf", "(I)Z"⟩
def RX7 : String := "WhoSingsNext$Text"
def TX7 : u_T := fun k => match k with
  | 0 => ("WhoSingsNext$Text", "code", "[I", true)
  | 1 => ("WhoSingsNext$Text", "takesAt", "I", true)
  | 2 => ("WhoSingsNext$Text", "firstAt", "I", true)
  | _ => ("WhoSingsNext$Text", "pending", "[I", true)
def tyX7 : Nat → FieldType := fun k => match k with
  | 0 => .array .int
  | 1 => .int
  | 2 => .int
  | _ => .array .int
abbrev wsX70 : List Cond := u_ws RX7 TX7 4
theorem nmX7 : ∀ a, a < 4 → ∀ b, b < 4 → a ≠ b → (TX7 a).2.1 ≠ (TX7 b).2.1 := by decide +kernel
theorem tyX7_ok : ∀ k, k < 4 → parseFieldDescriptor (TX7 k).2.2.1 = some (tyX7 k) := by decide +kernel
abbrev cX7_init : ByteArray := prog_9_method_1_code
def yX7_init : MethodName := ⟨RX7, "<init>", "([III)V"⟩
abbrev cX7_worth : ByteArray := prog_9_method_2_code
def yX7_worth : MethodName := ⟨RX7, "worth", "(I[I)I"⟩
abbrev cX7_joined : ByteArray := prog_9_method_3_code
def yX7_joined : MethodName := ⟨RX7, "joined", "(III)I"⟩
def RX8 : String := "WhoSingsNext"
def TX8 : u_T := fun k => match k with
  | 0 => ("WhoSingsNext", "house", "LWhoSingsNext$House;", true)
  | 1 => ("WhoSingsNext", "kept", "LWhoSingsNext$House;", true)
  | 2 => ("WhoSingsNext", "isKept", "Z", false)
  | 3 => ("WhoSingsNext", "reader", "LWhoSingsNext$Reader;", true)
  | 4 => ("WhoSingsNext", "texts", "[LWhoSingsNext$Text;", true)
  | 5 => ("WhoSingsNext", "textCount", "I", false)
  | 6 => ("WhoSingsNext", "tonight", "LWhoSingsNext$Evening;", true)
  | 7 => ("WhoSingsNext", "search", "LWhoSingsNext$Search;", true)
  | _ => ("WhoSingsNext", "sheets", "[LWhoSingsNext$Sheet;", true)
def tyX8 : Nat → FieldType := fun k => match k with
  | 0 => .object "WhoSingsNext$House"
  | 1 => .object "WhoSingsNext$House"
  | 2 => .boolean
  | 3 => .object "WhoSingsNext$Reader"
  | 4 => .array (.object "WhoSingsNext$Text")
  | 5 => .int
  | 6 => .object "WhoSingsNext$Evening"
  | 7 => .object "WhoSingsNext$Search"
  | _ => .array (.object "WhoSingsNext$Sheet")
abbrev wsX80 : List Cond := u_ws RX8 TX8 9
theorem nmX8 : ∀ a, a < 9 → ∀ b, b < 9 → a ≠ b → (TX8 a).2.1 ≠ (TX8 b).2.1 := by decide +kernel
theorem tyX8_ok : ∀ k, k < 9 → parseFieldDescriptor (TX8 k).2.2.1 = some (tyX8 k) := by decide +kernel
abbrev cX8_init : ByteArray := prog_1_method_1_code
def yX8_init : MethodName := ⟨RX8, "<init>", "()V"⟩
abbrev cX8_come : ByteArray := prog_1_method_2_code
def yX8_come : MethodName := ⟨RX8, "come", "(II)I"⟩
abbrev cX8_slip : ByteArray := prog_1_method_3_code
def yX8_slip : MethodName := ⟨RX8, "slip", "(III)I"⟩
abbrev cX8_set : ByteArray := prog_1_method_4_code
def yX8_set : MethodName := ⟨RX8, "set", "(III)I"⟩
abbrev cX8_told : ByteArray := prog_1_method_5_code
def yX8_told : MethodName := ⟨RX8, "told", "(II)I"⟩
abbrev cX8_feed : ByteArray := prog_1_method_6_code
def yX8_feed : MethodName := ⟨RX8, "feed", "(I)I"⟩
abbrev cX8_text : ByteArray := prog_1_method_7_code
def yX8_text : MethodName := ⟨RX8, "text", "()I"⟩
abbrev cX8_force : ByteArray := prog_1_method_8_code
def yX8_force : MethodName := ⟨RX8, "force", "(I)I"⟩
abbrev cX8_evening : ByteArray := prog_1_method_9_code
def yX8_evening : MethodName := ⟨RX8, "evening", "(II)I"⟩
abbrev cX8_best : ByteArray := prog_1_method_10_code
def yX8_best : MethodName := ⟨RX8, "best", "(II)I"⟩
abbrev cX8_desk : ByteArray := prog_1_method_11_code
def yX8_desk : MethodName := ⟨RX8, "desk", "(I)I"⟩
abbrev cX8_hold : ByteArray := prog_1_method_12_code
def yX8_hold : MethodName := ⟨RX8, "hold", "(I)I"⟩
abbrev cX8_wait : ByteArray := prog_1_method_13_code
def yX8_wait : MethodName := ⟨RX8, "wait", "(I)I"⟩
abbrev cX8_refuse : ByteArray := prog_1_method_14_code
def yX8_refuse : MethodName := ⟨RX8, "refuse", "(I)I"⟩
abbrev cX8_coin : ByteArray := prog_1_method_15_code
def yX8_coin : MethodName := ⟨RX8, "coin", "(I)I"⟩
abbrev cX8_harm : ByteArray := prog_1_method_16_code
def yX8_harm : MethodName := ⟨RX8, "harm", "(I)I"⟩
abbrev cX8_judge : ByteArray := prog_1_method_17_code
def yX8_judge : MethodName := ⟨RX8, "judge", "(I)I"⟩
abbrev cX8_which : ByteArray := prog_1_method_18_code
def yX8_which : MethodName := ⟨RX8, "which", "(I)I"⟩
abbrev cX8_behind : ByteArray := prog_1_method_19_code
def yX8_behind : MethodName := ⟨RX8, "behind", "()I"⟩
abbrev cX8_drawn : ByteArray := prog_1_method_20_code
def yX8_drawn : MethodName := ⟨RX8, "drawn", "(I)I"⟩
abbrev cX8_chance : ByteArray := prog_1_method_21_code
def yX8_chance : MethodName := ⟨RX8, "chance", "(III)J"⟩
abbrev cX8_image : ByteArray := prog_1_method_22_code
def yX8_image : MethodName := ⟨RX8, "image", "()I"⟩
abbrev cX8_back : ByteArray := prog_1_method_23_code
def yX8_back : MethodName := ⟨RX8, "back", "()I"⟩
abbrev cX8_count : ByteArray := prog_1_method_24_code
def yX8_count : MethodName := ⟨RX8, "count", "(I)I"⟩
abbrev cX8_sheet : ByteArray := prog_1_method_25_code
def yX8_sheet : MethodName := ⟨RX8, "sheet", "(III)I"⟩
abbrev cX8_cell : ByteArray := prog_1_method_26_code
def yX8_cell : MethodName := ⟨RX8, "cell", "(III)I"⟩
abbrev cX8_copy : ByteArray := prog_1_method_27_code
def yX8_copy : MethodName := ⟨RX8, "copy", "(IIIII)I"⟩
abbrev cX8_slips : ByteArray := prog_1_method_28_code
def yX8_slips : MethodName := ⟨RX8, "slips", "(IIII)I"⟩
abbrev cX8_taken : ByteArray := prog_1_method_29_code
def yX8_taken : MethodName := ⟨RX8, "taken", "(II)I"⟩
abbrev cX8_rule : ByteArray := prog_1_method_30_code
def yX8_rule : MethodName := ⟨RX8, "rule", "()LWhoSingsNext$Text;"⟩
abbrev cX8_isSheet : ByteArray := prog_1_method_31_code
def yX8_isSheet : MethodName := ⟨RX8, "isSheet", "(I)Z"⟩
abbrev cX8_runDesk : ByteArray := prog_1_method_32_code
def yX8_runDesk : MethodName := ⟨RX8, "runDesk", "(LWhoSingsNext$Text;I)V"⟩
abbrev cX8_judged : ByteArray := prog_1_method_33_code
def yX8_judged : MethodName := ⟨RX8, "judged", "(LWhoSingsNext$Sheet;LWhoSingsNext$Text;)I"⟩
abbrev cX8_commonDivisor : ByteArray := prog_1_method_34_code
def yX8_commonDivisor : MethodName := ⟨RX8, "commonDivisor", "(II)I"⟩
abbrev cX8_within : ByteArray := prog_1_method_35_code
def yX8_within : MethodName := ⟨RX8, "within", "(III)I"⟩
def RX9 : String := "WhoSingsNextModel"
def TX9 : u_T := fun k => match k with
  | 0 => ("WhoSingsNextModel", "thrown", "I", false)
  | 1 => ("WhoSingsNextModel", "texts", "[I", true)
  | 2 => ("WhoSingsNextModel", "textSize", "[I", true)
  | 3 => ("WhoSingsNextModel", "textCount", "I", false)
  | 4 => ("WhoSingsNextModel", "rule", "I", false)
  | 5 => ("WhoSingsNextModel", "tape", "[I", true)
  | 6 => ("WhoSingsNextModel", "taped", "I", false)
  | 7 => ("WhoSingsNextModel", "patience", "[I", true)
  | 8 => ("WhoSingsNextModel", "groups", "[I", true)
  | 9 => ("WhoSingsNextModel", "people", "I", false)
  | 10 => ("WhoSingsNextModel", "kinds", "[I", true)
  | 11 => ("WhoSingsNextModel", "numbers", "[I", true)
  | 12 => ("WhoSingsNextModel", "longs", "[I", true)
  | 13 => ("WhoSingsNextModel", "owners", "[I", true)
  | 14 => ("WhoSingsNextModel", "slipCount", "I", false)
  | 15 => ("WhoSingsNextModel", "mood", "I", false)
  | 16 => ("WhoSingsNextModel", "till", "I", false)
  | 17 => ("WhoSingsNextModel", "ofMinute", "I", false)
  | 18 => ("WhoSingsNextModel", "ofWaited", "I", false)
  | 19 => ("WhoSingsNextModel", "ofSung", "I", false)
  | 20 => ("WhoSingsNextModel", "ofSort", "I", false)
  | 21 => ("WhoSingsNextModel", "ofBar", "I", false)
  | 22 => ("WhoSingsNextModel", "ofMood", "I", false)
  | 23 => ("WhoSingsNextModel", "from", "I", false)
  | 24 => ("WhoSingsNextModel", "size", "I", false)
  | 25 => ("WhoSingsNextModel", "here", "I", false)
  | 26 => ("WhoSingsNextModel", "token", "I", false)
  | 27 => ("WhoSingsNextModel", "tokenAt", "I", false)
  | 28 => ("WhoSingsNextModel", "tokenWorth", "J", false)
  | 29 => ("WhoSingsNextModel", "open", "I", false)
  | 30 => ("WhoSingsNextModel", "bad", "Z", false)
  | 31 => ("WhoSingsNextModel", "fault", "I", false)
  | 32 => ("WhoSingsNextModel", "minute", "I", false)
  | 33 => ("WhoSingsNextModel", "moodNow", "I", false)
  | 34 => ("WhoSingsNextModel", "bar", "I", false)
  | 35 => ("WhoSingsNextModel", "there", "I", false)
  | 36 => ("WhoSingsNextModel", "sungMany", "I", false)
  | 37 => ("WhoSingsNextModel", "lastSang", "[I", true)
  | 38 => ("WhoSingsNextModel", "sungBy", "[I", true)
  | 39 => ("WhoSingsNextModel", "called", "I", false)
  | 40 => ("WhoSingsNextModel", "sungSet", "I", false)
  | 41 => ("WhoSingsNextModel", "began", "[I", true)
  | 42 => ("WhoSingsNextModel", "asideRow", "[I", true)
  | 43 => ("WhoSingsNextModel", "asideLast", "[I", true)
  | 44 => ("WhoSingsNextModel", "asideSung", "[I", true)
  | 45 => ("WhoSingsNextModel", "bestRow", "I", false)
  | 46 => ("WhoSingsNextModel", "bestBar", "I", false)
  | 47 => ("WhoSingsNextModel", "bestLeft", "I", false)
  | 48 => ("WhoSingsNextModel", "bestSung", "I", false)
  | 49 => ("WhoSingsNextModel", "deskRow", "I", false)
  | 50 => ("WhoSingsNextModel", "onesKept", "[I", true)
  | 51 => ("WhoSingsNextModel", "slipsKept", "[I", true)
  | 52 => ("WhoSingsNextModel", "slipsMany", "I", false)
  | 53 => ("WhoSingsNextModel", "peopleKept", "I", false)
  | 54 => ("WhoSingsNextModel", "moodKept", "I", false)
  | 55 => ("WhoSingsNextModel", "tillKept", "I", false)
  | 56 => ("WhoSingsNextModel", "ruleKept", "I", false)
  | 57 => ("WhoSingsNextModel", "isThere", "[Z", true)
  | 58 => ("WhoSingsNextModel", "sorts", "[I", true)
  | 59 => ("WhoSingsNextModel", "sheetSize", "[I", true)
  | _ => ("WhoSingsNextModel", "items", "[I", true)
def tyX9 : Nat → FieldType := fun k => match k with
  | 0 => .int
  | 1 => .array .int
  | 2 => .array .int
  | 3 => .int
  | 4 => .int
  | 5 => .array .int
  | 6 => .int
  | 7 => .array .int
  | 8 => .array .int
  | 9 => .int
  | 10 => .array .int
  | 11 => .array .int
  | 12 => .array .int
  | 13 => .array .int
  | 14 => .int
  | 15 => .int
  | 16 => .int
  | 17 => .int
  | 18 => .int
  | 19 => .int
  | 20 => .int
  | 21 => .int
  | 22 => .int
  | 23 => .int
  | 24 => .int
  | 25 => .int
  | 26 => .int
  | 27 => .int
  | 28 => .long
  | 29 => .int
  | 30 => .boolean
  | 31 => .int
  | 32 => .int
  | 33 => .int
  | 34 => .int
  | 35 => .int
  | 36 => .int
  | 37 => .array .int
  | 38 => .array .int
  | 39 => .int
  | 40 => .int
  | 41 => .array .int
  | 42 => .array .int
  | 43 => .array .int
  | 44 => .array .int
  | 45 => .int
  | 46 => .int
  | 47 => .int
  | 48 => .int
  | 49 => .int
  | 50 => .array .int
  | 51 => .array .int
  | 52 => .int
  | 53 => .int
  | 54 => .int
  | 55 => .int
  | 56 => .int
  | 57 => .array .boolean
  | 58 => .array .int
  | 59 => .array .int
  | _ => .array .int
abbrev wsX90 : List Cond := u_ws RX9 TX9 61
theorem nmX9 : ∀ a, a < 61 → ∀ b, b < 61 → a ≠ b → (TX9 a).2.1 ≠ (TX9 b).2.1 := by decide +kernel
theorem tyX9_ok : ∀ k, k < 61 → parseFieldDescriptor (TX9 k).2.2.1 = some (tyX9 k) := by decide +kernel
abbrev cX9_in : ByteArray := prog_11_method_2_code
def yX9_in : MethodName := ⟨RX9, "in", "(JJJ)Z"⟩
abbrev cX9_within : ByteArray := prog_11_method_3_code
def yX9_within : MethodName := ⟨RX9, "within", "(III)I"⟩
abbrev cX9_bitsOf : ByteArray := prog_11_method_4_code
def yX9_bitsOf : MethodName := ⟨RX9, "bitsOf", "(I)I"⟩
abbrev cX9_init : ByteArray := prog_11_method_5_code
def yX9_init : MethodName := ⟨RX9, "<init>", "()V"⟩
abbrev cX9_spell : ByteArray := prog_11_method_6_code
def yX9_spell : MethodName := ⟨RX9, "spell", "(IIIIIIIII)V"⟩
abbrev cX9_isOne : ByteArray := prog_11_method_7_code
def yX9_isOne : MethodName := ⟨RX9, "isOne", "(I)Z"⟩
abbrev cX9_isSlip : ByteArray := prog_11_method_8_code
def yX9_isSlip : MethodName := ⟨RX9, "isSlip", "(I)Z"⟩
abbrev cX9_come : ByteArray := prog_11_method_9_code
def yX9_come : MethodName := ⟨RX9, "come", "(II)I"⟩
abbrev cX9_slip : ByteArray := prog_11_method_10_code
def yX9_slip : MethodName := ⟨RX9, "slip", "(III)I"⟩
abbrev cX9_set : ByteArray := prog_11_method_11_code
def yX9_set : MethodName := ⟨RX9, "set", "(III)I"⟩
abbrev cX9_told : ByteArray := prog_11_method_12_code
def yX9_told : MethodName := ⟨RX9, "told", "(II)I"⟩
abbrev cX9_moves : ByteArray := prog_11_method_13_code
def yX9_moves : MethodName := ⟨RX9, "moves", "(II)I"⟩
abbrev cX9_thirst : ByteArray := prog_11_method_14_code
def yX9_thirst : MethodName := ⟨RX9, "thirst", "(II)I"⟩
abbrev cX9_feed : ByteArray := prog_11_method_15_code
def yX9_feed : MethodName := ⟨RX9, "feed", "(I)I"⟩
abbrev cX9_byteAt : ByteArray := prog_11_method_16_code
def yX9_byteAt : MethodName := ⟨RX9, "byteAt", "(I)I"⟩
abbrev cX9_next : ByteArray := prog_11_method_17_code
def yX9_next : MethodName := ⟨RX9, "next", "()V"⟩
abbrev cX9_fail : ByteArray := prog_11_method_18_code
def yX9_fail : MethodName := ⟨RX9, "fail", "()V"⟩
abbrev cX9_isLetter : ByteArray := prog_11_method_19_code
def yX9_isLetter : MethodName := ⟨RX9, "isLetter", "(II)Z"⟩
abbrev cX9_isWord : ByteArray := prog_11_method_20_code
def yX9_isWord : MethodName := ⟨RX9, "isWord", "(IIIIIIII)Z"⟩
abbrev cX9_isSign : ByteArray := prog_11_method_21_code
def yX9_isSign : MethodName := ⟨RX9, "isSign", "(I)Z"⟩
abbrev cX9_opens : ByteArray := prog_11_method_22_code
def yX9_opens : MethodName := ⟨RX9, "opens", "()Z"⟩
abbrev cX9_name : ByteArray := prog_11_method_23_code
def yX9_name : MethodName := ⟨RX9, "name", "()I"⟩
abbrev cX9_atom : ByteArray := prog_11_method_24_code
def yX9_atom : MethodName := ⟨RX9, "atom", "()I"⟩
abbrev cX9_term : ByteArray := prog_11_method_25_code
def yX9_term : MethodName := ⟨RX9, "term", "()I"⟩
abbrev cX9_added : ByteArray := prog_11_method_26_code
def yX9_added : MethodName := ⟨RX9, "added", "()I"⟩
abbrev cX9_not : ByteArray := prog_11_method_27_code
def yX9_not : MethodName := ⟨RX9, "not", "()I"⟩
abbrev cX9_both : ByteArray := prog_11_method_28_code
def yX9_both : MethodName := ⟨RX9, "both", "()I"⟩
abbrev cX9_either : ByteArray := prog_11_method_29_code
def yX9_either : MethodName := ⟨RX9, "either", "()I"⟩
abbrev cX9_part : ByteArray := prog_11_method_30_code
def yX9_part : MethodName := ⟨RX9, "part", "(Z)I"⟩
abbrev cX9_read : ByteArray := prog_11_method_31_code
def yX9_read : MethodName := ⟨RX9, "read", "(II)I"⟩
abbrev cX9_text : ByteArray := prog_11_method_32_code
def yX9_text : MethodName := ⟨RX9, "text", "()I"⟩
abbrev cX9_force : ByteArray := prog_11_method_33_code
def yX9_force : MethodName := ⟨RX9, "force", "(I)I"⟩
abbrev cX9_says : ByteArray := prog_11_method_34_code
def yX9_says : MethodName := ⟨RX9, "says", "(IIII)I"⟩
abbrev cX9_begins : ByteArray := prog_11_method_35_code
def yX9_begins : MethodName := ⟨RX9, "begins", "()V"⟩
abbrev cX9_canSing : ByteArray := prog_11_method_36_code
def yX9_canSing : MethodName := ⟨RX9, "canSing", "(I)Z"⟩
abbrev cX9_calls : ByteArray := prog_11_method_37_code
def yX9_calls : MethodName := ⟨RX9, "calls", "(I)V"⟩
abbrev cX9_leftMany : ByteArray := prog_11_method_38_code
def yX9_leftMany : MethodName := ⟨RX9, "leftMany", "()I"⟩
abbrev cX9_tells : ByteArray := prog_11_method_39_code
def yX9_tells : MethodName := ⟨RX9, "tells", "(I)I"⟩
abbrev cX9_sizeOf : ByteArray := prog_11_method_40_code
def yX9_sizeOf : MethodName := ⟨RX9, "sizeOf", "(I)I"⟩
abbrev cX9_isRow : ByteArray := prog_11_method_41_code
def yX9_isRow : MethodName := ⟨RX9, "isRow", "(I)Z"⟩
abbrev cX9_goes : ByteArray := prog_11_method_42_code
def yX9_goes : MethodName := ⟨RX9, "goes", "(I)V"⟩
abbrev cX9_evening : ByteArray := prog_11_method_43_code
def yX9_evening : MethodName := ⟨RX9, "evening", "(II)I"⟩
abbrev cX9_hold : ByteArray := prog_11_method_44_code
def yX9_hold : MethodName := ⟨RX9, "hold", "(I)I"⟩
abbrev cX9_lays : ByteArray := prog_11_method_45_code
def yX9_lays : MethodName := ⟨RX9, "lays", "(I)V"⟩
abbrev cX9_laysBack : ByteArray := prog_11_method_46_code
def yX9_laysBack : MethodName := ⟨RX9, "laysBack", "(I)V"⟩
abbrev cX9_isBetter : ByteArray := prog_11_method_47_code
def yX9_isBetter : MethodName := ⟨RX9, "isBetter", "(I)Z"⟩
abbrev cX9_rows : ByteArray := prog_11_method_48_code
def yX9_rows : MethodName := ⟨RX9, "rows", "(III)V"⟩
abbrev cX9_best : ByteArray := prog_11_method_49_code
def yX9_best : MethodName := ⟨RX9, "best", "(II)I"⟩
abbrev cX9_deskCalls : ByteArray := prog_11_method_50_code
def yX9_deskCalls : MethodName := ⟨RX9, "deskCalls", "(I)I"⟩
abbrev cX9_goesOn : ByteArray := prog_11_method_51_code
def yX9_goesOn : MethodName := ⟨RX9, "goesOn", "(I)V"⟩
abbrev cX9_desks : ByteArray := prog_11_method_52_code
def yX9_desks : MethodName := ⟨RX9, "desks", "(I)V"⟩
abbrev cX9_desk : ByteArray := prog_11_method_53_code
def yX9_desk : MethodName := ⟨RX9, "desk", "(I)I"⟩
abbrev cX9_wait : ByteArray := prog_11_method_54_code
def yX9_wait : MethodName := ⟨RX9, "wait", "(I)I"⟩
abbrev cX9_refuse : ByteArray := prog_11_method_55_code
def yX9_refuse : MethodName := ⟨RX9, "refuse", "(I)I"⟩
abbrev cX9_coin : ByteArray := prog_11_method_56_code
def yX9_coin : MethodName := ⟨RX9, "coin", "(I)I"⟩
abbrev cX9_harm : ByteArray := prog_11_method_57_code
def yX9_harm : MethodName := ⟨RX9, "harm", "(I)I"⟩
abbrev cX9_wrongAt : ByteArray := prog_11_method_58_code
def yX9_wrongAt : MethodName := ⟨RX9, "wrongAt", "(I)I"⟩
abbrev cX9_tellBad : ByteArray := prog_11_method_59_code
def yX9_tellBad : MethodName := ⟨RX9, "tellBad", "(I)I"⟩
abbrev cX9_judge : ByteArray := prog_11_method_60_code
def yX9_judge : MethodName := ⟨RX9, "judge", "(I)I"⟩
abbrev cX9_which : ByteArray := prog_11_method_61_code
def yX9_which : MethodName := ⟨RX9, "which", "(I)I"⟩
abbrev cX9_behind : ByteArray := prog_11_method_62_code
def yX9_behind : MethodName := ⟨RX9, "behind", "()I"⟩
abbrev cX9_draws : ByteArray := prog_11_method_63_code
def yX9_draws : MethodName := ⟨RX9, "draws", "(I)V"⟩
abbrev cX9_drawn : ByteArray := prog_11_method_64_code
def yX9_drawn : MethodName := ⟨RX9, "drawn", "(I)I"⟩
abbrev cX9_chance : ByteArray := prog_11_method_65_code
def yX9_chance : MethodName := ⟨RX9, "chance", "(III)J"⟩
abbrev cX9_image : ByteArray := prog_11_method_66_code
def yX9_image : MethodName := ⟨RX9, "image", "()I"⟩
abbrev cX9_back : ByteArray := prog_11_method_67_code
def yX9_back : MethodName := ⟨RX9, "back", "()I"⟩
abbrev cX9_count : ByteArray := prog_11_method_68_code
def yX9_count : MethodName := ⟨RX9, "count", "(I)I"⟩
abbrev cX9_isSheet : ByteArray := prog_11_method_69_code
def yX9_isSheet : MethodName := ⟨RX9, "isSheet", "(I)Z"⟩
abbrev cX9_sheet : ByteArray := prog_11_method_70_code
def yX9_sheet : MethodName := ⟨RX9, "sheet", "(III)I"⟩
abbrev cX9_cell : ByteArray := prog_11_method_71_code
def yX9_cell : MethodName := ⟨RX9, "cell", "(III)I"⟩
abbrev cX9_copy : ByteArray := prog_11_method_72_code
def yX9_copy : MethodName := ⟨RX9, "copy", "(IIIII)I"⟩
abbrev cX9_slips : ByteArray := prog_11_method_73_code
def yX9_slips : MethodName := ⟨RX9, "slips", "(IIII)I"⟩
abbrev cX9_over : ByteArray := prog_11_method_74_code
def yX9_over : MethodName := ⟨RX9, "over", "(I)I"⟩
abbrev cX9_taken : ByteArray := prog_11_method_75_code
def yX9_taken : MethodName := ⟨RX9, "taken", "(II)I"⟩
def RJ11 : String := "java/lang/Character"
def TJ11 : u_T := fun k => match k with
  | _ => ("", "", "", false)
def tyJ11 : Nat → FieldType := fun k => match k with
  | _ => .int
abbrev wsJ110 : List Cond := u_ws RJ11 TJ11 0
theorem nmJ11 : ∀ a, a < 0 → ∀ b, b < 0 → a ≠ b → (TJ11 a).2.1 ≠ (TJ11 b).2.1 := by decide +kernel
theorem tyJ11_ok : ∀ k, k < 0 → parseFieldDescriptor (TJ11 k).2.2.1 = some (tyJ11 k) := by decide +kernel
abbrev cJ11_isValidCodePoint_9a6ad : ByteArray := prog_12_method_11_code
def yJ11_isValidCodePoint_9a6ad : MethodName := ⟨RJ11, "isValidCodePoint", "(I)Z"⟩
abbrev cJ11_highSurrogate_5068e : ByteArray := prog_12_method_28_code
def yJ11_highSurrogate_5068e : MethodName := ⟨RJ11, "highSurrogate", "(I)C"⟩
abbrev cJ11_lowSurrogate_5068e : ByteArray := prog_12_method_29_code
def yJ11_lowSurrogate_5068e : MethodName := ⟨RJ11, "lowSurrogate", "(I)C"⟩
def RJ6 : String := "java/lang/Integer"
def TJ6 : u_T := fun k => match k with
  | _ => ("", "", "", false)
def tyJ6 : Nat → FieldType := fun k => match k with
  | _ => .int
abbrev wsJ60 : List Cond := u_ws RJ6 TJ6 0
theorem nmJ6 : ∀ a, a < 0 → ∀ b, b < 0 → a ≠ b → (TJ6 a).2.1 ≠ (TJ6 b).2.1 := by decide +kernel
theorem tyJ6_ok : ∀ k, k < 0 → parseFieldDescriptor (TJ6 k).2.2.1 = some (tyJ6 k) := by decide +kernel
abbrev cJ6_bitCount_0f7a4 : ByteArray := prog_14_method_49_code
def yJ6_bitCount_0f7a4 : MethodName := ⟨RJ6, "bitCount", "(I)I"⟩
def RJ9 : String := "java/lang/Math"
def TJ9 : u_T := fun k => match k with
  | _ => ("", "", "", false)
def tyJ9 : Nat → FieldType := fun k => match k with
  | _ => .int
abbrev wsJ90 : List Cond := u_ws RJ9 TJ9 0
theorem nmJ9 : ∀ a, a < 0 → ∀ b, b < 0 → a ≠ b → (TJ9 a).2.1 ≠ (TJ9 b).2.1 := by decide +kernel
theorem tyJ9_ok : ∀ k, k < 0 → parseFieldDescriptor (TJ9 k).2.2.1 = some (tyJ9 k) := by decide +kernel
abbrev cJ9_max_7cf53 : ByteArray := prog_15_method_65_code
def yJ9_max_7cf53 : MethodName := ⟨RJ9, "max", "(II)I"⟩
abbrev cJ9_min_7cf53 : ByteArray := prog_15_method_69_code
def yJ9_min_7cf53 : MethodName := ⟨RJ9, "min", "(II)I"⟩
def RJ0 : String := "java/lang/String"
def TJ0 : u_T := fun k => match k with
  | _ => ("", "", "", false)
def tyJ0 : Nat → FieldType := fun k => match k with
  | _ => .int
abbrev wsJ00 : List Cond := u_ws RJ0 TJ0 0
theorem nmJ0 : ∀ a, a < 0 → ∀ b, b < 0 → a ≠ b → (TJ0 a).2.1 ≠ (TJ0 b).2.1 := by decide +kernel
theorem tyJ0_ok : ∀ k, k < 0 → parseFieldDescriptor (TJ0 k).2.2.1 = some (tyJ0 k) := by decide +kernel
abbrev cJ0_length_8abf5 : ByteArray := prog_16_method_54_code
def yJ0_length_8abf5 : MethodName := ⟨RJ0, "length", "()I"⟩
abbrev cJ0_charAt_5068e : ByteArray := prog_16_method_56_code
def yJ0_charAt_5068e : MethodName := ⟨RJ0, "charAt", "(I)C"⟩
abbrev cJ0_indexOf_0f7a4 : ByteArray := prog_16_method_79_code
def yJ0_indexOf_0f7a4 : MethodName := ⟨RJ0, "indexOf", "(I)I"⟩
abbrev cJ0_indexOf_7cf53 : ByteArray := prog_16_method_80_code
def yJ0_indexOf_7cf53 : MethodName := ⟨RJ0, "indexOf", "(II)I"⟩
abbrev cJ0_coder_7d493 : ByteArray := prog_16_method_152_code
def yJ0_coder_7d493 : MethodName := ⟨RJ0, "coder", "()B"⟩
abbrev cJ0_isLatin1_aae02 : ByteArray := prog_16_method_154_code
def yJ0_isLatin1_aae02 : MethodName := ⟨RJ0, "isLatin1", "()Z"⟩
abbrev cJ0_checkIndex_df160 : ByteArray := prog_16_method_155_code
def yJ0_checkIndex_df160 : MethodName := ⟨RJ0, "checkIndex", "(II)V"⟩
abbrev cJ0_checkBoundsBeginEnd_23922 : ByteArray := prog_16_method_158_code
def yJ0_checkBoundsBeginEnd_23922 : MethodName := ⟨RJ0, "checkBoundsBeginEnd", "(III)V"⟩
def RJ1 : String := "java/lang/StringLatin1"
def TJ1 : u_T := fun k => match k with
  | _ => ("", "", "", false)
def tyJ1 : Nat → FieldType := fun k => match k with
  | _ => .int
abbrev wsJ10 : List Cond := u_ws RJ1 TJ1 0
theorem nmJ1 : ∀ a, a < 0 → ∀ b, b < 0 → a ≠ b → (TJ1 a).2.1 ≠ (TJ1 b).2.1 := by decide +kernel
theorem tyJ1_ok : ∀ k, k < 0 → parseFieldDescriptor (TJ1 k).2.2.1 = some (tyJ1 k) := by decide +kernel
abbrev cJ1_charAt_3b067 : ByteArray := prog_17_method_2_code
def yJ1_charAt_3b067 : MethodName := ⟨RJ1, "charAt", "([BI)C"⟩
abbrev cJ1_canEncode_9a6ad : ByteArray := prog_17_method_4_code
def yJ1_canEncode_9a6ad : MethodName := ⟨RJ1, "canEncode", "(I)Z"⟩
abbrev cJ1_indexOf_4cfef : ByteArray := prog_17_method_22_code
def yJ1_indexOf_4cfef : MethodName := ⟨RJ1, "indexOf", "([BIII)I"⟩
abbrev cJ1_indexOfChar_4cfef : ByteArray := prog_17_method_23_code
def yJ1_indexOfChar_4cfef : MethodName := ⟨RJ1, "indexOfChar", "([BIII)I"⟩
def RJ2 : String := "java/lang/StringUTF16"
def TJ2 : u_T := fun k => match k with
  | _ => ("", "", "", false)
def tyJ2 : Nat → FieldType := fun k => match k with
  | _ => .int
abbrev wsJ20 : List Cond := u_ws RJ2 TJ2 0
theorem nmJ2 : ∀ a, a < 0 → ∀ b, b < 0 → a ≠ b → (TJ2 a).2.1 ≠ (TJ2 b).2.1 := by decide +kernel
theorem tyJ2_ok : ∀ k, k < 0 → parseFieldDescriptor (TJ2 k).2.2.1 = some (tyJ2 k) := by decide +kernel
abbrev cJ2_getChar_3b067 : ByteArray := prog_18_method_5_code
def yJ2_getChar_3b067 : MethodName := ⟨RJ2, "getChar", "([BI)C"⟩
abbrev cJ2_length_9d52b : ByteArray := prog_18_method_6_code
def yJ2_length_9d52b : MethodName := ⟨RJ2, "length", "([B)I"⟩
abbrev cJ2_indexOf_4cfef : ByteArray := prog_18_method_40_code
def yJ2_indexOf_4cfef : MethodName := ⟨RJ2, "indexOf", "([BIII)I"⟩
abbrev cJ2_indexOfChar_4cfef : ByteArray := prog_18_method_47_code
def yJ2_indexOfChar_4cfef : MethodName := ⟨RJ2, "indexOfChar", "([BIII)I"⟩
abbrev cJ2_indexOfCharUnsafe_4cfef : ByteArray := prog_18_method_48_code
def yJ2_indexOfCharUnsafe_4cfef : MethodName := ⟨RJ2, "indexOfCharUnsafe", "([BIII)I"⟩
abbrev cJ2_indexOfSupplementary_4cfef : ByteArray := prog_18_method_49_code
def yJ2_indexOfSupplementary_4cfef : MethodName := ⟨RJ2, "indexOfSupplementary", "([BIII)I"⟩
abbrev cJ2_charAt_3b067 : ByteArray := prog_18_method_83_code
def yJ2_charAt_3b067 : MethodName := ⟨RJ2, "charAt", "([BI)C"⟩
abbrev cJ2_checkIndex_2214a : ByteArray := prog_18_method_91_code
def yJ2_checkIndex_2214a : MethodName := ⟨RJ2, "checkIndex", "(I[B)V"⟩
abbrev cJ2_checkBoundsBeginEnd_d044e : ByteArray := prog_18_method_93_code
def yJ2_checkBoundsBeginEnd_d044e : MethodName := ⟨RJ2, "checkBoundsBeginEnd", "(II[B)V"⟩
def RJ10 : String := "java/lang/System"
def TJ10 : u_T := fun k => match k with
  | _ => ("", "", "", false)
def tyJ10 : Nat → FieldType := fun k => match k with
  | _ => .int
abbrev wsJ100 : List Cond := u_ws RJ10 TJ10 0
theorem nmJ10 : ∀ a, a < 0 → ∀ b, b < 0 → a ≠ b → (TJ10 a).2.1 ≠ (TJ10 b).2.1 := by decide +kernel
theorem tyJ10_ok : ∀ k, k < 0 → parseFieldDescriptor (TJ10 k).2.2.1 = some (tyJ10 k) := by decide +kernel
def RJ7 : String := "java/util/Arrays"
def TJ7 : u_T := fun k => match k with
  | _ => ("", "", "", false)
def tyJ7 : Nat → FieldType := fun k => match k with
  | _ => .int
abbrev wsJ70 : List Cond := u_ws RJ7 TJ7 0
theorem nmJ7 : ∀ a, a < 0 → ∀ b, b < 0 → a ≠ b → (TJ7 a).2.1 ≠ (TJ7 b).2.1 := by decide +kernel
theorem tyJ7_ok : ∀ k, k < 0 → parseFieldDescriptor (TJ7 k).2.2.1 = some (tyJ7 k) := by decide +kernel
abbrev cJ7_fill_53178 : ByteArray := prog_20_method_103_code
def yJ7_fill_53178 : MethodName := ⟨RJ7, "fill", "([II)V"⟩
abbrev cJ7_copyOf_59c91 : ByteArray := prog_20_method_123_code
def yJ7_copyOf_59c91 : MethodName := ⟨RJ7, "copyOf", "([II)[I"⟩
def RJ3 : String := "jdk/internal/util/Preconditions"
def TJ3 : u_T := fun k => match k with
  | _ => ("", "", "", false)
def tyJ3 : Nat → FieldType := fun k => match k with
  | _ => .int
abbrev wsJ30 : List Cond := u_ws RJ3 TJ3 0
theorem nmJ3 : ∀ a, a < 0 → ∀ b, b < 0 → a ≠ b → (TJ3 a).2.1 ≠ (TJ3 b).2.1 := by decide +kernel
theorem tyJ3_ok : ∀ k, k < 0 → parseFieldDescriptor (TJ3 k).2.2.1 = some (tyJ3 k) := by decide +kernel
abbrev cJ3_checkIndex_8e157 : ByteArray := prog_21_method_11_code
def yJ3_checkIndex_8e157 : MethodName := ⟨RJ3, "checkIndex", "(IILjava/util/function/BiFunction;)I"⟩
abbrev cJ3_checkFromToIndex_8c36e : ByteArray := prog_21_method_12_code
def yJ3_checkFromToIndex_8c36e : MethodName := ⟨RJ3, "checkFromToIndex", "(IIILjava/util/function/BiFunction;)I"⟩
def RL : String := "WhoSingsNextLaw"
abbrev cL_law : ByteArray := code
def yL_law : MethodName := ⟨RL, "law", "([I)Z"⟩
abbrev vwCl : List vw_C := [(RX0, TX0, 16), (RX1, TX1, 8), (RX2, TX2, 2), (RX3, TX3, 11), (RX4, TX4, 7), (RX5, TX5, 3), (RX6, TX6, 4), (RX7, TX7, 4), (RX8, TX8, 9), (RX9, TX9, 61)]
end
section
/-! ===== memory: all ints of all cells, by kind, instance, place ===== -/
def gw_t : List Cond := lw_tbl.filter goodWord
theorem gw_mem {w : Cond} (k : Nat) (h : lw_tbl[k]? = some w) (g : goodWord w = true) : w ∈ gw_t := List.mem_filter.mpr ⟨List.mem_of_getElem? h, g⟩
theorem gw_good : GoodIn gw_t gw_t := fun w h => ⟨h, good_of_word (List.mem_filter.mp h).2⟩
theorem gw_law : GoodIn lw_tbl gw_t := fun w h => ⟨(List.mem_filter.mp h).1, good_of_word (List.mem_filter.mp h).2⟩
abbrev mm_T : Type := Nat → Nat → Nat → Int32
def mm_row (I : mm_T) (k i : Nat) (f : Nat → Int32) : mm_T := fun a => if a = k then (fun b => if b = i then f else I a b) else I a
def mm_up (I : mm_T) (k i j : Nat) (v : Int32) : mm_T := mm_row I k i (upd (I k i) j v)
theorem mm_row_ne {I : mm_T} {k i : Nat} {f : Nat → Int32} {a : Nat} (h : a ≠ k) : mm_row I k i f a = I a := by unfold mm_row; rw [if_neg h]
theorem mm_row_at {I : mm_T} {k i : Nat} {f : Nat → Int32} : mm_row I k i f k i = f := by unfold mm_row; rw [if_pos rfl]; exact if_pos rfl
theorem mm_row_ni {I : mm_T} {k i : Nat} {f : Nat → Int32} {b : Nat} (h : b ≠ i) : mm_row I k i f k b = I k b := by unfold mm_row; rw [if_pos rfl]; exact if_neg h
theorem mm_up_ne {I : mm_T} {k i j : Nat} {v : Int32} {a : Nat} (h : a ≠ k) : mm_up I k i j v a = I a := mm_row_ne h
theorem mm_up_at {I : mm_T} {k i j : Nat} {v : Int32} : mm_up I k i j v k i = upd (I k i) j v := mm_row_at
theorem mm_up_ni {I : mm_T} {k i j : Nat} {v : Int32} {b : Nat} (h : b ≠ i) : mm_up I k i j v k b = I k b := mm_row_ni h
/-- the class's memory and the reference's, as one -/
def mm_m (k : Nat) : Bool := k == 9 || 30 ≤ k
def mm_mx (I J : mm_T) : mm_T := fun k => if mm_m k = true then J k else I k
theorem mm_mx_I {I J : mm_T} {k : Nat} (h : mm_m k = false) : mm_mx I J k = I k := by unfold mm_mx; rw [h]; rfl
theorem mm_mx_J {I J : mm_T} {k : Nat} (h : mm_m k = true) : mm_mx I J k = J k := by unfold mm_mx; rw [h]; rfl
theorem mm_mx_rowI {I J : mm_T} {k i : Nat} {f : Nat → Int32} (h : mm_m k = false) : mm_mx (mm_row I k i f) J = mm_row (mm_mx I J) k i f := by
  funext a
  by_cases ha : a = k
  · subst ha
    funext b
    by_cases hb : b = i
    · subst hb; rw [mm_mx_I h, mm_row_at, mm_row_at]
    · rw [mm_mx_I h, mm_row_ni hb, mm_row_ni hb, mm_mx_I h]
  · rw [mm_row_ne ha]; unfold mm_mx; rw [mm_row_ne ha]
theorem mm_mx_rowJ {I J : mm_T} {k i : Nat} {f : Nat → Int32} (h : mm_m k = true) : mm_mx I (mm_row J k i f) = mm_row (mm_mx I J) k i f := by
  funext a
  by_cases ha : a = k
  · subst ha
    funext b
    by_cases hb : b = i
    · subst hb; rw [mm_mx_J h, mm_row_at, mm_row_at]
    · rw [mm_mx_J h, mm_row_ni hb, mm_row_ni hb, mm_mx_J h]
  · rw [mm_row_ne ha]; unfold mm_mx; rw [mm_row_ne ha]
/-! ===== a world of cells side by side from an address on ===== -/
def gm_W (b n : Nat) (M : Nat → va_E) : va_W := (List.range n).map fun k => (b + k, M k)
theorem gm_len {b n : Nat} {M : Nat → va_E} : (gm_W b n M).length = n := by simp [gm_W]
theorem gm_get {b n k : Nat} {M : Nat → va_E} (h : k < n) : (gm_W b n M)[k]? = some (b + k, M k) := by
  simp [gm_W, h]
theorem gm_lt {b n k : Nat} {M : Nat → va_E} {q : Nat × va_E} (h : (gm_W b n M)[k]? = some q) : k < n ∧ q = (b + k, M k) := by
  have hk : k < n := by
    have := (List.getElem?_eq_some_iff.mp h).1
    rwa [gm_len] at this
  rw [gm_get hk] at h
  exact ⟨hk, (Option.some.inj h).symm⟩
theorem gm_D {b n : Nat} {M : Nat → va_E} : va_D (fun q => b ≤ q) (gm_W b n M) := by
  refine ⟨fun i j p q hp hq e => ?_, fun k q hk => ?_⟩
  · obtain ⟨-, rfl⟩ := gm_lt hp
    obtain ⟨-, rfl⟩ := gm_lt hq
    simp only at e
    omega
  · obtain ⟨-, rfl⟩ := gm_lt hk
    exact Nat.le_add_right b k
theorem gm_set {b n k : Nat} {M : Nat → va_E} {e : va_E} : (gm_W b n M).set k (b + k, e) = gm_W b n (va_up M k e) := by
  apply List.ext_getElem?
  intro j
  rw [List.getElem?_set]
  by_cases hj : j < n
  · rw [gm_get (M := va_up M k e) hj]
    by_cases hk : k = j
    · subst hk
      rw [if_pos rfl, gm_len, if_pos hj]
      unfold va_up
      rw [if_pos rfl]
    · rw [if_neg hk, gm_get hj]
      unfold va_up
      rw [if_neg (fun h => hk h.symm)]
  · have h1 : (gm_W b n (va_up M k e))[j]? = none := by rw [List.getElem?_eq_none_iff, gm_len]; omega
    have h2 : (gm_W b n M)[j]? = none := by rw [List.getElem?_eq_none_iff, gm_len]; omega
    rw [h1, h2, gm_len]
    by_cases hk : k = j
    · rw [if_pos hk, if_neg (by omega)]
    · rw [if_neg hk]
theorem gm_push {b n : Nat} {M : Nat → va_E} {e : va_E} : gm_W b n M ++ [(b + n, e)] = gm_W b (n + 1) (va_up M n e) := by
  unfold gm_W
  rw [List.range_succ, List.map_append]
  congr 1
  · apply List.map_congr_left
    intro k hk
    have := List.mem_range.mp hk
    unfold va_up
    rw [if_neg (by omega)]
  · simp [va_up]
/-! ===== the layout ===== -/
/-- tables' names, array classes, the first address, the addresses of the text constants and of their bytes -/
abbrev cx_T : Type := va_G × (Nat → ClassId) × Nat × (Nat → Nat) × (Nat → Nat)
abbrev cx_D (G : cx_T) : va_G := G.1
abbrev cx_c (G : cx_T) : Nat → ClassId := G.2.1
abbrev cx_b (G : cx_T) : Nat := G.2.2.1
abbrev cx_K (G : cx_T) : Nat → Nat := G.2.2.2.1
abbrev cx_V (G : cx_T) : Nat → Nat := G.2.2.2.2
def ly_loc (k i : Nat) : Nat := match k with
  | 0 => if i = 0 then 41 else 47 + 7 * i
  | 1 => 1 + 18 * i
  | 2 => 4 + 18 * (i / 8) + i % 8
  | 3 => 37 + i
  | 4 => 48 + i
  | 5 => 114 + 2 * i
  | 6 => 12 + 18 * (i / 7) + i % 7
  | 7 => if i = 0 then 111 else 141 + 3 * i
  | 8 => i
  | 9 => 122 + i
  | 10 => if i = 0 then 42 else 48 + 7 * i
  | 11 => if i = 0 then 43 else 49 + 7 * i
  | 12 => if i = 0 then 44 else 50 + 7 * i
  | 13 => if i = 0 then 45 else 51 + 7 * i
  | 14 => if i = 0 then 46 else 52 + 7 * i
  | 15 => if i = 0 then 47 else 53 + 7 * i
  | 16 => 2 + 18 * i
  | 17 => 3 + 18 * i
  | 18 => 38 + i
  | 19 => 39 + i
  | 20 => 40 + i
  | 21 => 49 + i
  | 22 => 50 + i
  | 23 => 51 + i
  | 24 => 52 + i
  | 25 => 53 + i
  | 26 => 110 + i
  | 27 => 115 + 2 * i
  | 28 => if i = 0 then 112 else 142 + 3 * i
  | 29 => if i = 0 then 113 else 143 + 3 * i
  | 30 => 123 + i
  | 31 => 124 + i
  | 32 => 125 + i
  | 33 => 126 + i
  | 34 => 127 + i
  | 35 => 128 + i
  | 36 => 129 + i
  | 37 => 130 + i
  | 38 => 131 + i
  | 39 => 132 + i
  | 40 => 133 + i
  | 41 => 134 + i
  | 42 => 135 + i
  | 43 => 136 + i
  | 44 => 137 + i
  | 45 => 138 + i
  | 46 => 139 + i
  | 47 => 140 + i
  | 48 => 141 + i
  | 49 => 142 + i
  | _ => 143 + i
def ly_tab : List (Nat × Nat) := [(8, 0), (1, 0), (16, 0), (17, 0), (2, 0), (2, 1), (2, 2), (2, 3), (2, 4), (2, 5), (2, 6), (2, 7), (6, 0), (6, 1), (6, 2), (6, 3), (6, 4), (6, 5), (6, 6), (1, 1), (16, 1), (17, 1), (2, 8), (2, 9), (2, 10), (2, 11), (2, 12), (2, 13), (2, 14), (2, 15), (6, 7), (6, 8), (6, 9), (6, 10), (6, 11), (6, 12), (6, 13), (3, 0), (18, 0), (19, 0), (20, 0), (0, 0), (10, 0), (11, 0), (12, 0), (13, 0), (14, 0), (15, 0), (4, 0), (21, 0), (22, 0), (23, 0), (24, 0), (25, 0), (0, 1), (10, 1), (11, 1), (12, 1), (13, 1), (14, 1), (15, 1), (0, 2), (10, 2), (11, 2), (12, 2), (13, 2), (14, 2), (15, 2), (0, 3), (10, 3), (11, 3), (12, 3), (13, 3), (14, 3), (15, 3), (0, 4), (10, 4), (11, 4), (12, 4), (13, 4), (14, 4), (15, 4), (0, 5), (10, 5), (11, 5), (12, 5), (13, 5), (14, 5), (15, 5), (0, 6), (10, 6), (11, 6), (12, 6), (13, 6), (14, 6), (15, 6), (0, 7), (10, 7), (11, 7), (12, 7), (13, 7), (14, 7), (15, 7), (0, 8), (10, 8), (11, 8), (12, 8), (13, 8), (14, 8), (15, 8), (26, 0), (7, 0), (28, 0), (29, 0), (5, 0), (27, 0), (5, 1), (27, 1), (5, 2), (27, 2), (5, 3), (27, 3), (9, 0), (30, 0), (31, 0), (32, 0), (33, 0), (34, 0), (35, 0), (36, 0), (37, 0), (38, 0), (39, 0), (40, 0), (41, 0), (42, 0), (43, 0), (44, 0), (45, 0), (46, 0), (47, 0), (48, 0), (49, 0), (50, 0)]
def ly_lay (k : Nat) : Nat × Nat := if k < 144 then ly_tab.getD k (0, 0) else ((if (k - 144) % 3 = 0 then 7 else if (k - 144) % 3 = 1 then 28 else 29), (k - 144) / 3 + 1)
theorem ly_inv0 : ∀ k, k < 144 → ly_loc (ly_tab.getD k (0, 0)).1 (ly_tab.getD k (0, 0)).2 = k := by decide +kernel
theorem ly_inv (k : Nat) : ly_loc (ly_lay k).1 (ly_lay k).2 = k := by
  unfold ly_lay
  by_cases h : k < 144
  · rw [if_pos h]; exact ly_inv0 k h
  · rw [if_neg h]
    have h3 : (k - 144) % 3 = 0 ∨ (k - 144) % 3 = 1 ∨ (k - 144) % 3 = 2 := by omega
    rcases h3 with h3 | h3 | h3
    · rw [if_pos h3]; show (if (k - 144) / 3 + 1 = 0 then 111 else 141 + 3 * ((k - 144) / 3 + 1)) = k; rw [if_neg (by omega)]; omega
    · rw [if_neg (by omega), if_pos h3]; show (if (k - 144) / 3 + 1 = 0 then 112 else 142 + 3 * ((k - 144) / 3 + 1)) = k; rw [if_neg (by omega)]; omega
    · rw [if_neg (by omega), if_neg (by omega)]; show (if (k - 144) / 3 + 1 = 0 then 113 else 143 + 3 * ((k - 144) / 3 + 1)) = k; rw [if_neg (by omega)]; omega
theorem ly_inj {a b : Nat} (h : ly_lay a = ly_lay b) : a = b := by rw [← ly_inv a, ← ly_inv b, h]
def ly_tx (G : cx_T) (v : Int32) : Value := if v = -1 then .null else .ref (cx_b G + ly_loc 7 v.toNatClampNeg)
def ly_K (G : cx_T) (k i : Nat) (c : Nat → Int32) : va_E := match k with
  | 0 => .inr (0, [.ref (cx_b G + ly_loc 1 0), ly_tx G (c 1), .ref (cx_b G + ly_loc 10 i), .ref (cx_b G + ly_loc 11 i), .ref (cx_b G + ly_loc 12 i), .ref (cx_b G + ly_loc 13 i), .ref (cx_b G + ly_loc 14 i), .int (c 7), .ref (cx_b G + ly_loc 15 i), .int (c 9), .int (c 10), .int (c 11), .int (c 12), .int (c 13), .int (c 14), .int (c 15)])
  | 1 => .inr (1, [.ref (cx_b G + ly_loc 16 i), .ref (cx_b G + ly_loc 17 i), .int (c 2), .int (c 3), .int (c 4), .int (c 5), .int (c 6), .int (c 7)])
  | 2 => .inr (2, [.int (c 0), .int (c 1)])
  | 3 => .inr (3, [.ref (cx_b G + ly_loc 18 0), .int (c 1), .ref (cx_b G + ly_loc 19 0), .int (c 3), .int (c 4), .int (c 5), .int (c 6), .int (c 7), .int (c 8), .int (c 9), .int (c 10)])
  | 4 => .inr (4, [.ref (cx_b G + ly_loc 1 0), .ref (cx_b G + ly_loc 21 0), .ref (cx_b G + ly_loc 22 0), .ref (cx_b G + ly_loc 23 0), .ref (cx_b G + ly_loc 24 0), .ref (cx_b G + ly_loc 25 0), .int (c 6)])
  | 5 => .inr (5, [.ref (cx_b G + ly_loc 27 i), .int (c 1), .int (c 2)])
  | 6 => .inr (6, [.int (c 0), .int (c 1), .int (c 2), .int (c 3)])
  | 7 => .inr (7, [.ref (cx_b G + ly_loc 28 i), .int (c 1), .int (c 2), .ref (cx_b G + ly_loc 29 i)])
  | 8 => .inr (8, [.ref (cx_b G + ly_loc 1 0), .ref (cx_b G + ly_loc 1 1), .int (c 2), .ref (cx_b G + ly_loc 3 0), .ref (cx_b G + ly_loc 20 0), .int (c 5), .ref (cx_b G + ly_loc 0 0), .ref (cx_b G + ly_loc 4 0), .ref (cx_b G + ly_loc 26 0)])
  | 9 => .inr (9, [.int (c 0), .ref (cx_b G + ly_loc 30 0), .ref (cx_b G + ly_loc 31 0), .int (c 3), .int (c 4), .ref (cx_b G + ly_loc 32 0), .int (c 6), .ref (cx_b G + ly_loc 33 0), .ref (cx_b G + ly_loc 34 0), .int (c 9), .ref (cx_b G + ly_loc 35 0), .ref (cx_b G + ly_loc 36 0), .ref (cx_b G + ly_loc 37 0), .ref (cx_b G + ly_loc 38 0), .int (c 14), .int (c 15), .int (c 16), .int (c 17), .int (c 18), .int (c 19), .int (c 20), .int (c 21), .int (c 22), .int (c 23), .int (c 24), .int (c 25), .int (c 26), .int (c 27), .long (c 28).toInt64, .int (c 29), .int (c 30), .int (c 31), .int (c 32), .int (c 33), .int (c 34), .int (c 35), .int (c 36), .ref (cx_b G + ly_loc 39 0), .ref (cx_b G + ly_loc 40 0), .int (c 39), .int (c 40), .ref (cx_b G + ly_loc 41 0), .ref (cx_b G + ly_loc 42 0), .ref (cx_b G + ly_loc 43 0), .ref (cx_b G + ly_loc 44 0), .int (c 45), .int (c 46), .int (c 47), .int (c 48), .int (c 49), .ref (cx_b G + ly_loc 45 0), .ref (cx_b G + ly_loc 46 0), .int (c 52), .int (c 53), .int (c 54), .int (c 55), .int (c 56), .ref (cx_b G + ly_loc 47 0), .ref (cx_b G + ly_loc 48 0), .ref (cx_b G + ly_loc 49 0), .ref (cx_b G + ly_loc 50 0)])
  | 10 => .inl (cx_c G 0, 6, .inl c)
  | 11 => .inl (cx_c G 0, 8, .inl c)
  | 12 => .inl (cx_c G 0, 8, .inl c)
  | 13 => .inl (cx_c G 0, 8, .inl c)
  | 14 => .inl (cx_c G 0, 7, .inl c)
  | 15 => .inl (cx_c G 0, 7, .inl c)
  | 16 => .inl (cx_c G 2, 8, .inr (.inr (.inr (.inr (fun j => some (cx_b G + ly_loc 2 (8 * i + j)))))))
  | 17 => .inl (cx_c G 3, 7, .inr (.inr (.inr (.inr (fun j => some (cx_b G + ly_loc 6 (7 * i + j)))))))
  | 18 => .inl (cx_c G 0, 160, .inl c)
  | 19 => .inl (cx_c G 0, 160, .inl c)
  | 20 => .inl (cx_c G 4, 6, .inr (.inr (.inr (.inr (fun j => some (cx_b G + ly_loc 7 (c j).toNatClampNeg))))))
  | 21 => .inl (cx_c G 5, 8, .inr (.inr (.inr (.inr (fun j => some (cx_b G + ly_loc 0 (j + 1)))))))
  | 22 => .inl (cx_c G 0, 2, .inl c)
  | 23 => .inl (cx_c G 0, 2, .inl c)
  | 24 => .inl (cx_c G 0, 2, .inl c)
  | 25 => .inl (cx_c G 0, 2, .inl c)
  | 26 => .inl (cx_c G 6, 4, .inr (.inr (.inr (.inr (fun j => some (cx_b G + ly_loc 5 j))))))
  | 27 => .inl (cx_c G 0, 40, .inl c)
  | 28 => .inl (cx_c G 0, (c 1000).toNatClampNeg, .inl c)
  | 29 => .inl (cx_c G 0, 31, .inl c)
  | 30 => .inl (cx_c G 0, 960, .inl c)
  | 31 => .inl (cx_c G 0, 6, .inl c)
  | 32 => .inl (cx_c G 0, 160, .inl c)
  | 33 => .inl (cx_c G 0, 8, .inl c)
  | 34 => .inl (cx_c G 0, 8, .inl c)
  | 35 => .inl (cx_c G 0, 7, .inl c)
  | 36 => .inl (cx_c G 0, 7, .inl c)
  | 37 => .inl (cx_c G 0, 7, .inl c)
  | 38 => .inl (cx_c G 0, 7, .inl c)
  | 39 => .inl (cx_c G 0, 8, .inl c)
  | 40 => .inl (cx_c G 0, 8, .inl c)
  | 41 => .inl (cx_c G 0, 7, .inl c)
  | 42 => .inl (cx_c G 0, 56, .inl c)
  | 43 => .inl (cx_c G 0, 64, .inl c)
  | 44 => .inl (cx_c G 0, 64, .inl c)
  | 45 => .inl (cx_c G 0, 16, .inl c)
  | 46 => .inl (cx_c G 0, 21, .inl c)
  | 47 => .inl (cx_c G 1, 4, .inl c)
  | 48 => .inl (cx_c G 0, 4, .inl c)
  | 49 => .inl (cx_c G 0, 4, .inl c)
  | _ => .inl (cx_c G 0, 160, .inl c)
def ly_cell (G : cx_T) (M : mm_T) (k : Nat) : va_E := ly_K G (ly_lay k).1 (ly_lay k).2 (M (ly_lay k).1 (ly_lay k).2)
/-- an instance that is there -/
def ly_ok (n k i : Nat) : Prop := ly_lay (ly_loc k i) = (k, i) ∧ ly_loc k i < n
theorem ly_at {G : cx_T} {M : mm_T} {n k i : Nat} (h : ly_ok n k i) : ly_cell G M (ly_loc k i) = ly_K G k i (M k i) := by unfold ly_cell; rw [h.1]
theorem ly_get {G : cx_T} {M : mm_T} {b n k i : Nat} (h : ly_ok n k i) : (gm_W b n (ly_cell G M))[ly_loc k i]? = some (b + ly_loc k i, ly_K G k i (M k i)) := by rw [gm_get h.2, ly_at h]
theorem ly_up {G : cx_T} {M : mm_T} {n k i : Nat} {f : Nat → Int32} (h : ly_ok n k i) : ly_cell G (mm_row M k i f) = va_up (ly_cell G M) (ly_loc k i) (ly_K G k i f) := by
  funext q
  unfold va_up
  by_cases hq : q = ly_loc k i
  · subst hq
    rw [if_pos rfl, ly_at h, mm_row_at]
  · rw [if_neg hq]
    have hne : ly_lay q ≠ (k, i) := fun e => hq (ly_inj (e.trans h.1.symm))
    unfold ly_cell
    by_cases h1 : (ly_lay q).1 = k
    · have h2 : (ly_lay q).2 ≠ i := fun e => hne (Prod.ext h1 e)
      rw [h1, mm_row_ni h2]
    · rw [mm_row_ne h1]
theorem ly_set {G : cx_T} {M : mm_T} {b n k i : Nat} {f : Nat → Int32} {e : va_E} (h : ly_ok n k i) (he : ly_K G k i f = e) : (gm_W b n (ly_cell G M)).set (ly_loc k i) (b + ly_loc k i, e) = gm_W b n (ly_cell G (mm_row M k i f)) := by
  rw [gm_set, ly_up h, he]
theorem ly_ok_0_0 : ∀ i, i < 9 → ly_lay (ly_loc 0 i) = (0, i) ∧ ly_loc 0 i < 144 := by decide +kernel
theorem ly_ok_0 {n i : Nat} (h : i < 9) (hn : 144 ≤ n) : ly_ok n 0 i := ⟨(ly_ok_0_0 i h).1, Nat.lt_of_lt_of_le (ly_ok_0_0 i h).2 hn⟩
theorem ly_ok_1_0 : ∀ i, i < 2 → ly_lay (ly_loc 1 i) = (1, i) ∧ ly_loc 1 i < 144 := by decide +kernel
theorem ly_ok_1 {n i : Nat} (h : i < 2) (hn : 144 ≤ n) : ly_ok n 1 i := ⟨(ly_ok_1_0 i h).1, Nat.lt_of_lt_of_le (ly_ok_1_0 i h).2 hn⟩
theorem ly_ok_2_0 : ∀ i, i < 16 → ly_lay (ly_loc 2 i) = (2, i) ∧ ly_loc 2 i < 144 := by decide +kernel
theorem ly_ok_2 {n i : Nat} (h : i < 16) (hn : 144 ≤ n) : ly_ok n 2 i := ⟨(ly_ok_2_0 i h).1, Nat.lt_of_lt_of_le (ly_ok_2_0 i h).2 hn⟩
theorem ly_ok_3_0 : ∀ i, i < 1 → ly_lay (ly_loc 3 i) = (3, i) ∧ ly_loc 3 i < 144 := by decide +kernel
theorem ly_ok_3 {n i : Nat} (h : i < 1) (hn : 144 ≤ n) : ly_ok n 3 i := ⟨(ly_ok_3_0 i h).1, Nat.lt_of_lt_of_le (ly_ok_3_0 i h).2 hn⟩
theorem ly_ok_4_0 : ∀ i, i < 1 → ly_lay (ly_loc 4 i) = (4, i) ∧ ly_loc 4 i < 144 := by decide +kernel
theorem ly_ok_4 {n i : Nat} (h : i < 1) (hn : 144 ≤ n) : ly_ok n 4 i := ⟨(ly_ok_4_0 i h).1, Nat.lt_of_lt_of_le (ly_ok_4_0 i h).2 hn⟩
theorem ly_ok_5_0 : ∀ i, i < 4 → ly_lay (ly_loc 5 i) = (5, i) ∧ ly_loc 5 i < 144 := by decide +kernel
theorem ly_ok_5 {n i : Nat} (h : i < 4) (hn : 144 ≤ n) : ly_ok n 5 i := ⟨(ly_ok_5_0 i h).1, Nat.lt_of_lt_of_le (ly_ok_5_0 i h).2 hn⟩
theorem ly_ok_6_0 : ∀ i, i < 14 → ly_lay (ly_loc 6 i) = (6, i) ∧ ly_loc 6 i < 144 := by decide +kernel
theorem ly_ok_6 {n i : Nat} (h : i < 14) (hn : 144 ≤ n) : ly_ok n 6 i := ⟨(ly_ok_6_0 i h).1, Nat.lt_of_lt_of_le (ly_ok_6_0 i h).2 hn⟩
theorem ly_ok_8_0 : ∀ i, i < 1 → ly_lay (ly_loc 8 i) = (8, i) ∧ ly_loc 8 i < 144 := by decide +kernel
theorem ly_ok_8 {n i : Nat} (h : i < 1) (hn : 144 ≤ n) : ly_ok n 8 i := ⟨(ly_ok_8_0 i h).1, Nat.lt_of_lt_of_le (ly_ok_8_0 i h).2 hn⟩
theorem ly_ok_9_0 : ∀ i, i < 1 → ly_lay (ly_loc 9 i) = (9, i) ∧ ly_loc 9 i < 144 := by decide +kernel
theorem ly_ok_9 {n i : Nat} (h : i < 1) (hn : 144 ≤ n) : ly_ok n 9 i := ⟨(ly_ok_9_0 i h).1, Nat.lt_of_lt_of_le (ly_ok_9_0 i h).2 hn⟩
theorem ly_ok_10_0 : ∀ i, i < 9 → ly_lay (ly_loc 10 i) = (10, i) ∧ ly_loc 10 i < 144 := by decide +kernel
theorem ly_ok_10 {n i : Nat} (h : i < 9) (hn : 144 ≤ n) : ly_ok n 10 i := ⟨(ly_ok_10_0 i h).1, Nat.lt_of_lt_of_le (ly_ok_10_0 i h).2 hn⟩
theorem ly_ok_11_0 : ∀ i, i < 9 → ly_lay (ly_loc 11 i) = (11, i) ∧ ly_loc 11 i < 144 := by decide +kernel
theorem ly_ok_11 {n i : Nat} (h : i < 9) (hn : 144 ≤ n) : ly_ok n 11 i := ⟨(ly_ok_11_0 i h).1, Nat.lt_of_lt_of_le (ly_ok_11_0 i h).2 hn⟩
theorem ly_ok_12_0 : ∀ i, i < 9 → ly_lay (ly_loc 12 i) = (12, i) ∧ ly_loc 12 i < 144 := by decide +kernel
theorem ly_ok_12 {n i : Nat} (h : i < 9) (hn : 144 ≤ n) : ly_ok n 12 i := ⟨(ly_ok_12_0 i h).1, Nat.lt_of_lt_of_le (ly_ok_12_0 i h).2 hn⟩
theorem ly_ok_13_0 : ∀ i, i < 9 → ly_lay (ly_loc 13 i) = (13, i) ∧ ly_loc 13 i < 144 := by decide +kernel
theorem ly_ok_13 {n i : Nat} (h : i < 9) (hn : 144 ≤ n) : ly_ok n 13 i := ⟨(ly_ok_13_0 i h).1, Nat.lt_of_lt_of_le (ly_ok_13_0 i h).2 hn⟩
theorem ly_ok_14_0 : ∀ i, i < 9 → ly_lay (ly_loc 14 i) = (14, i) ∧ ly_loc 14 i < 144 := by decide +kernel
theorem ly_ok_14 {n i : Nat} (h : i < 9) (hn : 144 ≤ n) : ly_ok n 14 i := ⟨(ly_ok_14_0 i h).1, Nat.lt_of_lt_of_le (ly_ok_14_0 i h).2 hn⟩
theorem ly_ok_15_0 : ∀ i, i < 9 → ly_lay (ly_loc 15 i) = (15, i) ∧ ly_loc 15 i < 144 := by decide +kernel
theorem ly_ok_15 {n i : Nat} (h : i < 9) (hn : 144 ≤ n) : ly_ok n 15 i := ⟨(ly_ok_15_0 i h).1, Nat.lt_of_lt_of_le (ly_ok_15_0 i h).2 hn⟩
theorem ly_ok_16_0 : ∀ i, i < 2 → ly_lay (ly_loc 16 i) = (16, i) ∧ ly_loc 16 i < 144 := by decide +kernel
theorem ly_ok_16 {n i : Nat} (h : i < 2) (hn : 144 ≤ n) : ly_ok n 16 i := ⟨(ly_ok_16_0 i h).1, Nat.lt_of_lt_of_le (ly_ok_16_0 i h).2 hn⟩
theorem ly_ok_17_0 : ∀ i, i < 2 → ly_lay (ly_loc 17 i) = (17, i) ∧ ly_loc 17 i < 144 := by decide +kernel
theorem ly_ok_17 {n i : Nat} (h : i < 2) (hn : 144 ≤ n) : ly_ok n 17 i := ⟨(ly_ok_17_0 i h).1, Nat.lt_of_lt_of_le (ly_ok_17_0 i h).2 hn⟩
theorem ly_ok_18_0 : ∀ i, i < 1 → ly_lay (ly_loc 18 i) = (18, i) ∧ ly_loc 18 i < 144 := by decide +kernel
theorem ly_ok_18 {n i : Nat} (h : i < 1) (hn : 144 ≤ n) : ly_ok n 18 i := ⟨(ly_ok_18_0 i h).1, Nat.lt_of_lt_of_le (ly_ok_18_0 i h).2 hn⟩
theorem ly_ok_19_0 : ∀ i, i < 1 → ly_lay (ly_loc 19 i) = (19, i) ∧ ly_loc 19 i < 144 := by decide +kernel
theorem ly_ok_19 {n i : Nat} (h : i < 1) (hn : 144 ≤ n) : ly_ok n 19 i := ⟨(ly_ok_19_0 i h).1, Nat.lt_of_lt_of_le (ly_ok_19_0 i h).2 hn⟩
theorem ly_ok_20_0 : ∀ i, i < 1 → ly_lay (ly_loc 20 i) = (20, i) ∧ ly_loc 20 i < 144 := by decide +kernel
theorem ly_ok_20 {n i : Nat} (h : i < 1) (hn : 144 ≤ n) : ly_ok n 20 i := ⟨(ly_ok_20_0 i h).1, Nat.lt_of_lt_of_le (ly_ok_20_0 i h).2 hn⟩
theorem ly_ok_21_0 : ∀ i, i < 1 → ly_lay (ly_loc 21 i) = (21, i) ∧ ly_loc 21 i < 144 := by decide +kernel
theorem ly_ok_21 {n i : Nat} (h : i < 1) (hn : 144 ≤ n) : ly_ok n 21 i := ⟨(ly_ok_21_0 i h).1, Nat.lt_of_lt_of_le (ly_ok_21_0 i h).2 hn⟩
theorem ly_ok_22_0 : ∀ i, i < 1 → ly_lay (ly_loc 22 i) = (22, i) ∧ ly_loc 22 i < 144 := by decide +kernel
theorem ly_ok_22 {n i : Nat} (h : i < 1) (hn : 144 ≤ n) : ly_ok n 22 i := ⟨(ly_ok_22_0 i h).1, Nat.lt_of_lt_of_le (ly_ok_22_0 i h).2 hn⟩
theorem ly_ok_23_0 : ∀ i, i < 1 → ly_lay (ly_loc 23 i) = (23, i) ∧ ly_loc 23 i < 144 := by decide +kernel
theorem ly_ok_23 {n i : Nat} (h : i < 1) (hn : 144 ≤ n) : ly_ok n 23 i := ⟨(ly_ok_23_0 i h).1, Nat.lt_of_lt_of_le (ly_ok_23_0 i h).2 hn⟩
theorem ly_ok_24_0 : ∀ i, i < 1 → ly_lay (ly_loc 24 i) = (24, i) ∧ ly_loc 24 i < 144 := by decide +kernel
theorem ly_ok_24 {n i : Nat} (h : i < 1) (hn : 144 ≤ n) : ly_ok n 24 i := ⟨(ly_ok_24_0 i h).1, Nat.lt_of_lt_of_le (ly_ok_24_0 i h).2 hn⟩
theorem ly_ok_25_0 : ∀ i, i < 1 → ly_lay (ly_loc 25 i) = (25, i) ∧ ly_loc 25 i < 144 := by decide +kernel
theorem ly_ok_25 {n i : Nat} (h : i < 1) (hn : 144 ≤ n) : ly_ok n 25 i := ⟨(ly_ok_25_0 i h).1, Nat.lt_of_lt_of_le (ly_ok_25_0 i h).2 hn⟩
theorem ly_ok_26_0 : ∀ i, i < 1 → ly_lay (ly_loc 26 i) = (26, i) ∧ ly_loc 26 i < 144 := by decide +kernel
theorem ly_ok_26 {n i : Nat} (h : i < 1) (hn : 144 ≤ n) : ly_ok n 26 i := ⟨(ly_ok_26_0 i h).1, Nat.lt_of_lt_of_le (ly_ok_26_0 i h).2 hn⟩
theorem ly_ok_27_0 : ∀ i, i < 4 → ly_lay (ly_loc 27 i) = (27, i) ∧ ly_loc 27 i < 144 := by decide +kernel
theorem ly_ok_27 {n i : Nat} (h : i < 4) (hn : 144 ≤ n) : ly_ok n 27 i := ⟨(ly_ok_27_0 i h).1, Nat.lt_of_lt_of_le (ly_ok_27_0 i h).2 hn⟩
theorem ly_ok_30_0 : ∀ i, i < 1 → ly_lay (ly_loc 30 i) = (30, i) ∧ ly_loc 30 i < 144 := by decide +kernel
theorem ly_ok_30 {n i : Nat} (h : i < 1) (hn : 144 ≤ n) : ly_ok n 30 i := ⟨(ly_ok_30_0 i h).1, Nat.lt_of_lt_of_le (ly_ok_30_0 i h).2 hn⟩
theorem ly_ok_31_0 : ∀ i, i < 1 → ly_lay (ly_loc 31 i) = (31, i) ∧ ly_loc 31 i < 144 := by decide +kernel
theorem ly_ok_31 {n i : Nat} (h : i < 1) (hn : 144 ≤ n) : ly_ok n 31 i := ⟨(ly_ok_31_0 i h).1, Nat.lt_of_lt_of_le (ly_ok_31_0 i h).2 hn⟩
theorem ly_ok_32_0 : ∀ i, i < 1 → ly_lay (ly_loc 32 i) = (32, i) ∧ ly_loc 32 i < 144 := by decide +kernel
theorem ly_ok_32 {n i : Nat} (h : i < 1) (hn : 144 ≤ n) : ly_ok n 32 i := ⟨(ly_ok_32_0 i h).1, Nat.lt_of_lt_of_le (ly_ok_32_0 i h).2 hn⟩
theorem ly_ok_33_0 : ∀ i, i < 1 → ly_lay (ly_loc 33 i) = (33, i) ∧ ly_loc 33 i < 144 := by decide +kernel
theorem ly_ok_33 {n i : Nat} (h : i < 1) (hn : 144 ≤ n) : ly_ok n 33 i := ⟨(ly_ok_33_0 i h).1, Nat.lt_of_lt_of_le (ly_ok_33_0 i h).2 hn⟩
theorem ly_ok_34_0 : ∀ i, i < 1 → ly_lay (ly_loc 34 i) = (34, i) ∧ ly_loc 34 i < 144 := by decide +kernel
theorem ly_ok_34 {n i : Nat} (h : i < 1) (hn : 144 ≤ n) : ly_ok n 34 i := ⟨(ly_ok_34_0 i h).1, Nat.lt_of_lt_of_le (ly_ok_34_0 i h).2 hn⟩
theorem ly_ok_35_0 : ∀ i, i < 1 → ly_lay (ly_loc 35 i) = (35, i) ∧ ly_loc 35 i < 144 := by decide +kernel
theorem ly_ok_35 {n i : Nat} (h : i < 1) (hn : 144 ≤ n) : ly_ok n 35 i := ⟨(ly_ok_35_0 i h).1, Nat.lt_of_lt_of_le (ly_ok_35_0 i h).2 hn⟩
theorem ly_ok_36_0 : ∀ i, i < 1 → ly_lay (ly_loc 36 i) = (36, i) ∧ ly_loc 36 i < 144 := by decide +kernel
theorem ly_ok_36 {n i : Nat} (h : i < 1) (hn : 144 ≤ n) : ly_ok n 36 i := ⟨(ly_ok_36_0 i h).1, Nat.lt_of_lt_of_le (ly_ok_36_0 i h).2 hn⟩
theorem ly_ok_37_0 : ∀ i, i < 1 → ly_lay (ly_loc 37 i) = (37, i) ∧ ly_loc 37 i < 144 := by decide +kernel
theorem ly_ok_37 {n i : Nat} (h : i < 1) (hn : 144 ≤ n) : ly_ok n 37 i := ⟨(ly_ok_37_0 i h).1, Nat.lt_of_lt_of_le (ly_ok_37_0 i h).2 hn⟩
theorem ly_ok_38_0 : ∀ i, i < 1 → ly_lay (ly_loc 38 i) = (38, i) ∧ ly_loc 38 i < 144 := by decide +kernel
theorem ly_ok_38 {n i : Nat} (h : i < 1) (hn : 144 ≤ n) : ly_ok n 38 i := ⟨(ly_ok_38_0 i h).1, Nat.lt_of_lt_of_le (ly_ok_38_0 i h).2 hn⟩
theorem ly_ok_39_0 : ∀ i, i < 1 → ly_lay (ly_loc 39 i) = (39, i) ∧ ly_loc 39 i < 144 := by decide +kernel
theorem ly_ok_39 {n i : Nat} (h : i < 1) (hn : 144 ≤ n) : ly_ok n 39 i := ⟨(ly_ok_39_0 i h).1, Nat.lt_of_lt_of_le (ly_ok_39_0 i h).2 hn⟩
theorem ly_ok_40_0 : ∀ i, i < 1 → ly_lay (ly_loc 40 i) = (40, i) ∧ ly_loc 40 i < 144 := by decide +kernel
theorem ly_ok_40 {n i : Nat} (h : i < 1) (hn : 144 ≤ n) : ly_ok n 40 i := ⟨(ly_ok_40_0 i h).1, Nat.lt_of_lt_of_le (ly_ok_40_0 i h).2 hn⟩
theorem ly_ok_41_0 : ∀ i, i < 1 → ly_lay (ly_loc 41 i) = (41, i) ∧ ly_loc 41 i < 144 := by decide +kernel
theorem ly_ok_41 {n i : Nat} (h : i < 1) (hn : 144 ≤ n) : ly_ok n 41 i := ⟨(ly_ok_41_0 i h).1, Nat.lt_of_lt_of_le (ly_ok_41_0 i h).2 hn⟩
theorem ly_ok_42_0 : ∀ i, i < 1 → ly_lay (ly_loc 42 i) = (42, i) ∧ ly_loc 42 i < 144 := by decide +kernel
theorem ly_ok_42 {n i : Nat} (h : i < 1) (hn : 144 ≤ n) : ly_ok n 42 i := ⟨(ly_ok_42_0 i h).1, Nat.lt_of_lt_of_le (ly_ok_42_0 i h).2 hn⟩
theorem ly_ok_43_0 : ∀ i, i < 1 → ly_lay (ly_loc 43 i) = (43, i) ∧ ly_loc 43 i < 144 := by decide +kernel
theorem ly_ok_43 {n i : Nat} (h : i < 1) (hn : 144 ≤ n) : ly_ok n 43 i := ⟨(ly_ok_43_0 i h).1, Nat.lt_of_lt_of_le (ly_ok_43_0 i h).2 hn⟩
theorem ly_ok_44_0 : ∀ i, i < 1 → ly_lay (ly_loc 44 i) = (44, i) ∧ ly_loc 44 i < 144 := by decide +kernel
theorem ly_ok_44 {n i : Nat} (h : i < 1) (hn : 144 ≤ n) : ly_ok n 44 i := ⟨(ly_ok_44_0 i h).1, Nat.lt_of_lt_of_le (ly_ok_44_0 i h).2 hn⟩
theorem ly_ok_45_0 : ∀ i, i < 1 → ly_lay (ly_loc 45 i) = (45, i) ∧ ly_loc 45 i < 144 := by decide +kernel
theorem ly_ok_45 {n i : Nat} (h : i < 1) (hn : 144 ≤ n) : ly_ok n 45 i := ⟨(ly_ok_45_0 i h).1, Nat.lt_of_lt_of_le (ly_ok_45_0 i h).2 hn⟩
theorem ly_ok_46_0 : ∀ i, i < 1 → ly_lay (ly_loc 46 i) = (46, i) ∧ ly_loc 46 i < 144 := by decide +kernel
theorem ly_ok_46 {n i : Nat} (h : i < 1) (hn : 144 ≤ n) : ly_ok n 46 i := ⟨(ly_ok_46_0 i h).1, Nat.lt_of_lt_of_le (ly_ok_46_0 i h).2 hn⟩
theorem ly_ok_47_0 : ∀ i, i < 1 → ly_lay (ly_loc 47 i) = (47, i) ∧ ly_loc 47 i < 144 := by decide +kernel
theorem ly_ok_47 {n i : Nat} (h : i < 1) (hn : 144 ≤ n) : ly_ok n 47 i := ⟨(ly_ok_47_0 i h).1, Nat.lt_of_lt_of_le (ly_ok_47_0 i h).2 hn⟩
theorem ly_ok_48_0 : ∀ i, i < 1 → ly_lay (ly_loc 48 i) = (48, i) ∧ ly_loc 48 i < 144 := by decide +kernel
theorem ly_ok_48 {n i : Nat} (h : i < 1) (hn : 144 ≤ n) : ly_ok n 48 i := ⟨(ly_ok_48_0 i h).1, Nat.lt_of_lt_of_le (ly_ok_48_0 i h).2 hn⟩
theorem ly_ok_49_0 : ∀ i, i < 1 → ly_lay (ly_loc 49 i) = (49, i) ∧ ly_loc 49 i < 144 := by decide +kernel
theorem ly_ok_49 {n i : Nat} (h : i < 1) (hn : 144 ≤ n) : ly_ok n 49 i := ⟨(ly_ok_49_0 i h).1, Nat.lt_of_lt_of_le (ly_ok_49_0 i h).2 hn⟩
theorem ly_ok_50_0 : ∀ i, i < 1 → ly_lay (ly_loc 50 i) = (50, i) ∧ ly_loc 50 i < 144 := by decide +kernel
theorem ly_ok_50 {n i : Nat} (h : i < 1) (hn : 144 ≤ n) : ly_ok n 50 i := ⟨(ly_ok_50_0 i h).1, Nat.lt_of_lt_of_le (ly_ok_50_0 i h).2 hn⟩
theorem ly_ok_7 {n t : Nat} (h : 3 * t + 144 ≤ n) : ly_ok n 7 t := by
  have hl : ly_loc 7 t = if t = 0 then 111 else 141 + 3 * t := rfl
  unfold ly_ok
  by_cases h0 : t = 0
  · subst h0; exact ⟨by decide +kernel, Nat.lt_of_lt_of_le (show ly_loc 7 0 < 144 by decide +kernel) (by omega)⟩
  · rw [hl, if_neg h0]
    refine ⟨?_, by omega⟩
    unfold ly_lay
    rw [if_neg (by omega)]
    have e1 : (141 + 3 * t - 144) % 3 = 0 := by omega
    have e2 : (141 + 3 * t - 144) / 3 + 1 = t := by omega
    rw [e1, e2]
    rfl
theorem ly_ok_28 {n t : Nat} (h : 3 * t + 144 ≤ n) : ly_ok n 28 t := by
  have hl : ly_loc 28 t = if t = 0 then 112 else 142 + 3 * t := rfl
  unfold ly_ok
  by_cases h0 : t = 0
  · subst h0; exact ⟨by decide +kernel, Nat.lt_of_lt_of_le (show ly_loc 28 0 < 144 by decide +kernel) (by omega)⟩
  · rw [hl, if_neg h0]
    refine ⟨?_, by omega⟩
    unfold ly_lay
    rw [if_neg (by omega)]
    have e1 : (142 + 3 * t - 144) % 3 = 1 := by omega
    have e2 : (142 + 3 * t - 144) / 3 + 1 = t := by omega
    rw [e1, e2]
    rfl
theorem ly_ok_29 {n t : Nat} (h : 3 * t + 144 ≤ n) : ly_ok n 29 t := by
  have hl : ly_loc 29 t = if t = 0 then 113 else 143 + 3 * t := rfl
  unfold ly_ok
  by_cases h0 : t = 0
  · subst h0; exact ⟨by decide +kernel, Nat.lt_of_lt_of_le (show ly_loc 29 0 < 144 by decide +kernel) (by omega)⟩
  · rw [hl, if_neg h0]
    refine ⟨?_, by omega⟩
    unfold ly_lay
    rw [if_neg (by omega)]
    have e1 : (143 + 3 * t - 144) % 3 = 2 := by omega
    have e2 : (143 + 3 * t - 144) / 3 + 1 = t := by omega
    rw [e1, e2]
    rfl
abbrev cx_t (G : cx_T) : List (ClassId × FieldType) := [(cx_c G 0, .int), (cx_c G 1, .boolean), (cx_c G 2, .object "WhoSingsNext$Person"), (cx_c G 3, .object "WhoSingsNext$Slip"), (cx_c G 4, .object "WhoSingsNext$Text"), (cx_c G 5, .object "WhoSingsNext$Evening"), (cx_c G 6, .object "WhoSingsNext$Sheet")]
end
section
/-! ===== what holds of the tables and of what lay in the heap before ===== -/
def cx_strs : List (String × Nat × String) := [("WhoSingsNext", 54, "bears 10 ; takes 2 + mood ; first waited - sung * 9 ;"), ("WhoSingsNext$Reader", 110, "minute"), ("WhoSingsNext$Reader", 116, "waited"), ("WhoSingsNext$Reader", 118, "sung"), ("WhoSingsNext$Reader", 120, "sort"), ("WhoSingsNext$Reader", 122, "bar"), ("WhoSingsNext$Reader", 124, "mood"), ("WhoSingsNext$Reader", 126, "bears"), ("WhoSingsNext$Reader", 128, "takes"), ("WhoSingsNext$Reader", 130, "first"), ("WhoSingsNext$Reader", 132, "or"), ("WhoSingsNext$Reader", 134, "and"), ("WhoSingsNext$Reader", 136, "not"), ("WhoSingsNext$Reader", 102, "();+-*<=")]
def cx_len : List Nat := [53, 6, 6, 4, 4, 3, 4, 5, 5, 5, 2, 3, 3, 8]
def cx_byt : List (List Int32) := [[98, 101, 97, 114, 115, 32, 49, 48, 32, 59, 32, 116, 97, 107, 101, 115, 32, 50, 32, 43, 32, 109, 111, 111, 100, 32, 59, 32, 102, 105, 114, 115, 116, 32, 119, 97, 105, 116, 101, 100, 32, 45, 32, 115, 117, 110, 103, 32, 42, 32, 57, 32, 59], [109, 105, 110, 117, 116, 101], [119, 97, 105, 116, 101, 100], [115, 117, 110, 103], [115, 111, 114, 116], [98, 97, 114], [109, 111, 111, 100], [98, 101, 97, 114, 115], [116, 97, 107, 101, 115], [102, 105, 114, 115, 116], [111, 114], [97, 110, 100], [110, 111, 116], [40, 41, 59, 43, 45, 42, 60, 61]]
def nw_is : Cond → Bool
  | .fieldLinkNest .. => true
  | .methodLinkNest .. => true
  | _ => false
def nw_t : List Cond := lw_tbl.filter nw_is
theorem nw_mem {w : Cond} (k : Nat) (h : lw_tbl[k]? = some w) (g : nw_is w = true) : w ∈ nw_t := List.mem_filter.mpr ⟨List.mem_of_getElem? h, g⟩
theorem nw_warm {w : Cond} {s U : State} (h : w ∈ nw_t) (hW : s.WarmedH U.vm) (hZ : va_Nw w s) : va_Nw w U := by
  have hi := (List.mem_filter.mp h).2
  cases w <;> first | exact hZ.warmF hW | exact hZ.warmM hW | (exact absurd hi (by simp [nw_is]))
theorem nw_same {w : Cond} {u U : State} (h : w ∈ nw_t) (hv : u.vm = U.vm) (hZ : va_Nw w u) : va_Nw w U := by
  have hi := (List.mem_filter.mp h).2
  cases w <;> first | exact va_Nw.same rfl hv hZ | (exact absurd hi (by simp [nw_is]))
def cx_Kx (G : cx_T) (U : State) : Prop := va_K (cx_D G) vwCl (cx_t G) U ∧ vk_S 14 cx_len cx_byt (cx_K G) (cx_V G) (fun q => cx_b G ≤ q) U U.heap ∧ (∀ (i : Nat) (r : String × Nat × String), cx_strs[i]? = some r → vk_R r.1 r.2.1 r.2.2 (cx_K G i) U) ∧ va_Z "java/lang/String" "COMPACT_STRINGS" "Z" (.int 1) (fun q => cx_b G ≤ q) U U.heap ∧ va_Zq "jdk/internal/util/Preconditions" "SIOOBE_FORMATTER" "Ljava/util/function/BiFunction;" (fun q => cx_b G ≤ q) U U.heap ∧ ∀ w ∈ nw_t, va_Nw w U
theorem cx_Kx.at {G : cx_T} {s U : State} {H : Heap} {locs : List Loc} (h : cx_Kx G s) (hS : va_S (fun q => cx_b G ≤ q) s.heap H locs) (hU : U.heap = H) (hW : s.WarmedH U.vm) : cx_Kx G U := by
  obtain ⟨h1, h2, h3, h4, h5, h6⟩ := h
  refine ⟨va_K.moved hW.alike h1, ?_, fun i r hr => (h3 i r hr).warm hW, ?_, ?_, fun w hw => nw_warm hw hW (h6 w hw)⟩
  · rw [hU]; exact vk_S.moved hW.alike (h2.kept hS.2.1)
  · rw [hU]; exact va_Z.moved hW.alike (h4.kept hS.2.1)
  · rw [hU]; exact va_Zq.moved hW.alike (h5.kept hS.2.1)
theorem cx_Kx.call {G : cx_T} {U : State} {g : JFrame} {mk : MethodId} {a : Array Value} (h : cx_Kx G U) : cx_Kx G (U.calling g mk a) := by
  obtain ⟨h1, h2, h3, h4, h5, h6⟩ := h
  exact ⟨va_K.moved (u := U) (U := U.calling g mk a) (Vm.Alike.refl U.vm) h1, vk_S.moved (u := U) (U := U.calling g mk a) (Vm.Alike.refl U.vm) h2, fun i r hr => vk_R.same (u := U) (U := U.calling g mk a) rfl (h3 i r hr), va_Z.moved (u := U) (U := U.calling g mk a) (Vm.Alike.refl U.vm) h4, va_Zq.moved (u := U) (U := U.calling g mk a) (Vm.Alike.refl U.vm) h5, fun w hw => nw_same (u := U) (U := U.calling g mk a) hw rfl (h6 w hw)⟩
/-- a method's frame: the machine, its code, the tables -/
def cx_ok (G : cx_T) (p : Program) (s : State) (m : MethodId) (args : Array Value) (meth : Method) (c : Code) (cc : ByteArray) (nL : Nat) (own : String) (ret : Option FieldType) : Prop :=
  p.tables.exec = Jvm.exec ∧ c.code = cc ∧ c.maxLocals = nL ∧ s.vm.findClass own = some m.cls ∧ (∀ w ∈ gw_t, w.before args s = true) ∧ cx_Kx G s ∧ meth.sig.returnType = ret ∧ meth.locks = false
/-- the world at a place of the walk -/
def st_ok (G : cx_T) (n : Nat) (I J : mm_T) (s : State) (H : Heap) (locs : List Loc) : Prop :=
  va_P (cx_D G) vwCl (gm_W (cx_b G) n (ly_cell G (mm_mx I J))) H ∧ s.heap.size = cx_b G + n ∧ va_S (fun q => cx_b G ≤ q) s.heap H locs ∧ 144 ≤ n
def wd_ok (G : cx_T) (n : Nat) (I J : mm_T) (U : State) : Prop := va_P (cx_D G) vwCl (gm_W (cx_b G) n (ly_cell G (mm_mx I J))) U.heap ∧ U.heap.size = cx_b G + n ∧ 144 ≤ n
def wd_pre (G : cx_T) (n : Nat) (I J : mm_T) (U : State) : Prop := wd_ok G n I J U ∧ cx_Kx G U
abbrev cx_A (G : cx_T) : Nat → Prop := fun q => cx_b G ≤ q
def ct_qv (G : cx_T) (n : Nat) (I J : mm_T) : Array Value → State → Outcome → State → Prop := va_Qv (fun _ : Unit => True) (fun _ => wd_ok G n I J) (cx_A G)
def ct_qi (G : cx_T) (n : Nat) (I J : mm_T) (r : Int32) : Array Value → State → Outcome → State → Prop := va_Qi (fun (x : Int32) (_ : Unit) => x = r) (fun _ => wd_ok G n I J) (cx_A G)
def ct_ql (G : cx_T) (n : Nat) (I J : mm_T) (r : Int64) : Array Value → State → Outcome → State → Prop := va_Ql (fun (x : Int64) (_ : Unit) => x = r) (fun _ => wd_ok G n I J) (cx_A G)
def ct_qr (G : cx_T) (n : Nat) (I J : mm_T) (a : Nat) : Array Value → State → Outcome → State → Prop := va_Qr (fun _ : Unit => True) (fun _ x t => x = a ∧ wd_ok G n I J t) (cx_A G)
/-- a contract: from memory (I, J) with these arguments to the end Qc -/
def ct_m (l : Launch) (G : cx_T) (n : Nat) (y : MethodName) (cc : ByteArray) (ml : Nat) (ret : Option FieldType) (rm : Room) (av : List Value) (I J : mm_T) (Qc : Array Value → State → Outcome → State → Prop) : Prop :=
  Met l y (.code y cc ml ret :: gw_t) rm (va_Pc av (wd_pre G n I J)) Qc 0 0 (cx_A G)
theorem wd_blind {G : cx_T} {n : Nat} {I J : mm_T} {av : List Value} : FrameBlind (va_Pc av (wd_pre G n I J)) := fun a U g mk q => ⟨q.1, q.2.1, q.2.2.call⟩
theorem ct_en {l : Launch} {G : cx_T} {n : Nat} {y : MethodName} {cc : ByteArray} {ml : Nat} {ret : Option FieldType} {rm : Room} {av : List Value} {I J : mm_T} {Qc : Array Value → State → Outcome → State → Prop} (hy : plainName y.cls = true) (hav : (lg_sl av).length ≤ ml)
    (body : ∀ (p : Program) (e : Env) (s : State) (m : MethodId) (args : Array Value) (below : List Frame) (meth : Method) (c : Code) (ls : Array Slot), cx_ok G p s m args meth c cc ml y.cls ret → st_ok G n I J s s.heap [] → lv_has ls ml (lv_args 0 av) → W p l e rm s m args below meth c s.heap [] 0 0 (MQ below Qc args s 0 0 (cx_A G)) (F0 m 0 ls [])) : ct_m l G n y cc ml ret rm av I J Qc := by
  unfold ct_m
  refine Met.ofW (cc := cc) (maxL := ml) (ret := ret) hy rfl ?_
  intro p e s m args below meth c s₁ B hml hv
  obtain ⟨rfl, ⟨hP, hsz, hn⟩, hK⟩ := hv
  have hts := atoms_spec (ws := .code y cc ml ret :: gw_t) B.pre
  have hl := lv_entry av (n := ml) hav
  rw [lg_entry_eq]
  exact body p e s m av.toArray below meth c _ ⟨B.exec, B.bytes, hml, findClass_of_methodNamed B.named, fun w h => hts w (List.mem_cons_of_mem _ h), hK, B.returns, B.notSynchronized⟩ ⟨hP, hsz, va_S.rf, hn⟩ hl
section RW
variable {p : Program} {l : Launch} {e : Env} {R : Room} {s : State} {m : MethodId} {args : Array Value} {below : List Frame} {meth : Method} {c : Code} {H : Heap} {locs : List Loc} {cells slots : Nat} {Q : State → Prop}
variable {cc : ByteArray} {pc : Nat} {ls : Array Slot} {rest : List Value} {G : cx_T} {n nL : Nat} {I J : mm_T} {own : String} {ret : Option FieldType}
theorem r_size {g : JFrame} (kk : s.heap.size ≤ H.size → H.size ≤ s.heap.size + cells → W p l e R s m args below meth c H locs cells slots Q g) : W p l e R s m args below meth c H locs cells slots Q g := fun T hT X => kk (by rw [← hT]; exact X.same.2.1) (by rw [← hT]; exact X.same.2.2.1) T hT X
theorem st_ok.wd (S : st_ok G n I J s H locs) (h1 : s.heap.size ≤ H.size) (h2 : H.size ≤ s.heap.size + 0) {t : State} (ht : t.heap = H) : wd_ok G n I J t := ⟨by rw [ht]; exact S.1, by rw [ht]; have := S.2.1; omega, S.2.2.2⟩
theorem st_ok.wb {t : State} (S : st_ok G n I J s H locs) {I' J' : mm_T} {H1 : Heap} {locs1 : List Loc} (h : wd_ok G n I' J' t) (ht : t.heap = H1) (hS : va_S (cx_A G) s.heap H1 locs1) : st_ok G n I' J' s H1 locs1 := ⟨by rw [← ht]; exact h.1, S.2.1, hS, h.2.2⟩
theorem st_ok.pre (X : cx_ok G p s m args meth c cc nL own ret) (S : st_ok G n I J s H locs) (h1 : s.heap.size ≤ H.size) (h2 : H.size ≤ s.heap.size + 0) {U : State} (hU : U.heap = H) (hW : s.WarmedH U.vm) : wd_pre G n I J U := ⟨S.wd h1 h2 hU, X.2.2.2.2.2.1.at S.2.2.1 hU hW⟩
/-! ends -/
theorem r_vret (X : cx_ok G p s m args meth c cc nL own none) (S : st_ok G n I J s H locs) (hd : decode cc pc = .ok (.return_, 1)) : W p l e R s m args below meth c H locs 0 0 (MQ below (ct_qv G n I J) args s 0 0 (cx_A G)) (F0 m pc ls []) :=
  r_size (fun h1 h2 => W.vret X.1 X.2.1 X.2.2.2.2.2.2.1 (fun t ht hW => ⟨⟨(), rfl, trivial, S.wd h1 h2 ht⟩, S.2.2.1.F ht⟩) S.2.2.1.2.2 hd X.2.2.2.2.2.2.2)
theorem r_iret (X : cx_ok G p s m args meth c cc nL own (some .int)) (S : st_ok G n I J s H locs) {v : Int32} (hd : decode cc pc = .ok (.ireturn, 1)) : W p l e R s m args below meth c H locs 0 0 (MQ below (ct_qi G n I J v) args s 0 0 (cx_A G)) (F0 m pc ls [.int v]) :=
  r_size (fun h1 h2 => W.iret X.1 X.2.1 X.2.2.2.2.2.2.1 (fun t ht hW => ⟨⟨v, (), rfl, rfl, S.wd h1 h2 ht⟩, S.2.2.1.F ht⟩) S.2.2.1.2.2 hd X.2.2.2.2.2.2.2)
theorem r_zret (X : cx_ok G p s m args meth c cc nL own (some .boolean)) (S : st_ok G n I J s H locs) {v : Int32} (hv : narrow .boolean (.int v) = .int v) (hd : decode cc pc = .ok (.ireturn, 1)) : W p l e R s m args below meth c H locs 0 0 (MQ below (ct_qi G n I J v) args s 0 0 (cx_A G)) (F0 m pc ls [.int v]) :=
  r_size (fun h1 h2 => W.zret X.1 X.2.1 X.2.2.2.2.2.2.1 hv (fun t ht hW => ⟨⟨v, (), rfl, rfl, S.wd h1 h2 ht⟩, S.2.2.1.F ht⟩) S.2.2.1.2.2 hd X.2.2.2.2.2.2.2)
theorem r_lret (X : cx_ok G p s m args meth c cc nL own (some .long)) (S : st_ok G n I J s H locs) {v : Int64} (hd : decode cc pc = .ok (.lreturn, 1)) : W p l e R s m args below meth c H locs 0 0 (MQ below (ct_ql G n I J v) args s 0 0 (cx_A G)) (F0 m pc ls [.long v]) :=
  r_size (fun h1 h2 => W.lret X.1 X.2.1 X.2.2.2.2.2.2.1 (fun t ht hW => ⟨⟨v, (), rfl, rfl, S.wd h1 h2 ht⟩, S.2.2.1.F ht⟩) S.2.2.1.2.2 hd X.2.2.2.2.2.2.2)
theorem r_aret {C : String} (X : cx_ok G p s m args meth c cc nL own (some (.object C))) (S : st_ok G n I J s H locs) {a : Nat} (hd : decode cc pc = .ok (.areturn, 1)) : W p l e R s m args below meth c H locs 0 0 (MQ below (ct_qr G n I J a) args s 0 0 (cx_A G)) (F0 m pc ls [.ref a]) :=
  r_size (fun h1 h2 => W.aret X.1 X.2.1 X.2.2.2.2.2.2.1 (Or.inl ⟨_, rfl⟩) (Or.inr ⟨_, rfl⟩) (fun t ht hW => ⟨⟨(), a, rfl, trivial, rfl, S.wd h1 h2 ht⟩, S.2.2.1.F ht⟩) S.2.2.1.2.2 hd X.2.2.2.2.2.2.2)
/-! fields -/
theorem r_get (X : cx_ok G p s m args meth c cc nL own ret) (S : st_ok G n I J s H locs) {k i ci idx : Nat} (ho : ly_ok n k i) {fs : List Value} (hf : ly_K G k i (mm_mx I J k i) = .inr (ci, fs)) {C : String} {T : u_T} {N : Nat} (hc : vwCl[ci]? = some (C, T, N)) (hin : ∀ w ∈ u_ws C T N, w ∈ gw_t) (j : Nat) (hj : j < N) (hw : Cond.fieldLink own idx (T j).1 (T j).2.1 (T j).2.2.1 ∈ gw_t) {v : Value} (hv : fs[j]? = some v) (hd : decode cc pc = .ok (.getfield idx, 3))
    (kk : W p l e R s m args below meth c H locs cells slots Q (F0 m (pc + 3) ls (v :: rest))) : W p l e R s m args below meth c H locs cells slots Q (F0 m pc ls (.ref (cx_b G + ly_loc k i) :: rest)) :=
  va_get (D := cx_D G) (ci := ci) (v := v) (C := C) (T := T) (N := N) X.1 X.2.1 X.2.2.2.2.1 hin X.2.2.2.1 X.2.2.2.2.2.1.1 S.1 (ly_loc k i) (by rw [ly_get ho, hf]) hc j hj (X.2.2.2.2.1 _ hw) (fun _ h => h) hv hd kk
theorem r_getN (X : cx_ok G p s m args meth c cc nL own ret) (S : st_ok G n I J s H locs) {k i ci idx : Nat} {host : String} (ho : ly_ok n k i) {fs : List Value} (hf : ly_K G k i (mm_mx I J k i) = .inr (ci, fs)) {C : String} {T : u_T} {N : Nat} (hc : vwCl[ci]? = some (C, T, N)) (hin : ∀ w ∈ u_ws C T N, w ∈ gw_t) (j : Nat) (hj : j < N) (hw : Cond.fieldLinkNest own idx (T j).1 (T j).2.1 (T j).2.2.1 host ∈ nw_t) {v : Value} (hv : fs[j]? = some v) (hd : decode cc pc = .ok (.getfield idx, 3))
    (kk : W p l e R s m args below meth c H locs cells slots Q (F0 m (pc + 3) ls (v :: rest))) : W p l e R s m args below meth c H locs cells slots Q (F0 m pc ls (.ref (cx_b G + ly_loc k i) :: rest)) :=
  va_getN (D := cx_D G) (ci := ci) (v := v) (C := C) (T := T) (N := N) X.1 X.2.1 X.2.2.2.2.1 hin X.2.2.2.1 X.2.2.2.2.2.1.1 S.1 (ly_loc k i) (by rw [ly_get ho, hf]) hc j hj ((X.2.2.2.2.2.1.2.2.2.2.2 _ hw).use rfl) (fun _ h => h) hv hd kk
theorem st_rowI (S : st_ok G n I J s H locs) {k i : Nat} (hm : mm_m k = false) {f : Nat → Int32} {H1 : Heap} {locs1 : List Loc} (hP : va_P (cx_D G) vwCl (gm_W (cx_b G) n (ly_cell G (mm_row (mm_mx I J) k i f))) H1) (hS : va_S (cx_A G) s.heap H1 locs1) : st_ok G n (mm_row I k i f) J s H1 locs1 := ⟨by rw [mm_mx_rowI hm]; exact hP, S.2.1, hS, S.2.2.2⟩
theorem st_rowJ (S : st_ok G n I J s H locs) {k i : Nat} (hm : mm_m k = true) {f : Nat → Int32} {H1 : Heap} {locs1 : List Loc} (hP : va_P (cx_D G) vwCl (gm_W (cx_b G) n (ly_cell G (mm_row (mm_mx I J) k i f))) H1) (hS : va_S (cx_A G) s.heap H1 locs1) : st_ok G n I (mm_row J k i f) s H1 locs1 := ⟨by rw [mm_mx_rowJ hm]; exact hP, S.2.1, hS, S.2.2.2⟩
theorem r_putI (X : cx_ok G p s m args meth c cc nL own ret) (S : st_ok G n I J s H locs) {k i ci idx : Nat} (ho : ly_ok n k i) (hm : mm_m k = false) {fs : List Value} (hf : ly_K G k i (mm_mx I J k i) = .inr (ci, fs)) {C : String} {T : u_T} {N : Nat} {ty0 : Nat → FieldType} (hc : vwCl[ci]? = some (C, T, N)) (hin : ∀ w ∈ u_ws C T N, w ∈ gw_t) (hty : ∀ k, k < N → parseFieldDescriptor (T k).2.2.1 = some (ty0 k)) (hnm : ∀ a, a < N → ∀ b, b < N → a ≠ b → (T a).2.1 ≠ (T b).2.1) (j : Nat) (hj : j < N) (hw : Cond.fieldLink own idx (T j).1 (T j).2.1 (T j).2.2.1 ∈ gw_t ∨ ∃ host, Cond.fieldLinkNest own idx (T j).1 (T j).2.1 (T j).2.2.1 host ∈ nw_t) (hfin : (T j).2.2.2 = false) {v : Value} {x : Int32} (hn : narrow (ty0 j) v = v) (hfit : fits (ty0 j) v = true) (hl : j < fs.length) (hu : ly_K G k i (upd (mm_mx I J k i) j x) = .inr (ci, fs.set j v)) (hd : decode cc pc = .ok (.putfield idx, 3))
    (kk : ∀ (I1 : mm_T) (H1 : Heap) (locs1 : List Loc), I1 = mm_up I k i j x → st_ok G n I1 J s H1 locs1 → W p l e R s m args below meth c H1 locs1 cells slots Q (F0 m (pc + 3) ls rest)) : W p l e R s m args below meth c H locs cells slots Q (F0 m pc ls (v :: .ref (cx_b G + ly_loc k i) :: rest)) := by
  rcases hw with hw | ⟨host, hw⟩
  · refine va_put (D := cx_D G) (ci := ci) (v := v) (ty := ty0 j) (C := C) (T := T) (N := N) X.1 X.2.1 X.2.2.2.2.1 hin ty0 hty hnm X.2.2.2.1 X.2.2.2.2.2.1.1 S.1 gm_D S.2.2.1 (ly_loc k i) (by rw [ly_get ho, hf]) hc j hj (X.2.2.2.2.1 _ hw) (fun _ h => h) hfin (hty j hj) hn hfit hl hd (fun H1 locs1 hP _ hS => ?_)
    rw [ly_set ho hu] at hP
    refine kk _ H1 locs1 rfl (st_rowI S hm ?_ hS)
    rw [mm_mx_I hm] at hP
    exact hP
  · refine va_putN (D := cx_D G) (ci := ci) (v := v) (ty := ty0 j) (C := C) (T := T) (N := N) X.1 X.2.1 X.2.2.2.2.1 hin ty0 hty hnm X.2.2.2.1 X.2.2.2.2.2.1.1 S.1 gm_D S.2.2.1 (ly_loc k i) (by rw [ly_get ho, hf]) hc j hj ((X.2.2.2.2.2.1.2.2.2.2.2 _ hw).use rfl) (fun _ h => h) hfin (hty j hj) hn hfit hl hd (fun H1 locs1 hP _ hS => ?_)
    rw [ly_set ho hu] at hP
    refine kk _ H1 locs1 rfl (st_rowI S hm ?_ hS)
    rw [mm_mx_I hm] at hP
    exact hP
theorem r_putJ (X : cx_ok G p s m args meth c cc nL own ret) (S : st_ok G n I J s H locs) {k i ci idx : Nat} (ho : ly_ok n k i) (hm : mm_m k = true) {fs : List Value} (hf : ly_K G k i (mm_mx I J k i) = .inr (ci, fs)) {C : String} {T : u_T} {N : Nat} {ty0 : Nat → FieldType} (hc : vwCl[ci]? = some (C, T, N)) (hin : ∀ w ∈ u_ws C T N, w ∈ gw_t) (hty : ∀ k, k < N → parseFieldDescriptor (T k).2.2.1 = some (ty0 k)) (hnm : ∀ a, a < N → ∀ b, b < N → a ≠ b → (T a).2.1 ≠ (T b).2.1) (j : Nat) (hj : j < N) (hw : Cond.fieldLink own idx (T j).1 (T j).2.1 (T j).2.2.1 ∈ gw_t) (hfin : (T j).2.2.2 = false) {v : Value} {x : Int32} (hn : narrow (ty0 j) v = v) (hfit : fits (ty0 j) v = true) (hl : j < fs.length) (hu : ly_K G k i (upd (mm_mx I J k i) j x) = .inr (ci, fs.set j v)) (hd : decode cc pc = .ok (.putfield idx, 3))
    (kk : ∀ (J1 : mm_T) (H1 : Heap) (locs1 : List Loc), J1 = mm_up J k i j x → st_ok G n I J1 s H1 locs1 → W p l e R s m args below meth c H1 locs1 cells slots Q (F0 m (pc + 3) ls rest)) : W p l e R s m args below meth c H locs cells slots Q (F0 m pc ls (v :: .ref (cx_b G + ly_loc k i) :: rest)) := by
  refine va_put (D := cx_D G) (ci := ci) (v := v) (ty := ty0 j) (C := C) (T := T) (N := N) X.1 X.2.1 X.2.2.2.2.1 hin ty0 hty hnm X.2.2.2.1 X.2.2.2.2.2.1.1 S.1 gm_D S.2.2.1 (ly_loc k i) (by rw [ly_get ho, hf]) hc j hj (X.2.2.2.2.1 _ hw) (fun _ h => h) hfin (hty j hj) hn hfit hl hd (fun H1 locs1 hP _ hS => ?_)
  rw [ly_set ho hu] at hP
  refine kk _ H1 locs1 rfl (st_rowJ S hm ?_ hS)
  rw [mm_mx_J hm] at hP
  exact hP
/-! arrays -/
def ix_in (i : Int32) (n : Nat) : Bool := decide (¬ (i < 0 ∨ n ≤ i.toNatClampNeg))
theorem ix_vp {i : Int32} {n : Nat} (h : ix_in i n = true) : vp_in i n := by unfold ix_in at h; unfold vp_in; exact of_decide_eq_true h
theorem r_iald (X : cx_ok G p s m args meth c cc nL own ret) (S : st_ok G n I J s H locs) {k i N : Nat} {f : Nat → Int32} (ho : ly_ok n k i) (hf : ly_K G k i (mm_mx I J k i) = .inl (cx_c G 0, N, .inl f)) {x : Int32} (hx : ix_in x N = true) (hd : decode cc pc = .ok (.iaload, 1))
    (kk : W p l e R s m args below meth c H locs cells slots Q (F0 m (pc + 1) ls (.int (f x.toNatClampNeg) :: rest))) : W p l e R s m args below meth c H locs cells slots Q (F0 m pc ls (.int x :: .ref (cx_b G + ly_loc k i) :: rest)) :=
  va_iald X.1 X.2.1 X.2.2.2.2.2.1.1 S.1 (ly_loc k i) 0 (by rw [ly_get ho, hf]) rfl (ix_vp hx) hd kk
theorem r_zald (X : cx_ok G p s m args meth c cc nL own ret) (S : st_ok G n I J s H locs) {k i N : Nat} {f : Nat → Int32} (ho : ly_ok n k i) (hf : ly_K G k i (mm_mx I J k i) = .inl (cx_c G 1, N, .inl f)) {x : Int32} (hx : ix_in x N = true) (hd : decode cc pc = .ok (.baload, 1))
    (kk : W p l e R s m args below meth c H locs cells slots Q (F0 m (pc + 1) ls (.int (f x.toNatClampNeg) :: rest))) : W p l e R s m args below meth c H locs cells slots Q (F0 m pc ls (.int x :: .ref (cx_b G + ly_loc k i) :: rest)) :=
  va_zald X.1 X.2.1 X.2.2.2.2.2.1.1 S.1 (ly_loc k i) 1 (by rw [ly_get ho, hf]) rfl (ix_vp hx) hd kk
theorem r_aald (X : cx_ok G p s m args meth c cc nL own ret) (S : st_ok G n I J s H locs) {k i N t0 : Nat} {C : String} {f : Nat → Option Nat} (ho : ly_ok n k i) (hf : ly_K G k i (mm_mx I J k i) = .inl (cx_c G t0, N, .inr (.inr (.inr (.inr f))))) (ht : (cx_t G)[t0]? = some (cx_c G t0, .object C)) {x : Int32} (hx : ix_in x N = true) {a : Nat} (ha : f x.toNatClampNeg = some a) (hd : decode cc pc = .ok (.aaload, 1))
    (kk : W p l e R s m args below meth c H locs cells slots Q (F0 m (pc + 1) ls (.ref a :: rest))) : W p l e R s m args below meth c H locs cells slots Q (F0 m pc ls (.int x :: .ref (cx_b G + ly_loc k i) :: rest)) :=
  va_aldq X.1 X.2.1 X.2.2.2.2.2.1.1 S.1 (ly_loc k i) t0 (by rw [ly_get ho, hf]) ht (ix_vp hx) hd (by rw [ha]; exact kk)
theorem r_alen (X : cx_ok G p s m args meth c cc nL own ret) (S : st_ok G n I J s H locs) {k i : Nat} {x : vp_A} (ho : ly_ok n k i) (hf : ly_K G k i (mm_mx I J k i) = .inl (cx_c G 0, x)) {v : Int32} (hv : Int32.ofNat x.1 = v) (hd : decode cc pc = .ok (.arraylength, 1))
    (kk : W p l e R s m args below meth c H locs cells slots Q (F0 m (pc + 1) ls (.int v :: rest))) : W p l e R s m args below meth c H locs cells slots Q (F0 m pc ls (.ref (cx_b G + ly_loc k i) :: rest)) :=
  va_alen X.1 X.2.1 X.2.2.2.2.2.1.1 S.1 (ly_loc k i) 0 (by rw [ly_get ho, hf]) (ty := .int) rfl hv hd kk
theorem r_iastI (X : cx_ok G p s m args meth c cc nL own ret) (S : st_ok G n I J s H locs) {k i N : Nat} (ho : ly_ok n k i) (hm : mm_m k = false) (hf : ∀ f : Nat → Int32, ly_K G k i f = .inl (cx_c G 0, N, .inl f)) {x y : Int32} (hx : ix_in x N = true) (hd : decode cc pc = .ok (.iastore, 1))
    (kk : ∀ (I1 : mm_T) (H1 : Heap) (locs1 : List Loc), I1 = mm_up I k i x.toNatClampNeg y → st_ok G n I1 J s H1 locs1 → W p l e R s m args below meth c H1 locs1 cells slots Q (F0 m (pc + 1) ls rest)) : W p l e R s m args below meth c H locs cells slots Q (F0 m pc ls (.int y :: .int x :: .ref (cx_b G + ly_loc k i) :: rest)) := by
  refine va_iast X.1 X.2.1 X.2.2.2.2.2.1.1 S.1 gm_D S.2.2.1 (ly_loc k i) 0 (by rw [ly_get ho, hf]) rfl (ix_vp hx) hd (fun H1 locs1 hP _ hS => ?_)
  rw [ly_set ho (hf _)] at hP
  refine kk _ H1 locs1 rfl (st_rowI S hm ?_ hS)
  rw [mm_mx_I hm] at hP
  exact hP
theorem r_iastJ (X : cx_ok G p s m args meth c cc nL own ret) (S : st_ok G n I J s H locs) {k i N : Nat} (ho : ly_ok n k i) (hm : mm_m k = true) (hf : ∀ f : Nat → Int32, ly_K G k i f = .inl (cx_c G 0, N, .inl f)) {x y : Int32} (hx : ix_in x N = true) (hd : decode cc pc = .ok (.iastore, 1))
    (kk : ∀ (J1 : mm_T) (H1 : Heap) (locs1 : List Loc), J1 = mm_up J k i x.toNatClampNeg y → st_ok G n I J1 s H1 locs1 → W p l e R s m args below meth c H1 locs1 cells slots Q (F0 m (pc + 1) ls rest)) : W p l e R s m args below meth c H locs cells slots Q (F0 m pc ls (.int y :: .int x :: .ref (cx_b G + ly_loc k i) :: rest)) := by
  refine va_iast X.1 X.2.1 X.2.2.2.2.2.1.1 S.1 gm_D S.2.2.1 (ly_loc k i) 0 (by rw [ly_get ho, hf]) rfl (ix_vp hx) hd (fun H1 locs1 hP _ hS => ?_)
  rw [ly_set ho (hf _)] at hP
  refine kk _ H1 locs1 rfl (st_rowJ S hm ?_ hS)
  rw [mm_mx_J hm] at hP
  exact hP
theorem r_zastJ (X : cx_ok G p s m args meth c cc nL own ret) (S : st_ok G n I J s H locs) {k i N : Nat} (ho : ly_ok n k i) (hm : mm_m k = true) (hf : ∀ f : Nat → Int32, ly_K G k i f = .inl (cx_c G 1, N, .inl f)) {x y : Int32} (hx : ix_in x N = true) (hd : decode cc pc = .ok (.bastore, 1))
    (kk : ∀ (J1 : mm_T) (H1 : Heap) (locs1 : List Loc), J1 = mm_up J k i x.toNatClampNeg (vp_nar .boolean y) → st_ok G n I J1 s H1 locs1 → W p l e R s m args below meth c H1 locs1 cells slots Q (F0 m (pc + 1) ls rest)) : W p l e R s m args below meth c H locs cells slots Q (F0 m pc ls (.int y :: .int x :: .ref (cx_b G + ly_loc k i) :: rest)) := by
  refine va_zast X.1 X.2.1 X.2.2.2.2.2.1.1 S.1 gm_D S.2.2.1 (ly_loc k i) 1 (by rw [ly_get ho, hf]) rfl (ix_vp hx) hd (fun H1 locs1 hP _ hS => ?_)
  rw [ly_set ho (hf _)] at hP
  refine kk _ H1 locs1 rfl (st_rowJ S hm ?_ hS)
  rw [mm_mx_J hm] at hP
  exact hP
theorem r_recv (X : cx_ok G p s m args meth c cc nL own ret) (S : st_ok G n I J s H locs) {k i ci : Nat} (ho : ly_ok n k i) {fs : List Value} (hf : ly_K G k i (mm_mx I J k i) = .inr (ci, fs)) {C : String} {T : u_T} {N : Nat} (hc : vwCl[ci]? = some (C, T, N)) : ∃ cell : Cell, H[cx_b G + ly_loc k i]? = some cell ∧ cell.vm.isStatics = false ∧ s.vm.findClass C = some cell.cls :=
  va_recv (q := (C, T, N)) X.2.2.2.2.2.1.1 S.1 hc (by rw [ly_get ho, hf])
theorem r_Vv (X : cx_ok G p s m args meth c cc nL own ret) (S : st_ok G n I J s H locs) {y : MethodName} {cy : ByteArray} {ml : Nat} {ry : Option FieldType} {rm : Room} {a : Nat} {As : List Value} {I1 J1 : mm_T} (hM : ct_m l G n y cy ml ry rm (.ref a :: As) I J (ct_qv G n I1 J1)) {C : String} {idx np : Nat} (hG : GoodIn gw_t (wsV own idx C y (.code y cy ml ry :: gw_t))) (hy : y.cls = C ∧ y.cls ≠ "java/lang/invoke/MethodHandle" ∧ y.cls ≠ "java/lang/invoke/VarHandle" ∧ (parseMethodDescriptor y.desc).map (fun d => d.parameters.length) = some np) (hrc : rm.cells = 0 ∧ rm.slots = 0) (hR : rm.frames + 1 ≤ R.frames ∧ 8 + (ml + 11) + rm.locals ≤ R.locals) (hrec : ∃ cell : Cell, H[a]? = some cell ∧ cell.vm.isStatics = false ∧ s.vm.findClass C = some cell.cls) (hn : As.length = np) {st0 : List Value} (hst : st0 = As.reverse ++ .ref a :: rest) (hls : ls.size = nL) (hro : (rest.map fun v => v.category).sum ≤ 8) (hd : decode cc pc = .ok (.invokevirtual idx, 3))
    (kk : ∀ (H1 : Heap) (locs1 : List Loc), st_ok G n I1 J1 s H1 locs1 → W p l e R s m args below meth c H1 locs1 0 0 Q (F0 m (pc + 3) ls (rest))) : W p l e R s m args below meth c H locs 0 0 Q (F0 m pc ls st0) := by
  subst hst
  refine r_size (fun h1 h2 => ?_)
  refine va_callv (va_runV (As := As) (rest := rest) ⟨X.1, X.2.1, X.2.2.1, X.2.2.2.1, X.2.2.2.2.1⟩ hM (cwV np X.2.2.2.2.1 hG rfl hrc.1 hrc.2 hy hR) ⟨wd_blind, hrec, fun U hU hW => ⟨rfl, S.pre X h1 h2 hU hW⟩⟩ rfl hn hls rfl (lv_room hro) hd ⟨Nat.zero_le _, Nat.zero_le _⟩) S.2.2.1 (fun _ _ h => h) (fun _ h => h) (fun u t H1 locs1 ht hvm hw hB hz1 hk1 hS => ?_)
  exact kk H1 locs1 (S.wb hB ht hS)
theorem r_Sv (X : cx_ok G p s m args meth c cc nL own ret) (S : st_ok G n I J s H locs) {y : MethodName} {cy : ByteArray} {ml : Nat} {ry : Option FieldType} {rm : Room} {As : List Value} {I1 J1 : mm_T} (hM : ct_m l G n y cy ml ry rm As I J (ct_qv G n I1 J1)) {idx np : Nat} (hG : GoodIn gw_t (va_wsS own idx y (.code y cy ml ry :: gw_t))) (hy : y.cls ≠ "java/lang/invoke/MethodHandle" ∧ y.cls ≠ "java/lang/invoke/VarHandle" ∧ (parseMethodDescriptor y.desc).map (fun d => d.parameters.length) = some np) (hrc : rm.cells = 0 ∧ rm.slots = 0) (hR : rm.frames + 1 ≤ R.frames ∧ 8 + (ml + 11) + rm.locals ≤ R.locals) (hn : As.length = np) {st0 : List Value} (hst : st0 = As.reverse ++ rest) (hls : ls.size = nL) (hro : (rest.map fun v => v.category).sum ≤ 8) (hd : decode cc pc = .ok (.invokestatic idx, 3))
    (kk : ∀ (H1 : Heap) (locs1 : List Loc), st_ok G n I1 J1 s H1 locs1 → W p l e R s m args below meth c H1 locs1 0 0 Q (F0 m (pc + 3) ls (rest))) : W p l e R s m args below meth c H locs 0 0 Q (F0 m pc ls st0) := by
  subst hst
  refine r_size (fun h1 h2 => ?_)
  refine va_callv (va_runS (As := As) (rest := rest) ⟨X.1, X.2.1, X.2.2.1, X.2.2.2.1, X.2.2.2.2.1⟩ hM (va_cwS np X.2.2.2.2.1 hG rfl hrc.1 hrc.2 hy hR) ⟨wd_blind, fun U hU hW => ⟨rfl, S.pre X h1 h2 hU hW⟩⟩ rfl hn hls rfl (lv_room hro) hd ⟨Nat.zero_le _, Nat.zero_le _⟩) S.2.2.1 (fun _ _ h => h) (fun _ h => h) (fun u t H1 locs1 ht hvm hw hB hz1 hk1 hS => ?_)
  exact kk H1 locs1 (S.wb hB ht hS)
theorem r_Vi (X : cx_ok G p s m args meth c cc nL own ret) (S : st_ok G n I J s H locs) {y : MethodName} {cy : ByteArray} {ml : Nat} {ry : Option FieldType} {rm : Room} {a : Nat} {As : List Value} {I1 J1 : mm_T} {r : Int32} (hM : ct_m l G n y cy ml ry rm (.ref a :: As) I J (ct_qi G n I1 J1 r)) {C : String} {idx np : Nat} (hG : GoodIn gw_t (wsV own idx C y (.code y cy ml ry :: gw_t))) (hy : y.cls = C ∧ y.cls ≠ "java/lang/invoke/MethodHandle" ∧ y.cls ≠ "java/lang/invoke/VarHandle" ∧ (parseMethodDescriptor y.desc).map (fun d => d.parameters.length) = some np) (hrc : rm.cells = 0 ∧ rm.slots = 0) (hR : rm.frames + 1 ≤ R.frames ∧ 8 + (ml + 11) + rm.locals ≤ R.locals) (hrec : ∃ cell : Cell, H[a]? = some cell ∧ cell.vm.isStatics = false ∧ s.vm.findClass C = some cell.cls) (hn : As.length = np) {st0 : List Value} (hst : st0 = As.reverse ++ .ref a :: rest) (hls : ls.size = nL) (hro : (rest.map fun v => v.category).sum ≤ 8) (hd : decode cc pc = .ok (.invokevirtual idx, 3))
    (kk : ∀ (H1 : Heap) (locs1 : List Loc), st_ok G n I1 J1 s H1 locs1 → W p l e R s m args below meth c H1 locs1 0 0 Q (F0 m (pc + 3) ls (.int r :: rest))) : W p l e R s m args below meth c H locs 0 0 Q (F0 m pc ls st0) := by
  subst hst
  refine r_size (fun h1 h2 => ?_)
  refine va_calli (va_runV (As := As) (rest := rest) ⟨X.1, X.2.1, X.2.2.1, X.2.2.2.1, X.2.2.2.2.1⟩ hM (cwV np X.2.2.2.2.1 hG rfl hrc.1 hrc.2 hy hR) ⟨wd_blind, hrec, fun U hU hW => ⟨rfl, S.pre X h1 h2 hU hW⟩⟩ rfl hn hls rfl (lv_room hro) hd ⟨Nat.zero_le _, Nat.zero_le _⟩) S.2.2.1 (fun _ _ h => h) (fun _ h => h) (fun rr u t H1 locs1 ht hvm hw hB hz1 hk1 hS => ?_)
  subst hw; exact kk H1 locs1 (S.wb hB ht hS)
theorem r_Si (X : cx_ok G p s m args meth c cc nL own ret) (S : st_ok G n I J s H locs) {y : MethodName} {cy : ByteArray} {ml : Nat} {ry : Option FieldType} {rm : Room} {As : List Value} {I1 J1 : mm_T} {r : Int32} (hM : ct_m l G n y cy ml ry rm As I J (ct_qi G n I1 J1 r)) {idx np : Nat} (hG : GoodIn gw_t (va_wsS own idx y (.code y cy ml ry :: gw_t))) (hy : y.cls ≠ "java/lang/invoke/MethodHandle" ∧ y.cls ≠ "java/lang/invoke/VarHandle" ∧ (parseMethodDescriptor y.desc).map (fun d => d.parameters.length) = some np) (hrc : rm.cells = 0 ∧ rm.slots = 0) (hR : rm.frames + 1 ≤ R.frames ∧ 8 + (ml + 11) + rm.locals ≤ R.locals) (hn : As.length = np) {st0 : List Value} (hst : st0 = As.reverse ++ rest) (hls : ls.size = nL) (hro : (rest.map fun v => v.category).sum ≤ 8) (hd : decode cc pc = .ok (.invokestatic idx, 3))
    (kk : ∀ (H1 : Heap) (locs1 : List Loc), st_ok G n I1 J1 s H1 locs1 → W p l e R s m args below meth c H1 locs1 0 0 Q (F0 m (pc + 3) ls (.int r :: rest))) : W p l e R s m args below meth c H locs 0 0 Q (F0 m pc ls st0) := by
  subst hst
  refine r_size (fun h1 h2 => ?_)
  refine va_calli (va_runS (As := As) (rest := rest) ⟨X.1, X.2.1, X.2.2.1, X.2.2.2.1, X.2.2.2.2.1⟩ hM (va_cwS np X.2.2.2.2.1 hG rfl hrc.1 hrc.2 hy hR) ⟨wd_blind, fun U hU hW => ⟨rfl, S.pre X h1 h2 hU hW⟩⟩ rfl hn hls rfl (lv_room hro) hd ⟨Nat.zero_le _, Nat.zero_le _⟩) S.2.2.1 (fun _ _ h => h) (fun _ h => h) (fun rr u t H1 locs1 ht hvm hw hB hz1 hk1 hS => ?_)
  subst hw; exact kk H1 locs1 (S.wb hB ht hS)
theorem r_Vl (X : cx_ok G p s m args meth c cc nL own ret) (S : st_ok G n I J s H locs) {y : MethodName} {cy : ByteArray} {ml : Nat} {ry : Option FieldType} {rm : Room} {a : Nat} {As : List Value} {I1 J1 : mm_T} {r : Int64} (hM : ct_m l G n y cy ml ry rm (.ref a :: As) I J (ct_ql G n I1 J1 r)) {C : String} {idx np : Nat} (hG : GoodIn gw_t (wsV own idx C y (.code y cy ml ry :: gw_t))) (hy : y.cls = C ∧ y.cls ≠ "java/lang/invoke/MethodHandle" ∧ y.cls ≠ "java/lang/invoke/VarHandle" ∧ (parseMethodDescriptor y.desc).map (fun d => d.parameters.length) = some np) (hrc : rm.cells = 0 ∧ rm.slots = 0) (hR : rm.frames + 1 ≤ R.frames ∧ 8 + (ml + 11) + rm.locals ≤ R.locals) (hrec : ∃ cell : Cell, H[a]? = some cell ∧ cell.vm.isStatics = false ∧ s.vm.findClass C = some cell.cls) (hn : As.length = np) {st0 : List Value} (hst : st0 = As.reverse ++ .ref a :: rest) (hls : ls.size = nL) (hro : (rest.map fun v => v.category).sum ≤ 8) (hd : decode cc pc = .ok (.invokevirtual idx, 3))
    (kk : ∀ (H1 : Heap) (locs1 : List Loc), st_ok G n I1 J1 s H1 locs1 → W p l e R s m args below meth c H1 locs1 0 0 Q (F0 m (pc + 3) ls (.long r :: rest))) : W p l e R s m args below meth c H locs 0 0 Q (F0 m pc ls st0) := by
  subst hst
  refine r_size (fun h1 h2 => ?_)
  refine va_calll (va_runV (As := As) (rest := rest) ⟨X.1, X.2.1, X.2.2.1, X.2.2.2.1, X.2.2.2.2.1⟩ hM (cwV np X.2.2.2.2.1 hG rfl hrc.1 hrc.2 hy hR) ⟨wd_blind, hrec, fun U hU hW => ⟨rfl, S.pre X h1 h2 hU hW⟩⟩ rfl hn hls rfl (lv_room hro) hd ⟨Nat.zero_le _, Nat.zero_le _⟩) S.2.2.1 (fun _ _ h => h) (fun _ h => h) (fun rr u t H1 locs1 ht hvm hw hB hz1 hk1 hS => ?_)
  subst hw; exact kk H1 locs1 (S.wb hB ht hS)
theorem r_Sl (X : cx_ok G p s m args meth c cc nL own ret) (S : st_ok G n I J s H locs) {y : MethodName} {cy : ByteArray} {ml : Nat} {ry : Option FieldType} {rm : Room} {As : List Value} {I1 J1 : mm_T} {r : Int64} (hM : ct_m l G n y cy ml ry rm As I J (ct_ql G n I1 J1 r)) {idx np : Nat} (hG : GoodIn gw_t (va_wsS own idx y (.code y cy ml ry :: gw_t))) (hy : y.cls ≠ "java/lang/invoke/MethodHandle" ∧ y.cls ≠ "java/lang/invoke/VarHandle" ∧ (parseMethodDescriptor y.desc).map (fun d => d.parameters.length) = some np) (hrc : rm.cells = 0 ∧ rm.slots = 0) (hR : rm.frames + 1 ≤ R.frames ∧ 8 + (ml + 11) + rm.locals ≤ R.locals) (hn : As.length = np) {st0 : List Value} (hst : st0 = As.reverse ++ rest) (hls : ls.size = nL) (hro : (rest.map fun v => v.category).sum ≤ 8) (hd : decode cc pc = .ok (.invokestatic idx, 3))
    (kk : ∀ (H1 : Heap) (locs1 : List Loc), st_ok G n I1 J1 s H1 locs1 → W p l e R s m args below meth c H1 locs1 0 0 Q (F0 m (pc + 3) ls (.long r :: rest))) : W p l e R s m args below meth c H locs 0 0 Q (F0 m pc ls st0) := by
  subst hst
  refine r_size (fun h1 h2 => ?_)
  refine va_calll (va_runS (As := As) (rest := rest) ⟨X.1, X.2.1, X.2.2.1, X.2.2.2.1, X.2.2.2.2.1⟩ hM (va_cwS np X.2.2.2.2.1 hG rfl hrc.1 hrc.2 hy hR) ⟨wd_blind, fun U hU hW => ⟨rfl, S.pre X h1 h2 hU hW⟩⟩ rfl hn hls rfl (lv_room hro) hd ⟨Nat.zero_le _, Nat.zero_le _⟩) S.2.2.1 (fun _ _ h => h) (fun _ h => h) (fun rr u t H1 locs1 ht hvm hw hB hz1 hk1 hS => ?_)
  subst hw; exact kk H1 locs1 (S.wb hB ht hS)
theorem r_Vr (X : cx_ok G p s m args meth c cc nL own ret) (S : st_ok G n I J s H locs) {y : MethodName} {cy : ByteArray} {ml : Nat} {ry : Option FieldType} {rm : Room} {a : Nat} {As : List Value} {I1 J1 : mm_T} {r : Nat} (hM : ct_m l G n y cy ml ry rm (.ref a :: As) I J (ct_qr G n I1 J1 r)) {C : String} {idx np : Nat} (hG : GoodIn gw_t (wsV own idx C y (.code y cy ml ry :: gw_t))) (hy : y.cls = C ∧ y.cls ≠ "java/lang/invoke/MethodHandle" ∧ y.cls ≠ "java/lang/invoke/VarHandle" ∧ (parseMethodDescriptor y.desc).map (fun d => d.parameters.length) = some np) (hrc : rm.cells = 0 ∧ rm.slots = 0) (hR : rm.frames + 1 ≤ R.frames ∧ 8 + (ml + 11) + rm.locals ≤ R.locals) (hrec : ∃ cell : Cell, H[a]? = some cell ∧ cell.vm.isStatics = false ∧ s.vm.findClass C = some cell.cls) (hn : As.length = np) {st0 : List Value} (hst : st0 = As.reverse ++ .ref a :: rest) (hls : ls.size = nL) (hro : (rest.map fun v => v.category).sum ≤ 8) (hd : decode cc pc = .ok (.invokevirtual idx, 3))
    (kk : ∀ (H1 : Heap) (locs1 : List Loc), st_ok G n I1 J1 s H1 locs1 → W p l e R s m args below meth c H1 locs1 0 0 Q (F0 m (pc + 3) ls (.ref r :: rest))) : W p l e R s m args below meth c H locs 0 0 Q (F0 m pc ls st0) := by
  subst hst
  refine r_size (fun h1 h2 => ?_)
  refine va_callr (va_runV (As := As) (rest := rest) ⟨X.1, X.2.1, X.2.2.1, X.2.2.2.1, X.2.2.2.2.1⟩ hM (cwV np X.2.2.2.2.1 hG rfl hrc.1 hrc.2 hy hR) ⟨wd_blind, hrec, fun U hU hW => ⟨rfl, S.pre X h1 h2 hU hW⟩⟩ rfl hn hls rfl (lv_room hro) hd ⟨Nat.zero_le _, Nat.zero_le _⟩) S.2.2.1 (fun _ _ h => h) (fun _ h => h) (fun u rr t H1 locs1 ht hvm hw hB hz1 hk1 hS => ?_)
  obtain ⟨rfl, hB⟩ := hB; exact kk H1 locs1 (S.wb hB ht hS)
theorem r_Sr (X : cx_ok G p s m args meth c cc nL own ret) (S : st_ok G n I J s H locs) {y : MethodName} {cy : ByteArray} {ml : Nat} {ry : Option FieldType} {rm : Room} {As : List Value} {I1 J1 : mm_T} {r : Nat} (hM : ct_m l G n y cy ml ry rm As I J (ct_qr G n I1 J1 r)) {idx np : Nat} (hG : GoodIn gw_t (va_wsS own idx y (.code y cy ml ry :: gw_t))) (hy : y.cls ≠ "java/lang/invoke/MethodHandle" ∧ y.cls ≠ "java/lang/invoke/VarHandle" ∧ (parseMethodDescriptor y.desc).map (fun d => d.parameters.length) = some np) (hrc : rm.cells = 0 ∧ rm.slots = 0) (hR : rm.frames + 1 ≤ R.frames ∧ 8 + (ml + 11) + rm.locals ≤ R.locals) (hn : As.length = np) {st0 : List Value} (hst : st0 = As.reverse ++ rest) (hls : ls.size = nL) (hro : (rest.map fun v => v.category).sum ≤ 8) (hd : decode cc pc = .ok (.invokestatic idx, 3))
    (kk : ∀ (H1 : Heap) (locs1 : List Loc), st_ok G n I1 J1 s H1 locs1 → W p l e R s m args below meth c H1 locs1 0 0 Q (F0 m (pc + 3) ls (.ref r :: rest))) : W p l e R s m args below meth c H locs 0 0 Q (F0 m pc ls st0) := by
  subst hst
  refine r_size (fun h1 h2 => ?_)
  refine va_callr (va_runS (As := As) (rest := rest) ⟨X.1, X.2.1, X.2.2.1, X.2.2.2.1, X.2.2.2.2.1⟩ hM (va_cwS np X.2.2.2.2.1 hG rfl hrc.1 hrc.2 hy hR) ⟨wd_blind, fun U hU hW => ⟨rfl, S.pre X h1 h2 hU hW⟩⟩ rfl hn hls rfl (lv_room hro) hd ⟨Nat.zero_le _, Nat.zero_le _⟩) S.2.2.1 (fun _ _ h => h) (fun _ h => h) (fun u rr t H1 locs1 ht hvm hw hB hz1 hk1 hS => ?_)
  obtain ⟨rfl, hB⟩ := hB; exact kk H1 locs1 (S.wb hB ht hS)
theorem r_SiN (X : cx_ok G p s m args meth c cc nL own ret) (S : st_ok G n I J s H locs) {y : MethodName} {cy : ByteArray} {ml : Nat} {ry : Option FieldType} {rm : Room} {As : List Value} {I1 J1 : mm_T} {r : Int32} {host : String} (hM : ct_m l G n y cy ml ry rm As I J (ct_qi G n I1 J1 r)) {idx np : Nat} (hk : Cond.methodLinkNest own idx y host ∈ nw_t) (hst1 : Cond.static y ∈ gw_t) (hini : Cond.initialized y.cls ∈ gw_t) (hcw : Cond.code y cy ml ry ∈ gw_t) (hy : y.cls ≠ "java/lang/invoke/MethodHandle" ∧ y.cls ≠ "java/lang/invoke/VarHandle" ∧ (parseMethodDescriptor y.desc).map (fun d => d.parameters.length) = some np) (hrc : rm.cells = 0 ∧ rm.slots = 0) (hR : rm.frames + 1 ≤ R.frames ∧ 8 + (ml + 11) + rm.locals ≤ R.locals) (hn : As.length = np) {st0 : List Value} (hst : st0 = As.reverse ++ rest) (hls : ls.size = nL) (hro : (rest.map fun v => v.category).sum ≤ 8) (hd : decode cc pc = .ok (.invokestatic idx, 3))
    (kk : ∀ (H1 : Heap) (locs1 : List Loc), st_ok G n I1 J1 s H1 locs1 → W p l e R s m args below meth c H1 locs1 0 0 Q (F0 m (pc + 3) ls (.int r :: rest))) : W p l e R s m args below meth c H locs 0 0 Q (F0 m pc ls st0) := by
  subst hst
  refine r_size (fun h1 h2 => ?_)
  refine va_calli (va_runSN (As := As) (rest := rest) ⟨X.1, X.2.1, X.2.2.1, X.2.2.2.1, X.2.2.2.2.1⟩ hM ⟨va_cnB np X.2.2.2.2.1 (fun w h => gw_good w ((List.mem_cons.mp h).elim (fun e => e ▸ hcw) id)) rfl hrc.1 hrc.2 (X.2.2.2.2.2.1.2.2.2.2.2 _ hk) (X.2.2.2.2.1 _ hini) hy hR, ⟨X.2.2.2.2.1 _ hst1, trivial⟩⟩ ⟨wd_blind, fun U hU hW => ⟨rfl, S.pre X h1 h2 hU hW⟩⟩ rfl hn hls rfl (lv_room hro) hd ⟨Nat.zero_le _, Nat.zero_le _⟩) S.2.2.1 (fun _ _ h => h) (fun _ h => h) (fun rr u t H1 locs1 ht hvm hw hB hz1 hk1 hS => ?_)
  subst hw; exact kk H1 locs1 (S.wb hB ht hS)
end RW
end
section
theorem goodIn_q (ws : List Cond) (ps : List Nat) (hp : ws = ps.filterMap (fun i => lw_tbl[i]?)) (h : ws.all goodWord = true) : ∀ w ∈ ws, w ∈ lw_tbl ∧ goodWord w = true := by
  intro w hw
  have h1 := List.all_eq_true.mp h w hw
  rw [hp] at hw
  obtain ⟨i, -, hi⟩ := List.mem_filterMap.mp hw
  exact ⟨List.mem_of_getElem? hi, h1⟩
theorem gw_wsV {own C : String} {idx ml : Nat} {y : MethodName} {cy : ByteArray} {ry : Option FieldType} (h1 : Cond.methodLink own idx y ∈ gw_t) (h2 : Cond.instanceMethod y ∈ gw_t) (h3 : Cond.selects C y y ∈ gw_t) (h4 : Cond.initialized C ∈ gw_t) (h5 : Cond.code y cy ml ry ∈ gw_t) : GoodIn gw_t (wsV own idx C y (.code y cy ml ry :: gw_t)) := by
  intro w hw
  have hm : w ∈ gw_t := by
    unfold wsV at hw
    rcases List.mem_append.mp hw with h | h
    · simp only [List.mem_cons, List.not_mem_nil, or_false] at h
      rcases h with rfl | rfl | rfl | rfl <;> assumption
    · rcases List.mem_cons.mp h with rfl | h
      · exact h5
      · exact h
  exact gw_good w hm
theorem gw_wsS {own : String} {idx ml : Nat} {y : MethodName} {cy : ByteArray} {ry : Option FieldType} (h1 : Cond.methodLink own idx y ∈ gw_t) (h2 : Cond.static y ∈ gw_t) (h4 : Cond.initialized y.cls ∈ gw_t) (h5 : Cond.code y cy ml ry ∈ gw_t) : GoodIn gw_t (va_wsS own idx y (.code y cy ml ry :: gw_t)) := by
  intro w hw
  have hm : w ∈ gw_t := by
    unfold va_wsS at hw
    rcases List.mem_append.mp hw with h | h
    · simp only [List.mem_cons, List.not_mem_nil, or_false] at h
      rcases h with rfl | rfl | rfl <;> assumption
    · rcases List.mem_cons.mp h with rfl | h
      · exact h5
      · exact h
  exact gw_good w hm
/-! ===== words of the tables, fields, calls ===== -/
theorem in_X0 : ∀ w ∈ u_ws RX0 TX0 16, w ∈ gw_t := fun w h => List.mem_filter.mpr ((goodIn_q (u_ws RX0 TX0 16) [260, 262, 264, 266, 268, 270, 272, 274, 276, 278, 280, 282, 284, 286, 288, 290] (by decide +kernel) (by decide +kernel)) w h)
theorem in_X1 : ∀ w ∈ u_ws RX1 TX1 8, w ∈ gw_t := fun w h => List.mem_filter.mpr ((goodIn_q (u_ws RX1 TX1 8) [167, 169, 171, 173, 175, 177, 179, 181] (by decide +kernel) (by decide +kernel)) w h)
theorem in_X2 : ∀ w ∈ u_ws RX2 TX2 2, w ∈ gw_t := fun w h => List.mem_filter.mpr ((goodIn_q (u_ws RX2 TX2 2) [112, 114] (by decide +kernel) (by decide +kernel)) w h)
theorem in_X3 : ∀ w ∈ u_ws RX3 TX3 11, w ∈ gw_t := fun w h => List.mem_filter.mpr ((goodIn_q (u_ws RX3 TX3 11) [203, 205, 207, 209, 211, 213, 215, 217, 219, 221, 223] (by decide +kernel) (by decide +kernel)) w h)
theorem in_X4 : ∀ w ∈ u_ws RX4 TX4 7, w ∈ gw_t := fun w h => List.mem_filter.mpr ((goodIn_q (u_ws RX4 TX4 7) [309, 311, 313, 315, 317, 319, 321] (by decide +kernel) (by decide +kernel)) w h)
theorem in_X5 : ∀ w ∈ u_ws RX5 TX5 3, w ∈ gw_t := fun w h => List.mem_filter.mpr ((goodIn_q (u_ws RX5 TX5 3) [563, 565, 567] (by decide +kernel) (by decide +kernel)) w h)
theorem in_X6 : ∀ w ∈ u_ws RX6 TX6 4, w ∈ gw_t := fun w h => List.mem_filter.mpr ((goodIn_q (u_ws RX6 TX6 4) [136, 138, 140, 142] (by decide +kernel) (by decide +kernel)) w h)
theorem in_X7 : ∀ w ∈ u_ws RX7 TX7 4, w ∈ gw_t := fun w h => List.mem_filter.mpr ((goodIn_q (u_ws RX7 TX7 4) [542, 544, 546, 548] (by decide +kernel) (by decide +kernel)) w h)
theorem in_X8 : ∀ w ∈ u_ws RX8 TX8 9, w ∈ gw_t := fun w h => List.mem_filter.mpr ((goodIn_q (u_ws RX8 TX8 9) [579, 581, 583, 585, 587, 589, 591, 593, 595] (by decide +kernel) (by decide +kernel)) w h)
theorem in_X9 : ∀ w ∈ u_ws RX9 TX9 61, w ∈ gw_t := fun w h => List.mem_filter.mpr ((goodIn_q (u_ws RX9 TX9 61) [995, 997, 999, 1001, 1003, 1005, 1007, 1009, 1011, 1013, 1015, 1017, 1019, 1021, 1023, 1025, 1027, 1029, 1031, 1033, 1035, 1037, 1039, 1041, 1043, 1045, 1047, 1049, 1051, 1053, 1055, 1057, 1059, 1061, 1063, 1065, 1067, 1069, 1071, 1073, 1075, 1077, 1079, 1081, 1083, 1085, 1087, 1089, 1091, 1093, 1095, 1097, 1099, 1101, 1103, 1105, 1107, 1109, 1111, 1113, 1115] (by decide +kernel) (by decide +kernel)) w h)
section RS
variable {p : Program} {l : Launch} {e : Env} {R : Room} {s : State} {m : MethodId} {args : Array Value} {below : List Frame} {meth : Method} {c : Code} {H : Heap} {locs : List Loc} {cells slots : Nat} {Q : State → Prop}
variable {cc : ByteArray} {pc : Nat} {ls : Array Slot} {rest : List Value} {G : cx_T} {n nL : Nat} {I J : mm_T} {own : String} {ret : Option FieldType}
theorem lk_X0_9 : Cond.fieldLink RX0 9 "WhoSingsNext$Evening" "names" "[I" ∈ gw_t := gw_mem 237 (by decide +kernel) (by decide +kernel)
theorem gf_X0_9 (X : cx_ok G p s m args meth c cc nL RX0 ret) (S : st_ok G n I J s H locs) {i : Nat} (hi : i < 9) (hd : decode cc pc = .ok (.getfield 9, 3)) (kk : W p l e R s m args below meth c H locs cells slots Q (F0 m (pc + 3) ls (.ref (cx_b G + ly_loc 10 i) :: rest))) : W p l e R s m args below meth c H locs cells slots Q (F0 m pc ls (.ref (cx_b G + ly_loc 0 i) :: rest)) := r_get X S (ly_ok_0 hi S.2.2.2) rfl (show vwCl[0]? = some (RX0, TX0, 16) from rfl) in_X0 2 (by decide) lk_X0_9 rfl hd kk
theorem lk_X0_15 : Cond.fieldLink RX0 15 "WhoSingsNext$Evening" "lastSang" "[I" ∈ gw_t := gw_mem 238 (by decide +kernel) (by decide +kernel)
theorem gf_X0_15 (X : cx_ok G p s m args meth c cc nL RX0 ret) (S : st_ok G n I J s H locs) {i : Nat} (hi : i < 9) (hd : decode cc pc = .ok (.getfield 15, 3)) (kk : W p l e R s m args below meth c H locs cells slots Q (F0 m (pc + 3) ls (.ref (cx_b G + ly_loc 11 i) :: rest))) : W p l e R s m args below meth c H locs cells slots Q (F0 m pc ls (.ref (cx_b G + ly_loc 0 i) :: rest)) := r_get X S (ly_ok_0 hi S.2.2.2) rfl (show vwCl[0]? = some (RX0, TX0, 16) from rfl) in_X0 3 (by decide) lk_X0_15 rfl hd kk
theorem lk_X0_18 : Cond.fieldLink RX0 18 "WhoSingsNext$Evening" "sungBy" "[I" ∈ gw_t := gw_mem 239 (by decide +kernel) (by decide +kernel)
theorem gf_X0_18 (X : cx_ok G p s m args meth c cc nL RX0 ret) (S : st_ok G n I J s H locs) {i : Nat} (hi : i < 9) (hd : decode cc pc = .ok (.getfield 18, 3)) (kk : W p l e R s m args below meth c H locs cells slots Q (F0 m (pc + 3) ls (.ref (cx_b G + ly_loc 12 i) :: rest))) : W p l e R s m args below meth c H locs cells slots Q (F0 m pc ls (.ref (cx_b G + ly_loc 0 i) :: rest)) := r_get X S (ly_ok_0 hi S.2.2.2) rfl (show vwCl[0]? = some (RX0, TX0, 16) from rfl) in_X0 4 (by decide) lk_X0_18 rfl hd kk
theorem lk_X0_21 : Cond.fieldLink RX0 21 "WhoSingsNext$Evening" "bears" "[I" ∈ gw_t := gw_mem 240 (by decide +kernel) (by decide +kernel)
theorem gf_X0_21 (X : cx_ok G p s m args meth c cc nL RX0 ret) (S : st_ok G n I J s H locs) {i : Nat} (hi : i < 9) (hd : decode cc pc = .ok (.getfield 21, 3)) (kk : W p l e R s m args below meth c H locs cells slots Q (F0 m (pc + 3) ls (.ref (cx_b G + ly_loc 13 i) :: rest))) : W p l e R s m args below meth c H locs cells slots Q (F0 m pc ls (.ref (cx_b G + ly_loc 0 i) :: rest)) := r_get X S (ly_ok_0 hi S.2.2.2) rfl (show vwCl[0]? = some (RX0, TX0, 16) from rfl) in_X0 5 (by decide) lk_X0_21 rfl hd kk
theorem lk_X0_24 : Cond.fieldLink RX0 24 "WhoSingsNext$Evening" "row" "[I" ∈ gw_t := gw_mem 241 (by decide +kernel) (by decide +kernel)
theorem gf_X0_24 (X : cx_ok G p s m args meth c cc nL RX0 ret) (S : st_ok G n I J s H locs) {i : Nat} (hi : i < 9) (hd : decode cc pc = .ok (.getfield 24, 3)) (kk : W p l e R s m args below meth c H locs cells slots Q (F0 m (pc + 3) ls (.ref (cx_b G + ly_loc 14 i) :: rest))) : W p l e R s m args below meth c H locs cells slots Q (F0 m pc ls (.ref (cx_b G + ly_loc 0 i) :: rest)) := r_get X S (ly_ok_0 hi S.2.2.2) rfl (show vwCl[0]? = some (RX0, TX0, 16) from rfl) in_X0 6 (by decide) lk_X0_24 rfl hd kk
theorem lk_X0_27 : Cond.fieldLink RX0 27 "WhoSingsNext$Evening" "begins" "[I" ∈ gw_t := gw_mem 245 (by decide +kernel) (by decide +kernel)
theorem gf_X0_27 (X : cx_ok G p s m args meth c cc nL RX0 ret) (S : st_ok G n I J s H locs) {i : Nat} (hi : i < 9) (hd : decode cc pc = .ok (.getfield 27, 3)) (kk : W p l e R s m args below meth c H locs cells slots Q (F0 m (pc + 3) ls (.ref (cx_b G + ly_loc 15 i) :: rest))) : W p l e R s m args below meth c H locs cells slots Q (F0 m pc ls (.ref (cx_b G + ly_loc 0 i) :: rest)) := r_get X S (ly_ok_0 hi S.2.2.2) rfl (show vwCl[0]? = some (RX0, TX0, 16) from rfl) in_X0 8 (by decide) lk_X0_27 rfl hd kk
theorem lk_X0_30 : Cond.fieldLink RX0 30 "WhoSingsNext$Evening" "house" "LWhoSingsNext$House;" ∈ gw_t := gw_mem 235 (by decide +kernel) (by decide +kernel)
theorem gf_X0_30 (X : cx_ok G p s m args meth c cc nL RX0 ret) (S : st_ok G n I J s H locs) {i : Nat} (hi : i < 9) (hd : decode cc pc = .ok (.getfield 30, 3)) (kk : W p l e R s m args below meth c H locs cells slots Q (F0 m (pc + 3) ls (.ref (cx_b G + ly_loc 1 0) :: rest))) : W p l e R s m args below meth c H locs cells slots Q (F0 m pc ls (.ref (cx_b G + ly_loc 0 i) :: rest)) := r_get X S (ly_ok_0 hi S.2.2.2) rfl (show vwCl[0]? = some (RX0, TX0, 16) from rfl) in_X0 0 (by decide) lk_X0_30 rfl hd kk
theorem lk_X0_34 : Cond.fieldLink RX0 34 "WhoSingsNext$Evening" "rule" "LWhoSingsNext$Text;" ∈ gw_t := gw_mem 236 (by decide +kernel) (by decide +kernel)
theorem gf_X0_34 (X : cx_ok G p s m args meth c cc nL RX0 ret) (S : st_ok G n I J s H locs) {i : Nat} (hi : i < 9) (hd : decode cc pc = .ok (.getfield 34, 3)) (kk : W p l e R s m args below meth c H locs cells slots Q (F0 m (pc + 3) ls (ly_tx G (I 0 i 1) :: rest))) : W p l e R s m args below meth c H locs cells slots Q (F0 m pc ls (.ref (cx_b G + ly_loc 0 i) :: rest)) := r_get X S (ly_ok_0 hi S.2.2.2) rfl (show vwCl[0]? = some (RX0, TX0, 16) from rfl) in_X0 1 (by decide) lk_X0_34 rfl hd kk
theorem lk_X0_44 : Cond.fieldLink RX0 44 "WhoSingsNext$Evening" "calls" "I" ∈ gw_t := gw_mem 243 (by decide +kernel) (by decide +kernel)
theorem gf_X0_44 (X : cx_ok G p s m args meth c cc nL RX0 ret) (S : st_ok G n I J s H locs) {i : Nat} (hi : i < 9) (hd : decode cc pc = .ok (.getfield 44, 3)) (kk : W p l e R s m args below meth c H locs cells slots Q (F0 m (pc + 3) ls (.int (I 0 i 7) :: rest))) : W p l e R s m args below meth c H locs cells slots Q (F0 m pc ls (.ref (cx_b G + ly_loc 0 i) :: rest)) := r_get X S (ly_ok_0 hi S.2.2.2) rfl (show vwCl[0]? = some (RX0, TX0, 16) from rfl) in_X0 7 (by decide) lk_X0_44 rfl hd kk
theorem lk_X0_48 : Cond.fieldLink RX0 48 "WhoSingsNext$Evening" "called" "I" ∈ gw_t := gw_mem 247 (by decide +kernel) (by decide +kernel)
theorem gf_X0_48 (X : cx_ok G p s m args meth c cc nL RX0 ret) (S : st_ok G n I J s H locs) {i : Nat} (hi : i < 9) (hd : decode cc pc = .ok (.getfield 48, 3)) (kk : W p l e R s m args below meth c H locs cells slots Q (F0 m (pc + 3) ls (.int (I 0 i 9) :: rest))) : W p l e R s m args below meth c H locs cells slots Q (F0 m pc ls (.ref (cx_b G + ly_loc 0 i) :: rest)) := r_get X S (ly_ok_0 hi S.2.2.2) rfl (show vwCl[0]? = some (RX0, TX0, 16) from rfl) in_X0 9 (by decide) lk_X0_48 rfl hd kk
theorem lk_X0_51 : Cond.fieldLink RX0 51 "WhoSingsNext$Evening" "minute" "I" ∈ gw_t := gw_mem 248 (by decide +kernel) (by decide +kernel)
theorem gf_X0_51 (X : cx_ok G p s m args meth c cc nL RX0 ret) (S : st_ok G n I J s H locs) {i : Nat} (hi : i < 9) (hd : decode cc pc = .ok (.getfield 51, 3)) (kk : W p l e R s m args below meth c H locs cells slots Q (F0 m (pc + 3) ls (.int (I 0 i 10) :: rest))) : W p l e R s m args below meth c H locs cells slots Q (F0 m pc ls (.ref (cx_b G + ly_loc 0 i) :: rest)) := r_get X S (ly_ok_0 hi S.2.2.2) rfl (show vwCl[0]? = some (RX0, TX0, 16) from rfl) in_X0 10 (by decide) lk_X0_51 rfl hd kk
theorem lk_X0_54 : Cond.fieldLinkNest RX0 54 "WhoSingsNext$House" "mood" "I" "WhoSingsNext" ∈ nw_t := nw_mem 157 (by decide +kernel) (by decide +kernel)
theorem gf_X0_54 (X : cx_ok G p s m args meth c cc nL RX0 ret) (S : st_ok G n I J s H locs) {i : Nat} (hi : i < 2) (hd : decode cc pc = .ok (.getfield 54, 3)) (kk : W p l e R s m args below meth c H locs cells slots Q (F0 m (pc + 3) ls (.int (I 1 i 4) :: rest))) : W p l e R s m args below meth c H locs cells slots Q (F0 m pc ls (.ref (cx_b G + ly_loc 1 i) :: rest)) := r_getN X S (ly_ok_1 hi S.2.2.2) rfl (show vwCl[1]? = some (RX1, TX1, 8) from rfl) in_X1 4 (by decide) lk_X0_54 rfl hd kk
theorem lk_X0_59 : Cond.fieldLink RX0 59 "WhoSingsNext$Evening" "mood" "I" ∈ gw_t := gw_mem 249 (by decide +kernel) (by decide +kernel)
theorem gf_X0_59 (X : cx_ok G p s m args meth c cc nL RX0 ret) (S : st_ok G n I J s H locs) {i : Nat} (hi : i < 9) (hd : decode cc pc = .ok (.getfield 59, 3)) (kk : W p l e R s m args below meth c H locs cells slots Q (F0 m (pc + 3) ls (.int (I 0 i 11) :: rest))) : W p l e R s m args below meth c H locs cells slots Q (F0 m pc ls (.ref (cx_b G + ly_loc 0 i) :: rest)) := r_get X S (ly_ok_0 hi S.2.2.2) rfl (show vwCl[0]? = some (RX0, TX0, 16) from rfl) in_X0 11 (by decide) lk_X0_59 rfl hd kk
theorem lk_X0_60 : Cond.fieldLink RX0 60 "WhoSingsNext$Evening" "bar" "I" ∈ gw_t := gw_mem 251 (by decide +kernel) (by decide +kernel)
theorem gf_X0_60 (X : cx_ok G p s m args meth c cc nL RX0 ret) (S : st_ok G n I J s H locs) {i : Nat} (hi : i < 9) (hd : decode cc pc = .ok (.getfield 60, 3)) (kk : W p l e R s m args below meth c H locs cells slots Q (F0 m (pc + 3) ls (.int (I 0 i 12) :: rest))) : W p l e R s m args below meth c H locs cells slots Q (F0 m pc ls (.ref (cx_b G + ly_loc 0 i) :: rest)) := r_get X S (ly_ok_0 hi S.2.2.2) rfl (show vwCl[0]? = some (RX0, TX0, 16) from rfl) in_X0 12 (by decide) lk_X0_60 rfl hd kk
theorem lk_X0_63 : Cond.fieldLink RX0 63 "WhoSingsNext$Evening" "left" "I" ∈ gw_t := gw_mem 254 (by decide +kernel) (by decide +kernel)
theorem gf_X0_63 (X : cx_ok G p s m args meth c cc nL RX0 ret) (S : st_ok G n I J s H locs) {i : Nat} (hi : i < 9) (hd : decode cc pc = .ok (.getfield 63, 3)) (kk : W p l e R s m args below meth c H locs cells slots Q (F0 m (pc + 3) ls (.int (I 0 i 13) :: rest))) : W p l e R s m args below meth c H locs cells slots Q (F0 m pc ls (.ref (cx_b G + ly_loc 0 i) :: rest)) := r_get X S (ly_ok_0 hi S.2.2.2) rfl (show vwCl[0]? = some (RX0, TX0, 16) from rfl) in_X0 13 (by decide) lk_X0_63 rfl hd kk
theorem lk_X0_66 : Cond.fieldLink RX0 66 "WhoSingsNext$Evening" "sung" "I" ∈ gw_t := gw_mem 257 (by decide +kernel) (by decide +kernel)
theorem gf_X0_66 (X : cx_ok G p s m args meth c cc nL RX0 ret) (S : st_ok G n I J s H locs) {i : Nat} (hi : i < 9) (hd : decode cc pc = .ok (.getfield 66, 3)) (kk : W p l e R s m args below meth c H locs cells slots Q (F0 m (pc + 3) ls (.int (I 0 i 14) :: rest))) : W p l e R s m args below meth c H locs cells slots Q (F0 m pc ls (.ref (cx_b G + ly_loc 0 i) :: rest)) := r_get X S (ly_ok_0 hi S.2.2.2) rfl (show vwCl[0]? = some (RX0, TX0, 16) from rfl) in_X0 14 (by decide) lk_X0_66 rfl hd kk
theorem lk_X0_69 : Cond.fieldLinkNest RX0 69 "WhoSingsNext$House" "peopleCount" "I" "WhoSingsNext" ∈ nw_t := nw_mem 151 (by decide +kernel) (by decide +kernel)
theorem gf_X0_69 (X : cx_ok G p s m args meth c cc nL RX0 ret) (S : st_ok G n I J s H locs) {i : Nat} (hi : i < 2) (hd : decode cc pc = .ok (.getfield 69, 3)) (kk : W p l e R s m args below meth c H locs cells slots Q (F0 m (pc + 3) ls (.int (I 1 i 2) :: rest))) : W p l e R s m args below meth c H locs cells slots Q (F0 m pc ls (.ref (cx_b G + ly_loc 1 i) :: rest)) := r_getN X S (ly_ok_1 hi S.2.2.2) rfl (show vwCl[1]? = some (RX1, TX1, 8) from rfl) in_X1 2 (by decide) lk_X0_69 rfl hd kk
theorem lk_X0_72 : Cond.fieldLink RX0 72 "WhoSingsNext$Evening" "there" "I" ∈ gw_t := gw_mem 259 (by decide +kernel) (by decide +kernel)
theorem gf_X0_72 (X : cx_ok G p s m args meth c cc nL RX0 ret) (S : st_ok G n I J s H locs) {i : Nat} (hi : i < 9) (hd : decode cc pc = .ok (.getfield 72, 3)) (kk : W p l e R s m args below meth c H locs cells slots Q (F0 m (pc + 3) ls (.int (I 0 i 15) :: rest))) : W p l e R s m args below meth c H locs cells slots Q (F0 m pc ls (.ref (cx_b G + ly_loc 0 i) :: rest)) := r_get X S (ly_ok_0 hi S.2.2.2) rfl (show vwCl[0]? = some (RX0, TX0, 16) from rfl) in_X0 15 (by decide) lk_X0_72 rfl hd kk
theorem lk_X0_89 : Cond.fieldLinkNest RX0 89 "WhoSingsNext$House" "slips" "[LWhoSingsNext$Slip;" "WhoSingsNext" ∈ nw_t := nw_mem 149 (by decide +kernel) (by decide +kernel)
theorem gf_X0_89 (X : cx_ok G p s m args meth c cc nL RX0 ret) (S : st_ok G n I J s H locs) {i : Nat} (hi : i < 2) (hd : decode cc pc = .ok (.getfield 89, 3)) (kk : W p l e R s m args below meth c H locs cells slots Q (F0 m (pc + 3) ls (.ref (cx_b G + ly_loc 17 i) :: rest))) : W p l e R s m args below meth c H locs cells slots Q (F0 m pc ls (.ref (cx_b G + ly_loc 1 i) :: rest)) := r_getN X S (ly_ok_1 hi S.2.2.2) rfl (show vwCl[1]? = some (RX1, TX1, 8) from rfl) in_X1 1 (by decide) lk_X0_89 rfl hd kk
theorem lk_X0_93 : Cond.fieldLinkNest RX0 93 "WhoSingsNext$Slip" "whose" "I" "WhoSingsNext" ∈ nw_t := nw_mem 134 (by decide +kernel) (by decide +kernel)
theorem gf_X0_93 (X : cx_ok G p s m args meth c cc nL RX0 ret) (S : st_ok G n I J s H locs) {i : Nat} (hi : i < 14) (hd : decode cc pc = .ok (.getfield 93, 3)) (kk : W p l e R s m args below meth c H locs cells slots Q (F0 m (pc + 3) ls (.int (I 6 i 3) :: rest))) : W p l e R s m args below meth c H locs cells slots Q (F0 m pc ls (.ref (cx_b G + ly_loc 6 i) :: rest)) := r_getN X S (ly_ok_6 hi S.2.2.2) rfl (show vwCl[6]? = some (RX6, TX6, 4) from rfl) in_X6 3 (by decide) lk_X0_93 rfl hd kk
theorem lk_X0_98 : Cond.fieldLinkNest RX0 98 "WhoSingsNext$Slip" "minutes" "I" "WhoSingsNext" ∈ nw_t := nw_mem 131 (by decide +kernel) (by decide +kernel)
theorem gf_X0_98 (X : cx_ok G p s m args meth c cc nL RX0 ret) (S : st_ok G n I J s H locs) {i : Nat} (hi : i < 14) (hd : decode cc pc = .ok (.getfield 98, 3)) (kk : W p l e R s m args below meth c H locs cells slots Q (F0 m (pc + 3) ls (.int (I 6 i 2) :: rest))) : W p l e R s m args below meth c H locs cells slots Q (F0 m pc ls (.ref (cx_b G + ly_loc 6 i) :: rest)) := r_getN X S (ly_ok_6 hi S.2.2.2) rfl (show vwCl[6]? = some (RX6, TX6, 4) from rfl) in_X6 2 (by decide) lk_X0_98 rfl hd kk
theorem lk_X0_101 : Cond.fieldLinkNest RX0 101 "WhoSingsNext$House" "till" "I" "WhoSingsNext" ∈ nw_t := nw_mem 161 (by decide +kernel) (by decide +kernel)
theorem gf_X0_101 (X : cx_ok G p s m args meth c cc nL RX0 ret) (S : st_ok G n I J s H locs) {i : Nat} (hi : i < 2) (hd : decode cc pc = .ok (.getfield 101, 3)) (kk : W p l e R s m args below meth c H locs cells slots Q (F0 m (pc + 3) ls (.int (I 1 i 5) :: rest))) : W p l e R s m args below meth c H locs cells slots Q (F0 m pc ls (.ref (cx_b G + ly_loc 1 i) :: rest)) := r_getN X S (ly_ok_1 hi S.2.2.2) rfl (show vwCl[1]? = some (RX1, TX1, 8) from rfl) in_X1 5 (by decide) lk_X0_101 rfl hd kk
theorem lk_X0_122 : Cond.fieldLinkNest RX0 122 "WhoSingsNext$Slip" "kind" "I" "WhoSingsNext" ∈ nw_t := nw_mem 125 (by decide +kernel) (by decide +kernel)
theorem gf_X0_122 (X : cx_ok G p s m args meth c cc nL RX0 ret) (S : st_ok G n I J s H locs) {i : Nat} (hi : i < 14) (hd : decode cc pc = .ok (.getfield 122, 3)) (kk : W p l e R s m args below meth c H locs cells slots Q (F0 m (pc + 3) ls (.int (I 6 i 0) :: rest))) : W p l e R s m args below meth c H locs cells slots Q (F0 m pc ls (.ref (cx_b G + ly_loc 6 i) :: rest)) := r_getN X S (ly_ok_6 hi S.2.2.2) rfl (show vwCl[6]? = some (RX6, TX6, 4) from rfl) in_X6 0 (by decide) lk_X0_122 rfl hd kk
theorem lk_X0_152 : Cond.fieldLinkNest RX0 152 "WhoSingsNext$House" "people" "[LWhoSingsNext$Person;" "WhoSingsNext" ∈ nw_t := nw_mem 146 (by decide +kernel) (by decide +kernel)
theorem gf_X0_152 (X : cx_ok G p s m args meth c cc nL RX0 ret) (S : st_ok G n I J s H locs) {i : Nat} (hi : i < 2) (hd : decode cc pc = .ok (.getfield 152, 3)) (kk : W p l e R s m args below meth c H locs cells slots Q (F0 m (pc + 3) ls (.ref (cx_b G + ly_loc 16 i) :: rest))) : W p l e R s m args below meth c H locs cells slots Q (F0 m pc ls (.ref (cx_b G + ly_loc 1 i) :: rest)) := r_getN X S (ly_ok_1 hi S.2.2.2) rfl (show vwCl[1]? = some (RX1, TX1, 8) from rfl) in_X1 0 (by decide) lk_X0_152 rfl hd kk
theorem lk_X0_156 : Cond.fieldLinkNest RX0 156 "WhoSingsNext$Person" "group" "I" "WhoSingsNext" ∈ nw_t := nw_mem 111 (by decide +kernel) (by decide +kernel)
theorem gf_X0_156 (X : cx_ok G p s m args meth c cc nL RX0 ret) (S : st_ok G n I J s H locs) {i : Nat} (hi : i < 16) (hd : decode cc pc = .ok (.getfield 156, 3)) (kk : W p l e R s m args below meth c H locs cells slots Q (F0 m (pc + 3) ls (.int (I 2 i 1) :: rest))) : W p l e R s m args below meth c H locs cells slots Q (F0 m pc ls (.ref (cx_b G + ly_loc 2 i) :: rest)) := r_getN X S (ly_ok_2 hi S.2.2.2) rfl (show vwCl[2]? = some (RX2, TX2, 2) from rfl) in_X2 1 (by decide) lk_X0_156 rfl hd kk
theorem lk_X0_161 : Cond.fieldLinkNest RX0 161 "WhoSingsNext$Person" "patience" "I" "WhoSingsNext" ∈ nw_t := nw_mem 108 (by decide +kernel) (by decide +kernel)
theorem gf_X0_161 (X : cx_ok G p s m args meth c cc nL RX0 ret) (S : st_ok G n I J s H locs) {i : Nat} (hi : i < 16) (hd : decode cc pc = .ok (.getfield 161, 3)) (kk : W p l e R s m args below meth c H locs cells slots Q (F0 m (pc + 3) ls (.int (I 2 i 0) :: rest))) : W p l e R s m args below meth c H locs cells slots Q (F0 m pc ls (.ref (cx_b G + ly_loc 2 i) :: rest)) := r_getN X S (ly_ok_2 hi S.2.2.2) rfl (show vwCl[2]? = some (RX2, TX2, 2) from rfl) in_X2 0 (by decide) lk_X0_161 rfl hd kk
theorem lk_X0_172 : Cond.fieldLinkNest RX0 172 "WhoSingsNext$House" "slipCount" "I" "WhoSingsNext" ∈ nw_t := nw_mem 155 (by decide +kernel) (by decide +kernel)
theorem gf_X0_172 (X : cx_ok G p s m args meth c cc nL RX0 ret) (S : st_ok G n I J s H locs) {i : Nat} (hi : i < 2) (hd : decode cc pc = .ok (.getfield 172, 3)) (kk : W p l e R s m args below meth c H locs cells slots Q (F0 m (pc + 3) ls (.int (I 1 i 3) :: rest))) : W p l e R s m args below meth c H locs cells slots Q (F0 m pc ls (.ref (cx_b G + ly_loc 1 i) :: rest)) := r_getN X S (ly_ok_1 hi S.2.2.2) rfl (show vwCl[1]? = some (RX1, TX1, 8) from rfl) in_X1 3 (by decide) lk_X0_172 rfl hd kk
theorem lk_X1_11 : Cond.fieldLink RX1 11 "WhoSingsNext$House" "people" "[LWhoSingsNext$Person;" ∈ gw_t := gw_mem 145 (by decide +kernel) (by decide +kernel)
theorem gf_X1_11 (X : cx_ok G p s m args meth c cc nL RX1 ret) (S : st_ok G n I J s H locs) {i : Nat} (hi : i < 2) (hd : decode cc pc = .ok (.getfield 11, 3)) (kk : W p l e R s m args below meth c H locs cells slots Q (F0 m (pc + 3) ls (.ref (cx_b G + ly_loc 16 i) :: rest))) : W p l e R s m args below meth c H locs cells slots Q (F0 m pc ls (.ref (cx_b G + ly_loc 1 i) :: rest)) := r_get X S (ly_ok_1 hi S.2.2.2) rfl (show vwCl[1]? = some (RX1, TX1, 8) from rfl) in_X1 0 (by decide) lk_X1_11 rfl hd kk
theorem lk_X1_19 : Cond.fieldLink RX1 19 "WhoSingsNext$House" "slips" "[LWhoSingsNext$Slip;" ∈ gw_t := gw_mem 147 (by decide +kernel) (by decide +kernel)
theorem gf_X1_19 (X : cx_ok G p s m args meth c cc nL RX1 ret) (S : st_ok G n I J s H locs) {i : Nat} (hi : i < 2) (hd : decode cc pc = .ok (.getfield 19, 3)) (kk : W p l e R s m args below meth c H locs cells slots Q (F0 m (pc + 3) ls (.ref (cx_b G + ly_loc 17 i) :: rest))) : W p l e R s m args below meth c H locs cells slots Q (F0 m pc ls (.ref (cx_b G + ly_loc 1 i) :: rest)) := r_get X S (ly_ok_1 hi S.2.2.2) rfl (show vwCl[1]? = some (RX1, TX1, 8) from rfl) in_X1 1 (by decide) lk_X1_19 rfl hd kk
theorem lk_X1_23 : Cond.fieldLink RX1 23 "WhoSingsNext$House" "till" "I" ∈ gw_t := gw_mem 160 (by decide +kernel) (by decide +kernel)
theorem gf_X1_23 (X : cx_ok G p s m args meth c cc nL RX1 ret) (S : st_ok G n I J s H locs) {i : Nat} (hi : i < 2) (hd : decode cc pc = .ok (.getfield 23, 3)) (kk : W p l e R s m args below meth c H locs cells slots Q (F0 m (pc + 3) ls (.int (I 1 i 5) :: rest))) : W p l e R s m args below meth c H locs cells slots Q (F0 m pc ls (.ref (cx_b G + ly_loc 1 i) :: rest)) := r_get X S (ly_ok_1 hi S.2.2.2) rfl (show vwCl[1]? = some (RX1, TX1, 8) from rfl) in_X1 5 (by decide) lk_X1_23 rfl hd kk
theorem lk_X1_29 : Cond.fieldLink RX1 29 "WhoSingsNext$House" "peopleCount" "I" ∈ gw_t := gw_mem 150 (by decide +kernel) (by decide +kernel)
theorem gf_X1_29 (X : cx_ok G p s m args meth c cc nL RX1 ret) (S : st_ok G n I J s H locs) {i : Nat} (hi : i < 2) (hd : decode cc pc = .ok (.getfield 29, 3)) (kk : W p l e R s m args below meth c H locs cells slots Q (F0 m (pc + 3) ls (.int (I 1 i 2) :: rest))) : W p l e R s m args below meth c H locs cells slots Q (F0 m pc ls (.ref (cx_b G + ly_loc 1 i) :: rest)) := r_get X S (ly_ok_1 hi S.2.2.2) rfl (show vwCl[1]? = some (RX1, TX1, 8) from rfl) in_X1 2 (by decide) lk_X1_29 rfl hd kk
theorem lk_X1_32 : Cond.fieldLink RX1 32 "WhoSingsNext$House" "slipCount" "I" ∈ gw_t := gw_mem 153 (by decide +kernel) (by decide +kernel)
theorem gf_X1_32 (X : cx_ok G p s m args meth c cc nL RX1 ret) (S : st_ok G n I J s H locs) {i : Nat} (hi : i < 2) (hd : decode cc pc = .ok (.getfield 32, 3)) (kk : W p l e R s m args below meth c H locs cells slots Q (F0 m (pc + 3) ls (.int (I 1 i 3) :: rest))) : W p l e R s m args below meth c H locs cells slots Q (F0 m pc ls (.ref (cx_b G + ly_loc 1 i) :: rest)) := r_get X S (ly_ok_1 hi S.2.2.2) rfl (show vwCl[1]? = some (RX1, TX1, 8) from rfl) in_X1 3 (by decide) lk_X1_32 rfl hd kk
theorem lk_X1_35 : Cond.fieldLinkNest RX1 35 "WhoSingsNext$Slip" "whose" "I" "WhoSingsNext" ∈ nw_t := nw_mem 133 (by decide +kernel) (by decide +kernel)
theorem gf_X1_35 (X : cx_ok G p s m args meth c cc nL RX1 ret) (S : st_ok G n I J s H locs) {i : Nat} (hi : i < 14) (hd : decode cc pc = .ok (.getfield 35, 3)) (kk : W p l e R s m args below meth c H locs cells slots Q (F0 m (pc + 3) ls (.int (I 6 i 3) :: rest))) : W p l e R s m args below meth c H locs cells slots Q (F0 m pc ls (.ref (cx_b G + ly_loc 6 i) :: rest)) := r_getN X S (ly_ok_6 hi S.2.2.2) rfl (show vwCl[6]? = some (RX6, TX6, 4) from rfl) in_X6 3 (by decide) lk_X1_35 rfl hd kk
theorem lk_X1_38 : Cond.fieldLinkNest RX1 38 "WhoSingsNext$Person" "group" "I" "WhoSingsNext" ∈ nw_t := nw_mem 110 (by decide +kernel) (by decide +kernel)
theorem gf_X1_38 (X : cx_ok G p s m args meth c cc nL RX1 ret) (S : st_ok G n I J s H locs) {i : Nat} (hi : i < 16) (hd : decode cc pc = .ok (.getfield 38, 3)) (kk : W p l e R s m args below meth c H locs cells slots Q (F0 m (pc + 3) ls (.int (I 2 i 1) :: rest))) : W p l e R s m args below meth c H locs cells slots Q (F0 m pc ls (.ref (cx_b G + ly_loc 2 i) :: rest)) := r_getN X S (ly_ok_2 hi S.2.2.2) rfl (show vwCl[2]? = some (RX2, TX2, 2) from rfl) in_X2 1 (by decide) lk_X1_38 rfl hd kk
theorem lk_X1_41 : Cond.fieldLinkNest RX1 41 "WhoSingsNext$Person" "patience" "I" "WhoSingsNext" ∈ nw_t := nw_mem 107 (by decide +kernel) (by decide +kernel)
theorem gf_X1_41 (X : cx_ok G p s m args meth c cc nL RX1 ret) (S : st_ok G n I J s H locs) {i : Nat} (hi : i < 16) (hd : decode cc pc = .ok (.getfield 41, 3)) (kk : W p l e R s m args below meth c H locs cells slots Q (F0 m (pc + 3) ls (.int (I 2 i 0) :: rest))) : W p l e R s m args below meth c H locs cells slots Q (F0 m pc ls (.ref (cx_b G + ly_loc 2 i) :: rest)) := r_getN X S (ly_ok_2 hi S.2.2.2) rfl (show vwCl[2]? = some (RX2, TX2, 2) from rfl) in_X2 0 (by decide) lk_X1_41 rfl hd kk
theorem lk_X1_44 : Cond.fieldLink RX1 44 "WhoSingsNext$House" "changes" "I" ∈ gw_t := gw_mem 166 (by decide +kernel) (by decide +kernel)
theorem gf_X1_44 (X : cx_ok G p s m args meth c cc nL RX1 ret) (S : st_ok G n I J s H locs) {i : Nat} (hi : i < 2) (hd : decode cc pc = .ok (.getfield 44, 3)) (kk : W p l e R s m args below meth c H locs cells slots Q (F0 m (pc + 3) ls (.int (I 1 i 7) :: rest))) : W p l e R s m args below meth c H locs cells slots Q (F0 m pc ls (.ref (cx_b G + ly_loc 1 i) :: rest)) := r_get X S (ly_ok_1 hi S.2.2.2) rfl (show vwCl[1]? = some (RX1, TX1, 8) from rfl) in_X1 7 (by decide) lk_X1_44 rfl hd kk
theorem lk_X1_54 : Cond.fieldLinkNest RX1 54 "WhoSingsNext$Slip" "number" "I" "WhoSingsNext" ∈ nw_t := nw_mem 127 (by decide +kernel) (by decide +kernel)
theorem gf_X1_54 (X : cx_ok G p s m args meth c cc nL RX1 ret) (S : st_ok G n I J s H locs) {i : Nat} (hi : i < 14) (hd : decode cc pc = .ok (.getfield 54, 3)) (kk : W p l e R s m args below meth c H locs cells slots Q (F0 m (pc + 3) ls (.int (I 6 i 1) :: rest))) : W p l e R s m args below meth c H locs cells slots Q (F0 m pc ls (.ref (cx_b G + ly_loc 6 i) :: rest)) := r_getN X S (ly_ok_6 hi S.2.2.2) rfl (show vwCl[6]? = some (RX6, TX6, 4) from rfl) in_X6 1 (by decide) lk_X1_54 rfl hd kk
theorem lk_X1_57 : Cond.fieldLinkNest RX1 57 "WhoSingsNext$Slip" "minutes" "I" "WhoSingsNext" ∈ nw_t := nw_mem 130 (by decide +kernel) (by decide +kernel)
theorem gf_X1_57 (X : cx_ok G p s m args meth c cc nL RX1 ret) (S : st_ok G n I J s H locs) {i : Nat} (hi : i < 14) (hd : decode cc pc = .ok (.getfield 57, 3)) (kk : W p l e R s m args below meth c H locs cells slots Q (F0 m (pc + 3) ls (.int (I 6 i 2) :: rest))) : W p l e R s m args below meth c H locs cells slots Q (F0 m pc ls (.ref (cx_b G + ly_loc 6 i) :: rest)) := r_getN X S (ly_ok_6 hi S.2.2.2) rfl (show vwCl[6]? = some (RX6, TX6, 4) from rfl) in_X6 2 (by decide) lk_X1_57 rfl hd kk
theorem lk_X1_67 : Cond.fieldLink RX1 67 "WhoSingsNext$House" "mood" "I" ∈ gw_t := gw_mem 158 (by decide +kernel) (by decide +kernel)
theorem gf_X1_67 (X : cx_ok G p s m args meth c cc nL RX1 ret) (S : st_ok G n I J s H locs) {i : Nat} (hi : i < 2) (hd : decode cc pc = .ok (.getfield 67, 3)) (kk : W p l e R s m args below meth c H locs cells slots Q (F0 m (pc + 3) ls (.int (I 1 i 4) :: rest))) : W p l e R s m args below meth c H locs cells slots Q (F0 m pc ls (.ref (cx_b G + ly_loc 1 i) :: rest)) := r_get X S (ly_ok_1 hi S.2.2.2) rfl (show vwCl[1]? = some (RX1, TX1, 8) from rfl) in_X1 4 (by decide) lk_X1_67 rfl hd kk
theorem lk_X1_73 : Cond.fieldLink RX1 73 "WhoSingsNext$House" "rule" "I" ∈ gw_t := gw_mem 164 (by decide +kernel) (by decide +kernel)
theorem gf_X1_73 (X : cx_ok G p s m args meth c cc nL RX1 ret) (S : st_ok G n I J s H locs) {i : Nat} (hi : i < 2) (hd : decode cc pc = .ok (.getfield 73, 3)) (kk : W p l e R s m args below meth c H locs cells slots Q (F0 m (pc + 3) ls (.int (I 1 i 6) :: rest))) : W p l e R s m args below meth c H locs cells slots Q (F0 m pc ls (.ref (cx_b G + ly_loc 1 i) :: rest)) := r_get X S (ly_ok_1 hi S.2.2.2) rfl (show vwCl[1]? = some (RX1, TX1, 8) from rfl) in_X1 6 (by decide) lk_X1_73 rfl hd kk
theorem lk_X2_7 : Cond.fieldLink RX2 7 "WhoSingsNext$Person" "patience" "I" ∈ gw_t := gw_mem 106 (by decide +kernel) (by decide +kernel)
theorem gf_X2_7 (X : cx_ok G p s m args meth c cc nL RX2 ret) (S : st_ok G n I J s H locs) {i : Nat} (hi : i < 16) (hd : decode cc pc = .ok (.getfield 7, 3)) (kk : W p l e R s m args below meth c H locs cells slots Q (F0 m (pc + 3) ls (.int (I 2 i 0) :: rest))) : W p l e R s m args below meth c H locs cells slots Q (F0 m pc ls (.ref (cx_b G + ly_loc 2 i) :: rest)) := r_get X S (ly_ok_2 hi S.2.2.2) rfl (show vwCl[2]? = some (RX2, TX2, 2) from rfl) in_X2 0 (by decide) lk_X2_7 rfl hd kk
theorem lk_X2_13 : Cond.fieldLink RX2 13 "WhoSingsNext$Person" "group" "I" ∈ gw_t := gw_mem 109 (by decide +kernel) (by decide +kernel)
theorem gf_X2_13 (X : cx_ok G p s m args meth c cc nL RX2 ret) (S : st_ok G n I J s H locs) {i : Nat} (hi : i < 16) (hd : decode cc pc = .ok (.getfield 13, 3)) (kk : W p l e R s m args below meth c H locs cells slots Q (F0 m (pc + 3) ls (.int (I 2 i 1) :: rest))) : W p l e R s m args below meth c H locs cells slots Q (F0 m pc ls (.ref (cx_b G + ly_loc 2 i) :: rest)) := r_get X S (ly_ok_2 hi S.2.2.2) rfl (show vwCl[2]? = some (RX2, TX2, 2) from rfl) in_X2 1 (by decide) lk_X2_13 rfl hd kk
theorem lk_X3_9 : Cond.fieldLink RX3 9 "WhoSingsNext$Reader" "tape" "[I" ∈ gw_t := gw_mem 190 (by decide +kernel) (by decide +kernel)
theorem gf_X3_9 (X : cx_ok G p s m args meth c cc nL RX3 ret) (S : st_ok G n I J s H locs) {i : Nat} (hi : i < 1) (hd : decode cc pc = .ok (.getfield 9, 3)) (kk : W p l e R s m args below meth c H locs cells slots Q (F0 m (pc + 3) ls (.ref (cx_b G + ly_loc 18 0) :: rest))) : W p l e R s m args below meth c H locs cells slots Q (F0 m pc ls (.ref (cx_b G + ly_loc 3 i) :: rest)) := r_get X S (ly_ok_3 hi S.2.2.2) rfl (show vwCl[3]? = some (RX3, TX3, 11) from rfl) in_X3 0 (by decide) lk_X3_9 rfl hd kk
theorem lk_X3_15 : Cond.fieldLink RX3 15 "WhoSingsNext$Reader" "code" "[I" ∈ gw_t := gw_mem 193 (by decide +kernel) (by decide +kernel)
theorem gf_X3_15 (X : cx_ok G p s m args meth c cc nL RX3 ret) (S : st_ok G n I J s H locs) {i : Nat} (hi : i < 1) (hd : decode cc pc = .ok (.getfield 15, 3)) (kk : W p l e R s m args below meth c H locs cells slots Q (F0 m (pc + 3) ls (.ref (cx_b G + ly_loc 19 0) :: rest))) : W p l e R s m args below meth c H locs cells slots Q (F0 m pc ls (.ref (cx_b G + ly_loc 3 i) :: rest)) := r_get X S (ly_ok_3 hi S.2.2.2) rfl (show vwCl[3]? = some (RX3, TX3, 11) from rfl) in_X3 2 (by decide) lk_X3_15 rfl hd kk
theorem lk_X3_18 : Cond.fieldLink RX3 18 "WhoSingsNext$Reader" "bytes" "I" ∈ gw_t := gw_mem 191 (by decide +kernel) (by decide +kernel)
theorem gf_X3_18 (X : cx_ok G p s m args meth c cc nL RX3 ret) (S : st_ok G n I J s H locs) {i : Nat} (hi : i < 1) (hd : decode cc pc = .ok (.getfield 18, 3)) (kk : W p l e R s m args below meth c H locs cells slots Q (F0 m (pc + 3) ls (.int (I 3 i 1) :: rest))) : W p l e R s m args below meth c H locs cells slots Q (F0 m pc ls (.ref (cx_b G + ly_loc 3 i) :: rest)) := r_get X S (ly_ok_3 hi S.2.2.2) rfl (show vwCl[3]? = some (RX3, TX3, 11) from rfl) in_X3 1 (by decide) lk_X3_18 rfl hd kk
theorem lk_X3_22 : Cond.fieldLink RX3 22 "WhoSingsNext$Reader" "codes" "I" ∈ gw_t := gw_mem 194 (by decide +kernel) (by decide +kernel)
theorem gf_X3_22 (X : cx_ok G p s m args meth c cc nL RX3 ret) (S : st_ok G n I J s H locs) {i : Nat} (hi : i < 1) (hd : decode cc pc = .ok (.getfield 22, 3)) (kk : W p l e R s m args below meth c H locs cells slots Q (F0 m (pc + 3) ls (.int (I 3 i 3) :: rest))) : W p l e R s m args below meth c H locs cells slots Q (F0 m pc ls (.ref (cx_b G + ly_loc 3 i) :: rest)) := r_get X S (ly_ok_3 hi S.2.2.2) rfl (show vwCl[3]? = some (RX3, TX3, 11) from rfl) in_X3 3 (by decide) lk_X3_22 rfl hd kk
theorem lk_X3_25 : Cond.fieldLink RX3 25 "WhoSingsNext$Reader" "next" "I" ∈ gw_t := gw_mem 200 (by decide +kernel) (by decide +kernel)
theorem gf_X3_25 (X : cx_ok G p s m args meth c cc nL RX3 ret) (S : st_ok G n I J s H locs) {i : Nat} (hi : i < 1) (hd : decode cc pc = .ok (.getfield 25, 3)) (kk : W p l e R s m args below meth c H locs cells slots Q (F0 m (pc + 3) ls (.int (I 3 i 9) :: rest))) : W p l e R s m args below meth c H locs cells slots Q (F0 m pc ls (.ref (cx_b G + ly_loc 3 i) :: rest)) := r_get X S (ly_ok_3 hi S.2.2.2) rfl (show vwCl[3]? = some (RX3, TX3, 11) from rfl) in_X3 9 (by decide) lk_X3_25 rfl hd kk
theorem lk_X3_28 : Cond.fieldLink RX3 28 "WhoSingsNext$Reader" "fault" "I" ∈ gw_t := gw_mem 201 (by decide +kernel) (by decide +kernel)
theorem gf_X3_28 (X : cx_ok G p s m args meth c cc nL RX3 ret) (S : st_ok G n I J s H locs) {i : Nat} (hi : i < 1) (hd : decode cc pc = .ok (.getfield 28, 3)) (kk : W p l e R s m args below meth c H locs cells slots Q (F0 m (pc + 3) ls (.int (I 3 i 10) :: rest))) : W p l e R s m args below meth c H locs cells slots Q (F0 m pc ls (.ref (cx_b G + ly_loc 3 i) :: rest)) := r_get X S (ly_ok_3 hi S.2.2.2) rfl (show vwCl[3]? = some (RX3, TX3, 11) from rfl) in_X3 10 (by decide) lk_X3_28 rfl hd kk
theorem lk_X3_38 : Cond.fieldLink RX3 38 "WhoSingsNext$Reader" "takesAt" "I" ∈ gw_t := gw_mem 195 (by decide +kernel) (by decide +kernel)
theorem gf_X3_38 (X : cx_ok G p s m args meth c cc nL RX3 ret) (S : st_ok G n I J s H locs) {i : Nat} (hi : i < 1) (hd : decode cc pc = .ok (.getfield 38, 3)) (kk : W p l e R s m args below meth c H locs cells slots Q (F0 m (pc + 3) ls (.int (I 3 i 4) :: rest))) : W p l e R s m args below meth c H locs cells slots Q (F0 m pc ls (.ref (cx_b G + ly_loc 3 i) :: rest)) := r_get X S (ly_ok_3 hi S.2.2.2) rfl (show vwCl[3]? = some (RX3, TX3, 11) from rfl) in_X3 4 (by decide) lk_X3_38 rfl hd kk
theorem lk_X3_41 : Cond.fieldLink RX3 41 "WhoSingsNext$Reader" "firstAt" "I" ∈ gw_t := gw_mem 196 (by decide +kernel) (by decide +kernel)
theorem gf_X3_41 (X : cx_ok G p s m args meth c cc nL RX3 ret) (S : st_ok G n I J s H locs) {i : Nat} (hi : i < 1) (hd : decode cc pc = .ok (.getfield 41, 3)) (kk : W p l e R s m args below meth c H locs cells slots Q (F0 m (pc + 3) ls (.int (I 3 i 5) :: rest))) : W p l e R s m args below meth c H locs cells slots Q (F0 m pc ls (.ref (cx_b G + ly_loc 3 i) :: rest)) := r_get X S (ly_ok_3 hi S.2.2.2) rfl (show vwCl[3]? = some (RX3, TX3, 11) from rfl) in_X3 5 (by decide) lk_X3_41 rfl hd kk
theorem lk_X3_44 : Cond.fieldLink RX3 44 "WhoSingsNext$Reader" "token" "I" ∈ gw_t := gw_mem 197 (by decide +kernel) (by decide +kernel)
theorem gf_X3_44 (X : cx_ok G p s m args meth c cc nL RX3 ret) (S : st_ok G n I J s H locs) {i : Nat} (hi : i < 1) (hd : decode cc pc = .ok (.getfield 44, 3)) (kk : W p l e R s m args below meth c H locs cells slots Q (F0 m (pc + 3) ls (.int (I 3 i 6) :: rest))) : W p l e R s m args below meth c H locs cells slots Q (F0 m pc ls (.ref (cx_b G + ly_loc 3 i) :: rest)) := r_get X S (ly_ok_3 hi S.2.2.2) rfl (show vwCl[3]? = some (RX3, TX3, 11) from rfl) in_X3 6 (by decide) lk_X3_44 rfl hd kk
theorem lk_X3_68 : Cond.fieldLink RX3 68 "WhoSingsNext$Reader" "place" "I" ∈ gw_t := gw_mem 199 (by decide +kernel) (by decide +kernel)
theorem gf_X3_68 (X : cx_ok G p s m args meth c cc nL RX3 ret) (S : st_ok G n I J s H locs) {i : Nat} (hi : i < 1) (hd : decode cc pc = .ok (.getfield 68, 3)) (kk : W p l e R s m args below meth c H locs cells slots Q (F0 m (pc + 3) ls (.int (I 3 i 8) :: rest))) : W p l e R s m args below meth c H locs cells slots Q (F0 m pc ls (.ref (cx_b G + ly_loc 3 i) :: rest)) := r_get X S (ly_ok_3 hi S.2.2.2) rfl (show vwCl[3]? = some (RX3, TX3, 11) from rfl) in_X3 8 (by decide) lk_X3_68 rfl hd kk
theorem lk_X3_84 : Cond.fieldLink RX3 84 "WhoSingsNext$Reader" "number" "I" ∈ gw_t := gw_mem 198 (by decide +kernel) (by decide +kernel)
theorem gf_X3_84 (X : cx_ok G p s m args meth c cc nL RX3 ret) (S : st_ok G n I J s H locs) {i : Nat} (hi : i < 1) (hd : decode cc pc = .ok (.getfield 84, 3)) (kk : W p l e R s m args below meth c H locs cells slots Q (F0 m (pc + 3) ls (.int (I 3 i 7) :: rest))) : W p l e R s m args below meth c H locs cells slots Q (F0 m pc ls (.ref (cx_b G + ly_loc 3 i) :: rest)) := r_get X S (ly_ok_3 hi S.2.2.2) rfl (show vwCl[3]? = some (RX3, TX3, 11) from rfl) in_X3 7 (by decide) lk_X3_84 rfl hd kk
theorem lk_X4_11 : Cond.fieldLink RX4 11 "WhoSingsNext$Search" "evenings" "[LWhoSingsNext$Evening;" ∈ gw_t := gw_mem 303 (by decide +kernel) (by decide +kernel)
theorem gf_X4_11 (X : cx_ok G p s m args meth c cc nL RX4 ret) (S : st_ok G n I J s H locs) {i : Nat} (hi : i < 1) (hd : decode cc pc = .ok (.getfield 11, 3)) (kk : W p l e R s m args below meth c H locs cells slots Q (F0 m (pc + 3) ls (.ref (cx_b G + ly_loc 21 0) :: rest))) : W p l e R s m args below meth c H locs cells slots Q (F0 m pc ls (.ref (cx_b G + ly_loc 4 i) :: rest)) := r_get X S (ly_ok_4 hi S.2.2.2) rfl (show vwCl[4]? = some (RX4, TX4, 7) from rfl) in_X4 1 (by decide) lk_X4_11 rfl hd kk
theorem lk_X4_17 : Cond.fieldLink RX4 17 "WhoSingsNext$Search" "taken" "[I" ∈ gw_t := gw_mem 304 (by decide +kernel) (by decide +kernel)
theorem gf_X4_17 (X : cx_ok G p s m args meth c cc nL RX4 ret) (S : st_ok G n I J s H locs) {i : Nat} (hi : i < 1) (hd : decode cc pc = .ok (.getfield 17, 3)) (kk : W p l e R s m args below meth c H locs cells slots Q (F0 m (pc + 3) ls (.ref (cx_b G + ly_loc 22 0) :: rest))) : W p l e R s m args below meth c H locs cells slots Q (F0 m pc ls (.ref (cx_b G + ly_loc 4 i) :: rest)) := r_get X S (ly_ok_4 hi S.2.2.2) rfl (show vwCl[4]? = some (RX4, TX4, 7) from rfl) in_X4 2 (by decide) lk_X4_17 rfl hd kk
theorem lk_X4_21 : Cond.fieldLink RX4 21 "WhoSingsNext$Search" "left" "[I" ∈ gw_t := gw_mem 305 (by decide +kernel) (by decide +kernel)
theorem gf_X4_21 (X : cx_ok G p s m args meth c cc nL RX4 ret) (S : st_ok G n I J s H locs) {i : Nat} (hi : i < 1) (hd : decode cc pc = .ok (.getfield 21, 3)) (kk : W p l e R s m args below meth c H locs cells slots Q (F0 m (pc + 3) ls (.ref (cx_b G + ly_loc 23 0) :: rest))) : W p l e R s m args below meth c H locs cells slots Q (F0 m pc ls (.ref (cx_b G + ly_loc 4 i) :: rest)) := r_get X S (ly_ok_4 hi S.2.2.2) rfl (show vwCl[4]? = some (RX4, TX4, 7) from rfl) in_X4 3 (by decide) lk_X4_21 rfl hd kk
theorem lk_X4_24 : Cond.fieldLink RX4 24 "WhoSingsNext$Search" "sung" "[I" ∈ gw_t := gw_mem 306 (by decide +kernel) (by decide +kernel)
theorem gf_X4_24 (X : cx_ok G p s m args meth c cc nL RX4 ret) (S : st_ok G n I J s H locs) {i : Nat} (hi : i < 1) (hd : decode cc pc = .ok (.getfield 24, 3)) (kk : W p l e R s m args below meth c H locs cells slots Q (F0 m (pc + 3) ls (.ref (cx_b G + ly_loc 24 0) :: rest))) : W p l e R s m args below meth c H locs cells slots Q (F0 m pc ls (.ref (cx_b G + ly_loc 4 i) :: rest)) := r_get X S (ly_ok_4 hi S.2.2.2) rfl (show vwCl[4]? = some (RX4, TX4, 7) from rfl) in_X4 4 (by decide) lk_X4_24 rfl hd kk
theorem lk_X4_27 : Cond.fieldLink RX4 27 "WhoSingsNext$Search" "row" "[I" ∈ gw_t := gw_mem 307 (by decide +kernel) (by decide +kernel)
theorem gf_X4_27 (X : cx_ok G p s m args meth c cc nL RX4 ret) (S : st_ok G n I J s H locs) {i : Nat} (hi : i < 1) (hd : decode cc pc = .ok (.getfield 27, 3)) (kk : W p l e R s m args below meth c H locs cells slots Q (F0 m (pc + 3) ls (.ref (cx_b G + ly_loc 25 0) :: rest))) : W p l e R s m args below meth c H locs cells slots Q (F0 m pc ls (.ref (cx_b G + ly_loc 4 i) :: rest)) := r_get X S (ly_ok_4 hi S.2.2.2) rfl (show vwCl[4]? = some (RX4, TX4, 7) from rfl) in_X4 5 (by decide) lk_X4_27 rfl hd kk
theorem lk_X4_30 : Cond.fieldLink RX4 30 "WhoSingsNext$Search" "looked" "I" ∈ gw_t := gw_mem 308 (by decide +kernel) (by decide +kernel)
theorem gf_X4_30 (X : cx_ok G p s m args meth c cc nL RX4 ret) (S : st_ok G n I J s H locs) {i : Nat} (hi : i < 1) (hd : decode cc pc = .ok (.getfield 30, 3)) (kk : W p l e R s m args below meth c H locs cells slots Q (F0 m (pc + 3) ls (.int (I 4 i 6) :: rest))) : W p l e R s m args below meth c H locs cells slots Q (F0 m pc ls (.ref (cx_b G + ly_loc 4 i) :: rest)) := r_get X S (ly_ok_4 hi S.2.2.2) rfl (show vwCl[4]? = some (RX4, TX4, 7) from rfl) in_X4 6 (by decide) lk_X4_30 rfl hd kk
theorem lk_X4_34 : Cond.fieldLink RX4 34 "WhoSingsNext$Search" "house" "LWhoSingsNext$House;" ∈ gw_t := gw_mem 302 (by decide +kernel) (by decide +kernel)
theorem gf_X4_34 (X : cx_ok G p s m args meth c cc nL RX4 ret) (S : st_ok G n I J s H locs) {i : Nat} (hi : i < 1) (hd : decode cc pc = .ok (.getfield 34, 3)) (kk : W p l e R s m args below meth c H locs cells slots Q (F0 m (pc + 3) ls (.ref (cx_b G + ly_loc 1 0) :: rest))) : W p l e R s m args below meth c H locs cells slots Q (F0 m pc ls (.ref (cx_b G + ly_loc 4 i) :: rest)) := r_get X S (ly_ok_4 hi S.2.2.2) rfl (show vwCl[4]? = some (RX4, TX4, 7) from rfl) in_X4 0 (by decide) lk_X4_34 rfl hd kk
theorem lk_X4_41 : Cond.fieldLinkNest RX4 41 "WhoSingsNext$House" "changes" "I" "WhoSingsNext" ∈ nw_t := nw_mem 165 (by decide +kernel) (by decide +kernel)
theorem gf_X4_41 (X : cx_ok G p s m args meth c cc nL RX4 ret) (S : st_ok G n I J s H locs) {i : Nat} (hi : i < 2) (hd : decode cc pc = .ok (.getfield 41, 3)) (kk : W p l e R s m args below meth c H locs cells slots Q (F0 m (pc + 3) ls (.int (I 1 i 7) :: rest))) : W p l e R s m args below meth c H locs cells slots Q (F0 m pc ls (.ref (cx_b G + ly_loc 1 i) :: rest)) := r_getN X S (ly_ok_1 hi S.2.2.2) rfl (show vwCl[1]? = some (RX1, TX1, 8) from rfl) in_X1 7 (by decide) lk_X4_41 rfl hd kk
theorem lk_X4_58 : Cond.fieldLinkNest RX4 58 "WhoSingsNext$Evening" "bar" "I" "WhoSingsNext" ∈ nw_t := nw_mem 252 (by decide +kernel) (by decide +kernel)
theorem gf_X4_58 (X : cx_ok G p s m args meth c cc nL RX4 ret) (S : st_ok G n I J s H locs) {i : Nat} (hi : i < 9) (hd : decode cc pc = .ok (.getfield 58, 3)) (kk : W p l e R s m args below meth c H locs cells slots Q (F0 m (pc + 3) ls (.int (I 0 i 12) :: rest))) : W p l e R s m args below meth c H locs cells slots Q (F0 m pc ls (.ref (cx_b G + ly_loc 0 i) :: rest)) := r_getN X S (ly_ok_0 hi S.2.2.2) rfl (show vwCl[0]? = some (RX0, TX0, 16) from rfl) in_X0 12 (by decide) lk_X4_58 rfl hd kk
theorem lk_X4_61 : Cond.fieldLinkNest RX4 61 "WhoSingsNext$Evening" "left" "I" "WhoSingsNext" ∈ nw_t := nw_mem 255 (by decide +kernel) (by decide +kernel)
theorem gf_X4_61 (X : cx_ok G p s m args meth c cc nL RX4 ret) (S : st_ok G n I J s H locs) {i : Nat} (hi : i < 9) (hd : decode cc pc = .ok (.getfield 61, 3)) (kk : W p l e R s m args below meth c H locs cells slots Q (F0 m (pc + 3) ls (.int (I 0 i 13) :: rest))) : W p l e R s m args below meth c H locs cells slots Q (F0 m pc ls (.ref (cx_b G + ly_loc 0 i) :: rest)) := r_getN X S (ly_ok_0 hi S.2.2.2) rfl (show vwCl[0]? = some (RX0, TX0, 16) from rfl) in_X0 13 (by decide) lk_X4_61 rfl hd kk
theorem lk_X4_63 : Cond.fieldLinkNest RX4 63 "WhoSingsNext$Evening" "sung" "I" "WhoSingsNext" ∈ nw_t := nw_mem 258 (by decide +kernel) (by decide +kernel)
theorem gf_X4_63 (X : cx_ok G p s m args meth c cc nL RX4 ret) (S : st_ok G n I J s H locs) {i : Nat} (hi : i < 9) (hd : decode cc pc = .ok (.getfield 63, 3)) (kk : W p l e R s m args below meth c H locs cells slots Q (F0 m (pc + 3) ls (.int (I 0 i 14) :: rest))) : W p l e R s m args below meth c H locs cells slots Q (F0 m pc ls (.ref (cx_b G + ly_loc 0 i) :: rest)) := r_getN X S (ly_ok_0 hi S.2.2.2) rfl (show vwCl[0]? = some (RX0, TX0, 16) from rfl) in_X0 14 (by decide) lk_X4_63 rfl hd kk
theorem lk_X4_65 : Cond.fieldLinkNest RX4 65 "WhoSingsNext$House" "slipCount" "I" "WhoSingsNext" ∈ nw_t := nw_mem 154 (by decide +kernel) (by decide +kernel)
theorem gf_X4_65 (X : cx_ok G p s m args meth c cc nL RX4 ret) (S : st_ok G n I J s H locs) {i : Nat} (hi : i < 2) (hd : decode cc pc = .ok (.getfield 65, 3)) (kk : W p l e R s m args below meth c H locs cells slots Q (F0 m (pc + 3) ls (.int (I 1 i 3) :: rest))) : W p l e R s m args below meth c H locs cells slots Q (F0 m pc ls (.ref (cx_b G + ly_loc 1 i) :: rest)) := r_getN X S (ly_ok_1 hi S.2.2.2) rfl (show vwCl[1]? = some (RX1, TX1, 8) from rfl) in_X1 3 (by decide) lk_X4_65 rfl hd kk
theorem lk_X5_9 : Cond.fieldLink RX5 9 "WhoSingsNext$Sheet" "items" "[I" ∈ gw_t := gw_mem 557 (by decide +kernel) (by decide +kernel)
theorem gf_X5_9 (X : cx_ok G p s m args meth c cc nL RX5 ret) (S : st_ok G n I J s H locs) {i : Nat} (hi : i < 4) (hd : decode cc pc = .ok (.getfield 9, 3)) (kk : W p l e R s m args below meth c H locs cells slots Q (F0 m (pc + 3) ls (.ref (cx_b G + ly_loc 27 i) :: rest))) : W p l e R s m args below meth c H locs cells slots Q (F0 m pc ls (.ref (cx_b G + ly_loc 5 i) :: rest)) := r_get X S (ly_ok_5 hi S.2.2.2) rfl (show vwCl[5]? = some (RX5, TX5, 3) from rfl) in_X5 0 (by decide) lk_X5_9 rfl hd kk
theorem lk_X5_15 : Cond.fieldLink RX5 15 "WhoSingsNext$Sheet" "sort" "I" ∈ gw_t := gw_mem 559 (by decide +kernel) (by decide +kernel)
theorem gf_X5_15 (X : cx_ok G p s m args meth c cc nL RX5 ret) (S : st_ok G n I J s H locs) {i : Nat} (hi : i < 4) (hd : decode cc pc = .ok (.getfield 15, 3)) (kk : W p l e R s m args below meth c H locs cells slots Q (F0 m (pc + 3) ls (.int (I 5 i 1) :: rest))) : W p l e R s m args below meth c H locs cells slots Q (F0 m pc ls (.ref (cx_b G + ly_loc 5 i) :: rest)) := r_get X S (ly_ok_5 hi S.2.2.2) rfl (show vwCl[5]? = some (RX5, TX5, 3) from rfl) in_X5 1 (by decide) lk_X5_15 rfl hd kk
theorem lk_X5_19 : Cond.fieldLink RX5 19 "WhoSingsNext$Sheet" "size" "I" ∈ gw_t := gw_mem 561 (by decide +kernel) (by decide +kernel)
theorem gf_X5_19 (X : cx_ok G p s m args meth c cc nL RX5 ret) (S : st_ok G n I J s H locs) {i : Nat} (hi : i < 4) (hd : decode cc pc = .ok (.getfield 19, 3)) (kk : W p l e R s m args below meth c H locs cells slots Q (F0 m (pc + 3) ls (.int (I 5 i 2) :: rest))) : W p l e R s m args below meth c H locs cells slots Q (F0 m pc ls (.ref (cx_b G + ly_loc 5 i) :: rest)) := r_get X S (ly_ok_5 hi S.2.2.2) rfl (show vwCl[5]? = some (RX5, TX5, 3) from rfl) in_X5 2 (by decide) lk_X5_19 rfl hd kk
theorem lk_X6_9 : Cond.fieldLink RX6 9 "WhoSingsNext$Slip" "kind" "I" ∈ gw_t := gw_mem 122 (by decide +kernel) (by decide +kernel)
theorem gf_X6_9 (X : cx_ok G p s m args meth c cc nL RX6 ret) (S : st_ok G n I J s H locs) {i : Nat} (hi : i < 14) (hd : decode cc pc = .ok (.getfield 9, 3)) (kk : W p l e R s m args below meth c H locs cells slots Q (F0 m (pc + 3) ls (.int (I 6 i 0) :: rest))) : W p l e R s m args below meth c H locs cells slots Q (F0 m pc ls (.ref (cx_b G + ly_loc 6 i) :: rest)) := r_get X S (ly_ok_6 hi S.2.2.2) rfl (show vwCl[6]? = some (RX6, TX6, 4) from rfl) in_X6 0 (by decide) lk_X6_9 rfl hd kk
theorem lk_X6_15 : Cond.fieldLink RX6 15 "WhoSingsNext$Slip" "number" "I" ∈ gw_t := gw_mem 126 (by decide +kernel) (by decide +kernel)
theorem gf_X6_15 (X : cx_ok G p s m args meth c cc nL RX6 ret) (S : st_ok G n I J s H locs) {i : Nat} (hi : i < 14) (hd : decode cc pc = .ok (.getfield 15, 3)) (kk : W p l e R s m args below meth c H locs cells slots Q (F0 m (pc + 3) ls (.int (I 6 i 1) :: rest))) : W p l e R s m args below meth c H locs cells slots Q (F0 m pc ls (.ref (cx_b G + ly_loc 6 i) :: rest)) := r_get X S (ly_ok_6 hi S.2.2.2) rfl (show vwCl[6]? = some (RX6, TX6, 4) from rfl) in_X6 1 (by decide) lk_X6_15 rfl hd kk
theorem lk_X6_18 : Cond.fieldLink RX6 18 "WhoSingsNext$Slip" "minutes" "I" ∈ gw_t := gw_mem 129 (by decide +kernel) (by decide +kernel)
theorem gf_X6_18 (X : cx_ok G p s m args meth c cc nL RX6 ret) (S : st_ok G n I J s H locs) {i : Nat} (hi : i < 14) (hd : decode cc pc = .ok (.getfield 18, 3)) (kk : W p l e R s m args below meth c H locs cells slots Q (F0 m (pc + 3) ls (.int (I 6 i 2) :: rest))) : W p l e R s m args below meth c H locs cells slots Q (F0 m pc ls (.ref (cx_b G + ly_loc 6 i) :: rest)) := r_get X S (ly_ok_6 hi S.2.2.2) rfl (show vwCl[6]? = some (RX6, TX6, 4) from rfl) in_X6 2 (by decide) lk_X6_18 rfl hd kk
theorem lk_X6_21 : Cond.fieldLink RX6 21 "WhoSingsNext$Slip" "whose" "I" ∈ gw_t := gw_mem 132 (by decide +kernel) (by decide +kernel)
theorem gf_X6_21 (X : cx_ok G p s m args meth c cc nL RX6 ret) (S : st_ok G n I J s H locs) {i : Nat} (hi : i < 14) (hd : decode cc pc = .ok (.getfield 21, 3)) (kk : W p l e R s m args below meth c H locs cells slots Q (F0 m (pc + 3) ls (.int (I 6 i 3) :: rest))) : W p l e R s m args below meth c H locs cells slots Q (F0 m pc ls (.ref (cx_b G + ly_loc 6 i) :: rest)) := r_get X S (ly_ok_6 hi S.2.2.2) rfl (show vwCl[6]? = some (RX6, TX6, 4) from rfl) in_X6 3 (by decide) lk_X6_21 rfl hd kk
theorem lk_X7_9 : Cond.fieldLink RX7 9 "WhoSingsNext$Text" "pending" "[I" ∈ gw_t := gw_mem 541 (by decide +kernel) (by decide +kernel)
theorem gf_X7_9 (X : cx_ok G p s m args meth c cc nL RX7 ret) (S : st_ok G n I J s H locs) {i : Nat} (hi : 3 * i + 144 ≤ n) (hd : decode cc pc = .ok (.getfield 9, 3)) (kk : W p l e R s m args below meth c H locs cells slots Q (F0 m (pc + 3) ls (.ref (cx_b G + ly_loc 29 i) :: rest))) : W p l e R s m args below meth c H locs cells slots Q (F0 m pc ls (.ref (cx_b G + ly_loc 7 i) :: rest)) := r_get X S (ly_ok_7 hi) rfl (show vwCl[7]? = some (RX7, TX7, 4) from rfl) in_X7 3 (by decide) lk_X7_9 rfl hd kk
theorem lk_X7_13 : Cond.fieldLink RX7 13 "WhoSingsNext$Text" "code" "[I" ∈ gw_t := gw_mem 538 (by decide +kernel) (by decide +kernel)
theorem gf_X7_13 (X : cx_ok G p s m args meth c cc nL RX7 ret) (S : st_ok G n I J s H locs) {i : Nat} (hi : 3 * i + 144 ≤ n) (hd : decode cc pc = .ok (.getfield 13, 3)) (kk : W p l e R s m args below meth c H locs cells slots Q (F0 m (pc + 3) ls (.ref (cx_b G + ly_loc 28 i) :: rest))) : W p l e R s m args below meth c H locs cells slots Q (F0 m pc ls (.ref (cx_b G + ly_loc 7 i) :: rest)) := r_get X S (ly_ok_7 hi) rfl (show vwCl[7]? = some (RX7, TX7, 4) from rfl) in_X7 0 (by decide) lk_X7_13 rfl hd kk
theorem lk_X7_16 : Cond.fieldLink RX7 16 "WhoSingsNext$Text" "takesAt" "I" ∈ gw_t := gw_mem 539 (by decide +kernel) (by decide +kernel)
theorem gf_X7_16 (X : cx_ok G p s m args meth c cc nL RX7 ret) (S : st_ok G n I J s H locs) {i : Nat} (hi : 3 * i + 144 ≤ n) (hd : decode cc pc = .ok (.getfield 16, 3)) (kk : W p l e R s m args below meth c H locs cells slots Q (F0 m (pc + 3) ls (.int (I 7 i 1) :: rest))) : W p l e R s m args below meth c H locs cells slots Q (F0 m pc ls (.ref (cx_b G + ly_loc 7 i) :: rest)) := r_get X S (ly_ok_7 hi) rfl (show vwCl[7]? = some (RX7, TX7, 4) from rfl) in_X7 1 (by decide) lk_X7_16 rfl hd kk
theorem lk_X7_20 : Cond.fieldLink RX7 20 "WhoSingsNext$Text" "firstAt" "I" ∈ gw_t := gw_mem 540 (by decide +kernel) (by decide +kernel)
theorem gf_X7_20 (X : cx_ok G p s m args meth c cc nL RX7 ret) (S : st_ok G n I J s H locs) {i : Nat} (hi : 3 * i + 144 ≤ n) (hd : decode cc pc = .ok (.getfield 20, 3)) (kk : W p l e R s m args below meth c H locs cells slots Q (F0 m (pc + 3) ls (.int (I 7 i 2) :: rest))) : W p l e R s m args below meth c H locs cells slots Q (F0 m pc ls (.ref (cx_b G + ly_loc 7 i) :: rest)) := r_get X S (ly_ok_7 hi) rfl (show vwCl[7]? = some (RX7, TX7, 4) from rfl) in_X7 2 (by decide) lk_X7_20 rfl hd kk
theorem lk_X8_10 : Cond.fieldLink RX8 10 "WhoSingsNext" "house" "LWhoSingsNext$House;" ∈ gw_t := gw_mem 570 (by decide +kernel) (by decide +kernel)
theorem gf_X8_10 (X : cx_ok G p s m args meth c cc nL RX8 ret) (S : st_ok G n I J s H locs) {i : Nat} (hi : i < 1) (hd : decode cc pc = .ok (.getfield 10, 3)) (kk : W p l e R s m args below meth c H locs cells slots Q (F0 m (pc + 3) ls (.ref (cx_b G + ly_loc 1 0) :: rest))) : W p l e R s m args below meth c H locs cells slots Q (F0 m pc ls (.ref (cx_b G + ly_loc 8 i) :: rest)) := r_get X S (ly_ok_8 hi S.2.2.2) rfl (show vwCl[8]? = some (RX8, TX8, 9) from rfl) in_X8 0 (by decide) lk_X8_10 rfl hd kk
theorem lk_X8_16 : Cond.fieldLink RX8 16 "WhoSingsNext" "kept" "LWhoSingsNext$House;" ∈ gw_t := gw_mem 571 (by decide +kernel) (by decide +kernel)
theorem gf_X8_16 (X : cx_ok G p s m args meth c cc nL RX8 ret) (S : st_ok G n I J s H locs) {i : Nat} (hi : i < 1) (hd : decode cc pc = .ok (.getfield 16, 3)) (kk : W p l e R s m args below meth c H locs cells slots Q (F0 m (pc + 3) ls (.ref (cx_b G + ly_loc 1 1) :: rest))) : W p l e R s m args below meth c H locs cells slots Q (F0 m pc ls (.ref (cx_b G + ly_loc 8 i) :: rest)) := r_get X S (ly_ok_8 hi S.2.2.2) rfl (show vwCl[8]? = some (RX8, TX8, 9) from rfl) in_X8 1 (by decide) lk_X8_16 rfl hd kk
theorem lk_X8_22 : Cond.fieldLink RX8 22 "WhoSingsNext" "reader" "LWhoSingsNext$Reader;" ∈ gw_t := gw_mem 573 (by decide +kernel) (by decide +kernel)
theorem gf_X8_22 (X : cx_ok G p s m args meth c cc nL RX8 ret) (S : st_ok G n I J s H locs) {i : Nat} (hi : i < 1) (hd : decode cc pc = .ok (.getfield 22, 3)) (kk : W p l e R s m args below meth c H locs cells slots Q (F0 m (pc + 3) ls (.ref (cx_b G + ly_loc 3 0) :: rest))) : W p l e R s m args below meth c H locs cells slots Q (F0 m pc ls (.ref (cx_b G + ly_loc 8 i) :: rest)) := r_get X S (ly_ok_8 hi S.2.2.2) rfl (show vwCl[8]? = some (RX8, TX8, 9) from rfl) in_X8 3 (by decide) lk_X8_22 rfl hd kk
theorem lk_X8_28 : Cond.fieldLink RX8 28 "WhoSingsNext" "texts" "[LWhoSingsNext$Text;" ∈ gw_t := gw_mem 574 (by decide +kernel) (by decide +kernel)
theorem gf_X8_28 (X : cx_ok G p s m args meth c cc nL RX8 ret) (S : st_ok G n I J s H locs) {i : Nat} (hi : i < 1) (hd : decode cc pc = .ok (.getfield 28, 3)) (kk : W p l e R s m args below meth c H locs cells slots Q (F0 m (pc + 3) ls (.ref (cx_b G + ly_loc 20 0) :: rest))) : W p l e R s m args below meth c H locs cells slots Q (F0 m pc ls (.ref (cx_b G + ly_loc 8 i) :: rest)) := r_get X S (ly_ok_8 hi S.2.2.2) rfl (show vwCl[8]? = some (RX8, TX8, 9) from rfl) in_X8 4 (by decide) lk_X8_28 rfl hd kk
theorem lk_X8_37 : Cond.fieldLink RX8 37 "WhoSingsNext" "tonight" "LWhoSingsNext$Evening;" ∈ gw_t := gw_mem 576 (by decide +kernel) (by decide +kernel)
theorem gf_X8_37 (X : cx_ok G p s m args meth c cc nL RX8 ret) (S : st_ok G n I J s H locs) {i : Nat} (hi : i < 1) (hd : decode cc pc = .ok (.getfield 37, 3)) (kk : W p l e R s m args below meth c H locs cells slots Q (F0 m (pc + 3) ls (.ref (cx_b G + ly_loc 0 0) :: rest))) : W p l e R s m args below meth c H locs cells slots Q (F0 m pc ls (.ref (cx_b G + ly_loc 8 i) :: rest)) := r_get X S (ly_ok_8 hi S.2.2.2) rfl (show vwCl[8]? = some (RX8, TX8, 9) from rfl) in_X8 6 (by decide) lk_X8_37 rfl hd kk
theorem lk_X8_44 : Cond.fieldLink RX8 44 "WhoSingsNext" "search" "LWhoSingsNext$Search;" ∈ gw_t := gw_mem 577 (by decide +kernel) (by decide +kernel)
theorem gf_X8_44 (X : cx_ok G p s m args meth c cc nL RX8 ret) (S : st_ok G n I J s H locs) {i : Nat} (hi : i < 1) (hd : decode cc pc = .ok (.getfield 44, 3)) (kk : W p l e R s m args below meth c H locs cells slots Q (F0 m (pc + 3) ls (.ref (cx_b G + ly_loc 4 0) :: rest))) : W p l e R s m args below meth c H locs cells slots Q (F0 m pc ls (.ref (cx_b G + ly_loc 8 i) :: rest)) := r_get X S (ly_ok_8 hi S.2.2.2) rfl (show vwCl[8]? = some (RX8, TX8, 9) from rfl) in_X8 7 (by decide) lk_X8_44 rfl hd kk
theorem lk_X8_50 : Cond.fieldLink RX8 50 "WhoSingsNext" "sheets" "[LWhoSingsNext$Sheet;" ∈ gw_t := gw_mem 578 (by decide +kernel) (by decide +kernel)
theorem gf_X8_50 (X : cx_ok G p s m args meth c cc nL RX8 ret) (S : st_ok G n I J s H locs) {i : Nat} (hi : i < 1) (hd : decode cc pc = .ok (.getfield 50, 3)) (kk : W p l e R s m args below meth c H locs cells slots Q (F0 m (pc + 3) ls (.ref (cx_b G + ly_loc 26 0) :: rest))) : W p l e R s m args below meth c H locs cells slots Q (F0 m pc ls (.ref (cx_b G + ly_loc 8 i) :: rest)) := r_get X S (ly_ok_8 hi S.2.2.2) rfl (show vwCl[8]? = some (RX8, TX8, 9) from rfl) in_X8 8 (by decide) lk_X8_50 rfl hd kk
theorem lk_X8_78 : Cond.fieldLink RX8 78 "WhoSingsNext" "textCount" "I" ∈ gw_t := gw_mem 575 (by decide +kernel) (by decide +kernel)
theorem gf_X8_78 (X : cx_ok G p s m args meth c cc nL RX8 ret) (S : st_ok G n I J s H locs) {i : Nat} (hi : i < 1) (hd : decode cc pc = .ok (.getfield 78, 3)) (kk : W p l e R s m args below meth c H locs cells slots Q (F0 m (pc + 3) ls (.int (I 8 i 5) :: rest))) : W p l e R s m args below meth c H locs cells slots Q (F0 m pc ls (.ref (cx_b G + ly_loc 8 i) :: rest)) := r_get X S (ly_ok_8 hi S.2.2.2) rfl (show vwCl[8]? = some (RX8, TX8, 9) from rfl) in_X8 5 (by decide) lk_X8_78 rfl hd kk
theorem lk_X8_109 : Cond.fieldLinkNest RX8 109 "WhoSingsNext$House" "slips" "[LWhoSingsNext$Slip;" "WhoSingsNext" ∈ nw_t := nw_mem 148 (by decide +kernel) (by decide +kernel)
theorem gf_X8_109 (X : cx_ok G p s m args meth c cc nL RX8 ret) (S : st_ok G n I J s H locs) {i : Nat} (hi : i < 2) (hd : decode cc pc = .ok (.getfield 109, 3)) (kk : W p l e R s m args below meth c H locs cells slots Q (F0 m (pc + 3) ls (.ref (cx_b G + ly_loc 17 i) :: rest))) : W p l e R s m args below meth c H locs cells slots Q (F0 m pc ls (.ref (cx_b G + ly_loc 1 i) :: rest)) := r_getN X S (ly_ok_1 hi S.2.2.2) rfl (show vwCl[1]? = some (RX1, TX1, 8) from rfl) in_X1 1 (by decide) lk_X8_109 rfl hd kk
theorem lk_X8_113 : Cond.fieldLinkNest RX8 113 "WhoSingsNext$Slip" "kind" "I" "WhoSingsNext" ∈ nw_t := nw_mem 123 (by decide +kernel) (by decide +kernel)
theorem gf_X8_113 (X : cx_ok G p s m args meth c cc nL RX8 ret) (S : st_ok G n I J s H locs) {i : Nat} (hi : i < 14) (hd : decode cc pc = .ok (.getfield 113, 3)) (kk : W p l e R s m args below meth c H locs cells slots Q (F0 m (pc + 3) ls (.int (I 6 i 0) :: rest))) : W p l e R s m args below meth c H locs cells slots Q (F0 m pc ls (.ref (cx_b G + ly_loc 6 i) :: rest)) := r_getN X S (ly_ok_6 hi S.2.2.2) rfl (show vwCl[6]? = some (RX6, TX6, 4) from rfl) in_X6 0 (by decide) lk_X8_113 rfl hd kk
theorem lk_X8_118 : Cond.fieldLinkNest RX8 118 "WhoSingsNext$Reader" "bytes" "I" "WhoSingsNext" ∈ nw_t := nw_mem 192 (by decide +kernel) (by decide +kernel)
theorem gf_X8_118 (X : cx_ok G p s m args meth c cc nL RX8 ret) (S : st_ok G n I J s H locs) {i : Nat} (hi : i < 1) (hd : decode cc pc = .ok (.getfield 118, 3)) (kk : W p l e R s m args below meth c H locs cells slots Q (F0 m (pc + 3) ls (.int (I 3 i 1) :: rest))) : W p l e R s m args below meth c H locs cells slots Q (F0 m pc ls (.ref (cx_b G + ly_loc 3 i) :: rest)) := r_getN X S (ly_ok_3 hi S.2.2.2) rfl (show vwCl[3]? = some (RX3, TX3, 11) from rfl) in_X3 1 (by decide) lk_X8_118 rfl hd kk
theorem lk_X8_121 : Cond.fieldLinkNest RX8 121 "WhoSingsNext$Reader" "fault" "I" "WhoSingsNext" ∈ nw_t := nw_mem 202 (by decide +kernel) (by decide +kernel)
theorem gf_X8_121 (X : cx_ok G p s m args meth c cc nL RX8 ret) (S : st_ok G n I J s H locs) {i : Nat} (hi : i < 1) (hd : decode cc pc = .ok (.getfield 121, 3)) (kk : W p l e R s m args below meth c H locs cells slots Q (F0 m (pc + 3) ls (.int (I 3 i 10) :: rest))) : W p l e R s m args below meth c H locs cells slots Q (F0 m pc ls (.ref (cx_b G + ly_loc 3 i) :: rest)) := r_getN X S (ly_ok_3 hi S.2.2.2) rfl (show vwCl[3]? = some (RX3, TX3, 11) from rfl) in_X3 10 (by decide) lk_X8_121 rfl hd kk
theorem lk_X8_124 : Cond.fieldLinkNest RX8 124 "WhoSingsNext$House" "rule" "I" "WhoSingsNext" ∈ nw_t := nw_mem 163 (by decide +kernel) (by decide +kernel)
theorem gf_X8_124 (X : cx_ok G p s m args meth c cc nL RX8 ret) (S : st_ok G n I J s H locs) {i : Nat} (hi : i < 2) (hd : decode cc pc = .ok (.getfield 124, 3)) (kk : W p l e R s m args below meth c H locs cells slots Q (F0 m (pc + 3) ls (.int (I 1 i 6) :: rest))) : W p l e R s m args below meth c H locs cells slots Q (F0 m pc ls (.ref (cx_b G + ly_loc 1 i) :: rest)) := r_getN X S (ly_ok_1 hi S.2.2.2) rfl (show vwCl[1]? = some (RX1, TX1, 8) from rfl) in_X1 6 (by decide) lk_X8_124 rfl hd kk
theorem lk_X8_156 : Cond.fieldLinkNest RX8 156 "WhoSingsNext$Evening" "mood" "I" "WhoSingsNext" ∈ nw_t := nw_mem 250 (by decide +kernel) (by decide +kernel)
theorem gf_X8_156 (X : cx_ok G p s m args meth c cc nL RX8 ret) (S : st_ok G n I J s H locs) {i : Nat} (hi : i < 9) (hd : decode cc pc = .ok (.getfield 156, 3)) (kk : W p l e R s m args below meth c H locs cells slots Q (F0 m (pc + 3) ls (.int (I 0 i 11) :: rest))) : W p l e R s m args below meth c H locs cells slots Q (F0 m pc ls (.ref (cx_b G + ly_loc 0 i) :: rest)) := r_getN X S (ly_ok_0 hi S.2.2.2) rfl (show vwCl[0]? = some (RX0, TX0, 16) from rfl) in_X0 11 (by decide) lk_X8_156 rfl hd kk
theorem lk_X8_159 : Cond.fieldLinkNest RX8 159 "WhoSingsNext$Evening" "bar" "I" "WhoSingsNext" ∈ nw_t := nw_mem 253 (by decide +kernel) (by decide +kernel)
theorem gf_X8_159 (X : cx_ok G p s m args meth c cc nL RX8 ret) (S : st_ok G n I J s H locs) {i : Nat} (hi : i < 9) (hd : decode cc pc = .ok (.getfield 159, 3)) (kk : W p l e R s m args below meth c H locs cells slots Q (F0 m (pc + 3) ls (.int (I 0 i 12) :: rest))) : W p l e R s m args below meth c H locs cells slots Q (F0 m pc ls (.ref (cx_b G + ly_loc 0 i) :: rest)) := r_getN X S (ly_ok_0 hi S.2.2.2) rfl (show vwCl[0]? = some (RX0, TX0, 16) from rfl) in_X0 12 (by decide) lk_X8_159 rfl hd kk
theorem lk_X8_162 : Cond.fieldLinkNest RX8 162 "WhoSingsNext$Evening" "begins" "[I" "WhoSingsNext" ∈ nw_t := nw_mem 246 (by decide +kernel) (by decide +kernel)
theorem gf_X8_162 (X : cx_ok G p s m args meth c cc nL RX8 ret) (S : st_ok G n I J s H locs) {i : Nat} (hi : i < 9) (hd : decode cc pc = .ok (.getfield 162, 3)) (kk : W p l e R s m args below meth c H locs cells slots Q (F0 m (pc + 3) ls (.ref (cx_b G + ly_loc 15 i) :: rest))) : W p l e R s m args below meth c H locs cells slots Q (F0 m pc ls (.ref (cx_b G + ly_loc 0 i) :: rest)) := r_getN X S (ly_ok_0 hi S.2.2.2) rfl (show vwCl[0]? = some (RX0, TX0, 16) from rfl) in_X0 8 (by decide) lk_X8_162 rfl hd kk
theorem lk_X8_166 : Cond.fieldLinkNest RX8 166 "WhoSingsNext$House" "slipCount" "I" "WhoSingsNext" ∈ nw_t := nw_mem 156 (by decide +kernel) (by decide +kernel)
theorem gf_X8_166 (X : cx_ok G p s m args meth c cc nL RX8 ret) (S : st_ok G n I J s H locs) {i : Nat} (hi : i < 2) (hd : decode cc pc = .ok (.getfield 166, 3)) (kk : W p l e R s m args below meth c H locs cells slots Q (F0 m (pc + 3) ls (.int (I 1 i 3) :: rest))) : W p l e R s m args below meth c H locs cells slots Q (F0 m pc ls (.ref (cx_b G + ly_loc 1 i) :: rest)) := r_getN X S (ly_ok_1 hi S.2.2.2) rfl (show vwCl[1]? = some (RX1, TX1, 8) from rfl) in_X1 3 (by decide) lk_X8_166 rfl hd kk
theorem lk_X8_175 : Cond.fieldLinkNest RX8 175 "WhoSingsNext$Evening" "left" "I" "WhoSingsNext" ∈ nw_t := nw_mem 256 (by decide +kernel) (by decide +kernel)
theorem gf_X8_175 (X : cx_ok G p s m args meth c cc nL RX8 ret) (S : st_ok G n I J s H locs) {i : Nat} (hi : i < 9) (hd : decode cc pc = .ok (.getfield 175, 3)) (kk : W p l e R s m args below meth c H locs cells slots Q (F0 m (pc + 3) ls (.int (I 0 i 13) :: rest))) : W p l e R s m args below meth c H locs cells slots Q (F0 m pc ls (.ref (cx_b G + ly_loc 0 i) :: rest)) := r_getN X S (ly_ok_0 hi S.2.2.2) rfl (show vwCl[0]? = some (RX0, TX0, 16) from rfl) in_X0 13 (by decide) lk_X8_175 rfl hd kk
theorem lk_X8_181 : Cond.fieldLinkNest RX8 181 "WhoSingsNext$Sheet" "sort" "I" "WhoSingsNext" ∈ nw_t := nw_mem 560 (by decide +kernel) (by decide +kernel)
theorem gf_X8_181 (X : cx_ok G p s m args meth c cc nL RX8 ret) (S : st_ok G n I J s H locs) {i : Nat} (hi : i < 4) (hd : decode cc pc = .ok (.getfield 181, 3)) (kk : W p l e R s m args below meth c H locs cells slots Q (F0 m (pc + 3) ls (.int (I 5 i 1) :: rest))) : W p l e R s m args below meth c H locs cells slots Q (F0 m pc ls (.ref (cx_b G + ly_loc 5 i) :: rest)) := r_getN X S (ly_ok_5 hi S.2.2.2) rfl (show vwCl[5]? = some (RX5, TX5, 3) from rfl) in_X5 1 (by decide) lk_X8_181 rfl hd kk
theorem lk_X8_188 : Cond.fieldLinkNest RX8 188 "WhoSingsNext$Slip" "whose" "I" "WhoSingsNext" ∈ nw_t := nw_mem 135 (by decide +kernel) (by decide +kernel)
theorem gf_X8_188 (X : cx_ok G p s m args meth c cc nL RX8 ret) (S : st_ok G n I J s H locs) {i : Nat} (hi : i < 14) (hd : decode cc pc = .ok (.getfield 188, 3)) (kk : W p l e R s m args below meth c H locs cells slots Q (F0 m (pc + 3) ls (.int (I 6 i 3) :: rest))) : W p l e R s m args below meth c H locs cells slots Q (F0 m pc ls (.ref (cx_b G + ly_loc 6 i) :: rest)) := r_getN X S (ly_ok_6 hi S.2.2.2) rfl (show vwCl[6]? = some (RX6, TX6, 4) from rfl) in_X6 3 (by decide) lk_X8_188 rfl hd kk
theorem lk_X8_202 : Cond.fieldLink RX8 202 "WhoSingsNext" "isKept" "Z" ∈ gw_t := gw_mem 572 (by decide +kernel) (by decide +kernel)
theorem gf_X8_202 (X : cx_ok G p s m args meth c cc nL RX8 ret) (S : st_ok G n I J s H locs) {i : Nat} (hi : i < 1) (hd : decode cc pc = .ok (.getfield 202, 3)) (kk : W p l e R s m args below meth c H locs cells slots Q (F0 m (pc + 3) ls (.int (I 8 i 2) :: rest))) : W p l e R s m args below meth c H locs cells slots Q (F0 m pc ls (.ref (cx_b G + ly_loc 8 i) :: rest)) := r_get X S (ly_ok_8 hi S.2.2.2) rfl (show vwCl[8]? = some (RX8, TX8, 9) from rfl) in_X8 2 (by decide) lk_X8_202 rfl hd kk
theorem lk_X8_206 : Cond.fieldLinkNest RX8 206 "WhoSingsNext$House" "peopleCount" "I" "WhoSingsNext" ∈ nw_t := nw_mem 152 (by decide +kernel) (by decide +kernel)
theorem gf_X8_206 (X : cx_ok G p s m args meth c cc nL RX8 ret) (S : st_ok G n I J s H locs) {i : Nat} (hi : i < 2) (hd : decode cc pc = .ok (.getfield 206, 3)) (kk : W p l e R s m args below meth c H locs cells slots Q (F0 m (pc + 3) ls (.int (I 1 i 2) :: rest))) : W p l e R s m args below meth c H locs cells slots Q (F0 m pc ls (.ref (cx_b G + ly_loc 1 i) :: rest)) := r_getN X S (ly_ok_1 hi S.2.2.2) rfl (show vwCl[1]? = some (RX1, TX1, 8) from rfl) in_X1 2 (by decide) lk_X8_206 rfl hd kk
theorem lk_X8_209 : Cond.fieldLinkNest RX8 209 "WhoSingsNext$House" "mood" "I" "WhoSingsNext" ∈ nw_t := nw_mem 159 (by decide +kernel) (by decide +kernel)
theorem gf_X8_209 (X : cx_ok G p s m args meth c cc nL RX8 ret) (S : st_ok G n I J s H locs) {i : Nat} (hi : i < 2) (hd : decode cc pc = .ok (.getfield 209, 3)) (kk : W p l e R s m args below meth c H locs cells slots Q (F0 m (pc + 3) ls (.int (I 1 i 4) :: rest))) : W p l e R s m args below meth c H locs cells slots Q (F0 m pc ls (.ref (cx_b G + ly_loc 1 i) :: rest)) := r_getN X S (ly_ok_1 hi S.2.2.2) rfl (show vwCl[1]? = some (RX1, TX1, 8) from rfl) in_X1 4 (by decide) lk_X8_209 rfl hd kk
theorem lk_X8_210 : Cond.fieldLinkNest RX8 210 "WhoSingsNext$House" "till" "I" "WhoSingsNext" ∈ nw_t := nw_mem 162 (by decide +kernel) (by decide +kernel)
theorem gf_X8_210 (X : cx_ok G p s m args meth c cc nL RX8 ret) (S : st_ok G n I J s H locs) {i : Nat} (hi : i < 2) (hd : decode cc pc = .ok (.getfield 210, 3)) (kk : W p l e R s m args below meth c H locs cells slots Q (F0 m (pc + 3) ls (.int (I 1 i 5) :: rest))) : W p l e R s m args below meth c H locs cells slots Q (F0 m pc ls (.ref (cx_b G + ly_loc 1 i) :: rest)) := r_getN X S (ly_ok_1 hi S.2.2.2) rfl (show vwCl[1]? = some (RX1, TX1, 8) from rfl) in_X1 5 (by decide) lk_X8_210 rfl hd kk
theorem lk_X8_223 : Cond.fieldLinkNest RX8 223 "WhoSingsNext$Sheet" "items" "[I" "WhoSingsNext" ∈ nw_t := nw_mem 558 (by decide +kernel) (by decide +kernel)
theorem gf_X8_223 (X : cx_ok G p s m args meth c cc nL RX8 ret) (S : st_ok G n I J s H locs) {i : Nat} (hi : i < 4) (hd : decode cc pc = .ok (.getfield 223, 3)) (kk : W p l e R s m args below meth c H locs cells slots Q (F0 m (pc + 3) ls (.ref (cx_b G + ly_loc 27 i) :: rest))) : W p l e R s m args below meth c H locs cells slots Q (F0 m pc ls (.ref (cx_b G + ly_loc 5 i) :: rest)) := r_getN X S (ly_ok_5 hi S.2.2.2) rfl (show vwCl[5]? = some (RX5, TX5, 3) from rfl) in_X5 0 (by decide) lk_X8_223 rfl hd kk
theorem lk_X8_235 : Cond.fieldLinkNest RX8 235 "WhoSingsNext$Slip" "number" "I" "WhoSingsNext" ∈ nw_t := nw_mem 128 (by decide +kernel) (by decide +kernel)
theorem gf_X8_235 (X : cx_ok G p s m args meth c cc nL RX8 ret) (S : st_ok G n I J s H locs) {i : Nat} (hi : i < 14) (hd : decode cc pc = .ok (.getfield 235, 3)) (kk : W p l e R s m args below meth c H locs cells slots Q (F0 m (pc + 3) ls (.int (I 6 i 1) :: rest))) : W p l e R s m args below meth c H locs cells slots Q (F0 m pc ls (.ref (cx_b G + ly_loc 6 i) :: rest)) := r_getN X S (ly_ok_6 hi S.2.2.2) rfl (show vwCl[6]? = some (RX6, TX6, 4) from rfl) in_X6 1 (by decide) lk_X8_235 rfl hd kk
theorem lk_X8_241 : Cond.fieldLinkNest RX8 241 "WhoSingsNext$Sheet" "size" "I" "WhoSingsNext" ∈ nw_t := nw_mem 562 (by decide +kernel) (by decide +kernel)
theorem gf_X8_241 (X : cx_ok G p s m args meth c cc nL RX8 ret) (S : st_ok G n I J s H locs) {i : Nat} (hi : i < 4) (hd : decode cc pc = .ok (.getfield 241, 3)) (kk : W p l e R s m args below meth c H locs cells slots Q (F0 m (pc + 3) ls (.int (I 5 i 2) :: rest))) : W p l e R s m args below meth c H locs cells slots Q (F0 m pc ls (.ref (cx_b G + ly_loc 5 i) :: rest)) := r_getN X S (ly_ok_5 hi S.2.2.2) rfl (show vwCl[5]? = some (RX5, TX5, 3) from rfl) in_X5 2 (by decide) lk_X8_241 rfl hd kk
theorem lk_X8_244 : Cond.fieldLinkNest RX8 244 "WhoSingsNext$Evening" "calls" "I" "WhoSingsNext" ∈ nw_t := nw_mem 244 (by decide +kernel) (by decide +kernel)
theorem gf_X8_244 (X : cx_ok G p s m args meth c cc nL RX8 ret) (S : st_ok G n I J s H locs) {i : Nat} (hi : i < 9) (hd : decode cc pc = .ok (.getfield 244, 3)) (kk : W p l e R s m args below meth c H locs cells slots Q (F0 m (pc + 3) ls (.int (I 0 i 7) :: rest))) : W p l e R s m args below meth c H locs cells slots Q (F0 m pc ls (.ref (cx_b G + ly_loc 0 i) :: rest)) := r_getN X S (ly_ok_0 hi S.2.2.2) rfl (show vwCl[0]? = some (RX0, TX0, 16) from rfl) in_X0 7 (by decide) lk_X8_244 rfl hd kk
theorem lk_X8_247 : Cond.fieldLinkNest RX8 247 "WhoSingsNext$Evening" "row" "[I" "WhoSingsNext" ∈ nw_t := nw_mem 242 (by decide +kernel) (by decide +kernel)
theorem gf_X8_247 (X : cx_ok G p s m args meth c cc nL RX8 ret) (S : st_ok G n I J s H locs) {i : Nat} (hi : i < 9) (hd : decode cc pc = .ok (.getfield 247, 3)) (kk : W p l e R s m args below meth c H locs cells slots Q (F0 m (pc + 3) ls (.ref (cx_b G + ly_loc 14 i) :: rest))) : W p l e R s m args below meth c H locs cells slots Q (F0 m pc ls (.ref (cx_b G + ly_loc 0 i) :: rest)) := r_getN X S (ly_ok_0 hi S.2.2.2) rfl (show vwCl[0]? = some (RX0, TX0, 16) from rfl) in_X0 6 (by decide) lk_X8_247 rfl hd kk
theorem lk_X9_13 : Cond.fieldLink RX9 13 "WhoSingsNextModel" "texts" "[I" ∈ gw_t := gw_mem 935 (by decide +kernel) (by decide +kernel)
theorem gf_X9_13 (X : cx_ok G p s m args meth c cc nL RX9 ret) (S : st_ok G n I J s H locs) {i : Nat} (hi : i < 1) (hd : decode cc pc = .ok (.getfield 13, 3)) (kk : W p l e R s m args below meth c H locs cells slots Q (F0 m (pc + 3) ls (.ref (cx_b G + ly_loc 30 0) :: rest))) : W p l e R s m args below meth c H locs cells slots Q (F0 m pc ls (.ref (cx_b G + ly_loc 9 i) :: rest)) := r_get X S (ly_ok_9 hi S.2.2.2) rfl (show vwCl[9]? = some (RX9, TX9, 61) from rfl) in_X9 1 (by decide) lk_X9_13 rfl hd kk
theorem lk_X9_17 : Cond.fieldLink RX9 17 "WhoSingsNextModel" "textSize" "[I" ∈ gw_t := gw_mem 936 (by decide +kernel) (by decide +kernel)
theorem gf_X9_17 (X : cx_ok G p s m args meth c cc nL RX9 ret) (S : st_ok G n I J s H locs) {i : Nat} (hi : i < 1) (hd : decode cc pc = .ok (.getfield 17, 3)) (kk : W p l e R s m args below meth c H locs cells slots Q (F0 m (pc + 3) ls (.ref (cx_b G + ly_loc 31 0) :: rest))) : W p l e R s m args below meth c H locs cells slots Q (F0 m pc ls (.ref (cx_b G + ly_loc 9 i) :: rest)) := r_get X S (ly_ok_9 hi S.2.2.2) rfl (show vwCl[9]? = some (RX9, TX9, 61) from rfl) in_X9 2 (by decide) lk_X9_17 rfl hd kk
theorem lk_X9_20 : Cond.fieldLink RX9 20 "WhoSingsNextModel" "tape" "[I" ∈ gw_t := gw_mem 939 (by decide +kernel) (by decide +kernel)
theorem gf_X9_20 (X : cx_ok G p s m args meth c cc nL RX9 ret) (S : st_ok G n I J s H locs) {i : Nat} (hi : i < 1) (hd : decode cc pc = .ok (.getfield 20, 3)) (kk : W p l e R s m args below meth c H locs cells slots Q (F0 m (pc + 3) ls (.ref (cx_b G + ly_loc 32 0) :: rest))) : W p l e R s m args below meth c H locs cells slots Q (F0 m pc ls (.ref (cx_b G + ly_loc 9 i) :: rest)) := r_get X S (ly_ok_9 hi S.2.2.2) rfl (show vwCl[9]? = some (RX9, TX9, 61) from rfl) in_X9 5 (by decide) lk_X9_20 rfl hd kk
theorem lk_X9_23 : Cond.fieldLink RX9 23 "WhoSingsNextModel" "patience" "[I" ∈ gw_t := gw_mem 941 (by decide +kernel) (by decide +kernel)
theorem gf_X9_23 (X : cx_ok G p s m args meth c cc nL RX9 ret) (S : st_ok G n I J s H locs) {i : Nat} (hi : i < 1) (hd : decode cc pc = .ok (.getfield 23, 3)) (kk : W p l e R s m args below meth c H locs cells slots Q (F0 m (pc + 3) ls (.ref (cx_b G + ly_loc 33 0) :: rest))) : W p l e R s m args below meth c H locs cells slots Q (F0 m pc ls (.ref (cx_b G + ly_loc 9 i) :: rest)) := r_get X S (ly_ok_9 hi S.2.2.2) rfl (show vwCl[9]? = some (RX9, TX9, 61) from rfl) in_X9 7 (by decide) lk_X9_23 rfl hd kk
theorem lk_X9_26 : Cond.fieldLink RX9 26 "WhoSingsNextModel" "groups" "[I" ∈ gw_t := gw_mem 942 (by decide +kernel) (by decide +kernel)
theorem gf_X9_26 (X : cx_ok G p s m args meth c cc nL RX9 ret) (S : st_ok G n I J s H locs) {i : Nat} (hi : i < 1) (hd : decode cc pc = .ok (.getfield 26, 3)) (kk : W p l e R s m args below meth c H locs cells slots Q (F0 m (pc + 3) ls (.ref (cx_b G + ly_loc 34 0) :: rest))) : W p l e R s m args below meth c H locs cells slots Q (F0 m pc ls (.ref (cx_b G + ly_loc 9 i) :: rest)) := r_get X S (ly_ok_9 hi S.2.2.2) rfl (show vwCl[9]? = some (RX9, TX9, 61) from rfl) in_X9 8 (by decide) lk_X9_26 rfl hd kk
theorem lk_X9_29 : Cond.fieldLink RX9 29 "WhoSingsNextModel" "kinds" "[I" ∈ gw_t := gw_mem 944 (by decide +kernel) (by decide +kernel)
theorem gf_X9_29 (X : cx_ok G p s m args meth c cc nL RX9 ret) (S : st_ok G n I J s H locs) {i : Nat} (hi : i < 1) (hd : decode cc pc = .ok (.getfield 29, 3)) (kk : W p l e R s m args below meth c H locs cells slots Q (F0 m (pc + 3) ls (.ref (cx_b G + ly_loc 35 0) :: rest))) : W p l e R s m args below meth c H locs cells slots Q (F0 m pc ls (.ref (cx_b G + ly_loc 9 i) :: rest)) := r_get X S (ly_ok_9 hi S.2.2.2) rfl (show vwCl[9]? = some (RX9, TX9, 61) from rfl) in_X9 10 (by decide) lk_X9_29 rfl hd kk
theorem lk_X9_32 : Cond.fieldLink RX9 32 "WhoSingsNextModel" "numbers" "[I" ∈ gw_t := gw_mem 945 (by decide +kernel) (by decide +kernel)
theorem gf_X9_32 (X : cx_ok G p s m args meth c cc nL RX9 ret) (S : st_ok G n I J s H locs) {i : Nat} (hi : i < 1) (hd : decode cc pc = .ok (.getfield 32, 3)) (kk : W p l e R s m args below meth c H locs cells slots Q (F0 m (pc + 3) ls (.ref (cx_b G + ly_loc 36 0) :: rest))) : W p l e R s m args below meth c H locs cells slots Q (F0 m pc ls (.ref (cx_b G + ly_loc 9 i) :: rest)) := r_get X S (ly_ok_9 hi S.2.2.2) rfl (show vwCl[9]? = some (RX9, TX9, 61) from rfl) in_X9 11 (by decide) lk_X9_32 rfl hd kk
theorem lk_X9_35 : Cond.fieldLink RX9 35 "WhoSingsNextModel" "longs" "[I" ∈ gw_t := gw_mem 946 (by decide +kernel) (by decide +kernel)
theorem gf_X9_35 (X : cx_ok G p s m args meth c cc nL RX9 ret) (S : st_ok G n I J s H locs) {i : Nat} (hi : i < 1) (hd : decode cc pc = .ok (.getfield 35, 3)) (kk : W p l e R s m args below meth c H locs cells slots Q (F0 m (pc + 3) ls (.ref (cx_b G + ly_loc 37 0) :: rest))) : W p l e R s m args below meth c H locs cells slots Q (F0 m pc ls (.ref (cx_b G + ly_loc 9 i) :: rest)) := r_get X S (ly_ok_9 hi S.2.2.2) rfl (show vwCl[9]? = some (RX9, TX9, 61) from rfl) in_X9 12 (by decide) lk_X9_35 rfl hd kk
theorem lk_X9_38 : Cond.fieldLink RX9 38 "WhoSingsNextModel" "owners" "[I" ∈ gw_t := gw_mem 947 (by decide +kernel) (by decide +kernel)
theorem gf_X9_38 (X : cx_ok G p s m args meth c cc nL RX9 ret) (S : st_ok G n I J s H locs) {i : Nat} (hi : i < 1) (hd : decode cc pc = .ok (.getfield 38, 3)) (kk : W p l e R s m args below meth c H locs cells slots Q (F0 m (pc + 3) ls (.ref (cx_b G + ly_loc 38 0) :: rest))) : W p l e R s m args below meth c H locs cells slots Q (F0 m pc ls (.ref (cx_b G + ly_loc 9 i) :: rest)) := r_get X S (ly_ok_9 hi S.2.2.2) rfl (show vwCl[9]? = some (RX9, TX9, 61) from rfl) in_X9 13 (by decide) lk_X9_38 rfl hd kk
theorem lk_X9_41 : Cond.fieldLink RX9 41 "WhoSingsNextModel" "till" "I" ∈ gw_t := gw_mem 950 (by decide +kernel) (by decide +kernel)
theorem gf_X9_41 (X : cx_ok G p s m args meth c cc nL RX9 ret) (S : st_ok G n I J s H locs) {i : Nat} (hi : i < 1) (hd : decode cc pc = .ok (.getfield 41, 3)) (kk : W p l e R s m args below meth c H locs cells slots Q (F0 m (pc + 3) ls (.int (J 9 i 16) :: rest))) : W p l e R s m args below meth c H locs cells slots Q (F0 m pc ls (.ref (cx_b G + ly_loc 9 i) :: rest)) := r_get X S (ly_ok_9 hi S.2.2.2) rfl (show vwCl[9]? = some (RX9, TX9, 61) from rfl) in_X9 16 (by decide) lk_X9_41 rfl hd kk
theorem lk_X9_44 : Cond.fieldLink RX9 44 "WhoSingsNextModel" "lastSang" "[I" ∈ gw_t := gw_mem 971 (by decide +kernel) (by decide +kernel)
theorem gf_X9_44 (X : cx_ok G p s m args meth c cc nL RX9 ret) (S : st_ok G n I J s H locs) {i : Nat} (hi : i < 1) (hd : decode cc pc = .ok (.getfield 44, 3)) (kk : W p l e R s m args below meth c H locs cells slots Q (F0 m (pc + 3) ls (.ref (cx_b G + ly_loc 39 0) :: rest))) : W p l e R s m args below meth c H locs cells slots Q (F0 m pc ls (.ref (cx_b G + ly_loc 9 i) :: rest)) := r_get X S (ly_ok_9 hi S.2.2.2) rfl (show vwCl[9]? = some (RX9, TX9, 61) from rfl) in_X9 37 (by decide) lk_X9_44 rfl hd kk
theorem lk_X9_47 : Cond.fieldLink RX9 47 "WhoSingsNextModel" "sungBy" "[I" ∈ gw_t := gw_mem 972 (by decide +kernel) (by decide +kernel)
theorem gf_X9_47 (X : cx_ok G p s m args meth c cc nL RX9 ret) (S : st_ok G n I J s H locs) {i : Nat} (hi : i < 1) (hd : decode cc pc = .ok (.getfield 47, 3)) (kk : W p l e R s m args below meth c H locs cells slots Q (F0 m (pc + 3) ls (.ref (cx_b G + ly_loc 40 0) :: rest))) : W p l e R s m args below meth c H locs cells slots Q (F0 m pc ls (.ref (cx_b G + ly_loc 9 i) :: rest)) := r_get X S (ly_ok_9 hi S.2.2.2) rfl (show vwCl[9]? = some (RX9, TX9, 61) from rfl) in_X9 38 (by decide) lk_X9_47 rfl hd kk
theorem lk_X9_50 : Cond.fieldLink RX9 50 "WhoSingsNextModel" "began" "[I" ∈ gw_t := gw_mem 975 (by decide +kernel) (by decide +kernel)
theorem gf_X9_50 (X : cx_ok G p s m args meth c cc nL RX9 ret) (S : st_ok G n I J s H locs) {i : Nat} (hi : i < 1) (hd : decode cc pc = .ok (.getfield 50, 3)) (kk : W p l e R s m args below meth c H locs cells slots Q (F0 m (pc + 3) ls (.ref (cx_b G + ly_loc 41 0) :: rest))) : W p l e R s m args below meth c H locs cells slots Q (F0 m pc ls (.ref (cx_b G + ly_loc 9 i) :: rest)) := r_get X S (ly_ok_9 hi S.2.2.2) rfl (show vwCl[9]? = some (RX9, TX9, 61) from rfl) in_X9 41 (by decide) lk_X9_50 rfl hd kk
theorem lk_X9_53 : Cond.fieldLink RX9 53 "WhoSingsNextModel" "asideRow" "[I" ∈ gw_t := gw_mem 976 (by decide +kernel) (by decide +kernel)
theorem gf_X9_53 (X : cx_ok G p s m args meth c cc nL RX9 ret) (S : st_ok G n I J s H locs) {i : Nat} (hi : i < 1) (hd : decode cc pc = .ok (.getfield 53, 3)) (kk : W p l e R s m args below meth c H locs cells slots Q (F0 m (pc + 3) ls (.ref (cx_b G + ly_loc 42 0) :: rest))) : W p l e R s m args below meth c H locs cells slots Q (F0 m pc ls (.ref (cx_b G + ly_loc 9 i) :: rest)) := r_get X S (ly_ok_9 hi S.2.2.2) rfl (show vwCl[9]? = some (RX9, TX9, 61) from rfl) in_X9 42 (by decide) lk_X9_53 rfl hd kk
theorem lk_X9_56 : Cond.fieldLink RX9 56 "WhoSingsNextModel" "asideLast" "[I" ∈ gw_t := gw_mem 977 (by decide +kernel) (by decide +kernel)
theorem gf_X9_56 (X : cx_ok G p s m args meth c cc nL RX9 ret) (S : st_ok G n I J s H locs) {i : Nat} (hi : i < 1) (hd : decode cc pc = .ok (.getfield 56, 3)) (kk : W p l e R s m args below meth c H locs cells slots Q (F0 m (pc + 3) ls (.ref (cx_b G + ly_loc 43 0) :: rest))) : W p l e R s m args below meth c H locs cells slots Q (F0 m pc ls (.ref (cx_b G + ly_loc 9 i) :: rest)) := r_get X S (ly_ok_9 hi S.2.2.2) rfl (show vwCl[9]? = some (RX9, TX9, 61) from rfl) in_X9 43 (by decide) lk_X9_56 rfl hd kk
theorem lk_X9_59 : Cond.fieldLink RX9 59 "WhoSingsNextModel" "asideSung" "[I" ∈ gw_t := gw_mem 978 (by decide +kernel) (by decide +kernel)
theorem gf_X9_59 (X : cx_ok G p s m args meth c cc nL RX9 ret) (S : st_ok G n I J s H locs) {i : Nat} (hi : i < 1) (hd : decode cc pc = .ok (.getfield 59, 3)) (kk : W p l e R s m args below meth c H locs cells slots Q (F0 m (pc + 3) ls (.ref (cx_b G + ly_loc 44 0) :: rest))) : W p l e R s m args below meth c H locs cells slots Q (F0 m pc ls (.ref (cx_b G + ly_loc 9 i) :: rest)) := r_get X S (ly_ok_9 hi S.2.2.2) rfl (show vwCl[9]? = some (RX9, TX9, 61) from rfl) in_X9 44 (by decide) lk_X9_59 rfl hd kk
theorem lk_X9_62 : Cond.fieldLink RX9 62 "WhoSingsNextModel" "onesKept" "[I" ∈ gw_t := gw_mem 984 (by decide +kernel) (by decide +kernel)
theorem gf_X9_62 (X : cx_ok G p s m args meth c cc nL RX9 ret) (S : st_ok G n I J s H locs) {i : Nat} (hi : i < 1) (hd : decode cc pc = .ok (.getfield 62, 3)) (kk : W p l e R s m args below meth c H locs cells slots Q (F0 m (pc + 3) ls (.ref (cx_b G + ly_loc 45 0) :: rest))) : W p l e R s m args below meth c H locs cells slots Q (F0 m pc ls (.ref (cx_b G + ly_loc 9 i) :: rest)) := r_get X S (ly_ok_9 hi S.2.2.2) rfl (show vwCl[9]? = some (RX9, TX9, 61) from rfl) in_X9 50 (by decide) lk_X9_62 rfl hd kk
theorem lk_X9_65 : Cond.fieldLink RX9 65 "WhoSingsNextModel" "slipsKept" "[I" ∈ gw_t := gw_mem 985 (by decide +kernel) (by decide +kernel)
theorem gf_X9_65 (X : cx_ok G p s m args meth c cc nL RX9 ret) (S : st_ok G n I J s H locs) {i : Nat} (hi : i < 1) (hd : decode cc pc = .ok (.getfield 65, 3)) (kk : W p l e R s m args below meth c H locs cells slots Q (F0 m (pc + 3) ls (.ref (cx_b G + ly_loc 46 0) :: rest))) : W p l e R s m args below meth c H locs cells slots Q (F0 m pc ls (.ref (cx_b G + ly_loc 9 i) :: rest)) := r_get X S (ly_ok_9 hi S.2.2.2) rfl (show vwCl[9]? = some (RX9, TX9, 61) from rfl) in_X9 51 (by decide) lk_X9_65 rfl hd kk
theorem lk_X9_68 : Cond.fieldLink RX9 68 "WhoSingsNextModel" "slipsMany" "I" ∈ gw_t := gw_mem 986 (by decide +kernel) (by decide +kernel)
theorem gf_X9_68 (X : cx_ok G p s m args meth c cc nL RX9 ret) (S : st_ok G n I J s H locs) {i : Nat} (hi : i < 1) (hd : decode cc pc = .ok (.getfield 68, 3)) (kk : W p l e R s m args below meth c H locs cells slots Q (F0 m (pc + 3) ls (.int (J 9 i 52) :: rest))) : W p l e R s m args below meth c H locs cells slots Q (F0 m pc ls (.ref (cx_b G + ly_loc 9 i) :: rest)) := r_get X S (ly_ok_9 hi S.2.2.2) rfl (show vwCl[9]? = some (RX9, TX9, 61) from rfl) in_X9 52 (by decide) lk_X9_68 rfl hd kk
theorem lk_X9_71 : Cond.fieldLink RX9 71 "WhoSingsNextModel" "isThere" "[Z" ∈ gw_t := gw_mem 991 (by decide +kernel) (by decide +kernel)
theorem gf_X9_71 (X : cx_ok G p s m args meth c cc nL RX9 ret) (S : st_ok G n I J s H locs) {i : Nat} (hi : i < 1) (hd : decode cc pc = .ok (.getfield 71, 3)) (kk : W p l e R s m args below meth c H locs cells slots Q (F0 m (pc + 3) ls (.ref (cx_b G + ly_loc 47 0) :: rest))) : W p l e R s m args below meth c H locs cells slots Q (F0 m pc ls (.ref (cx_b G + ly_loc 9 i) :: rest)) := r_get X S (ly_ok_9 hi S.2.2.2) rfl (show vwCl[9]? = some (RX9, TX9, 61) from rfl) in_X9 57 (by decide) lk_X9_71 rfl hd kk
theorem lk_X9_75 : Cond.fieldLink RX9 75 "WhoSingsNextModel" "sorts" "[I" ∈ gw_t := gw_mem 992 (by decide +kernel) (by decide +kernel)
theorem gf_X9_75 (X : cx_ok G p s m args meth c cc nL RX9 ret) (S : st_ok G n I J s H locs) {i : Nat} (hi : i < 1) (hd : decode cc pc = .ok (.getfield 75, 3)) (kk : W p l e R s m args below meth c H locs cells slots Q (F0 m (pc + 3) ls (.ref (cx_b G + ly_loc 48 0) :: rest))) : W p l e R s m args below meth c H locs cells slots Q (F0 m pc ls (.ref (cx_b G + ly_loc 9 i) :: rest)) := r_get X S (ly_ok_9 hi S.2.2.2) rfl (show vwCl[9]? = some (RX9, TX9, 61) from rfl) in_X9 58 (by decide) lk_X9_75 rfl hd kk
theorem lk_X9_78 : Cond.fieldLink RX9 78 "WhoSingsNextModel" "sheetSize" "[I" ∈ gw_t := gw_mem 993 (by decide +kernel) (by decide +kernel)
theorem gf_X9_78 (X : cx_ok G p s m args meth c cc nL RX9 ret) (S : st_ok G n I J s H locs) {i : Nat} (hi : i < 1) (hd : decode cc pc = .ok (.getfield 78, 3)) (kk : W p l e R s m args below meth c H locs cells slots Q (F0 m (pc + 3) ls (.ref (cx_b G + ly_loc 49 0) :: rest))) : W p l e R s m args below meth c H locs cells slots Q (F0 m pc ls (.ref (cx_b G + ly_loc 9 i) :: rest)) := r_get X S (ly_ok_9 hi S.2.2.2) rfl (show vwCl[9]? = some (RX9, TX9, 61) from rfl) in_X9 59 (by decide) lk_X9_78 rfl hd kk
theorem lk_X9_81 : Cond.fieldLink RX9 81 "WhoSingsNextModel" "items" "[I" ∈ gw_t := gw_mem 994 (by decide +kernel) (by decide +kernel)
theorem gf_X9_81 (X : cx_ok G p s m args meth c cc nL RX9 ret) (S : st_ok G n I J s H locs) {i : Nat} (hi : i < 1) (hd : decode cc pc = .ok (.getfield 81, 3)) (kk : W p l e R s m args below meth c H locs cells slots Q (F0 m (pc + 3) ls (.ref (cx_b G + ly_loc 50 0) :: rest))) : W p l e R s m args below meth c H locs cells slots Q (F0 m pc ls (.ref (cx_b G + ly_loc 9 i) :: rest)) := r_get X S (ly_ok_9 hi S.2.2.2) rfl (show vwCl[9]? = some (RX9, TX9, 61) from rfl) in_X9 60 (by decide) lk_X9_81 rfl hd kk
theorem lk_X9_88 : Cond.fieldLink RX9 88 "WhoSingsNextModel" "textCount" "I" ∈ gw_t := gw_mem 937 (by decide +kernel) (by decide +kernel)
theorem gf_X9_88 (X : cx_ok G p s m args meth c cc nL RX9 ret) (S : st_ok G n I J s H locs) {i : Nat} (hi : i < 1) (hd : decode cc pc = .ok (.getfield 88, 3)) (kk : W p l e R s m args below meth c H locs cells slots Q (F0 m (pc + 3) ls (.int (J 9 i 3) :: rest))) : W p l e R s m args below meth c H locs cells slots Q (F0 m pc ls (.ref (cx_b G + ly_loc 9 i) :: rest)) := r_get X S (ly_ok_9 hi S.2.2.2) rfl (show vwCl[9]? = some (RX9, TX9, 61) from rfl) in_X9 3 (by decide) lk_X9_88 rfl hd kk
theorem lk_X9_91 : Cond.fieldLink RX9 91 "WhoSingsNextModel" "people" "I" ∈ gw_t := gw_mem 943 (by decide +kernel) (by decide +kernel)
theorem gf_X9_91 (X : cx_ok G p s m args meth c cc nL RX9 ret) (S : st_ok G n I J s H locs) {i : Nat} (hi : i < 1) (hd : decode cc pc = .ok (.getfield 91, 3)) (kk : W p l e R s m args below meth c H locs cells slots Q (F0 m (pc + 3) ls (.int (J 9 i 9) :: rest))) : W p l e R s m args below meth c H locs cells slots Q (F0 m pc ls (.ref (cx_b G + ly_loc 9 i) :: rest)) := r_get X S (ly_ok_9 hi S.2.2.2) rfl (show vwCl[9]? = some (RX9, TX9, 61) from rfl) in_X9 9 (by decide) lk_X9_91 rfl hd kk
theorem lk_X9_98 : Cond.fieldLink RX9 98 "WhoSingsNextModel" "slipCount" "I" ∈ gw_t := gw_mem 948 (by decide +kernel) (by decide +kernel)
theorem gf_X9_98 (X : cx_ok G p s m args meth c cc nL RX9 ret) (S : st_ok G n I J s H locs) {i : Nat} (hi : i < 1) (hd : decode cc pc = .ok (.getfield 98, 3)) (kk : W p l e R s m args below meth c H locs cells slots Q (F0 m (pc + 3) ls (.int (J 9 i 14) :: rest))) : W p l e R s m args below meth c H locs cells slots Q (F0 m pc ls (.ref (cx_b G + ly_loc 9 i) :: rest)) := r_get X S (ly_ok_9 hi S.2.2.2) rfl (show vwCl[9]? = some (RX9, TX9, 61) from rfl) in_X9 14 (by decide) lk_X9_98 rfl hd kk
theorem lk_X9_127 : Cond.fieldLink RX9 127 "WhoSingsNextModel" "mood" "I" ∈ gw_t := gw_mem 949 (by decide +kernel) (by decide +kernel)
theorem gf_X9_127 (X : cx_ok G p s m args meth c cc nL RX9 ret) (S : st_ok G n I J s H locs) {i : Nat} (hi : i < 1) (hd : decode cc pc = .ok (.getfield 127, 3)) (kk : W p l e R s m args below meth c H locs cells slots Q (F0 m (pc + 3) ls (.int (J 9 i 15) :: rest))) : W p l e R s m args below meth c H locs cells slots Q (F0 m pc ls (.ref (cx_b G + ly_loc 9 i) :: rest)) := r_get X S (ly_ok_9 hi S.2.2.2) rfl (show vwCl[9]? = some (RX9, TX9, 61) from rfl) in_X9 15 (by decide) lk_X9_127 rfl hd kk
theorem lk_X9_132 : Cond.fieldLink RX9 132 "WhoSingsNextModel" "taped" "I" ∈ gw_t := gw_mem 940 (by decide +kernel) (by decide +kernel)
theorem gf_X9_132 (X : cx_ok G p s m args meth c cc nL RX9 ret) (S : st_ok G n I J s H locs) {i : Nat} (hi : i < 1) (hd : decode cc pc = .ok (.getfield 132, 3)) (kk : W p l e R s m args below meth c H locs cells slots Q (F0 m (pc + 3) ls (.int (J 9 i 6) :: rest))) : W p l e R s m args below meth c H locs cells slots Q (F0 m pc ls (.ref (cx_b G + ly_loc 9 i) :: rest)) := r_get X S (ly_ok_9 hi S.2.2.2) rfl (show vwCl[9]? = some (RX9, TX9, 61) from rfl) in_X9 6 (by decide) lk_X9_132 rfl hd kk
theorem lk_X9_135 : Cond.fieldLink RX9 135 "WhoSingsNextModel" "size" "I" ∈ gw_t := gw_mem 958 (by decide +kernel) (by decide +kernel)
theorem gf_X9_135 (X : cx_ok G p s m args meth c cc nL RX9 ret) (S : st_ok G n I J s H locs) {i : Nat} (hi : i < 1) (hd : decode cc pc = .ok (.getfield 135, 3)) (kk : W p l e R s m args below meth c H locs cells slots Q (F0 m (pc + 3) ls (.int (J 9 i 24) :: rest))) : W p l e R s m args below meth c H locs cells slots Q (F0 m pc ls (.ref (cx_b G + ly_loc 9 i) :: rest)) := r_get X S (ly_ok_9 hi S.2.2.2) rfl (show vwCl[9]? = some (RX9, TX9, 61) from rfl) in_X9 24 (by decide) lk_X9_135 rfl hd kk
theorem lk_X9_138 : Cond.fieldLink RX9 138 "WhoSingsNextModel" "from" "I" ∈ gw_t := gw_mem 957 (by decide +kernel) (by decide +kernel)
theorem gf_X9_138 (X : cx_ok G p s m args meth c cc nL RX9 ret) (S : st_ok G n I J s H locs) {i : Nat} (hi : i < 1) (hd : decode cc pc = .ok (.getfield 138, 3)) (kk : W p l e R s m args below meth c H locs cells slots Q (F0 m (pc + 3) ls (.int (J 9 i 23) :: rest))) : W p l e R s m args below meth c H locs cells slots Q (F0 m pc ls (.ref (cx_b G + ly_loc 9 i) :: rest)) := r_get X S (ly_ok_9 hi S.2.2.2) rfl (show vwCl[9]? = some (RX9, TX9, 61) from rfl) in_X9 23 (by decide) lk_X9_138 rfl hd kk
theorem lk_X9_141 : Cond.fieldLink RX9 141 "WhoSingsNextModel" "here" "I" ∈ gw_t := gw_mem 959 (by decide +kernel) (by decide +kernel)
theorem gf_X9_141 (X : cx_ok G p s m args meth c cc nL RX9 ret) (S : st_ok G n I J s H locs) {i : Nat} (hi : i < 1) (hd : decode cc pc = .ok (.getfield 141, 3)) (kk : W p l e R s m args below meth c H locs cells slots Q (F0 m (pc + 3) ls (.int (J 9 i 25) :: rest))) : W p l e R s m args below meth c H locs cells slots Q (F0 m pc ls (.ref (cx_b G + ly_loc 9 i) :: rest)) := r_get X S (ly_ok_9 hi S.2.2.2) rfl (show vwCl[9]? = some (RX9, TX9, 61) from rfl) in_X9 25 (by decide) lk_X9_141 rfl hd kk
theorem lk_X9_148 : Cond.fieldLink RX9 148 "WhoSingsNextModel" "tokenAt" "I" ∈ gw_t := gw_mem 961 (by decide +kernel) (by decide +kernel)
theorem gf_X9_148 (X : cx_ok G p s m args meth c cc nL RX9 ret) (S : st_ok G n I J s H locs) {i : Nat} (hi : i < 1) (hd : decode cc pc = .ok (.getfield 148, 3)) (kk : W p l e R s m args below meth c H locs cells slots Q (F0 m (pc + 3) ls (.int (J 9 i 27) :: rest))) : W p l e R s m args below meth c H locs cells slots Q (F0 m pc ls (.ref (cx_b G + ly_loc 9 i) :: rest)) := r_get X S (ly_ok_9 hi S.2.2.2) rfl (show vwCl[9]? = some (RX9, TX9, 61) from rfl) in_X9 27 (by decide) lk_X9_148 rfl hd kk
theorem lk_X9_151 : Cond.fieldLink RX9 151 "WhoSingsNextModel" "token" "I" ∈ gw_t := gw_mem 960 (by decide +kernel) (by decide +kernel)
theorem gf_X9_151 (X : cx_ok G p s m args meth c cc nL RX9 ret) (S : st_ok G n I J s H locs) {i : Nat} (hi : i < 1) (hd : decode cc pc = .ok (.getfield 151, 3)) (kk : W p l e R s m args below meth c H locs cells slots Q (F0 m (pc + 3) ls (.int (J 9 i 26) :: rest))) : W p l e R s m args below meth c H locs cells slots Q (F0 m pc ls (.ref (cx_b G + ly_loc 9 i) :: rest)) := r_get X S (ly_ok_9 hi S.2.2.2) rfl (show vwCl[9]? = some (RX9, TX9, 61) from rfl) in_X9 26 (by decide) lk_X9_151 rfl hd kk
theorem lk_X9_162 : Cond.fieldLink RX9 162 "WhoSingsNextModel" "tokenWorth" "J" ∈ gw_t := gw_mem 962 (by decide +kernel) (by decide +kernel)
theorem gf_X9_162 (X : cx_ok G p s m args meth c cc nL RX9 ret) (S : st_ok G n I J s H locs) {i : Nat} (hi : i < 1) (hd : decode cc pc = .ok (.getfield 162, 3)) (kk : W p l e R s m args below meth c H locs cells slots Q (F0 m (pc + 3) ls (.long (J 9 i 28).toInt64 :: rest))) : W p l e R s m args below meth c H locs cells slots Q (F0 m pc ls (.ref (cx_b G + ly_loc 9 i) :: rest)) := r_get X S (ly_ok_9 hi S.2.2.2) rfl (show vwCl[9]? = some (RX9, TX9, 61) from rfl) in_X9 28 (by decide) lk_X9_162 rfl hd kk
theorem lk_X9_166 : Cond.fieldLink RX9 166 "WhoSingsNextModel" "bad" "Z" ∈ gw_t := gw_mem 964 (by decide +kernel) (by decide +kernel)
theorem gf_X9_166 (X : cx_ok G p s m args meth c cc nL RX9 ret) (S : st_ok G n I J s H locs) {i : Nat} (hi : i < 1) (hd : decode cc pc = .ok (.getfield 166, 3)) (kk : W p l e R s m args below meth c H locs cells slots Q (F0 m (pc + 3) ls (.int (J 9 i 30) :: rest))) : W p l e R s m args below meth c H locs cells slots Q (F0 m pc ls (.ref (cx_b G + ly_loc 9 i) :: rest)) := r_get X S (ly_ok_9 hi S.2.2.2) rfl (show vwCl[9]? = some (RX9, TX9, 61) from rfl) in_X9 30 (by decide) lk_X9_166 rfl hd kk
theorem lk_X9_170 : Cond.fieldLink RX9 170 "WhoSingsNextModel" "fault" "I" ∈ gw_t := gw_mem 965 (by decide +kernel) (by decide +kernel)
theorem gf_X9_170 (X : cx_ok G p s m args meth c cc nL RX9 ret) (S : st_ok G n I J s H locs) {i : Nat} (hi : i < 1) (hd : decode cc pc = .ok (.getfield 170, 3)) (kk : W p l e R s m args below meth c H locs cells slots Q (F0 m (pc + 3) ls (.int (J 9 i 31) :: rest))) : W p l e R s m args below meth c H locs cells slots Q (F0 m pc ls (.ref (cx_b G + ly_loc 9 i) :: rest)) := r_get X S (ly_ok_9 hi S.2.2.2) rfl (show vwCl[9]? = some (RX9, TX9, 61) from rfl) in_X9 31 (by decide) lk_X9_170 rfl hd kk
theorem lk_X9_177 : Cond.fieldLink RX9 177 "WhoSingsNextModel" "open" "I" ∈ gw_t := gw_mem 963 (by decide +kernel) (by decide +kernel)
theorem gf_X9_177 (X : cx_ok G p s m args meth c cc nL RX9 ret) (S : st_ok G n I J s H locs) {i : Nat} (hi : i < 1) (hd : decode cc pc = .ok (.getfield 177, 3)) (kk : W p l e R s m args below meth c H locs cells slots Q (F0 m (pc + 3) ls (.int (J 9 i 29) :: rest))) : W p l e R s m args below meth c H locs cells slots Q (F0 m pc ls (.ref (cx_b G + ly_loc 9 i) :: rest)) := r_get X S (ly_ok_9 hi S.2.2.2) rfl (show vwCl[9]? = some (RX9, TX9, 61) from rfl) in_X9 29 (by decide) lk_X9_177 rfl hd kk
theorem lk_X9_190 : Cond.fieldLink RX9 190 "WhoSingsNextModel" "ofMinute" "I" ∈ gw_t := gw_mem 951 (by decide +kernel) (by decide +kernel)
theorem gf_X9_190 (X : cx_ok G p s m args meth c cc nL RX9 ret) (S : st_ok G n I J s H locs) {i : Nat} (hi : i < 1) (hd : decode cc pc = .ok (.getfield 190, 3)) (kk : W p l e R s m args below meth c H locs cells slots Q (F0 m (pc + 3) ls (.int (J 9 i 17) :: rest))) : W p l e R s m args below meth c H locs cells slots Q (F0 m pc ls (.ref (cx_b G + ly_loc 9 i) :: rest)) := r_get X S (ly_ok_9 hi S.2.2.2) rfl (show vwCl[9]? = some (RX9, TX9, 61) from rfl) in_X9 17 (by decide) lk_X9_190 rfl hd kk
theorem lk_X9_193 : Cond.fieldLink RX9 193 "WhoSingsNextModel" "ofWaited" "I" ∈ gw_t := gw_mem 952 (by decide +kernel) (by decide +kernel)
theorem gf_X9_193 (X : cx_ok G p s m args meth c cc nL RX9 ret) (S : st_ok G n I J s H locs) {i : Nat} (hi : i < 1) (hd : decode cc pc = .ok (.getfield 193, 3)) (kk : W p l e R s m args below meth c H locs cells slots Q (F0 m (pc + 3) ls (.int (J 9 i 18) :: rest))) : W p l e R s m args below meth c H locs cells slots Q (F0 m pc ls (.ref (cx_b G + ly_loc 9 i) :: rest)) := r_get X S (ly_ok_9 hi S.2.2.2) rfl (show vwCl[9]? = some (RX9, TX9, 61) from rfl) in_X9 18 (by decide) lk_X9_193 rfl hd kk
theorem lk_X9_196 : Cond.fieldLink RX9 196 "WhoSingsNextModel" "ofSung" "I" ∈ gw_t := gw_mem 953 (by decide +kernel) (by decide +kernel)
theorem gf_X9_196 (X : cx_ok G p s m args meth c cc nL RX9 ret) (S : st_ok G n I J s H locs) {i : Nat} (hi : i < 1) (hd : decode cc pc = .ok (.getfield 196, 3)) (kk : W p l e R s m args below meth c H locs cells slots Q (F0 m (pc + 3) ls (.int (J 9 i 19) :: rest))) : W p l e R s m args below meth c H locs cells slots Q (F0 m pc ls (.ref (cx_b G + ly_loc 9 i) :: rest)) := r_get X S (ly_ok_9 hi S.2.2.2) rfl (show vwCl[9]? = some (RX9, TX9, 61) from rfl) in_X9 19 (by decide) lk_X9_196 rfl hd kk
theorem lk_X9_199 : Cond.fieldLink RX9 199 "WhoSingsNextModel" "ofSort" "I" ∈ gw_t := gw_mem 954 (by decide +kernel) (by decide +kernel)
theorem gf_X9_199 (X : cx_ok G p s m args meth c cc nL RX9 ret) (S : st_ok G n I J s H locs) {i : Nat} (hi : i < 1) (hd : decode cc pc = .ok (.getfield 199, 3)) (kk : W p l e R s m args below meth c H locs cells slots Q (F0 m (pc + 3) ls (.int (J 9 i 20) :: rest))) : W p l e R s m args below meth c H locs cells slots Q (F0 m pc ls (.ref (cx_b G + ly_loc 9 i) :: rest)) := r_get X S (ly_ok_9 hi S.2.2.2) rfl (show vwCl[9]? = some (RX9, TX9, 61) from rfl) in_X9 20 (by decide) lk_X9_199 rfl hd kk
theorem lk_X9_202 : Cond.fieldLink RX9 202 "WhoSingsNextModel" "ofBar" "I" ∈ gw_t := gw_mem 955 (by decide +kernel) (by decide +kernel)
theorem gf_X9_202 (X : cx_ok G p s m args meth c cc nL RX9 ret) (S : st_ok G n I J s H locs) {i : Nat} (hi : i < 1) (hd : decode cc pc = .ok (.getfield 202, 3)) (kk : W p l e R s m args below meth c H locs cells slots Q (F0 m (pc + 3) ls (.int (J 9 i 21) :: rest))) : W p l e R s m args below meth c H locs cells slots Q (F0 m pc ls (.ref (cx_b G + ly_loc 9 i) :: rest)) := r_get X S (ly_ok_9 hi S.2.2.2) rfl (show vwCl[9]? = some (RX9, TX9, 61) from rfl) in_X9 21 (by decide) lk_X9_202 rfl hd kk
theorem lk_X9_205 : Cond.fieldLink RX9 205 "WhoSingsNextModel" "ofMood" "I" ∈ gw_t := gw_mem 956 (by decide +kernel) (by decide +kernel)
theorem gf_X9_205 (X : cx_ok G p s m args meth c cc nL RX9 ret) (S : st_ok G n I J s H locs) {i : Nat} (hi : i < 1) (hd : decode cc pc = .ok (.getfield 205, 3)) (kk : W p l e R s m args below meth c H locs cells slots Q (F0 m (pc + 3) ls (.int (J 9 i 22) :: rest))) : W p l e R s m args below meth c H locs cells slots Q (F0 m pc ls (.ref (cx_b G + ly_loc 9 i) :: rest)) := r_get X S (ly_ok_9 hi S.2.2.2) rfl (show vwCl[9]? = some (RX9, TX9, 61) from rfl) in_X9 22 (by decide) lk_X9_205 rfl hd kk
theorem lk_X9_249 : Cond.fieldLink RX9 249 "WhoSingsNextModel" "rule" "I" ∈ gw_t := gw_mem 938 (by decide +kernel) (by decide +kernel)
theorem gf_X9_249 (X : cx_ok G p s m args meth c cc nL RX9 ret) (S : st_ok G n I J s H locs) {i : Nat} (hi : i < 1) (hd : decode cc pc = .ok (.getfield 249, 3)) (kk : W p l e R s m args below meth c H locs cells slots Q (F0 m (pc + 3) ls (.int (J 9 i 4) :: rest))) : W p l e R s m args below meth c H locs cells slots Q (F0 m pc ls (.ref (cx_b G + ly_loc 9 i) :: rest)) := r_get X S (ly_ok_9 hi S.2.2.2) rfl (show vwCl[9]? = some (RX9, TX9, 61) from rfl) in_X9 4 (by decide) lk_X9_249 rfl hd kk
theorem lk_X9_252 : Cond.fieldLink RX9 252 "WhoSingsNextModel" "minute" "I" ∈ gw_t := gw_mem 966 (by decide +kernel) (by decide +kernel)
theorem gf_X9_252 (X : cx_ok G p s m args meth c cc nL RX9 ret) (S : st_ok G n I J s H locs) {i : Nat} (hi : i < 1) (hd : decode cc pc = .ok (.getfield 252, 3)) (kk : W p l e R s m args below meth c H locs cells slots Q (F0 m (pc + 3) ls (.int (J 9 i 32) :: rest))) : W p l e R s m args below meth c H locs cells slots Q (F0 m pc ls (.ref (cx_b G + ly_loc 9 i) :: rest)) := r_get X S (ly_ok_9 hi S.2.2.2) rfl (show vwCl[9]? = some (RX9, TX9, 61) from rfl) in_X9 32 (by decide) lk_X9_252 rfl hd kk
theorem lk_X9_255 : Cond.fieldLink RX9 255 "WhoSingsNextModel" "bar" "I" ∈ gw_t := gw_mem 968 (by decide +kernel) (by decide +kernel)
theorem gf_X9_255 (X : cx_ok G p s m args meth c cc nL RX9 ret) (S : st_ok G n I J s H locs) {i : Nat} (hi : i < 1) (hd : decode cc pc = .ok (.getfield 255, 3)) (kk : W p l e R s m args below meth c H locs cells slots Q (F0 m (pc + 3) ls (.int (J 9 i 34) :: rest))) : W p l e R s m args below meth c H locs cells slots Q (F0 m pc ls (.ref (cx_b G + ly_loc 9 i) :: rest)) := r_get X S (ly_ok_9 hi S.2.2.2) rfl (show vwCl[9]? = some (RX9, TX9, 61) from rfl) in_X9 34 (by decide) lk_X9_255 rfl hd kk
theorem lk_X9_258 : Cond.fieldLink RX9 258 "WhoSingsNextModel" "moodNow" "I" ∈ gw_t := gw_mem 967 (by decide +kernel) (by decide +kernel)
theorem gf_X9_258 (X : cx_ok G p s m args meth c cc nL RX9 ret) (S : st_ok G n I J s H locs) {i : Nat} (hi : i < 1) (hd : decode cc pc = .ok (.getfield 258, 3)) (kk : W p l e R s m args below meth c H locs cells slots Q (F0 m (pc + 3) ls (.int (J 9 i 33) :: rest))) : W p l e R s m args below meth c H locs cells slots Q (F0 m pc ls (.ref (cx_b G + ly_loc 9 i) :: rest)) := r_get X S (ly_ok_9 hi S.2.2.2) rfl (show vwCl[9]? = some (RX9, TX9, 61) from rfl) in_X9 33 (by decide) lk_X9_258 rfl hd kk
theorem lk_X9_265 : Cond.fieldLink RX9 265 "WhoSingsNextModel" "there" "I" ∈ gw_t := gw_mem 969 (by decide +kernel) (by decide +kernel)
theorem gf_X9_265 (X : cx_ok G p s m args meth c cc nL RX9 ret) (S : st_ok G n I J s H locs) {i : Nat} (hi : i < 1) (hd : decode cc pc = .ok (.getfield 265, 3)) (kk : W p l e R s m args below meth c H locs cells slots Q (F0 m (pc + 3) ls (.int (J 9 i 35) :: rest))) : W p l e R s m args below meth c H locs cells slots Q (F0 m pc ls (.ref (cx_b G + ly_loc 9 i) :: rest)) := r_get X S (ly_ok_9 hi S.2.2.2) rfl (show vwCl[9]? = some (RX9, TX9, 61) from rfl) in_X9 35 (by decide) lk_X9_265 rfl hd kk
theorem lk_X9_268 : Cond.fieldLink RX9 268 "WhoSingsNextModel" "sungMany" "I" ∈ gw_t := gw_mem 970 (by decide +kernel) (by decide +kernel)
theorem gf_X9_268 (X : cx_ok G p s m args meth c cc nL RX9 ret) (S : st_ok G n I J s H locs) {i : Nat} (hi : i < 1) (hd : decode cc pc = .ok (.getfield 268, 3)) (kk : W p l e R s m args below meth c H locs cells slots Q (F0 m (pc + 3) ls (.int (J 9 i 36) :: rest))) : W p l e R s m args below meth c H locs cells slots Q (F0 m pc ls (.ref (cx_b G + ly_loc 9 i) :: rest)) := r_get X S (ly_ok_9 hi S.2.2.2) rfl (show vwCl[9]? = some (RX9, TX9, 61) from rfl) in_X9 36 (by decide) lk_X9_268 rfl hd kk
theorem lk_X9_271 : Cond.fieldLink RX9 271 "WhoSingsNextModel" "called" "I" ∈ gw_t := gw_mem 973 (by decide +kernel) (by decide +kernel)
theorem gf_X9_271 (X : cx_ok G p s m args meth c cc nL RX9 ret) (S : st_ok G n I J s H locs) {i : Nat} (hi : i < 1) (hd : decode cc pc = .ok (.getfield 271, 3)) (kk : W p l e R s m args below meth c H locs cells slots Q (F0 m (pc + 3) ls (.int (J 9 i 39) :: rest))) : W p l e R s m args below meth c H locs cells slots Q (F0 m pc ls (.ref (cx_b G + ly_loc 9 i) :: rest)) := r_get X S (ly_ok_9 hi S.2.2.2) rfl (show vwCl[9]? = some (RX9, TX9, 61) from rfl) in_X9 39 (by decide) lk_X9_271 rfl hd kk
theorem lk_X9_274 : Cond.fieldLink RX9 274 "WhoSingsNextModel" "sungSet" "I" ∈ gw_t := gw_mem 974 (by decide +kernel) (by decide +kernel)
theorem gf_X9_274 (X : cx_ok G p s m args meth c cc nL RX9 ret) (S : st_ok G n I J s H locs) {i : Nat} (hi : i < 1) (hd : decode cc pc = .ok (.getfield 274, 3)) (kk : W p l e R s m args below meth c H locs cells slots Q (F0 m (pc + 3) ls (.int (J 9 i 40) :: rest))) : W p l e R s m args below meth c H locs cells slots Q (F0 m pc ls (.ref (cx_b G + ly_loc 9 i) :: rest)) := r_get X S (ly_ok_9 hi S.2.2.2) rfl (show vwCl[9]? = some (RX9, TX9, 61) from rfl) in_X9 40 (by decide) lk_X9_274 rfl hd kk
theorem lk_X9_315 : Cond.fieldLink RX9 315 "WhoSingsNextModel" "bestBar" "I" ∈ gw_t := gw_mem 980 (by decide +kernel) (by decide +kernel)
theorem gf_X9_315 (X : cx_ok G p s m args meth c cc nL RX9 ret) (S : st_ok G n I J s H locs) {i : Nat} (hi : i < 1) (hd : decode cc pc = .ok (.getfield 315, 3)) (kk : W p l e R s m args below meth c H locs cells slots Q (F0 m (pc + 3) ls (.int (J 9 i 46) :: rest))) : W p l e R s m args below meth c H locs cells slots Q (F0 m pc ls (.ref (cx_b G + ly_loc 9 i) :: rest)) := r_get X S (ly_ok_9 hi S.2.2.2) rfl (show vwCl[9]? = some (RX9, TX9, 61) from rfl) in_X9 46 (by decide) lk_X9_315 rfl hd kk
theorem lk_X9_318 : Cond.fieldLink RX9 318 "WhoSingsNextModel" "bestLeft" "I" ∈ gw_t := gw_mem 981 (by decide +kernel) (by decide +kernel)
theorem gf_X9_318 (X : cx_ok G p s m args meth c cc nL RX9 ret) (S : st_ok G n I J s H locs) {i : Nat} (hi : i < 1) (hd : decode cc pc = .ok (.getfield 318, 3)) (kk : W p l e R s m args below meth c H locs cells slots Q (F0 m (pc + 3) ls (.int (J 9 i 47) :: rest))) : W p l e R s m args below meth c H locs cells slots Q (F0 m pc ls (.ref (cx_b G + ly_loc 9 i) :: rest)) := r_get X S (ly_ok_9 hi S.2.2.2) rfl (show vwCl[9]? = some (RX9, TX9, 61) from rfl) in_X9 47 (by decide) lk_X9_318 rfl hd kk
theorem lk_X9_321 : Cond.fieldLink RX9 321 "WhoSingsNextModel" "bestSung" "I" ∈ gw_t := gw_mem 982 (by decide +kernel) (by decide +kernel)
theorem gf_X9_321 (X : cx_ok G p s m args meth c cc nL RX9 ret) (S : st_ok G n I J s H locs) {i : Nat} (hi : i < 1) (hd : decode cc pc = .ok (.getfield 321, 3)) (kk : W p l e R s m args below meth c H locs cells slots Q (F0 m (pc + 3) ls (.int (J 9 i 48) :: rest))) : W p l e R s m args below meth c H locs cells slots Q (F0 m pc ls (.ref (cx_b G + ly_loc 9 i) :: rest)) := r_get X S (ly_ok_9 hi S.2.2.2) rfl (show vwCl[9]? = some (RX9, TX9, 61) from rfl) in_X9 48 (by decide) lk_X9_321 rfl hd kk
theorem lk_X9_327 : Cond.fieldLink RX9 327 "WhoSingsNextModel" "bestRow" "I" ∈ gw_t := gw_mem 979 (by decide +kernel) (by decide +kernel)
theorem gf_X9_327 (X : cx_ok G p s m args meth c cc nL RX9 ret) (S : st_ok G n I J s H locs) {i : Nat} (hi : i < 1) (hd : decode cc pc = .ok (.getfield 327, 3)) (kk : W p l e R s m args below meth c H locs cells slots Q (F0 m (pc + 3) ls (.int (J 9 i 45) :: rest))) : W p l e R s m args below meth c H locs cells slots Q (F0 m pc ls (.ref (cx_b G + ly_loc 9 i) :: rest)) := r_get X S (ly_ok_9 hi S.2.2.2) rfl (show vwCl[9]? = some (RX9, TX9, 61) from rfl) in_X9 45 (by decide) lk_X9_327 rfl hd kk
theorem lk_X9_342 : Cond.fieldLink RX9 342 "WhoSingsNextModel" "deskRow" "I" ∈ gw_t := gw_mem 983 (by decide +kernel) (by decide +kernel)
theorem gf_X9_342 (X : cx_ok G p s m args meth c cc nL RX9 ret) (S : st_ok G n I J s H locs) {i : Nat} (hi : i < 1) (hd : decode cc pc = .ok (.getfield 342, 3)) (kk : W p l e R s m args below meth c H locs cells slots Q (F0 m (pc + 3) ls (.int (J 9 i 49) :: rest))) : W p l e R s m args below meth c H locs cells slots Q (F0 m pc ls (.ref (cx_b G + ly_loc 9 i) :: rest)) := r_get X S (ly_ok_9 hi S.2.2.2) rfl (show vwCl[9]? = some (RX9, TX9, 61) from rfl) in_X9 49 (by decide) lk_X9_342 rfl hd kk
theorem lk_X9_371 : Cond.fieldLink RX9 371 "WhoSingsNextModel" "peopleKept" "I" ∈ gw_t := gw_mem 987 (by decide +kernel) (by decide +kernel)
theorem gf_X9_371 (X : cx_ok G p s m args meth c cc nL RX9 ret) (S : st_ok G n I J s H locs) {i : Nat} (hi : i < 1) (hd : decode cc pc = .ok (.getfield 371, 3)) (kk : W p l e R s m args below meth c H locs cells slots Q (F0 m (pc + 3) ls (.int (J 9 i 53) :: rest))) : W p l e R s m args below meth c H locs cells slots Q (F0 m pc ls (.ref (cx_b G + ly_loc 9 i) :: rest)) := r_get X S (ly_ok_9 hi S.2.2.2) rfl (show vwCl[9]? = some (RX9, TX9, 61) from rfl) in_X9 53 (by decide) lk_X9_371 rfl hd kk
theorem lk_X9_374 : Cond.fieldLink RX9 374 "WhoSingsNextModel" "moodKept" "I" ∈ gw_t := gw_mem 988 (by decide +kernel) (by decide +kernel)
theorem gf_X9_374 (X : cx_ok G p s m args meth c cc nL RX9 ret) (S : st_ok G n I J s H locs) {i : Nat} (hi : i < 1) (hd : decode cc pc = .ok (.getfield 374, 3)) (kk : W p l e R s m args below meth c H locs cells slots Q (F0 m (pc + 3) ls (.int (J 9 i 54) :: rest))) : W p l e R s m args below meth c H locs cells slots Q (F0 m pc ls (.ref (cx_b G + ly_loc 9 i) :: rest)) := r_get X S (ly_ok_9 hi S.2.2.2) rfl (show vwCl[9]? = some (RX9, TX9, 61) from rfl) in_X9 54 (by decide) lk_X9_374 rfl hd kk
theorem lk_X9_377 : Cond.fieldLink RX9 377 "WhoSingsNextModel" "tillKept" "I" ∈ gw_t := gw_mem 989 (by decide +kernel) (by decide +kernel)
theorem gf_X9_377 (X : cx_ok G p s m args meth c cc nL RX9 ret) (S : st_ok G n I J s H locs) {i : Nat} (hi : i < 1) (hd : decode cc pc = .ok (.getfield 377, 3)) (kk : W p l e R s m args below meth c H locs cells slots Q (F0 m (pc + 3) ls (.int (J 9 i 55) :: rest))) : W p l e R s m args below meth c H locs cells slots Q (F0 m pc ls (.ref (cx_b G + ly_loc 9 i) :: rest)) := r_get X S (ly_ok_9 hi S.2.2.2) rfl (show vwCl[9]? = some (RX9, TX9, 61) from rfl) in_X9 55 (by decide) lk_X9_377 rfl hd kk
theorem lk_X9_380 : Cond.fieldLink RX9 380 "WhoSingsNextModel" "ruleKept" "I" ∈ gw_t := gw_mem 990 (by decide +kernel) (by decide +kernel)
theorem gf_X9_380 (X : cx_ok G p s m args meth c cc nL RX9 ret) (S : st_ok G n I J s H locs) {i : Nat} (hi : i < 1) (hd : decode cc pc = .ok (.getfield 380, 3)) (kk : W p l e R s m args below meth c H locs cells slots Q (F0 m (pc + 3) ls (.int (J 9 i 56) :: rest))) : W p l e R s m args below meth c H locs cells slots Q (F0 m pc ls (.ref (cx_b G + ly_loc 9 i) :: rest)) := r_get X S (ly_ok_9 hi S.2.2.2) rfl (show vwCl[9]? = some (RX9, TX9, 61) from rfl) in_X9 56 (by decide) lk_X9_380 rfl hd kk
theorem pf_X0_34 (X : cx_ok G p s m args meth c cc nL RX0 ret) (S : st_ok G n I J s H locs) {i : Nat} (hi : i < 9) {v : Int32} (hv : v ≠ -1) (hd : decode cc pc = .ok (.putfield 34, 3)) (kk : ∀ (I1 : mm_T) (H1 : Heap) (locs1 : List Loc), I1 = mm_up I 0 i 1 v → st_ok G n I1 J s H1 locs1 → W p l e R s m args below meth c H1 locs1 cells slots Q (F0 m (pc + 3) ls rest)) : W p l e R s m args below meth c H locs cells slots Q (F0 m pc ls (.ref (cx_b G + ly_loc 7 v.toNatClampNeg) :: .ref (cx_b G + ly_loc 0 i) :: rest)) := r_putI X S (ly_ok_0 hi S.2.2.2) rfl rfl (show vwCl[0]? = some (RX0, TX0, 16) from rfl) in_X0 tyX0_ok nmX0 1 (by decide) (Or.inl lk_X0_34) rfl rfl rfl (Nat.le_of_ble_eq_true rfl) (by show Sum.inr (0, _) = Sum.inr (0, _); simp only [upd, ly_tx, if_true, if_neg hv]; rfl) hd kk
theorem pf_X0_44 (X : cx_ok G p s m args meth c cc nL RX0 ret) (S : st_ok G n I J s H locs) {i : Nat} (hi : i < 9) {v : Int32} (hd : decode cc pc = .ok (.putfield 44, 3)) (kk : ∀ (I1 : mm_T) (H1 : Heap) (locs1 : List Loc), I1 = mm_up I 0 i 7 v → st_ok G n I1 J s H1 locs1 → W p l e R s m args below meth c H1 locs1 cells slots Q (F0 m (pc + 3) ls rest)) : W p l e R s m args below meth c H locs cells slots Q (F0 m pc ls (.int v :: .ref (cx_b G + ly_loc 0 i) :: rest)) := r_putI X S (ly_ok_0 hi S.2.2.2) rfl rfl (show vwCl[0]? = some (RX0, TX0, 16) from rfl) in_X0 tyX0_ok nmX0 7 (by decide) (Or.inl lk_X0_44) rfl rfl rfl (Nat.le_of_ble_eq_true rfl) rfl hd kk
theorem pf_X0_48 (X : cx_ok G p s m args meth c cc nL RX0 ret) (S : st_ok G n I J s H locs) {i : Nat} (hi : i < 9) {v : Int32} (hd : decode cc pc = .ok (.putfield 48, 3)) (kk : ∀ (I1 : mm_T) (H1 : Heap) (locs1 : List Loc), I1 = mm_up I 0 i 9 v → st_ok G n I1 J s H1 locs1 → W p l e R s m args below meth c H1 locs1 cells slots Q (F0 m (pc + 3) ls rest)) : W p l e R s m args below meth c H locs cells slots Q (F0 m pc ls (.int v :: .ref (cx_b G + ly_loc 0 i) :: rest)) := r_putI X S (ly_ok_0 hi S.2.2.2) rfl rfl (show vwCl[0]? = some (RX0, TX0, 16) from rfl) in_X0 tyX0_ok nmX0 9 (by decide) (Or.inl lk_X0_48) rfl rfl rfl (Nat.le_of_ble_eq_true rfl) rfl hd kk
theorem pf_X0_51 (X : cx_ok G p s m args meth c cc nL RX0 ret) (S : st_ok G n I J s H locs) {i : Nat} (hi : i < 9) {v : Int32} (hd : decode cc pc = .ok (.putfield 51, 3)) (kk : ∀ (I1 : mm_T) (H1 : Heap) (locs1 : List Loc), I1 = mm_up I 0 i 10 v → st_ok G n I1 J s H1 locs1 → W p l e R s m args below meth c H1 locs1 cells slots Q (F0 m (pc + 3) ls rest)) : W p l e R s m args below meth c H locs cells slots Q (F0 m pc ls (.int v :: .ref (cx_b G + ly_loc 0 i) :: rest)) := r_putI X S (ly_ok_0 hi S.2.2.2) rfl rfl (show vwCl[0]? = some (RX0, TX0, 16) from rfl) in_X0 tyX0_ok nmX0 10 (by decide) (Or.inl lk_X0_51) rfl rfl rfl (Nat.le_of_ble_eq_true rfl) rfl hd kk
theorem pf_X0_59 (X : cx_ok G p s m args meth c cc nL RX0 ret) (S : st_ok G n I J s H locs) {i : Nat} (hi : i < 9) {v : Int32} (hd : decode cc pc = .ok (.putfield 59, 3)) (kk : ∀ (I1 : mm_T) (H1 : Heap) (locs1 : List Loc), I1 = mm_up I 0 i 11 v → st_ok G n I1 J s H1 locs1 → W p l e R s m args below meth c H1 locs1 cells slots Q (F0 m (pc + 3) ls rest)) : W p l e R s m args below meth c H locs cells slots Q (F0 m pc ls (.int v :: .ref (cx_b G + ly_loc 0 i) :: rest)) := r_putI X S (ly_ok_0 hi S.2.2.2) rfl rfl (show vwCl[0]? = some (RX0, TX0, 16) from rfl) in_X0 tyX0_ok nmX0 11 (by decide) (Or.inl lk_X0_59) rfl rfl rfl (Nat.le_of_ble_eq_true rfl) rfl hd kk
theorem pf_X0_60 (X : cx_ok G p s m args meth c cc nL RX0 ret) (S : st_ok G n I J s H locs) {i : Nat} (hi : i < 9) {v : Int32} (hd : decode cc pc = .ok (.putfield 60, 3)) (kk : ∀ (I1 : mm_T) (H1 : Heap) (locs1 : List Loc), I1 = mm_up I 0 i 12 v → st_ok G n I1 J s H1 locs1 → W p l e R s m args below meth c H1 locs1 cells slots Q (F0 m (pc + 3) ls rest)) : W p l e R s m args below meth c H locs cells slots Q (F0 m pc ls (.int v :: .ref (cx_b G + ly_loc 0 i) :: rest)) := r_putI X S (ly_ok_0 hi S.2.2.2) rfl rfl (show vwCl[0]? = some (RX0, TX0, 16) from rfl) in_X0 tyX0_ok nmX0 12 (by decide) (Or.inl lk_X0_60) rfl rfl rfl (Nat.le_of_ble_eq_true rfl) rfl hd kk
theorem pf_X0_63 (X : cx_ok G p s m args meth c cc nL RX0 ret) (S : st_ok G n I J s H locs) {i : Nat} (hi : i < 9) {v : Int32} (hd : decode cc pc = .ok (.putfield 63, 3)) (kk : ∀ (I1 : mm_T) (H1 : Heap) (locs1 : List Loc), I1 = mm_up I 0 i 13 v → st_ok G n I1 J s H1 locs1 → W p l e R s m args below meth c H1 locs1 cells slots Q (F0 m (pc + 3) ls rest)) : W p l e R s m args below meth c H locs cells slots Q (F0 m pc ls (.int v :: .ref (cx_b G + ly_loc 0 i) :: rest)) := r_putI X S (ly_ok_0 hi S.2.2.2) rfl rfl (show vwCl[0]? = some (RX0, TX0, 16) from rfl) in_X0 tyX0_ok nmX0 13 (by decide) (Or.inl lk_X0_63) rfl rfl rfl (Nat.le_of_ble_eq_true rfl) rfl hd kk
theorem pf_X0_66 (X : cx_ok G p s m args meth c cc nL RX0 ret) (S : st_ok G n I J s H locs) {i : Nat} (hi : i < 9) {v : Int32} (hd : decode cc pc = .ok (.putfield 66, 3)) (kk : ∀ (I1 : mm_T) (H1 : Heap) (locs1 : List Loc), I1 = mm_up I 0 i 14 v → st_ok G n I1 J s H1 locs1 → W p l e R s m args below meth c H1 locs1 cells slots Q (F0 m (pc + 3) ls rest)) : W p l e R s m args below meth c H locs cells slots Q (F0 m pc ls (.int v :: .ref (cx_b G + ly_loc 0 i) :: rest)) := r_putI X S (ly_ok_0 hi S.2.2.2) rfl rfl (show vwCl[0]? = some (RX0, TX0, 16) from rfl) in_X0 tyX0_ok nmX0 14 (by decide) (Or.inl lk_X0_66) rfl rfl rfl (Nat.le_of_ble_eq_true rfl) rfl hd kk
theorem pf_X0_72 (X : cx_ok G p s m args meth c cc nL RX0 ret) (S : st_ok G n I J s H locs) {i : Nat} (hi : i < 9) {v : Int32} (hd : decode cc pc = .ok (.putfield 72, 3)) (kk : ∀ (I1 : mm_T) (H1 : Heap) (locs1 : List Loc), I1 = mm_up I 0 i 15 v → st_ok G n I1 J s H1 locs1 → W p l e R s m args below meth c H1 locs1 cells slots Q (F0 m (pc + 3) ls rest)) : W p l e R s m args below meth c H locs cells slots Q (F0 m pc ls (.int v :: .ref (cx_b G + ly_loc 0 i) :: rest)) := r_putI X S (ly_ok_0 hi S.2.2.2) rfl rfl (show vwCl[0]? = some (RX0, TX0, 16) from rfl) in_X0 tyX0_ok nmX0 15 (by decide) (Or.inl lk_X0_72) rfl rfl rfl (Nat.le_of_ble_eq_true rfl) rfl hd kk
theorem pf_X1_23 (X : cx_ok G p s m args meth c cc nL RX1 ret) (S : st_ok G n I J s H locs) {i : Nat} (hi : i < 2) {v : Int32} (hd : decode cc pc = .ok (.putfield 23, 3)) (kk : ∀ (I1 : mm_T) (H1 : Heap) (locs1 : List Loc), I1 = mm_up I 1 i 5 v → st_ok G n I1 J s H1 locs1 → W p l e R s m args below meth c H1 locs1 cells slots Q (F0 m (pc + 3) ls rest)) : W p l e R s m args below meth c H locs cells slots Q (F0 m pc ls (.int v :: .ref (cx_b G + ly_loc 1 i) :: rest)) := r_putI X S (ly_ok_1 hi S.2.2.2) rfl rfl (show vwCl[1]? = some (RX1, TX1, 8) from rfl) in_X1 tyX1_ok nmX1 5 (by decide) (Or.inl lk_X1_23) rfl rfl rfl (Nat.le_of_ble_eq_true rfl) rfl hd kk
theorem pf_X1_29 (X : cx_ok G p s m args meth c cc nL RX1 ret) (S : st_ok G n I J s H locs) {i : Nat} (hi : i < 2) {v : Int32} (hd : decode cc pc = .ok (.putfield 29, 3)) (kk : ∀ (I1 : mm_T) (H1 : Heap) (locs1 : List Loc), I1 = mm_up I 1 i 2 v → st_ok G n I1 J s H1 locs1 → W p l e R s m args below meth c H1 locs1 cells slots Q (F0 m (pc + 3) ls rest)) : W p l e R s m args below meth c H locs cells slots Q (F0 m pc ls (.int v :: .ref (cx_b G + ly_loc 1 i) :: rest)) := r_putI X S (ly_ok_1 hi S.2.2.2) rfl rfl (show vwCl[1]? = some (RX1, TX1, 8) from rfl) in_X1 tyX1_ok nmX1 2 (by decide) (Or.inl lk_X1_29) rfl rfl rfl (Nat.le_of_ble_eq_true rfl) rfl hd kk
theorem pf_X1_32 (X : cx_ok G p s m args meth c cc nL RX1 ret) (S : st_ok G n I J s H locs) {i : Nat} (hi : i < 2) {v : Int32} (hd : decode cc pc = .ok (.putfield 32, 3)) (kk : ∀ (I1 : mm_T) (H1 : Heap) (locs1 : List Loc), I1 = mm_up I 1 i 3 v → st_ok G n I1 J s H1 locs1 → W p l e R s m args below meth c H1 locs1 cells slots Q (F0 m (pc + 3) ls rest)) : W p l e R s m args below meth c H locs cells slots Q (F0 m pc ls (.int v :: .ref (cx_b G + ly_loc 1 i) :: rest)) := r_putI X S (ly_ok_1 hi S.2.2.2) rfl rfl (show vwCl[1]? = some (RX1, TX1, 8) from rfl) in_X1 tyX1_ok nmX1 3 (by decide) (Or.inl lk_X1_32) rfl rfl rfl (Nat.le_of_ble_eq_true rfl) rfl hd kk
theorem pf_X1_35 (X : cx_ok G p s m args meth c cc nL RX1 ret) (S : st_ok G n I J s H locs) {i : Nat} (hi : i < 14) {v : Int32} (hd : decode cc pc = .ok (.putfield 35, 3)) (kk : ∀ (I1 : mm_T) (H1 : Heap) (locs1 : List Loc), I1 = mm_up I 6 i 3 v → st_ok G n I1 J s H1 locs1 → W p l e R s m args below meth c H1 locs1 cells slots Q (F0 m (pc + 3) ls rest)) : W p l e R s m args below meth c H locs cells slots Q (F0 m pc ls (.int v :: .ref (cx_b G + ly_loc 6 i) :: rest)) := r_putI X S (ly_ok_6 hi S.2.2.2) rfl rfl (show vwCl[6]? = some (RX6, TX6, 4) from rfl) in_X6 tyX6_ok nmX6 3 (by decide) (Or.inr ⟨_, lk_X1_35⟩) rfl rfl rfl (Nat.le_of_ble_eq_true rfl) rfl hd kk
theorem pf_X1_38 (X : cx_ok G p s m args meth c cc nL RX1 ret) (S : st_ok G n I J s H locs) {i : Nat} (hi : i < 16) {v : Int32} (hd : decode cc pc = .ok (.putfield 38, 3)) (kk : ∀ (I1 : mm_T) (H1 : Heap) (locs1 : List Loc), I1 = mm_up I 2 i 1 v → st_ok G n I1 J s H1 locs1 → W p l e R s m args below meth c H1 locs1 cells slots Q (F0 m (pc + 3) ls rest)) : W p l e R s m args below meth c H locs cells slots Q (F0 m pc ls (.int v :: .ref (cx_b G + ly_loc 2 i) :: rest)) := r_putI X S (ly_ok_2 hi S.2.2.2) rfl rfl (show vwCl[2]? = some (RX2, TX2, 2) from rfl) in_X2 tyX2_ok nmX2 1 (by decide) (Or.inr ⟨_, lk_X1_38⟩) rfl rfl rfl (Nat.le_of_ble_eq_true rfl) rfl hd kk
theorem pf_X1_41 (X : cx_ok G p s m args meth c cc nL RX1 ret) (S : st_ok G n I J s H locs) {i : Nat} (hi : i < 16) {v : Int32} (hd : decode cc pc = .ok (.putfield 41, 3)) (kk : ∀ (I1 : mm_T) (H1 : Heap) (locs1 : List Loc), I1 = mm_up I 2 i 0 v → st_ok G n I1 J s H1 locs1 → W p l e R s m args below meth c H1 locs1 cells slots Q (F0 m (pc + 3) ls rest)) : W p l e R s m args below meth c H locs cells slots Q (F0 m pc ls (.int v :: .ref (cx_b G + ly_loc 2 i) :: rest)) := r_putI X S (ly_ok_2 hi S.2.2.2) rfl rfl (show vwCl[2]? = some (RX2, TX2, 2) from rfl) in_X2 tyX2_ok nmX2 0 (by decide) (Or.inr ⟨_, lk_X1_41⟩) rfl rfl rfl (Nat.le_of_ble_eq_true rfl) rfl hd kk
theorem pf_X1_44 (X : cx_ok G p s m args meth c cc nL RX1 ret) (S : st_ok G n I J s H locs) {i : Nat} (hi : i < 2) {v : Int32} (hd : decode cc pc = .ok (.putfield 44, 3)) (kk : ∀ (I1 : mm_T) (H1 : Heap) (locs1 : List Loc), I1 = mm_up I 1 i 7 v → st_ok G n I1 J s H1 locs1 → W p l e R s m args below meth c H1 locs1 cells slots Q (F0 m (pc + 3) ls rest)) : W p l e R s m args below meth c H locs cells slots Q (F0 m pc ls (.int v :: .ref (cx_b G + ly_loc 1 i) :: rest)) := r_putI X S (ly_ok_1 hi S.2.2.2) rfl rfl (show vwCl[1]? = some (RX1, TX1, 8) from rfl) in_X1 tyX1_ok nmX1 7 (by decide) (Or.inl lk_X1_44) rfl rfl rfl (Nat.le_of_ble_eq_true rfl) rfl hd kk
theorem lk_X1_51 : Cond.fieldLinkNest RX1 51 "WhoSingsNext$Slip" "kind" "I" "WhoSingsNext" ∈ nw_t := nw_mem 124 (by decide +kernel) (by decide +kernel)
theorem pf_X1_51 (X : cx_ok G p s m args meth c cc nL RX1 ret) (S : st_ok G n I J s H locs) {i : Nat} (hi : i < 14) {v : Int32} (hd : decode cc pc = .ok (.putfield 51, 3)) (kk : ∀ (I1 : mm_T) (H1 : Heap) (locs1 : List Loc), I1 = mm_up I 6 i 0 v → st_ok G n I1 J s H1 locs1 → W p l e R s m args below meth c H1 locs1 cells slots Q (F0 m (pc + 3) ls rest)) : W p l e R s m args below meth c H locs cells slots Q (F0 m pc ls (.int v :: .ref (cx_b G + ly_loc 6 i) :: rest)) := r_putI X S (ly_ok_6 hi S.2.2.2) rfl rfl (show vwCl[6]? = some (RX6, TX6, 4) from rfl) in_X6 tyX6_ok nmX6 0 (by decide) (Or.inr ⟨_, lk_X1_51⟩) rfl rfl rfl (Nat.le_of_ble_eq_true rfl) rfl hd kk
theorem pf_X1_54 (X : cx_ok G p s m args meth c cc nL RX1 ret) (S : st_ok G n I J s H locs) {i : Nat} (hi : i < 14) {v : Int32} (hd : decode cc pc = .ok (.putfield 54, 3)) (kk : ∀ (I1 : mm_T) (H1 : Heap) (locs1 : List Loc), I1 = mm_up I 6 i 1 v → st_ok G n I1 J s H1 locs1 → W p l e R s m args below meth c H1 locs1 cells slots Q (F0 m (pc + 3) ls rest)) : W p l e R s m args below meth c H locs cells slots Q (F0 m pc ls (.int v :: .ref (cx_b G + ly_loc 6 i) :: rest)) := r_putI X S (ly_ok_6 hi S.2.2.2) rfl rfl (show vwCl[6]? = some (RX6, TX6, 4) from rfl) in_X6 tyX6_ok nmX6 1 (by decide) (Or.inr ⟨_, lk_X1_54⟩) rfl rfl rfl (Nat.le_of_ble_eq_true rfl) rfl hd kk
theorem pf_X1_57 (X : cx_ok G p s m args meth c cc nL RX1 ret) (S : st_ok G n I J s H locs) {i : Nat} (hi : i < 14) {v : Int32} (hd : decode cc pc = .ok (.putfield 57, 3)) (kk : ∀ (I1 : mm_T) (H1 : Heap) (locs1 : List Loc), I1 = mm_up I 6 i 2 v → st_ok G n I1 J s H1 locs1 → W p l e R s m args below meth c H1 locs1 cells slots Q (F0 m (pc + 3) ls rest)) : W p l e R s m args below meth c H locs cells slots Q (F0 m pc ls (.int v :: .ref (cx_b G + ly_loc 6 i) :: rest)) := r_putI X S (ly_ok_6 hi S.2.2.2) rfl rfl (show vwCl[6]? = some (RX6, TX6, 4) from rfl) in_X6 tyX6_ok nmX6 2 (by decide) (Or.inr ⟨_, lk_X1_57⟩) rfl rfl rfl (Nat.le_of_ble_eq_true rfl) rfl hd kk
theorem pf_X1_67 (X : cx_ok G p s m args meth c cc nL RX1 ret) (S : st_ok G n I J s H locs) {i : Nat} (hi : i < 2) {v : Int32} (hd : decode cc pc = .ok (.putfield 67, 3)) (kk : ∀ (I1 : mm_T) (H1 : Heap) (locs1 : List Loc), I1 = mm_up I 1 i 4 v → st_ok G n I1 J s H1 locs1 → W p l e R s m args below meth c H1 locs1 cells slots Q (F0 m (pc + 3) ls rest)) : W p l e R s m args below meth c H locs cells slots Q (F0 m pc ls (.int v :: .ref (cx_b G + ly_loc 1 i) :: rest)) := r_putI X S (ly_ok_1 hi S.2.2.2) rfl rfl (show vwCl[1]? = some (RX1, TX1, 8) from rfl) in_X1 tyX1_ok nmX1 4 (by decide) (Or.inl lk_X1_67) rfl rfl rfl (Nat.le_of_ble_eq_true rfl) rfl hd kk
theorem pf_X1_73 (X : cx_ok G p s m args meth c cc nL RX1 ret) (S : st_ok G n I J s H locs) {i : Nat} (hi : i < 2) {v : Int32} (hd : decode cc pc = .ok (.putfield 73, 3)) (kk : ∀ (I1 : mm_T) (H1 : Heap) (locs1 : List Loc), I1 = mm_up I 1 i 6 v → st_ok G n I1 J s H1 locs1 → W p l e R s m args below meth c H1 locs1 cells slots Q (F0 m (pc + 3) ls rest)) : W p l e R s m args below meth c H locs cells slots Q (F0 m pc ls (.int v :: .ref (cx_b G + ly_loc 1 i) :: rest)) := r_putI X S (ly_ok_1 hi S.2.2.2) rfl rfl (show vwCl[1]? = some (RX1, TX1, 8) from rfl) in_X1 tyX1_ok nmX1 6 (by decide) (Or.inl lk_X1_73) rfl rfl rfl (Nat.le_of_ble_eq_true rfl) rfl hd kk
theorem pf_X2_7 (X : cx_ok G p s m args meth c cc nL RX2 ret) (S : st_ok G n I J s H locs) {i : Nat} (hi : i < 16) {v : Int32} (hd : decode cc pc = .ok (.putfield 7, 3)) (kk : ∀ (I1 : mm_T) (H1 : Heap) (locs1 : List Loc), I1 = mm_up I 2 i 0 v → st_ok G n I1 J s H1 locs1 → W p l e R s m args below meth c H1 locs1 cells slots Q (F0 m (pc + 3) ls rest)) : W p l e R s m args below meth c H locs cells slots Q (F0 m pc ls (.int v :: .ref (cx_b G + ly_loc 2 i) :: rest)) := r_putI X S (ly_ok_2 hi S.2.2.2) rfl rfl (show vwCl[2]? = some (RX2, TX2, 2) from rfl) in_X2 tyX2_ok nmX2 0 (by decide) (Or.inl lk_X2_7) rfl rfl rfl (Nat.le_of_ble_eq_true rfl) rfl hd kk
theorem pf_X2_13 (X : cx_ok G p s m args meth c cc nL RX2 ret) (S : st_ok G n I J s H locs) {i : Nat} (hi : i < 16) {v : Int32} (hd : decode cc pc = .ok (.putfield 13, 3)) (kk : ∀ (I1 : mm_T) (H1 : Heap) (locs1 : List Loc), I1 = mm_up I 2 i 1 v → st_ok G n I1 J s H1 locs1 → W p l e R s m args below meth c H1 locs1 cells slots Q (F0 m (pc + 3) ls rest)) : W p l e R s m args below meth c H locs cells slots Q (F0 m pc ls (.int v :: .ref (cx_b G + ly_loc 2 i) :: rest)) := r_putI X S (ly_ok_2 hi S.2.2.2) rfl rfl (show vwCl[2]? = some (RX2, TX2, 2) from rfl) in_X2 tyX2_ok nmX2 1 (by decide) (Or.inl lk_X2_13) rfl rfl rfl (Nat.le_of_ble_eq_true rfl) rfl hd kk
theorem pf_X3_18 (X : cx_ok G p s m args meth c cc nL RX3 ret) (S : st_ok G n I J s H locs) {i : Nat} (hi : i < 1) {v : Int32} (hd : decode cc pc = .ok (.putfield 18, 3)) (kk : ∀ (I1 : mm_T) (H1 : Heap) (locs1 : List Loc), I1 = mm_up I 3 i 1 v → st_ok G n I1 J s H1 locs1 → W p l e R s m args below meth c H1 locs1 cells slots Q (F0 m (pc + 3) ls rest)) : W p l e R s m args below meth c H locs cells slots Q (F0 m pc ls (.int v :: .ref (cx_b G + ly_loc 3 i) :: rest)) := r_putI X S (ly_ok_3 hi S.2.2.2) rfl rfl (show vwCl[3]? = some (RX3, TX3, 11) from rfl) in_X3 tyX3_ok nmX3 1 (by decide) (Or.inl lk_X3_18) rfl rfl rfl (Nat.le_of_ble_eq_true rfl) rfl hd kk
theorem pf_X3_22 (X : cx_ok G p s m args meth c cc nL RX3 ret) (S : st_ok G n I J s H locs) {i : Nat} (hi : i < 1) {v : Int32} (hd : decode cc pc = .ok (.putfield 22, 3)) (kk : ∀ (I1 : mm_T) (H1 : Heap) (locs1 : List Loc), I1 = mm_up I 3 i 3 v → st_ok G n I1 J s H1 locs1 → W p l e R s m args below meth c H1 locs1 cells slots Q (F0 m (pc + 3) ls rest)) : W p l e R s m args below meth c H locs cells slots Q (F0 m pc ls (.int v :: .ref (cx_b G + ly_loc 3 i) :: rest)) := r_putI X S (ly_ok_3 hi S.2.2.2) rfl rfl (show vwCl[3]? = some (RX3, TX3, 11) from rfl) in_X3 tyX3_ok nmX3 3 (by decide) (Or.inl lk_X3_22) rfl rfl rfl (Nat.le_of_ble_eq_true rfl) rfl hd kk
theorem pf_X3_25 (X : cx_ok G p s m args meth c cc nL RX3 ret) (S : st_ok G n I J s H locs) {i : Nat} (hi : i < 1) {v : Int32} (hd : decode cc pc = .ok (.putfield 25, 3)) (kk : ∀ (I1 : mm_T) (H1 : Heap) (locs1 : List Loc), I1 = mm_up I 3 i 9 v → st_ok G n I1 J s H1 locs1 → W p l e R s m args below meth c H1 locs1 cells slots Q (F0 m (pc + 3) ls rest)) : W p l e R s m args below meth c H locs cells slots Q (F0 m pc ls (.int v :: .ref (cx_b G + ly_loc 3 i) :: rest)) := r_putI X S (ly_ok_3 hi S.2.2.2) rfl rfl (show vwCl[3]? = some (RX3, TX3, 11) from rfl) in_X3 tyX3_ok nmX3 9 (by decide) (Or.inl lk_X3_25) rfl rfl rfl (Nat.le_of_ble_eq_true rfl) rfl hd kk
theorem pf_X3_28 (X : cx_ok G p s m args meth c cc nL RX3 ret) (S : st_ok G n I J s H locs) {i : Nat} (hi : i < 1) {v : Int32} (hd : decode cc pc = .ok (.putfield 28, 3)) (kk : ∀ (I1 : mm_T) (H1 : Heap) (locs1 : List Loc), I1 = mm_up I 3 i 10 v → st_ok G n I1 J s H1 locs1 → W p l e R s m args below meth c H1 locs1 cells slots Q (F0 m (pc + 3) ls rest)) : W p l e R s m args below meth c H locs cells slots Q (F0 m pc ls (.int v :: .ref (cx_b G + ly_loc 3 i) :: rest)) := r_putI X S (ly_ok_3 hi S.2.2.2) rfl rfl (show vwCl[3]? = some (RX3, TX3, 11) from rfl) in_X3 tyX3_ok nmX3 10 (by decide) (Or.inl lk_X3_28) rfl rfl rfl (Nat.le_of_ble_eq_true rfl) rfl hd kk
theorem pf_X3_38 (X : cx_ok G p s m args meth c cc nL RX3 ret) (S : st_ok G n I J s H locs) {i : Nat} (hi : i < 1) {v : Int32} (hd : decode cc pc = .ok (.putfield 38, 3)) (kk : ∀ (I1 : mm_T) (H1 : Heap) (locs1 : List Loc), I1 = mm_up I 3 i 4 v → st_ok G n I1 J s H1 locs1 → W p l e R s m args below meth c H1 locs1 cells slots Q (F0 m (pc + 3) ls rest)) : W p l e R s m args below meth c H locs cells slots Q (F0 m pc ls (.int v :: .ref (cx_b G + ly_loc 3 i) :: rest)) := r_putI X S (ly_ok_3 hi S.2.2.2) rfl rfl (show vwCl[3]? = some (RX3, TX3, 11) from rfl) in_X3 tyX3_ok nmX3 4 (by decide) (Or.inl lk_X3_38) rfl rfl rfl (Nat.le_of_ble_eq_true rfl) rfl hd kk
theorem pf_X3_41 (X : cx_ok G p s m args meth c cc nL RX3 ret) (S : st_ok G n I J s H locs) {i : Nat} (hi : i < 1) {v : Int32} (hd : decode cc pc = .ok (.putfield 41, 3)) (kk : ∀ (I1 : mm_T) (H1 : Heap) (locs1 : List Loc), I1 = mm_up I 3 i 5 v → st_ok G n I1 J s H1 locs1 → W p l e R s m args below meth c H1 locs1 cells slots Q (F0 m (pc + 3) ls rest)) : W p l e R s m args below meth c H locs cells slots Q (F0 m pc ls (.int v :: .ref (cx_b G + ly_loc 3 i) :: rest)) := r_putI X S (ly_ok_3 hi S.2.2.2) rfl rfl (show vwCl[3]? = some (RX3, TX3, 11) from rfl) in_X3 tyX3_ok nmX3 5 (by decide) (Or.inl lk_X3_41) rfl rfl rfl (Nat.le_of_ble_eq_true rfl) rfl hd kk
theorem pf_X3_44 (X : cx_ok G p s m args meth c cc nL RX3 ret) (S : st_ok G n I J s H locs) {i : Nat} (hi : i < 1) {v : Int32} (hd : decode cc pc = .ok (.putfield 44, 3)) (kk : ∀ (I1 : mm_T) (H1 : Heap) (locs1 : List Loc), I1 = mm_up I 3 i 6 v → st_ok G n I1 J s H1 locs1 → W p l e R s m args below meth c H1 locs1 cells slots Q (F0 m (pc + 3) ls rest)) : W p l e R s m args below meth c H locs cells slots Q (F0 m pc ls (.int v :: .ref (cx_b G + ly_loc 3 i) :: rest)) := r_putI X S (ly_ok_3 hi S.2.2.2) rfl rfl (show vwCl[3]? = some (RX3, TX3, 11) from rfl) in_X3 tyX3_ok nmX3 6 (by decide) (Or.inl lk_X3_44) rfl rfl rfl (Nat.le_of_ble_eq_true rfl) rfl hd kk
theorem pf_X3_68 (X : cx_ok G p s m args meth c cc nL RX3 ret) (S : st_ok G n I J s H locs) {i : Nat} (hi : i < 1) {v : Int32} (hd : decode cc pc = .ok (.putfield 68, 3)) (kk : ∀ (I1 : mm_T) (H1 : Heap) (locs1 : List Loc), I1 = mm_up I 3 i 8 v → st_ok G n I1 J s H1 locs1 → W p l e R s m args below meth c H1 locs1 cells slots Q (F0 m (pc + 3) ls rest)) : W p l e R s m args below meth c H locs cells slots Q (F0 m pc ls (.int v :: .ref (cx_b G + ly_loc 3 i) :: rest)) := r_putI X S (ly_ok_3 hi S.2.2.2) rfl rfl (show vwCl[3]? = some (RX3, TX3, 11) from rfl) in_X3 tyX3_ok nmX3 8 (by decide) (Or.inl lk_X3_68) rfl rfl rfl (Nat.le_of_ble_eq_true rfl) rfl hd kk
theorem pf_X3_84 (X : cx_ok G p s m args meth c cc nL RX3 ret) (S : st_ok G n I J s H locs) {i : Nat} (hi : i < 1) {v : Int32} (hd : decode cc pc = .ok (.putfield 84, 3)) (kk : ∀ (I1 : mm_T) (H1 : Heap) (locs1 : List Loc), I1 = mm_up I 3 i 7 v → st_ok G n I1 J s H1 locs1 → W p l e R s m args below meth c H1 locs1 cells slots Q (F0 m (pc + 3) ls rest)) : W p l e R s m args below meth c H locs cells slots Q (F0 m pc ls (.int v :: .ref (cx_b G + ly_loc 3 i) :: rest)) := r_putI X S (ly_ok_3 hi S.2.2.2) rfl rfl (show vwCl[3]? = some (RX3, TX3, 11) from rfl) in_X3 tyX3_ok nmX3 7 (by decide) (Or.inl lk_X3_84) rfl rfl rfl (Nat.le_of_ble_eq_true rfl) rfl hd kk
theorem pf_X4_30 (X : cx_ok G p s m args meth c cc nL RX4 ret) (S : st_ok G n I J s H locs) {i : Nat} (hi : i < 1) {v : Int32} (hd : decode cc pc = .ok (.putfield 30, 3)) (kk : ∀ (I1 : mm_T) (H1 : Heap) (locs1 : List Loc), I1 = mm_up I 4 i 6 v → st_ok G n I1 J s H1 locs1 → W p l e R s m args below meth c H1 locs1 cells slots Q (F0 m (pc + 3) ls rest)) : W p l e R s m args below meth c H locs cells slots Q (F0 m pc ls (.int v :: .ref (cx_b G + ly_loc 4 i) :: rest)) := r_putI X S (ly_ok_4 hi S.2.2.2) rfl rfl (show vwCl[4]? = some (RX4, TX4, 7) from rfl) in_X4 tyX4_ok nmX4 6 (by decide) (Or.inl lk_X4_30) rfl rfl rfl (Nat.le_of_ble_eq_true rfl) rfl hd kk
theorem pf_X5_15 (X : cx_ok G p s m args meth c cc nL RX5 ret) (S : st_ok G n I J s H locs) {i : Nat} (hi : i < 4) {v : Int32} (hd : decode cc pc = .ok (.putfield 15, 3)) (kk : ∀ (I1 : mm_T) (H1 : Heap) (locs1 : List Loc), I1 = mm_up I 5 i 1 v → st_ok G n I1 J s H1 locs1 → W p l e R s m args below meth c H1 locs1 cells slots Q (F0 m (pc + 3) ls rest)) : W p l e R s m args below meth c H locs cells slots Q (F0 m pc ls (.int v :: .ref (cx_b G + ly_loc 5 i) :: rest)) := r_putI X S (ly_ok_5 hi S.2.2.2) rfl rfl (show vwCl[5]? = some (RX5, TX5, 3) from rfl) in_X5 tyX5_ok nmX5 1 (by decide) (Or.inl lk_X5_15) rfl rfl rfl (Nat.le_of_ble_eq_true rfl) rfl hd kk
theorem pf_X5_19 (X : cx_ok G p s m args meth c cc nL RX5 ret) (S : st_ok G n I J s H locs) {i : Nat} (hi : i < 4) {v : Int32} (hd : decode cc pc = .ok (.putfield 19, 3)) (kk : ∀ (I1 : mm_T) (H1 : Heap) (locs1 : List Loc), I1 = mm_up I 5 i 2 v → st_ok G n I1 J s H1 locs1 → W p l e R s m args below meth c H1 locs1 cells slots Q (F0 m (pc + 3) ls rest)) : W p l e R s m args below meth c H locs cells slots Q (F0 m pc ls (.int v :: .ref (cx_b G + ly_loc 5 i) :: rest)) := r_putI X S (ly_ok_5 hi S.2.2.2) rfl rfl (show vwCl[5]? = some (RX5, TX5, 3) from rfl) in_X5 tyX5_ok nmX5 2 (by decide) (Or.inl lk_X5_19) rfl rfl rfl (Nat.le_of_ble_eq_true rfl) rfl hd kk
theorem pf_X6_9 (X : cx_ok G p s m args meth c cc nL RX6 ret) (S : st_ok G n I J s H locs) {i : Nat} (hi : i < 14) {v : Int32} (hd : decode cc pc = .ok (.putfield 9, 3)) (kk : ∀ (I1 : mm_T) (H1 : Heap) (locs1 : List Loc), I1 = mm_up I 6 i 0 v → st_ok G n I1 J s H1 locs1 → W p l e R s m args below meth c H1 locs1 cells slots Q (F0 m (pc + 3) ls rest)) : W p l e R s m args below meth c H locs cells slots Q (F0 m pc ls (.int v :: .ref (cx_b G + ly_loc 6 i) :: rest)) := r_putI X S (ly_ok_6 hi S.2.2.2) rfl rfl (show vwCl[6]? = some (RX6, TX6, 4) from rfl) in_X6 tyX6_ok nmX6 0 (by decide) (Or.inl lk_X6_9) rfl rfl rfl (Nat.le_of_ble_eq_true rfl) rfl hd kk
theorem pf_X6_15 (X : cx_ok G p s m args meth c cc nL RX6 ret) (S : st_ok G n I J s H locs) {i : Nat} (hi : i < 14) {v : Int32} (hd : decode cc pc = .ok (.putfield 15, 3)) (kk : ∀ (I1 : mm_T) (H1 : Heap) (locs1 : List Loc), I1 = mm_up I 6 i 1 v → st_ok G n I1 J s H1 locs1 → W p l e R s m args below meth c H1 locs1 cells slots Q (F0 m (pc + 3) ls rest)) : W p l e R s m args below meth c H locs cells slots Q (F0 m pc ls (.int v :: .ref (cx_b G + ly_loc 6 i) :: rest)) := r_putI X S (ly_ok_6 hi S.2.2.2) rfl rfl (show vwCl[6]? = some (RX6, TX6, 4) from rfl) in_X6 tyX6_ok nmX6 1 (by decide) (Or.inl lk_X6_15) rfl rfl rfl (Nat.le_of_ble_eq_true rfl) rfl hd kk
theorem pf_X6_18 (X : cx_ok G p s m args meth c cc nL RX6 ret) (S : st_ok G n I J s H locs) {i : Nat} (hi : i < 14) {v : Int32} (hd : decode cc pc = .ok (.putfield 18, 3)) (kk : ∀ (I1 : mm_T) (H1 : Heap) (locs1 : List Loc), I1 = mm_up I 6 i 2 v → st_ok G n I1 J s H1 locs1 → W p l e R s m args below meth c H1 locs1 cells slots Q (F0 m (pc + 3) ls rest)) : W p l e R s m args below meth c H locs cells slots Q (F0 m pc ls (.int v :: .ref (cx_b G + ly_loc 6 i) :: rest)) := r_putI X S (ly_ok_6 hi S.2.2.2) rfl rfl (show vwCl[6]? = some (RX6, TX6, 4) from rfl) in_X6 tyX6_ok nmX6 2 (by decide) (Or.inl lk_X6_18) rfl rfl rfl (Nat.le_of_ble_eq_true rfl) rfl hd kk
theorem pf_X6_21 (X : cx_ok G p s m args meth c cc nL RX6 ret) (S : st_ok G n I J s H locs) {i : Nat} (hi : i < 14) {v : Int32} (hd : decode cc pc = .ok (.putfield 21, 3)) (kk : ∀ (I1 : mm_T) (H1 : Heap) (locs1 : List Loc), I1 = mm_up I 6 i 3 v → st_ok G n I1 J s H1 locs1 → W p l e R s m args below meth c H1 locs1 cells slots Q (F0 m (pc + 3) ls rest)) : W p l e R s m args below meth c H locs cells slots Q (F0 m pc ls (.int v :: .ref (cx_b G + ly_loc 6 i) :: rest)) := r_putI X S (ly_ok_6 hi S.2.2.2) rfl rfl (show vwCl[6]? = some (RX6, TX6, 4) from rfl) in_X6 tyX6_ok nmX6 3 (by decide) (Or.inl lk_X6_21) rfl rfl rfl (Nat.le_of_ble_eq_true rfl) rfl hd kk
theorem pf_X8_78 (X : cx_ok G p s m args meth c cc nL RX8 ret) (S : st_ok G n I J s H locs) {i : Nat} (hi : i < 1) {v : Int32} (hd : decode cc pc = .ok (.putfield 78, 3)) (kk : ∀ (I1 : mm_T) (H1 : Heap) (locs1 : List Loc), I1 = mm_up I 8 i 5 v → st_ok G n I1 J s H1 locs1 → W p l e R s m args below meth c H1 locs1 cells slots Q (F0 m (pc + 3) ls rest)) : W p l e R s m args below meth c H locs cells slots Q (F0 m pc ls (.int v :: .ref (cx_b G + ly_loc 8 i) :: rest)) := r_putI X S (ly_ok_8 hi S.2.2.2) rfl rfl (show vwCl[8]? = some (RX8, TX8, 9) from rfl) in_X8 tyX8_ok nmX8 5 (by decide) (Or.inl lk_X8_78) rfl rfl rfl (Nat.le_of_ble_eq_true rfl) rfl hd kk
theorem pf_X8_202 (X : cx_ok G p s m args meth c cc nL RX8 ret) (S : st_ok G n I J s H locs) {i : Nat} (hi : i < 1) {v : Int32} (hv : narrow .boolean (.int v) = .int v ∧ fits .boolean (.int v) = true) (hd : decode cc pc = .ok (.putfield 202, 3)) (kk : ∀ (I1 : mm_T) (H1 : Heap) (locs1 : List Loc), I1 = mm_up I 8 i 2 v → st_ok G n I1 J s H1 locs1 → W p l e R s m args below meth c H1 locs1 cells slots Q (F0 m (pc + 3) ls rest)) : W p l e R s m args below meth c H locs cells slots Q (F0 m pc ls (.int v :: .ref (cx_b G + ly_loc 8 i) :: rest)) := r_putI X S (ly_ok_8 hi S.2.2.2) rfl rfl (show vwCl[8]? = some (RX8, TX8, 9) from rfl) in_X8 tyX8_ok nmX8 2 (by decide) (Or.inl lk_X8_202) rfl hv.1 hv.2 (Nat.le_of_ble_eq_true rfl) rfl hd kk
theorem pf_X9_41 (X : cx_ok G p s m args meth c cc nL RX9 ret) (S : st_ok G n I J s H locs) {i : Nat} (hi : i < 1) {v : Int32} (hd : decode cc pc = .ok (.putfield 41, 3)) (kk : ∀ (J1 : mm_T) (H1 : Heap) (locs1 : List Loc), J1 = mm_up J 9 i 16 v → st_ok G n I J1 s H1 locs1 → W p l e R s m args below meth c H1 locs1 cells slots Q (F0 m (pc + 3) ls rest)) : W p l e R s m args below meth c H locs cells slots Q (F0 m pc ls (.int v :: .ref (cx_b G + ly_loc 9 i) :: rest)) := r_putJ X S (ly_ok_9 hi S.2.2.2) rfl rfl (show vwCl[9]? = some (RX9, TX9, 61) from rfl) in_X9 tyX9_ok nmX9 16 (by decide) lk_X9_41 rfl rfl rfl (Nat.le_of_ble_eq_true rfl) rfl hd kk
theorem pf_X9_68 (X : cx_ok G p s m args meth c cc nL RX9 ret) (S : st_ok G n I J s H locs) {i : Nat} (hi : i < 1) {v : Int32} (hd : decode cc pc = .ok (.putfield 68, 3)) (kk : ∀ (J1 : mm_T) (H1 : Heap) (locs1 : List Loc), J1 = mm_up J 9 i 52 v → st_ok G n I J1 s H1 locs1 → W p l e R s m args below meth c H1 locs1 cells slots Q (F0 m (pc + 3) ls rest)) : W p l e R s m args below meth c H locs cells slots Q (F0 m pc ls (.int v :: .ref (cx_b G + ly_loc 9 i) :: rest)) := r_putJ X S (ly_ok_9 hi S.2.2.2) rfl rfl (show vwCl[9]? = some (RX9, TX9, 61) from rfl) in_X9 tyX9_ok nmX9 52 (by decide) lk_X9_68 rfl rfl rfl (Nat.le_of_ble_eq_true rfl) rfl hd kk
theorem pf_X9_88 (X : cx_ok G p s m args meth c cc nL RX9 ret) (S : st_ok G n I J s H locs) {i : Nat} (hi : i < 1) {v : Int32} (hd : decode cc pc = .ok (.putfield 88, 3)) (kk : ∀ (J1 : mm_T) (H1 : Heap) (locs1 : List Loc), J1 = mm_up J 9 i 3 v → st_ok G n I J1 s H1 locs1 → W p l e R s m args below meth c H1 locs1 cells slots Q (F0 m (pc + 3) ls rest)) : W p l e R s m args below meth c H locs cells slots Q (F0 m pc ls (.int v :: .ref (cx_b G + ly_loc 9 i) :: rest)) := r_putJ X S (ly_ok_9 hi S.2.2.2) rfl rfl (show vwCl[9]? = some (RX9, TX9, 61) from rfl) in_X9 tyX9_ok nmX9 3 (by decide) lk_X9_88 rfl rfl rfl (Nat.le_of_ble_eq_true rfl) rfl hd kk
theorem pf_X9_91 (X : cx_ok G p s m args meth c cc nL RX9 ret) (S : st_ok G n I J s H locs) {i : Nat} (hi : i < 1) {v : Int32} (hd : decode cc pc = .ok (.putfield 91, 3)) (kk : ∀ (J1 : mm_T) (H1 : Heap) (locs1 : List Loc), J1 = mm_up J 9 i 9 v → st_ok G n I J1 s H1 locs1 → W p l e R s m args below meth c H1 locs1 cells slots Q (F0 m (pc + 3) ls rest)) : W p l e R s m args below meth c H locs cells slots Q (F0 m pc ls (.int v :: .ref (cx_b G + ly_loc 9 i) :: rest)) := r_putJ X S (ly_ok_9 hi S.2.2.2) rfl rfl (show vwCl[9]? = some (RX9, TX9, 61) from rfl) in_X9 tyX9_ok nmX9 9 (by decide) lk_X9_91 rfl rfl rfl (Nat.le_of_ble_eq_true rfl) rfl hd kk
theorem pf_X9_98 (X : cx_ok G p s m args meth c cc nL RX9 ret) (S : st_ok G n I J s H locs) {i : Nat} (hi : i < 1) {v : Int32} (hd : decode cc pc = .ok (.putfield 98, 3)) (kk : ∀ (J1 : mm_T) (H1 : Heap) (locs1 : List Loc), J1 = mm_up J 9 i 14 v → st_ok G n I J1 s H1 locs1 → W p l e R s m args below meth c H1 locs1 cells slots Q (F0 m (pc + 3) ls rest)) : W p l e R s m args below meth c H locs cells slots Q (F0 m pc ls (.int v :: .ref (cx_b G + ly_loc 9 i) :: rest)) := r_putJ X S (ly_ok_9 hi S.2.2.2) rfl rfl (show vwCl[9]? = some (RX9, TX9, 61) from rfl) in_X9 tyX9_ok nmX9 14 (by decide) lk_X9_98 rfl rfl rfl (Nat.le_of_ble_eq_true rfl) rfl hd kk
theorem pf_X9_127 (X : cx_ok G p s m args meth c cc nL RX9 ret) (S : st_ok G n I J s H locs) {i : Nat} (hi : i < 1) {v : Int32} (hd : decode cc pc = .ok (.putfield 127, 3)) (kk : ∀ (J1 : mm_T) (H1 : Heap) (locs1 : List Loc), J1 = mm_up J 9 i 15 v → st_ok G n I J1 s H1 locs1 → W p l e R s m args below meth c H1 locs1 cells slots Q (F0 m (pc + 3) ls rest)) : W p l e R s m args below meth c H locs cells slots Q (F0 m pc ls (.int v :: .ref (cx_b G + ly_loc 9 i) :: rest)) := r_putJ X S (ly_ok_9 hi S.2.2.2) rfl rfl (show vwCl[9]? = some (RX9, TX9, 61) from rfl) in_X9 tyX9_ok nmX9 15 (by decide) lk_X9_127 rfl rfl rfl (Nat.le_of_ble_eq_true rfl) rfl hd kk
theorem pf_X9_132 (X : cx_ok G p s m args meth c cc nL RX9 ret) (S : st_ok G n I J s H locs) {i : Nat} (hi : i < 1) {v : Int32} (hd : decode cc pc = .ok (.putfield 132, 3)) (kk : ∀ (J1 : mm_T) (H1 : Heap) (locs1 : List Loc), J1 = mm_up J 9 i 6 v → st_ok G n I J1 s H1 locs1 → W p l e R s m args below meth c H1 locs1 cells slots Q (F0 m (pc + 3) ls rest)) : W p l e R s m args below meth c H locs cells slots Q (F0 m pc ls (.int v :: .ref (cx_b G + ly_loc 9 i) :: rest)) := r_putJ X S (ly_ok_9 hi S.2.2.2) rfl rfl (show vwCl[9]? = some (RX9, TX9, 61) from rfl) in_X9 tyX9_ok nmX9 6 (by decide) lk_X9_132 rfl rfl rfl (Nat.le_of_ble_eq_true rfl) rfl hd kk
theorem pf_X9_135 (X : cx_ok G p s m args meth c cc nL RX9 ret) (S : st_ok G n I J s H locs) {i : Nat} (hi : i < 1) {v : Int32} (hd : decode cc pc = .ok (.putfield 135, 3)) (kk : ∀ (J1 : mm_T) (H1 : Heap) (locs1 : List Loc), J1 = mm_up J 9 i 24 v → st_ok G n I J1 s H1 locs1 → W p l e R s m args below meth c H1 locs1 cells slots Q (F0 m (pc + 3) ls rest)) : W p l e R s m args below meth c H locs cells slots Q (F0 m pc ls (.int v :: .ref (cx_b G + ly_loc 9 i) :: rest)) := r_putJ X S (ly_ok_9 hi S.2.2.2) rfl rfl (show vwCl[9]? = some (RX9, TX9, 61) from rfl) in_X9 tyX9_ok nmX9 24 (by decide) lk_X9_135 rfl rfl rfl (Nat.le_of_ble_eq_true rfl) rfl hd kk
theorem pf_X9_138 (X : cx_ok G p s m args meth c cc nL RX9 ret) (S : st_ok G n I J s H locs) {i : Nat} (hi : i < 1) {v : Int32} (hd : decode cc pc = .ok (.putfield 138, 3)) (kk : ∀ (J1 : mm_T) (H1 : Heap) (locs1 : List Loc), J1 = mm_up J 9 i 23 v → st_ok G n I J1 s H1 locs1 → W p l e R s m args below meth c H1 locs1 cells slots Q (F0 m (pc + 3) ls rest)) : W p l e R s m args below meth c H locs cells slots Q (F0 m pc ls (.int v :: .ref (cx_b G + ly_loc 9 i) :: rest)) := r_putJ X S (ly_ok_9 hi S.2.2.2) rfl rfl (show vwCl[9]? = some (RX9, TX9, 61) from rfl) in_X9 tyX9_ok nmX9 23 (by decide) lk_X9_138 rfl rfl rfl (Nat.le_of_ble_eq_true rfl) rfl hd kk
theorem pf_X9_141 (X : cx_ok G p s m args meth c cc nL RX9 ret) (S : st_ok G n I J s H locs) {i : Nat} (hi : i < 1) {v : Int32} (hd : decode cc pc = .ok (.putfield 141, 3)) (kk : ∀ (J1 : mm_T) (H1 : Heap) (locs1 : List Loc), J1 = mm_up J 9 i 25 v → st_ok G n I J1 s H1 locs1 → W p l e R s m args below meth c H1 locs1 cells slots Q (F0 m (pc + 3) ls rest)) : W p l e R s m args below meth c H locs cells slots Q (F0 m pc ls (.int v :: .ref (cx_b G + ly_loc 9 i) :: rest)) := r_putJ X S (ly_ok_9 hi S.2.2.2) rfl rfl (show vwCl[9]? = some (RX9, TX9, 61) from rfl) in_X9 tyX9_ok nmX9 25 (by decide) lk_X9_141 rfl rfl rfl (Nat.le_of_ble_eq_true rfl) rfl hd kk
theorem pf_X9_148 (X : cx_ok G p s m args meth c cc nL RX9 ret) (S : st_ok G n I J s H locs) {i : Nat} (hi : i < 1) {v : Int32} (hd : decode cc pc = .ok (.putfield 148, 3)) (kk : ∀ (J1 : mm_T) (H1 : Heap) (locs1 : List Loc), J1 = mm_up J 9 i 27 v → st_ok G n I J1 s H1 locs1 → W p l e R s m args below meth c H1 locs1 cells slots Q (F0 m (pc + 3) ls rest)) : W p l e R s m args below meth c H locs cells slots Q (F0 m pc ls (.int v :: .ref (cx_b G + ly_loc 9 i) :: rest)) := r_putJ X S (ly_ok_9 hi S.2.2.2) rfl rfl (show vwCl[9]? = some (RX9, TX9, 61) from rfl) in_X9 tyX9_ok nmX9 27 (by decide) lk_X9_148 rfl rfl rfl (Nat.le_of_ble_eq_true rfl) rfl hd kk
theorem pf_X9_151 (X : cx_ok G p s m args meth c cc nL RX9 ret) (S : st_ok G n I J s H locs) {i : Nat} (hi : i < 1) {v : Int32} (hd : decode cc pc = .ok (.putfield 151, 3)) (kk : ∀ (J1 : mm_T) (H1 : Heap) (locs1 : List Loc), J1 = mm_up J 9 i 26 v → st_ok G n I J1 s H1 locs1 → W p l e R s m args below meth c H1 locs1 cells slots Q (F0 m (pc + 3) ls rest)) : W p l e R s m args below meth c H locs cells slots Q (F0 m pc ls (.int v :: .ref (cx_b G + ly_loc 9 i) :: rest)) := r_putJ X S (ly_ok_9 hi S.2.2.2) rfl rfl (show vwCl[9]? = some (RX9, TX9, 61) from rfl) in_X9 tyX9_ok nmX9 26 (by decide) lk_X9_151 rfl rfl rfl (Nat.le_of_ble_eq_true rfl) rfl hd kk
theorem pf_X9_162 (X : cx_ok G p s m args meth c cc nL RX9 ret) (S : st_ok G n I J s H locs) {i : Nat} (hi : i < 1) {v : Int64} (hv : v.toInt32.toInt64 = v) (hd : decode cc pc = .ok (.putfield 162, 3)) (kk : ∀ (J1 : mm_T) (H1 : Heap) (locs1 : List Loc), J1 = mm_up J 9 i 28 v.toInt32 → st_ok G n I J1 s H1 locs1 → W p l e R s m args below meth c H1 locs1 cells slots Q (F0 m (pc + 3) ls rest)) : W p l e R s m args below meth c H locs cells slots Q (F0 m pc ls (.long v :: .ref (cx_b G + ly_loc 9 i) :: rest)) := r_putJ X S (ly_ok_9 hi S.2.2.2) rfl rfl (show vwCl[9]? = some (RX9, TX9, 61) from rfl) in_X9 tyX9_ok nmX9 28 (by decide) lk_X9_162 rfl rfl rfl (Nat.le_of_ble_eq_true rfl) (by rw [show (ly_K G 9 i (upd (mm_mx I J 9 i) 28 v.toInt32)) = _ from rfl]; exact congrArg (fun z => Sum.inr (9, z)) (by simp [upd, hv])) hd kk
theorem pf_X9_166 (X : cx_ok G p s m args meth c cc nL RX9 ret) (S : st_ok G n I J s H locs) {i : Nat} (hi : i < 1) {v : Int32} (hv : narrow .boolean (.int v) = .int v ∧ fits .boolean (.int v) = true) (hd : decode cc pc = .ok (.putfield 166, 3)) (kk : ∀ (J1 : mm_T) (H1 : Heap) (locs1 : List Loc), J1 = mm_up J 9 i 30 v → st_ok G n I J1 s H1 locs1 → W p l e R s m args below meth c H1 locs1 cells slots Q (F0 m (pc + 3) ls rest)) : W p l e R s m args below meth c H locs cells slots Q (F0 m pc ls (.int v :: .ref (cx_b G + ly_loc 9 i) :: rest)) := r_putJ X S (ly_ok_9 hi S.2.2.2) rfl rfl (show vwCl[9]? = some (RX9, TX9, 61) from rfl) in_X9 tyX9_ok nmX9 30 (by decide) lk_X9_166 rfl hv.1 hv.2 (Nat.le_of_ble_eq_true rfl) rfl hd kk
theorem pf_X9_170 (X : cx_ok G p s m args meth c cc nL RX9 ret) (S : st_ok G n I J s H locs) {i : Nat} (hi : i < 1) {v : Int32} (hd : decode cc pc = .ok (.putfield 170, 3)) (kk : ∀ (J1 : mm_T) (H1 : Heap) (locs1 : List Loc), J1 = mm_up J 9 i 31 v → st_ok G n I J1 s H1 locs1 → W p l e R s m args below meth c H1 locs1 cells slots Q (F0 m (pc + 3) ls rest)) : W p l e R s m args below meth c H locs cells slots Q (F0 m pc ls (.int v :: .ref (cx_b G + ly_loc 9 i) :: rest)) := r_putJ X S (ly_ok_9 hi S.2.2.2) rfl rfl (show vwCl[9]? = some (RX9, TX9, 61) from rfl) in_X9 tyX9_ok nmX9 31 (by decide) lk_X9_170 rfl rfl rfl (Nat.le_of_ble_eq_true rfl) rfl hd kk
theorem pf_X9_177 (X : cx_ok G p s m args meth c cc nL RX9 ret) (S : st_ok G n I J s H locs) {i : Nat} (hi : i < 1) {v : Int32} (hd : decode cc pc = .ok (.putfield 177, 3)) (kk : ∀ (J1 : mm_T) (H1 : Heap) (locs1 : List Loc), J1 = mm_up J 9 i 29 v → st_ok G n I J1 s H1 locs1 → W p l e R s m args below meth c H1 locs1 cells slots Q (F0 m (pc + 3) ls rest)) : W p l e R s m args below meth c H locs cells slots Q (F0 m pc ls (.int v :: .ref (cx_b G + ly_loc 9 i) :: rest)) := r_putJ X S (ly_ok_9 hi S.2.2.2) rfl rfl (show vwCl[9]? = some (RX9, TX9, 61) from rfl) in_X9 tyX9_ok nmX9 29 (by decide) lk_X9_177 rfl rfl rfl (Nat.le_of_ble_eq_true rfl) rfl hd kk
theorem pf_X9_190 (X : cx_ok G p s m args meth c cc nL RX9 ret) (S : st_ok G n I J s H locs) {i : Nat} (hi : i < 1) {v : Int32} (hd : decode cc pc = .ok (.putfield 190, 3)) (kk : ∀ (J1 : mm_T) (H1 : Heap) (locs1 : List Loc), J1 = mm_up J 9 i 17 v → st_ok G n I J1 s H1 locs1 → W p l e R s m args below meth c H1 locs1 cells slots Q (F0 m (pc + 3) ls rest)) : W p l e R s m args below meth c H locs cells slots Q (F0 m pc ls (.int v :: .ref (cx_b G + ly_loc 9 i) :: rest)) := r_putJ X S (ly_ok_9 hi S.2.2.2) rfl rfl (show vwCl[9]? = some (RX9, TX9, 61) from rfl) in_X9 tyX9_ok nmX9 17 (by decide) lk_X9_190 rfl rfl rfl (Nat.le_of_ble_eq_true rfl) rfl hd kk
theorem pf_X9_193 (X : cx_ok G p s m args meth c cc nL RX9 ret) (S : st_ok G n I J s H locs) {i : Nat} (hi : i < 1) {v : Int32} (hd : decode cc pc = .ok (.putfield 193, 3)) (kk : ∀ (J1 : mm_T) (H1 : Heap) (locs1 : List Loc), J1 = mm_up J 9 i 18 v → st_ok G n I J1 s H1 locs1 → W p l e R s m args below meth c H1 locs1 cells slots Q (F0 m (pc + 3) ls rest)) : W p l e R s m args below meth c H locs cells slots Q (F0 m pc ls (.int v :: .ref (cx_b G + ly_loc 9 i) :: rest)) := r_putJ X S (ly_ok_9 hi S.2.2.2) rfl rfl (show vwCl[9]? = some (RX9, TX9, 61) from rfl) in_X9 tyX9_ok nmX9 18 (by decide) lk_X9_193 rfl rfl rfl (Nat.le_of_ble_eq_true rfl) rfl hd kk
theorem pf_X9_196 (X : cx_ok G p s m args meth c cc nL RX9 ret) (S : st_ok G n I J s H locs) {i : Nat} (hi : i < 1) {v : Int32} (hd : decode cc pc = .ok (.putfield 196, 3)) (kk : ∀ (J1 : mm_T) (H1 : Heap) (locs1 : List Loc), J1 = mm_up J 9 i 19 v → st_ok G n I J1 s H1 locs1 → W p l e R s m args below meth c H1 locs1 cells slots Q (F0 m (pc + 3) ls rest)) : W p l e R s m args below meth c H locs cells slots Q (F0 m pc ls (.int v :: .ref (cx_b G + ly_loc 9 i) :: rest)) := r_putJ X S (ly_ok_9 hi S.2.2.2) rfl rfl (show vwCl[9]? = some (RX9, TX9, 61) from rfl) in_X9 tyX9_ok nmX9 19 (by decide) lk_X9_196 rfl rfl rfl (Nat.le_of_ble_eq_true rfl) rfl hd kk
theorem pf_X9_199 (X : cx_ok G p s m args meth c cc nL RX9 ret) (S : st_ok G n I J s H locs) {i : Nat} (hi : i < 1) {v : Int32} (hd : decode cc pc = .ok (.putfield 199, 3)) (kk : ∀ (J1 : mm_T) (H1 : Heap) (locs1 : List Loc), J1 = mm_up J 9 i 20 v → st_ok G n I J1 s H1 locs1 → W p l e R s m args below meth c H1 locs1 cells slots Q (F0 m (pc + 3) ls rest)) : W p l e R s m args below meth c H locs cells slots Q (F0 m pc ls (.int v :: .ref (cx_b G + ly_loc 9 i) :: rest)) := r_putJ X S (ly_ok_9 hi S.2.2.2) rfl rfl (show vwCl[9]? = some (RX9, TX9, 61) from rfl) in_X9 tyX9_ok nmX9 20 (by decide) lk_X9_199 rfl rfl rfl (Nat.le_of_ble_eq_true rfl) rfl hd kk
theorem pf_X9_202 (X : cx_ok G p s m args meth c cc nL RX9 ret) (S : st_ok G n I J s H locs) {i : Nat} (hi : i < 1) {v : Int32} (hd : decode cc pc = .ok (.putfield 202, 3)) (kk : ∀ (J1 : mm_T) (H1 : Heap) (locs1 : List Loc), J1 = mm_up J 9 i 21 v → st_ok G n I J1 s H1 locs1 → W p l e R s m args below meth c H1 locs1 cells slots Q (F0 m (pc + 3) ls rest)) : W p l e R s m args below meth c H locs cells slots Q (F0 m pc ls (.int v :: .ref (cx_b G + ly_loc 9 i) :: rest)) := r_putJ X S (ly_ok_9 hi S.2.2.2) rfl rfl (show vwCl[9]? = some (RX9, TX9, 61) from rfl) in_X9 tyX9_ok nmX9 21 (by decide) lk_X9_202 rfl rfl rfl (Nat.le_of_ble_eq_true rfl) rfl hd kk
theorem pf_X9_205 (X : cx_ok G p s m args meth c cc nL RX9 ret) (S : st_ok G n I J s H locs) {i : Nat} (hi : i < 1) {v : Int32} (hd : decode cc pc = .ok (.putfield 205, 3)) (kk : ∀ (J1 : mm_T) (H1 : Heap) (locs1 : List Loc), J1 = mm_up J 9 i 22 v → st_ok G n I J1 s H1 locs1 → W p l e R s m args below meth c H1 locs1 cells slots Q (F0 m (pc + 3) ls rest)) : W p l e R s m args below meth c H locs cells slots Q (F0 m pc ls (.int v :: .ref (cx_b G + ly_loc 9 i) :: rest)) := r_putJ X S (ly_ok_9 hi S.2.2.2) rfl rfl (show vwCl[9]? = some (RX9, TX9, 61) from rfl) in_X9 tyX9_ok nmX9 22 (by decide) lk_X9_205 rfl rfl rfl (Nat.le_of_ble_eq_true rfl) rfl hd kk
theorem pf_X9_249 (X : cx_ok G p s m args meth c cc nL RX9 ret) (S : st_ok G n I J s H locs) {i : Nat} (hi : i < 1) {v : Int32} (hd : decode cc pc = .ok (.putfield 249, 3)) (kk : ∀ (J1 : mm_T) (H1 : Heap) (locs1 : List Loc), J1 = mm_up J 9 i 4 v → st_ok G n I J1 s H1 locs1 → W p l e R s m args below meth c H1 locs1 cells slots Q (F0 m (pc + 3) ls rest)) : W p l e R s m args below meth c H locs cells slots Q (F0 m pc ls (.int v :: .ref (cx_b G + ly_loc 9 i) :: rest)) := r_putJ X S (ly_ok_9 hi S.2.2.2) rfl rfl (show vwCl[9]? = some (RX9, TX9, 61) from rfl) in_X9 tyX9_ok nmX9 4 (by decide) lk_X9_249 rfl rfl rfl (Nat.le_of_ble_eq_true rfl) rfl hd kk
theorem pf_X9_252 (X : cx_ok G p s m args meth c cc nL RX9 ret) (S : st_ok G n I J s H locs) {i : Nat} (hi : i < 1) {v : Int32} (hd : decode cc pc = .ok (.putfield 252, 3)) (kk : ∀ (J1 : mm_T) (H1 : Heap) (locs1 : List Loc), J1 = mm_up J 9 i 32 v → st_ok G n I J1 s H1 locs1 → W p l e R s m args below meth c H1 locs1 cells slots Q (F0 m (pc + 3) ls rest)) : W p l e R s m args below meth c H locs cells slots Q (F0 m pc ls (.int v :: .ref (cx_b G + ly_loc 9 i) :: rest)) := r_putJ X S (ly_ok_9 hi S.2.2.2) rfl rfl (show vwCl[9]? = some (RX9, TX9, 61) from rfl) in_X9 tyX9_ok nmX9 32 (by decide) lk_X9_252 rfl rfl rfl (Nat.le_of_ble_eq_true rfl) rfl hd kk
theorem pf_X9_255 (X : cx_ok G p s m args meth c cc nL RX9 ret) (S : st_ok G n I J s H locs) {i : Nat} (hi : i < 1) {v : Int32} (hd : decode cc pc = .ok (.putfield 255, 3)) (kk : ∀ (J1 : mm_T) (H1 : Heap) (locs1 : List Loc), J1 = mm_up J 9 i 34 v → st_ok G n I J1 s H1 locs1 → W p l e R s m args below meth c H1 locs1 cells slots Q (F0 m (pc + 3) ls rest)) : W p l e R s m args below meth c H locs cells slots Q (F0 m pc ls (.int v :: .ref (cx_b G + ly_loc 9 i) :: rest)) := r_putJ X S (ly_ok_9 hi S.2.2.2) rfl rfl (show vwCl[9]? = some (RX9, TX9, 61) from rfl) in_X9 tyX9_ok nmX9 34 (by decide) lk_X9_255 rfl rfl rfl (Nat.le_of_ble_eq_true rfl) rfl hd kk
theorem pf_X9_258 (X : cx_ok G p s m args meth c cc nL RX9 ret) (S : st_ok G n I J s H locs) {i : Nat} (hi : i < 1) {v : Int32} (hd : decode cc pc = .ok (.putfield 258, 3)) (kk : ∀ (J1 : mm_T) (H1 : Heap) (locs1 : List Loc), J1 = mm_up J 9 i 33 v → st_ok G n I J1 s H1 locs1 → W p l e R s m args below meth c H1 locs1 cells slots Q (F0 m (pc + 3) ls rest)) : W p l e R s m args below meth c H locs cells slots Q (F0 m pc ls (.int v :: .ref (cx_b G + ly_loc 9 i) :: rest)) := r_putJ X S (ly_ok_9 hi S.2.2.2) rfl rfl (show vwCl[9]? = some (RX9, TX9, 61) from rfl) in_X9 tyX9_ok nmX9 33 (by decide) lk_X9_258 rfl rfl rfl (Nat.le_of_ble_eq_true rfl) rfl hd kk
theorem pf_X9_265 (X : cx_ok G p s m args meth c cc nL RX9 ret) (S : st_ok G n I J s H locs) {i : Nat} (hi : i < 1) {v : Int32} (hd : decode cc pc = .ok (.putfield 265, 3)) (kk : ∀ (J1 : mm_T) (H1 : Heap) (locs1 : List Loc), J1 = mm_up J 9 i 35 v → st_ok G n I J1 s H1 locs1 → W p l e R s m args below meth c H1 locs1 cells slots Q (F0 m (pc + 3) ls rest)) : W p l e R s m args below meth c H locs cells slots Q (F0 m pc ls (.int v :: .ref (cx_b G + ly_loc 9 i) :: rest)) := r_putJ X S (ly_ok_9 hi S.2.2.2) rfl rfl (show vwCl[9]? = some (RX9, TX9, 61) from rfl) in_X9 tyX9_ok nmX9 35 (by decide) lk_X9_265 rfl rfl rfl (Nat.le_of_ble_eq_true rfl) rfl hd kk
theorem pf_X9_268 (X : cx_ok G p s m args meth c cc nL RX9 ret) (S : st_ok G n I J s H locs) {i : Nat} (hi : i < 1) {v : Int32} (hd : decode cc pc = .ok (.putfield 268, 3)) (kk : ∀ (J1 : mm_T) (H1 : Heap) (locs1 : List Loc), J1 = mm_up J 9 i 36 v → st_ok G n I J1 s H1 locs1 → W p l e R s m args below meth c H1 locs1 cells slots Q (F0 m (pc + 3) ls rest)) : W p l e R s m args below meth c H locs cells slots Q (F0 m pc ls (.int v :: .ref (cx_b G + ly_loc 9 i) :: rest)) := r_putJ X S (ly_ok_9 hi S.2.2.2) rfl rfl (show vwCl[9]? = some (RX9, TX9, 61) from rfl) in_X9 tyX9_ok nmX9 36 (by decide) lk_X9_268 rfl rfl rfl (Nat.le_of_ble_eq_true rfl) rfl hd kk
theorem pf_X9_271 (X : cx_ok G p s m args meth c cc nL RX9 ret) (S : st_ok G n I J s H locs) {i : Nat} (hi : i < 1) {v : Int32} (hd : decode cc pc = .ok (.putfield 271, 3)) (kk : ∀ (J1 : mm_T) (H1 : Heap) (locs1 : List Loc), J1 = mm_up J 9 i 39 v → st_ok G n I J1 s H1 locs1 → W p l e R s m args below meth c H1 locs1 cells slots Q (F0 m (pc + 3) ls rest)) : W p l e R s m args below meth c H locs cells slots Q (F0 m pc ls (.int v :: .ref (cx_b G + ly_loc 9 i) :: rest)) := r_putJ X S (ly_ok_9 hi S.2.2.2) rfl rfl (show vwCl[9]? = some (RX9, TX9, 61) from rfl) in_X9 tyX9_ok nmX9 39 (by decide) lk_X9_271 rfl rfl rfl (Nat.le_of_ble_eq_true rfl) rfl hd kk
theorem pf_X9_274 (X : cx_ok G p s m args meth c cc nL RX9 ret) (S : st_ok G n I J s H locs) {i : Nat} (hi : i < 1) {v : Int32} (hd : decode cc pc = .ok (.putfield 274, 3)) (kk : ∀ (J1 : mm_T) (H1 : Heap) (locs1 : List Loc), J1 = mm_up J 9 i 40 v → st_ok G n I J1 s H1 locs1 → W p l e R s m args below meth c H1 locs1 cells slots Q (F0 m (pc + 3) ls rest)) : W p l e R s m args below meth c H locs cells slots Q (F0 m pc ls (.int v :: .ref (cx_b G + ly_loc 9 i) :: rest)) := r_putJ X S (ly_ok_9 hi S.2.2.2) rfl rfl (show vwCl[9]? = some (RX9, TX9, 61) from rfl) in_X9 tyX9_ok nmX9 40 (by decide) lk_X9_274 rfl rfl rfl (Nat.le_of_ble_eq_true rfl) rfl hd kk
theorem pf_X9_315 (X : cx_ok G p s m args meth c cc nL RX9 ret) (S : st_ok G n I J s H locs) {i : Nat} (hi : i < 1) {v : Int32} (hd : decode cc pc = .ok (.putfield 315, 3)) (kk : ∀ (J1 : mm_T) (H1 : Heap) (locs1 : List Loc), J1 = mm_up J 9 i 46 v → st_ok G n I J1 s H1 locs1 → W p l e R s m args below meth c H1 locs1 cells slots Q (F0 m (pc + 3) ls rest)) : W p l e R s m args below meth c H locs cells slots Q (F0 m pc ls (.int v :: .ref (cx_b G + ly_loc 9 i) :: rest)) := r_putJ X S (ly_ok_9 hi S.2.2.2) rfl rfl (show vwCl[9]? = some (RX9, TX9, 61) from rfl) in_X9 tyX9_ok nmX9 46 (by decide) lk_X9_315 rfl rfl rfl (Nat.le_of_ble_eq_true rfl) rfl hd kk
theorem pf_X9_318 (X : cx_ok G p s m args meth c cc nL RX9 ret) (S : st_ok G n I J s H locs) {i : Nat} (hi : i < 1) {v : Int32} (hd : decode cc pc = .ok (.putfield 318, 3)) (kk : ∀ (J1 : mm_T) (H1 : Heap) (locs1 : List Loc), J1 = mm_up J 9 i 47 v → st_ok G n I J1 s H1 locs1 → W p l e R s m args below meth c H1 locs1 cells slots Q (F0 m (pc + 3) ls rest)) : W p l e R s m args below meth c H locs cells slots Q (F0 m pc ls (.int v :: .ref (cx_b G + ly_loc 9 i) :: rest)) := r_putJ X S (ly_ok_9 hi S.2.2.2) rfl rfl (show vwCl[9]? = some (RX9, TX9, 61) from rfl) in_X9 tyX9_ok nmX9 47 (by decide) lk_X9_318 rfl rfl rfl (Nat.le_of_ble_eq_true rfl) rfl hd kk
theorem pf_X9_321 (X : cx_ok G p s m args meth c cc nL RX9 ret) (S : st_ok G n I J s H locs) {i : Nat} (hi : i < 1) {v : Int32} (hd : decode cc pc = .ok (.putfield 321, 3)) (kk : ∀ (J1 : mm_T) (H1 : Heap) (locs1 : List Loc), J1 = mm_up J 9 i 48 v → st_ok G n I J1 s H1 locs1 → W p l e R s m args below meth c H1 locs1 cells slots Q (F0 m (pc + 3) ls rest)) : W p l e R s m args below meth c H locs cells slots Q (F0 m pc ls (.int v :: .ref (cx_b G + ly_loc 9 i) :: rest)) := r_putJ X S (ly_ok_9 hi S.2.2.2) rfl rfl (show vwCl[9]? = some (RX9, TX9, 61) from rfl) in_X9 tyX9_ok nmX9 48 (by decide) lk_X9_321 rfl rfl rfl (Nat.le_of_ble_eq_true rfl) rfl hd kk
theorem pf_X9_327 (X : cx_ok G p s m args meth c cc nL RX9 ret) (S : st_ok G n I J s H locs) {i : Nat} (hi : i < 1) {v : Int32} (hd : decode cc pc = .ok (.putfield 327, 3)) (kk : ∀ (J1 : mm_T) (H1 : Heap) (locs1 : List Loc), J1 = mm_up J 9 i 45 v → st_ok G n I J1 s H1 locs1 → W p l e R s m args below meth c H1 locs1 cells slots Q (F0 m (pc + 3) ls rest)) : W p l e R s m args below meth c H locs cells slots Q (F0 m pc ls (.int v :: .ref (cx_b G + ly_loc 9 i) :: rest)) := r_putJ X S (ly_ok_9 hi S.2.2.2) rfl rfl (show vwCl[9]? = some (RX9, TX9, 61) from rfl) in_X9 tyX9_ok nmX9 45 (by decide) lk_X9_327 rfl rfl rfl (Nat.le_of_ble_eq_true rfl) rfl hd kk
theorem pf_X9_342 (X : cx_ok G p s m args meth c cc nL RX9 ret) (S : st_ok G n I J s H locs) {i : Nat} (hi : i < 1) {v : Int32} (hd : decode cc pc = .ok (.putfield 342, 3)) (kk : ∀ (J1 : mm_T) (H1 : Heap) (locs1 : List Loc), J1 = mm_up J 9 i 49 v → st_ok G n I J1 s H1 locs1 → W p l e R s m args below meth c H1 locs1 cells slots Q (F0 m (pc + 3) ls rest)) : W p l e R s m args below meth c H locs cells slots Q (F0 m pc ls (.int v :: .ref (cx_b G + ly_loc 9 i) :: rest)) := r_putJ X S (ly_ok_9 hi S.2.2.2) rfl rfl (show vwCl[9]? = some (RX9, TX9, 61) from rfl) in_X9 tyX9_ok nmX9 49 (by decide) lk_X9_342 rfl rfl rfl (Nat.le_of_ble_eq_true rfl) rfl hd kk
theorem pf_X9_371 (X : cx_ok G p s m args meth c cc nL RX9 ret) (S : st_ok G n I J s H locs) {i : Nat} (hi : i < 1) {v : Int32} (hd : decode cc pc = .ok (.putfield 371, 3)) (kk : ∀ (J1 : mm_T) (H1 : Heap) (locs1 : List Loc), J1 = mm_up J 9 i 53 v → st_ok G n I J1 s H1 locs1 → W p l e R s m args below meth c H1 locs1 cells slots Q (F0 m (pc + 3) ls rest)) : W p l e R s m args below meth c H locs cells slots Q (F0 m pc ls (.int v :: .ref (cx_b G + ly_loc 9 i) :: rest)) := r_putJ X S (ly_ok_9 hi S.2.2.2) rfl rfl (show vwCl[9]? = some (RX9, TX9, 61) from rfl) in_X9 tyX9_ok nmX9 53 (by decide) lk_X9_371 rfl rfl rfl (Nat.le_of_ble_eq_true rfl) rfl hd kk
theorem pf_X9_374 (X : cx_ok G p s m args meth c cc nL RX9 ret) (S : st_ok G n I J s H locs) {i : Nat} (hi : i < 1) {v : Int32} (hd : decode cc pc = .ok (.putfield 374, 3)) (kk : ∀ (J1 : mm_T) (H1 : Heap) (locs1 : List Loc), J1 = mm_up J 9 i 54 v → st_ok G n I J1 s H1 locs1 → W p l e R s m args below meth c H1 locs1 cells slots Q (F0 m (pc + 3) ls rest)) : W p l e R s m args below meth c H locs cells slots Q (F0 m pc ls (.int v :: .ref (cx_b G + ly_loc 9 i) :: rest)) := r_putJ X S (ly_ok_9 hi S.2.2.2) rfl rfl (show vwCl[9]? = some (RX9, TX9, 61) from rfl) in_X9 tyX9_ok nmX9 54 (by decide) lk_X9_374 rfl rfl rfl (Nat.le_of_ble_eq_true rfl) rfl hd kk
theorem pf_X9_377 (X : cx_ok G p s m args meth c cc nL RX9 ret) (S : st_ok G n I J s H locs) {i : Nat} (hi : i < 1) {v : Int32} (hd : decode cc pc = .ok (.putfield 377, 3)) (kk : ∀ (J1 : mm_T) (H1 : Heap) (locs1 : List Loc), J1 = mm_up J 9 i 55 v → st_ok G n I J1 s H1 locs1 → W p l e R s m args below meth c H1 locs1 cells slots Q (F0 m (pc + 3) ls rest)) : W p l e R s m args below meth c H locs cells slots Q (F0 m pc ls (.int v :: .ref (cx_b G + ly_loc 9 i) :: rest)) := r_putJ X S (ly_ok_9 hi S.2.2.2) rfl rfl (show vwCl[9]? = some (RX9, TX9, 61) from rfl) in_X9 tyX9_ok nmX9 55 (by decide) lk_X9_377 rfl rfl rfl (Nat.le_of_ble_eq_true rfl) rfl hd kk
theorem pf_X9_380 (X : cx_ok G p s m args meth c cc nL RX9 ret) (S : st_ok G n I J s H locs) {i : Nat} (hi : i < 1) {v : Int32} (hd : decode cc pc = .ok (.putfield 380, 3)) (kk : ∀ (J1 : mm_T) (H1 : Heap) (locs1 : List Loc), J1 = mm_up J 9 i 56 v → st_ok G n I J1 s H1 locs1 → W p l e R s m args below meth c H1 locs1 cells slots Q (F0 m (pc + 3) ls rest)) : W p l e R s m args below meth c H locs cells slots Q (F0 m pc ls (.int v :: .ref (cx_b G + ly_loc 9 i) :: rest)) := r_putJ X S (ly_ok_9 hi S.2.2.2) rfl rfl (show vwCl[9]? = some (RX9, TX9, 61) from rfl) in_X9 tyX9_ok nmX9 56 (by decide) lk_X9_380 rfl rfl rfl (Nat.le_of_ble_eq_true rfl) rfl hd kk
theorem al_10 (X : cx_ok G p s m args meth c cc nL own ret) (S : st_ok G n I J s H locs) {i : Nat} (hi : i < 9) {x : Int32} (hx : ix_in x 6 = true) (hd : decode cc pc = .ok (.iaload, 1)) (kk : W p l e R s m args below meth c H locs cells slots Q (F0 m (pc + 1) ls (.int (I 10 i x.toNatClampNeg) :: rest))) : W p l e R s m args below meth c H locs cells slots Q (F0 m pc ls (.int x :: .ref (cx_b G + ly_loc 10 i) :: rest)) := r_iald X S (ly_ok_10 hi S.2.2.2) rfl hx hd kk
theorem as_10 (X : cx_ok G p s m args meth c cc nL own ret) (S : st_ok G n I J s H locs) {i : Nat} (hi : i < 9) {x y : Int32} (hx : ix_in x 6 = true) (hd : decode cc pc = .ok (.iastore, 1)) (kk : ∀ (I1 : mm_T) (H1 : Heap) (locs1 : List Loc), I1 = mm_up I 10 i x.toNatClampNeg y → st_ok G n I1 J s H1 locs1 → W p l e R s m args below meth c H1 locs1 cells slots Q (F0 m (pc + 1) ls rest)) : W p l e R s m args below meth c H locs cells slots Q (F0 m pc ls (.int y :: .int x :: .ref (cx_b G + ly_loc 10 i) :: rest)) := r_iastI X S (ly_ok_10 hi S.2.2.2) rfl (fun _ => rfl) hx hd kk
theorem ln_10 (X : cx_ok G p s m args meth c cc nL own ret) (S : st_ok G n I J s H locs) {i : Nat} (hi : i < 9) (hd : decode cc pc = .ok (.arraylength, 1)) (kk : W p l e R s m args below meth c H locs cells slots Q (F0 m (pc + 1) ls (.int (Int32.ofNat 6) :: rest))) : W p l e R s m args below meth c H locs cells slots Q (F0 m pc ls (.ref (cx_b G + ly_loc 10 i) :: rest)) := r_alen X S (ly_ok_10 hi S.2.2.2) rfl rfl hd kk
theorem al_11 (X : cx_ok G p s m args meth c cc nL own ret) (S : st_ok G n I J s H locs) {i : Nat} (hi : i < 9) {x : Int32} (hx : ix_in x 8 = true) (hd : decode cc pc = .ok (.iaload, 1)) (kk : W p l e R s m args below meth c H locs cells slots Q (F0 m (pc + 1) ls (.int (I 11 i x.toNatClampNeg) :: rest))) : W p l e R s m args below meth c H locs cells slots Q (F0 m pc ls (.int x :: .ref (cx_b G + ly_loc 11 i) :: rest)) := r_iald X S (ly_ok_11 hi S.2.2.2) rfl hx hd kk
theorem as_11 (X : cx_ok G p s m args meth c cc nL own ret) (S : st_ok G n I J s H locs) {i : Nat} (hi : i < 9) {x y : Int32} (hx : ix_in x 8 = true) (hd : decode cc pc = .ok (.iastore, 1)) (kk : ∀ (I1 : mm_T) (H1 : Heap) (locs1 : List Loc), I1 = mm_up I 11 i x.toNatClampNeg y → st_ok G n I1 J s H1 locs1 → W p l e R s m args below meth c H1 locs1 cells slots Q (F0 m (pc + 1) ls rest)) : W p l e R s m args below meth c H locs cells slots Q (F0 m pc ls (.int y :: .int x :: .ref (cx_b G + ly_loc 11 i) :: rest)) := r_iastI X S (ly_ok_11 hi S.2.2.2) rfl (fun _ => rfl) hx hd kk
theorem ln_11 (X : cx_ok G p s m args meth c cc nL own ret) (S : st_ok G n I J s H locs) {i : Nat} (hi : i < 9) (hd : decode cc pc = .ok (.arraylength, 1)) (kk : W p l e R s m args below meth c H locs cells slots Q (F0 m (pc + 1) ls (.int (Int32.ofNat 8) :: rest))) : W p l e R s m args below meth c H locs cells slots Q (F0 m pc ls (.ref (cx_b G + ly_loc 11 i) :: rest)) := r_alen X S (ly_ok_11 hi S.2.2.2) rfl rfl hd kk
theorem al_12 (X : cx_ok G p s m args meth c cc nL own ret) (S : st_ok G n I J s H locs) {i : Nat} (hi : i < 9) {x : Int32} (hx : ix_in x 8 = true) (hd : decode cc pc = .ok (.iaload, 1)) (kk : W p l e R s m args below meth c H locs cells slots Q (F0 m (pc + 1) ls (.int (I 12 i x.toNatClampNeg) :: rest))) : W p l e R s m args below meth c H locs cells slots Q (F0 m pc ls (.int x :: .ref (cx_b G + ly_loc 12 i) :: rest)) := r_iald X S (ly_ok_12 hi S.2.2.2) rfl hx hd kk
theorem as_12 (X : cx_ok G p s m args meth c cc nL own ret) (S : st_ok G n I J s H locs) {i : Nat} (hi : i < 9) {x y : Int32} (hx : ix_in x 8 = true) (hd : decode cc pc = .ok (.iastore, 1)) (kk : ∀ (I1 : mm_T) (H1 : Heap) (locs1 : List Loc), I1 = mm_up I 12 i x.toNatClampNeg y → st_ok G n I1 J s H1 locs1 → W p l e R s m args below meth c H1 locs1 cells slots Q (F0 m (pc + 1) ls rest)) : W p l e R s m args below meth c H locs cells slots Q (F0 m pc ls (.int y :: .int x :: .ref (cx_b G + ly_loc 12 i) :: rest)) := r_iastI X S (ly_ok_12 hi S.2.2.2) rfl (fun _ => rfl) hx hd kk
theorem ln_12 (X : cx_ok G p s m args meth c cc nL own ret) (S : st_ok G n I J s H locs) {i : Nat} (hi : i < 9) (hd : decode cc pc = .ok (.arraylength, 1)) (kk : W p l e R s m args below meth c H locs cells slots Q (F0 m (pc + 1) ls (.int (Int32.ofNat 8) :: rest))) : W p l e R s m args below meth c H locs cells slots Q (F0 m pc ls (.ref (cx_b G + ly_loc 12 i) :: rest)) := r_alen X S (ly_ok_12 hi S.2.2.2) rfl rfl hd kk
theorem al_13 (X : cx_ok G p s m args meth c cc nL own ret) (S : st_ok G n I J s H locs) {i : Nat} (hi : i < 9) {x : Int32} (hx : ix_in x 8 = true) (hd : decode cc pc = .ok (.iaload, 1)) (kk : W p l e R s m args below meth c H locs cells slots Q (F0 m (pc + 1) ls (.int (I 13 i x.toNatClampNeg) :: rest))) : W p l e R s m args below meth c H locs cells slots Q (F0 m pc ls (.int x :: .ref (cx_b G + ly_loc 13 i) :: rest)) := r_iald X S (ly_ok_13 hi S.2.2.2) rfl hx hd kk
theorem as_13 (X : cx_ok G p s m args meth c cc nL own ret) (S : st_ok G n I J s H locs) {i : Nat} (hi : i < 9) {x y : Int32} (hx : ix_in x 8 = true) (hd : decode cc pc = .ok (.iastore, 1)) (kk : ∀ (I1 : mm_T) (H1 : Heap) (locs1 : List Loc), I1 = mm_up I 13 i x.toNatClampNeg y → st_ok G n I1 J s H1 locs1 → W p l e R s m args below meth c H1 locs1 cells slots Q (F0 m (pc + 1) ls rest)) : W p l e R s m args below meth c H locs cells slots Q (F0 m pc ls (.int y :: .int x :: .ref (cx_b G + ly_loc 13 i) :: rest)) := r_iastI X S (ly_ok_13 hi S.2.2.2) rfl (fun _ => rfl) hx hd kk
theorem ln_13 (X : cx_ok G p s m args meth c cc nL own ret) (S : st_ok G n I J s H locs) {i : Nat} (hi : i < 9) (hd : decode cc pc = .ok (.arraylength, 1)) (kk : W p l e R s m args below meth c H locs cells slots Q (F0 m (pc + 1) ls (.int (Int32.ofNat 8) :: rest))) : W p l e R s m args below meth c H locs cells slots Q (F0 m pc ls (.ref (cx_b G + ly_loc 13 i) :: rest)) := r_alen X S (ly_ok_13 hi S.2.2.2) rfl rfl hd kk
theorem al_14 (X : cx_ok G p s m args meth c cc nL own ret) (S : st_ok G n I J s H locs) {i : Nat} (hi : i < 9) {x : Int32} (hx : ix_in x 7 = true) (hd : decode cc pc = .ok (.iaload, 1)) (kk : W p l e R s m args below meth c H locs cells slots Q (F0 m (pc + 1) ls (.int (I 14 i x.toNatClampNeg) :: rest))) : W p l e R s m args below meth c H locs cells slots Q (F0 m pc ls (.int x :: .ref (cx_b G + ly_loc 14 i) :: rest)) := r_iald X S (ly_ok_14 hi S.2.2.2) rfl hx hd kk
theorem as_14 (X : cx_ok G p s m args meth c cc nL own ret) (S : st_ok G n I J s H locs) {i : Nat} (hi : i < 9) {x y : Int32} (hx : ix_in x 7 = true) (hd : decode cc pc = .ok (.iastore, 1)) (kk : ∀ (I1 : mm_T) (H1 : Heap) (locs1 : List Loc), I1 = mm_up I 14 i x.toNatClampNeg y → st_ok G n I1 J s H1 locs1 → W p l e R s m args below meth c H1 locs1 cells slots Q (F0 m (pc + 1) ls rest)) : W p l e R s m args below meth c H locs cells slots Q (F0 m pc ls (.int y :: .int x :: .ref (cx_b G + ly_loc 14 i) :: rest)) := r_iastI X S (ly_ok_14 hi S.2.2.2) rfl (fun _ => rfl) hx hd kk
theorem ln_14 (X : cx_ok G p s m args meth c cc nL own ret) (S : st_ok G n I J s H locs) {i : Nat} (hi : i < 9) (hd : decode cc pc = .ok (.arraylength, 1)) (kk : W p l e R s m args below meth c H locs cells slots Q (F0 m (pc + 1) ls (.int (Int32.ofNat 7) :: rest))) : W p l e R s m args below meth c H locs cells slots Q (F0 m pc ls (.ref (cx_b G + ly_loc 14 i) :: rest)) := r_alen X S (ly_ok_14 hi S.2.2.2) rfl rfl hd kk
theorem al_15 (X : cx_ok G p s m args meth c cc nL own ret) (S : st_ok G n I J s H locs) {i : Nat} (hi : i < 9) {x : Int32} (hx : ix_in x 7 = true) (hd : decode cc pc = .ok (.iaload, 1)) (kk : W p l e R s m args below meth c H locs cells slots Q (F0 m (pc + 1) ls (.int (I 15 i x.toNatClampNeg) :: rest))) : W p l e R s m args below meth c H locs cells slots Q (F0 m pc ls (.int x :: .ref (cx_b G + ly_loc 15 i) :: rest)) := r_iald X S (ly_ok_15 hi S.2.2.2) rfl hx hd kk
theorem as_15 (X : cx_ok G p s m args meth c cc nL own ret) (S : st_ok G n I J s H locs) {i : Nat} (hi : i < 9) {x y : Int32} (hx : ix_in x 7 = true) (hd : decode cc pc = .ok (.iastore, 1)) (kk : ∀ (I1 : mm_T) (H1 : Heap) (locs1 : List Loc), I1 = mm_up I 15 i x.toNatClampNeg y → st_ok G n I1 J s H1 locs1 → W p l e R s m args below meth c H1 locs1 cells slots Q (F0 m (pc + 1) ls rest)) : W p l e R s m args below meth c H locs cells slots Q (F0 m pc ls (.int y :: .int x :: .ref (cx_b G + ly_loc 15 i) :: rest)) := r_iastI X S (ly_ok_15 hi S.2.2.2) rfl (fun _ => rfl) hx hd kk
theorem ln_15 (X : cx_ok G p s m args meth c cc nL own ret) (S : st_ok G n I J s H locs) {i : Nat} (hi : i < 9) (hd : decode cc pc = .ok (.arraylength, 1)) (kk : W p l e R s m args below meth c H locs cells slots Q (F0 m (pc + 1) ls (.int (Int32.ofNat 7) :: rest))) : W p l e R s m args below meth c H locs cells slots Q (F0 m pc ls (.ref (cx_b G + ly_loc 15 i) :: rest)) := r_alen X S (ly_ok_15 hi S.2.2.2) rfl rfl hd kk
theorem aa_16 (X : cx_ok G p s m args meth c cc nL own ret) (S : st_ok G n I J s H locs) {i : Nat} (hi : i < 2) {x : Int32} (hx : ix_in x 8 = true) (hd : decode cc pc = .ok (.aaload, 1)) (kk : W p l e R s m args below meth c H locs cells slots Q (F0 m (pc + 1) ls (.ref (cx_b G + ly_loc 2 (8 * i + x.toNatClampNeg)) :: rest))) : W p l e R s m args below meth c H locs cells slots Q (F0 m pc ls (.int x :: .ref (cx_b G + ly_loc 16 i) :: rest)) := r_aald X S (ly_ok_16 hi S.2.2.2) (t0 := 2) rfl rfl hx rfl hd kk
theorem aa_17 (X : cx_ok G p s m args meth c cc nL own ret) (S : st_ok G n I J s H locs) {i : Nat} (hi : i < 2) {x : Int32} (hx : ix_in x 7 = true) (hd : decode cc pc = .ok (.aaload, 1)) (kk : W p l e R s m args below meth c H locs cells slots Q (F0 m (pc + 1) ls (.ref (cx_b G + ly_loc 6 (7 * i + x.toNatClampNeg)) :: rest))) : W p l e R s m args below meth c H locs cells slots Q (F0 m pc ls (.int x :: .ref (cx_b G + ly_loc 17 i) :: rest)) := r_aald X S (ly_ok_17 hi S.2.2.2) (t0 := 3) rfl rfl hx rfl hd kk
theorem al_18 (X : cx_ok G p s m args meth c cc nL own ret) (S : st_ok G n I J s H locs) {i : Nat} (hi : i < 1) {x : Int32} (hx : ix_in x 160 = true) (hd : decode cc pc = .ok (.iaload, 1)) (kk : W p l e R s m args below meth c H locs cells slots Q (F0 m (pc + 1) ls (.int (I 18 i x.toNatClampNeg) :: rest))) : W p l e R s m args below meth c H locs cells slots Q (F0 m pc ls (.int x :: .ref (cx_b G + ly_loc 18 i) :: rest)) := r_iald X S (ly_ok_18 hi S.2.2.2) rfl hx hd kk
theorem as_18 (X : cx_ok G p s m args meth c cc nL own ret) (S : st_ok G n I J s H locs) {i : Nat} (hi : i < 1) {x y : Int32} (hx : ix_in x 160 = true) (hd : decode cc pc = .ok (.iastore, 1)) (kk : ∀ (I1 : mm_T) (H1 : Heap) (locs1 : List Loc), I1 = mm_up I 18 i x.toNatClampNeg y → st_ok G n I1 J s H1 locs1 → W p l e R s m args below meth c H1 locs1 cells slots Q (F0 m (pc + 1) ls rest)) : W p l e R s m args below meth c H locs cells slots Q (F0 m pc ls (.int y :: .int x :: .ref (cx_b G + ly_loc 18 i) :: rest)) := r_iastI X S (ly_ok_18 hi S.2.2.2) rfl (fun _ => rfl) hx hd kk
theorem ln_18 (X : cx_ok G p s m args meth c cc nL own ret) (S : st_ok G n I J s H locs) {i : Nat} (hi : i < 1) (hd : decode cc pc = .ok (.arraylength, 1)) (kk : W p l e R s m args below meth c H locs cells slots Q (F0 m (pc + 1) ls (.int (Int32.ofNat 160) :: rest))) : W p l e R s m args below meth c H locs cells slots Q (F0 m pc ls (.ref (cx_b G + ly_loc 18 i) :: rest)) := r_alen X S (ly_ok_18 hi S.2.2.2) rfl rfl hd kk
theorem al_19 (X : cx_ok G p s m args meth c cc nL own ret) (S : st_ok G n I J s H locs) {i : Nat} (hi : i < 1) {x : Int32} (hx : ix_in x 160 = true) (hd : decode cc pc = .ok (.iaload, 1)) (kk : W p l e R s m args below meth c H locs cells slots Q (F0 m (pc + 1) ls (.int (I 19 i x.toNatClampNeg) :: rest))) : W p l e R s m args below meth c H locs cells slots Q (F0 m pc ls (.int x :: .ref (cx_b G + ly_loc 19 i) :: rest)) := r_iald X S (ly_ok_19 hi S.2.2.2) rfl hx hd kk
theorem as_19 (X : cx_ok G p s m args meth c cc nL own ret) (S : st_ok G n I J s H locs) {i : Nat} (hi : i < 1) {x y : Int32} (hx : ix_in x 160 = true) (hd : decode cc pc = .ok (.iastore, 1)) (kk : ∀ (I1 : mm_T) (H1 : Heap) (locs1 : List Loc), I1 = mm_up I 19 i x.toNatClampNeg y → st_ok G n I1 J s H1 locs1 → W p l e R s m args below meth c H1 locs1 cells slots Q (F0 m (pc + 1) ls rest)) : W p l e R s m args below meth c H locs cells slots Q (F0 m pc ls (.int y :: .int x :: .ref (cx_b G + ly_loc 19 i) :: rest)) := r_iastI X S (ly_ok_19 hi S.2.2.2) rfl (fun _ => rfl) hx hd kk
theorem ln_19 (X : cx_ok G p s m args meth c cc nL own ret) (S : st_ok G n I J s H locs) {i : Nat} (hi : i < 1) (hd : decode cc pc = .ok (.arraylength, 1)) (kk : W p l e R s m args below meth c H locs cells slots Q (F0 m (pc + 1) ls (.int (Int32.ofNat 160) :: rest))) : W p l e R s m args below meth c H locs cells slots Q (F0 m pc ls (.ref (cx_b G + ly_loc 19 i) :: rest)) := r_alen X S (ly_ok_19 hi S.2.2.2) rfl rfl hd kk
theorem aa_20 (X : cx_ok G p s m args meth c cc nL own ret) (S : st_ok G n I J s H locs) {i : Nat} (hi : i < 1) {x : Int32} (hx : ix_in x 6 = true) (hd : decode cc pc = .ok (.aaload, 1)) (kk : W p l e R s m args below meth c H locs cells slots Q (F0 m (pc + 1) ls (.ref (cx_b G + ly_loc 7 (I 20 i x.toNatClampNeg).toNatClampNeg) :: rest))) : W p l e R s m args below meth c H locs cells slots Q (F0 m pc ls (.int x :: .ref (cx_b G + ly_loc 20 i) :: rest)) := r_aald X S (ly_ok_20 hi S.2.2.2) (t0 := 4) rfl rfl hx rfl hd kk
theorem aa_21 (X : cx_ok G p s m args meth c cc nL own ret) (S : st_ok G n I J s H locs) {i : Nat} (hi : i < 1) {x : Int32} (hx : ix_in x 8 = true) (hd : decode cc pc = .ok (.aaload, 1)) (kk : W p l e R s m args below meth c H locs cells slots Q (F0 m (pc + 1) ls (.ref (cx_b G + ly_loc 0 (x.toNatClampNeg + 1)) :: rest))) : W p l e R s m args below meth c H locs cells slots Q (F0 m pc ls (.int x :: .ref (cx_b G + ly_loc 21 i) :: rest)) := r_aald X S (ly_ok_21 hi S.2.2.2) (t0 := 5) rfl rfl hx rfl hd kk
theorem al_22 (X : cx_ok G p s m args meth c cc nL own ret) (S : st_ok G n I J s H locs) {i : Nat} (hi : i < 1) {x : Int32} (hx : ix_in x 2 = true) (hd : decode cc pc = .ok (.iaload, 1)) (kk : W p l e R s m args below meth c H locs cells slots Q (F0 m (pc + 1) ls (.int (I 22 i x.toNatClampNeg) :: rest))) : W p l e R s m args below meth c H locs cells slots Q (F0 m pc ls (.int x :: .ref (cx_b G + ly_loc 22 i) :: rest)) := r_iald X S (ly_ok_22 hi S.2.2.2) rfl hx hd kk
theorem as_22 (X : cx_ok G p s m args meth c cc nL own ret) (S : st_ok G n I J s H locs) {i : Nat} (hi : i < 1) {x y : Int32} (hx : ix_in x 2 = true) (hd : decode cc pc = .ok (.iastore, 1)) (kk : ∀ (I1 : mm_T) (H1 : Heap) (locs1 : List Loc), I1 = mm_up I 22 i x.toNatClampNeg y → st_ok G n I1 J s H1 locs1 → W p l e R s m args below meth c H1 locs1 cells slots Q (F0 m (pc + 1) ls rest)) : W p l e R s m args below meth c H locs cells slots Q (F0 m pc ls (.int y :: .int x :: .ref (cx_b G + ly_loc 22 i) :: rest)) := r_iastI X S (ly_ok_22 hi S.2.2.2) rfl (fun _ => rfl) hx hd kk
theorem ln_22 (X : cx_ok G p s m args meth c cc nL own ret) (S : st_ok G n I J s H locs) {i : Nat} (hi : i < 1) (hd : decode cc pc = .ok (.arraylength, 1)) (kk : W p l e R s m args below meth c H locs cells slots Q (F0 m (pc + 1) ls (.int (Int32.ofNat 2) :: rest))) : W p l e R s m args below meth c H locs cells slots Q (F0 m pc ls (.ref (cx_b G + ly_loc 22 i) :: rest)) := r_alen X S (ly_ok_22 hi S.2.2.2) rfl rfl hd kk
theorem al_23 (X : cx_ok G p s m args meth c cc nL own ret) (S : st_ok G n I J s H locs) {i : Nat} (hi : i < 1) {x : Int32} (hx : ix_in x 2 = true) (hd : decode cc pc = .ok (.iaload, 1)) (kk : W p l e R s m args below meth c H locs cells slots Q (F0 m (pc + 1) ls (.int (I 23 i x.toNatClampNeg) :: rest))) : W p l e R s m args below meth c H locs cells slots Q (F0 m pc ls (.int x :: .ref (cx_b G + ly_loc 23 i) :: rest)) := r_iald X S (ly_ok_23 hi S.2.2.2) rfl hx hd kk
theorem as_23 (X : cx_ok G p s m args meth c cc nL own ret) (S : st_ok G n I J s H locs) {i : Nat} (hi : i < 1) {x y : Int32} (hx : ix_in x 2 = true) (hd : decode cc pc = .ok (.iastore, 1)) (kk : ∀ (I1 : mm_T) (H1 : Heap) (locs1 : List Loc), I1 = mm_up I 23 i x.toNatClampNeg y → st_ok G n I1 J s H1 locs1 → W p l e R s m args below meth c H1 locs1 cells slots Q (F0 m (pc + 1) ls rest)) : W p l e R s m args below meth c H locs cells slots Q (F0 m pc ls (.int y :: .int x :: .ref (cx_b G + ly_loc 23 i) :: rest)) := r_iastI X S (ly_ok_23 hi S.2.2.2) rfl (fun _ => rfl) hx hd kk
theorem ln_23 (X : cx_ok G p s m args meth c cc nL own ret) (S : st_ok G n I J s H locs) {i : Nat} (hi : i < 1) (hd : decode cc pc = .ok (.arraylength, 1)) (kk : W p l e R s m args below meth c H locs cells slots Q (F0 m (pc + 1) ls (.int (Int32.ofNat 2) :: rest))) : W p l e R s m args below meth c H locs cells slots Q (F0 m pc ls (.ref (cx_b G + ly_loc 23 i) :: rest)) := r_alen X S (ly_ok_23 hi S.2.2.2) rfl rfl hd kk
theorem al_24 (X : cx_ok G p s m args meth c cc nL own ret) (S : st_ok G n I J s H locs) {i : Nat} (hi : i < 1) {x : Int32} (hx : ix_in x 2 = true) (hd : decode cc pc = .ok (.iaload, 1)) (kk : W p l e R s m args below meth c H locs cells slots Q (F0 m (pc + 1) ls (.int (I 24 i x.toNatClampNeg) :: rest))) : W p l e R s m args below meth c H locs cells slots Q (F0 m pc ls (.int x :: .ref (cx_b G + ly_loc 24 i) :: rest)) := r_iald X S (ly_ok_24 hi S.2.2.2) rfl hx hd kk
theorem as_24 (X : cx_ok G p s m args meth c cc nL own ret) (S : st_ok G n I J s H locs) {i : Nat} (hi : i < 1) {x y : Int32} (hx : ix_in x 2 = true) (hd : decode cc pc = .ok (.iastore, 1)) (kk : ∀ (I1 : mm_T) (H1 : Heap) (locs1 : List Loc), I1 = mm_up I 24 i x.toNatClampNeg y → st_ok G n I1 J s H1 locs1 → W p l e R s m args below meth c H1 locs1 cells slots Q (F0 m (pc + 1) ls rest)) : W p l e R s m args below meth c H locs cells slots Q (F0 m pc ls (.int y :: .int x :: .ref (cx_b G + ly_loc 24 i) :: rest)) := r_iastI X S (ly_ok_24 hi S.2.2.2) rfl (fun _ => rfl) hx hd kk
theorem ln_24 (X : cx_ok G p s m args meth c cc nL own ret) (S : st_ok G n I J s H locs) {i : Nat} (hi : i < 1) (hd : decode cc pc = .ok (.arraylength, 1)) (kk : W p l e R s m args below meth c H locs cells slots Q (F0 m (pc + 1) ls (.int (Int32.ofNat 2) :: rest))) : W p l e R s m args below meth c H locs cells slots Q (F0 m pc ls (.ref (cx_b G + ly_loc 24 i) :: rest)) := r_alen X S (ly_ok_24 hi S.2.2.2) rfl rfl hd kk
theorem al_25 (X : cx_ok G p s m args meth c cc nL own ret) (S : st_ok G n I J s H locs) {i : Nat} (hi : i < 1) {x : Int32} (hx : ix_in x 2 = true) (hd : decode cc pc = .ok (.iaload, 1)) (kk : W p l e R s m args below meth c H locs cells slots Q (F0 m (pc + 1) ls (.int (I 25 i x.toNatClampNeg) :: rest))) : W p l e R s m args below meth c H locs cells slots Q (F0 m pc ls (.int x :: .ref (cx_b G + ly_loc 25 i) :: rest)) := r_iald X S (ly_ok_25 hi S.2.2.2) rfl hx hd kk
theorem as_25 (X : cx_ok G p s m args meth c cc nL own ret) (S : st_ok G n I J s H locs) {i : Nat} (hi : i < 1) {x y : Int32} (hx : ix_in x 2 = true) (hd : decode cc pc = .ok (.iastore, 1)) (kk : ∀ (I1 : mm_T) (H1 : Heap) (locs1 : List Loc), I1 = mm_up I 25 i x.toNatClampNeg y → st_ok G n I1 J s H1 locs1 → W p l e R s m args below meth c H1 locs1 cells slots Q (F0 m (pc + 1) ls rest)) : W p l e R s m args below meth c H locs cells slots Q (F0 m pc ls (.int y :: .int x :: .ref (cx_b G + ly_loc 25 i) :: rest)) := r_iastI X S (ly_ok_25 hi S.2.2.2) rfl (fun _ => rfl) hx hd kk
theorem ln_25 (X : cx_ok G p s m args meth c cc nL own ret) (S : st_ok G n I J s H locs) {i : Nat} (hi : i < 1) (hd : decode cc pc = .ok (.arraylength, 1)) (kk : W p l e R s m args below meth c H locs cells slots Q (F0 m (pc + 1) ls (.int (Int32.ofNat 2) :: rest))) : W p l e R s m args below meth c H locs cells slots Q (F0 m pc ls (.ref (cx_b G + ly_loc 25 i) :: rest)) := r_alen X S (ly_ok_25 hi S.2.2.2) rfl rfl hd kk
theorem aa_26 (X : cx_ok G p s m args meth c cc nL own ret) (S : st_ok G n I J s H locs) {i : Nat} (hi : i < 1) {x : Int32} (hx : ix_in x 4 = true) (hd : decode cc pc = .ok (.aaload, 1)) (kk : W p l e R s m args below meth c H locs cells slots Q (F0 m (pc + 1) ls (.ref (cx_b G + ly_loc 5 x.toNatClampNeg) :: rest))) : W p l e R s m args below meth c H locs cells slots Q (F0 m pc ls (.int x :: .ref (cx_b G + ly_loc 26 i) :: rest)) := r_aald X S (ly_ok_26 hi S.2.2.2) (t0 := 6) rfl rfl hx rfl hd kk
theorem al_27 (X : cx_ok G p s m args meth c cc nL own ret) (S : st_ok G n I J s H locs) {i : Nat} (hi : i < 4) {x : Int32} (hx : ix_in x 40 = true) (hd : decode cc pc = .ok (.iaload, 1)) (kk : W p l e R s m args below meth c H locs cells slots Q (F0 m (pc + 1) ls (.int (I 27 i x.toNatClampNeg) :: rest))) : W p l e R s m args below meth c H locs cells slots Q (F0 m pc ls (.int x :: .ref (cx_b G + ly_loc 27 i) :: rest)) := r_iald X S (ly_ok_27 hi S.2.2.2) rfl hx hd kk
theorem as_27 (X : cx_ok G p s m args meth c cc nL own ret) (S : st_ok G n I J s H locs) {i : Nat} (hi : i < 4) {x y : Int32} (hx : ix_in x 40 = true) (hd : decode cc pc = .ok (.iastore, 1)) (kk : ∀ (I1 : mm_T) (H1 : Heap) (locs1 : List Loc), I1 = mm_up I 27 i x.toNatClampNeg y → st_ok G n I1 J s H1 locs1 → W p l e R s m args below meth c H1 locs1 cells slots Q (F0 m (pc + 1) ls rest)) : W p l e R s m args below meth c H locs cells slots Q (F0 m pc ls (.int y :: .int x :: .ref (cx_b G + ly_loc 27 i) :: rest)) := r_iastI X S (ly_ok_27 hi S.2.2.2) rfl (fun _ => rfl) hx hd kk
theorem ln_27 (X : cx_ok G p s m args meth c cc nL own ret) (S : st_ok G n I J s H locs) {i : Nat} (hi : i < 4) (hd : decode cc pc = .ok (.arraylength, 1)) (kk : W p l e R s m args below meth c H locs cells slots Q (F0 m (pc + 1) ls (.int (Int32.ofNat 40) :: rest))) : W p l e R s m args below meth c H locs cells slots Q (F0 m pc ls (.ref (cx_b G + ly_loc 27 i) :: rest)) := r_alen X S (ly_ok_27 hi S.2.2.2) rfl rfl hd kk
theorem al_28 (X : cx_ok G p s m args meth c cc nL own ret) (S : st_ok G n I J s H locs) {i : Nat} (hi : 3 * i + 144 ≤ n) {x : Int32} (hx : ix_in x (I 28 i 1000).toNatClampNeg = true) (hd : decode cc pc = .ok (.iaload, 1)) (kk : W p l e R s m args below meth c H locs cells slots Q (F0 m (pc + 1) ls (.int (I 28 i x.toNatClampNeg) :: rest))) : W p l e R s m args below meth c H locs cells slots Q (F0 m pc ls (.int x :: .ref (cx_b G + ly_loc 28 i) :: rest)) := r_iald X S (ly_ok_28 hi) rfl hx hd kk
theorem ln_28 (X : cx_ok G p s m args meth c cc nL own ret) (S : st_ok G n I J s H locs) {i : Nat} (hi : 3 * i + 144 ≤ n) (hd : decode cc pc = .ok (.arraylength, 1)) (kk : W p l e R s m args below meth c H locs cells slots Q (F0 m (pc + 1) ls (.int (Int32.ofNat ((I 28 i 1000).toNatClampNeg)) :: rest))) : W p l e R s m args below meth c H locs cells slots Q (F0 m pc ls (.ref (cx_b G + ly_loc 28 i) :: rest)) := r_alen X S (ly_ok_28 hi) rfl rfl hd kk
theorem al_29 (X : cx_ok G p s m args meth c cc nL own ret) (S : st_ok G n I J s H locs) {i : Nat} (hi : 3 * i + 144 ≤ n) {x : Int32} (hx : ix_in x 31 = true) (hd : decode cc pc = .ok (.iaload, 1)) (kk : W p l e R s m args below meth c H locs cells slots Q (F0 m (pc + 1) ls (.int (I 29 i x.toNatClampNeg) :: rest))) : W p l e R s m args below meth c H locs cells slots Q (F0 m pc ls (.int x :: .ref (cx_b G + ly_loc 29 i) :: rest)) := r_iald X S (ly_ok_29 hi) rfl hx hd kk
theorem as_29 (X : cx_ok G p s m args meth c cc nL own ret) (S : st_ok G n I J s H locs) {i : Nat} (hi : 3 * i + 144 ≤ n) {x y : Int32} (hx : ix_in x 31 = true) (hd : decode cc pc = .ok (.iastore, 1)) (kk : ∀ (I1 : mm_T) (H1 : Heap) (locs1 : List Loc), I1 = mm_up I 29 i x.toNatClampNeg y → st_ok G n I1 J s H1 locs1 → W p l e R s m args below meth c H1 locs1 cells slots Q (F0 m (pc + 1) ls rest)) : W p l e R s m args below meth c H locs cells slots Q (F0 m pc ls (.int y :: .int x :: .ref (cx_b G + ly_loc 29 i) :: rest)) := r_iastI X S (ly_ok_29 hi) rfl (fun _ => rfl) hx hd kk
theorem ln_29 (X : cx_ok G p s m args meth c cc nL own ret) (S : st_ok G n I J s H locs) {i : Nat} (hi : 3 * i + 144 ≤ n) (hd : decode cc pc = .ok (.arraylength, 1)) (kk : W p l e R s m args below meth c H locs cells slots Q (F0 m (pc + 1) ls (.int (Int32.ofNat 31) :: rest))) : W p l e R s m args below meth c H locs cells slots Q (F0 m pc ls (.ref (cx_b G + ly_loc 29 i) :: rest)) := r_alen X S (ly_ok_29 hi) rfl rfl hd kk
theorem al_30 (X : cx_ok G p s m args meth c cc nL own ret) (S : st_ok G n I J s H locs) {i : Nat} (hi : i < 1) {x : Int32} (hx : ix_in x 960 = true) (hd : decode cc pc = .ok (.iaload, 1)) (kk : W p l e R s m args below meth c H locs cells slots Q (F0 m (pc + 1) ls (.int (J 30 i x.toNatClampNeg) :: rest))) : W p l e R s m args below meth c H locs cells slots Q (F0 m pc ls (.int x :: .ref (cx_b G + ly_loc 30 i) :: rest)) := r_iald X S (ly_ok_30 hi S.2.2.2) rfl hx hd kk
theorem as_30 (X : cx_ok G p s m args meth c cc nL own ret) (S : st_ok G n I J s H locs) {i : Nat} (hi : i < 1) {x y : Int32} (hx : ix_in x 960 = true) (hd : decode cc pc = .ok (.iastore, 1)) (kk : ∀ (J1 : mm_T) (H1 : Heap) (locs1 : List Loc), J1 = mm_up J 30 i x.toNatClampNeg y → st_ok G n I J1 s H1 locs1 → W p l e R s m args below meth c H1 locs1 cells slots Q (F0 m (pc + 1) ls rest)) : W p l e R s m args below meth c H locs cells slots Q (F0 m pc ls (.int y :: .int x :: .ref (cx_b G + ly_loc 30 i) :: rest)) := r_iastJ X S (ly_ok_30 hi S.2.2.2) rfl (fun _ => rfl) hx hd kk
theorem ln_30 (X : cx_ok G p s m args meth c cc nL own ret) (S : st_ok G n I J s H locs) {i : Nat} (hi : i < 1) (hd : decode cc pc = .ok (.arraylength, 1)) (kk : W p l e R s m args below meth c H locs cells slots Q (F0 m (pc + 1) ls (.int (Int32.ofNat 960) :: rest))) : W p l e R s m args below meth c H locs cells slots Q (F0 m pc ls (.ref (cx_b G + ly_loc 30 i) :: rest)) := r_alen X S (ly_ok_30 hi S.2.2.2) rfl rfl hd kk
theorem al_31 (X : cx_ok G p s m args meth c cc nL own ret) (S : st_ok G n I J s H locs) {i : Nat} (hi : i < 1) {x : Int32} (hx : ix_in x 6 = true) (hd : decode cc pc = .ok (.iaload, 1)) (kk : W p l e R s m args below meth c H locs cells slots Q (F0 m (pc + 1) ls (.int (J 31 i x.toNatClampNeg) :: rest))) : W p l e R s m args below meth c H locs cells slots Q (F0 m pc ls (.int x :: .ref (cx_b G + ly_loc 31 i) :: rest)) := r_iald X S (ly_ok_31 hi S.2.2.2) rfl hx hd kk
theorem as_31 (X : cx_ok G p s m args meth c cc nL own ret) (S : st_ok G n I J s H locs) {i : Nat} (hi : i < 1) {x y : Int32} (hx : ix_in x 6 = true) (hd : decode cc pc = .ok (.iastore, 1)) (kk : ∀ (J1 : mm_T) (H1 : Heap) (locs1 : List Loc), J1 = mm_up J 31 i x.toNatClampNeg y → st_ok G n I J1 s H1 locs1 → W p l e R s m args below meth c H1 locs1 cells slots Q (F0 m (pc + 1) ls rest)) : W p l e R s m args below meth c H locs cells slots Q (F0 m pc ls (.int y :: .int x :: .ref (cx_b G + ly_loc 31 i) :: rest)) := r_iastJ X S (ly_ok_31 hi S.2.2.2) rfl (fun _ => rfl) hx hd kk
theorem ln_31 (X : cx_ok G p s m args meth c cc nL own ret) (S : st_ok G n I J s H locs) {i : Nat} (hi : i < 1) (hd : decode cc pc = .ok (.arraylength, 1)) (kk : W p l e R s m args below meth c H locs cells slots Q (F0 m (pc + 1) ls (.int (Int32.ofNat 6) :: rest))) : W p l e R s m args below meth c H locs cells slots Q (F0 m pc ls (.ref (cx_b G + ly_loc 31 i) :: rest)) := r_alen X S (ly_ok_31 hi S.2.2.2) rfl rfl hd kk
theorem al_32 (X : cx_ok G p s m args meth c cc nL own ret) (S : st_ok G n I J s H locs) {i : Nat} (hi : i < 1) {x : Int32} (hx : ix_in x 160 = true) (hd : decode cc pc = .ok (.iaload, 1)) (kk : W p l e R s m args below meth c H locs cells slots Q (F0 m (pc + 1) ls (.int (J 32 i x.toNatClampNeg) :: rest))) : W p l e R s m args below meth c H locs cells slots Q (F0 m pc ls (.int x :: .ref (cx_b G + ly_loc 32 i) :: rest)) := r_iald X S (ly_ok_32 hi S.2.2.2) rfl hx hd kk
theorem as_32 (X : cx_ok G p s m args meth c cc nL own ret) (S : st_ok G n I J s H locs) {i : Nat} (hi : i < 1) {x y : Int32} (hx : ix_in x 160 = true) (hd : decode cc pc = .ok (.iastore, 1)) (kk : ∀ (J1 : mm_T) (H1 : Heap) (locs1 : List Loc), J1 = mm_up J 32 i x.toNatClampNeg y → st_ok G n I J1 s H1 locs1 → W p l e R s m args below meth c H1 locs1 cells slots Q (F0 m (pc + 1) ls rest)) : W p l e R s m args below meth c H locs cells slots Q (F0 m pc ls (.int y :: .int x :: .ref (cx_b G + ly_loc 32 i) :: rest)) := r_iastJ X S (ly_ok_32 hi S.2.2.2) rfl (fun _ => rfl) hx hd kk
theorem ln_32 (X : cx_ok G p s m args meth c cc nL own ret) (S : st_ok G n I J s H locs) {i : Nat} (hi : i < 1) (hd : decode cc pc = .ok (.arraylength, 1)) (kk : W p l e R s m args below meth c H locs cells slots Q (F0 m (pc + 1) ls (.int (Int32.ofNat 160) :: rest))) : W p l e R s m args below meth c H locs cells slots Q (F0 m pc ls (.ref (cx_b G + ly_loc 32 i) :: rest)) := r_alen X S (ly_ok_32 hi S.2.2.2) rfl rfl hd kk
theorem al_33 (X : cx_ok G p s m args meth c cc nL own ret) (S : st_ok G n I J s H locs) {i : Nat} (hi : i < 1) {x : Int32} (hx : ix_in x 8 = true) (hd : decode cc pc = .ok (.iaload, 1)) (kk : W p l e R s m args below meth c H locs cells slots Q (F0 m (pc + 1) ls (.int (J 33 i x.toNatClampNeg) :: rest))) : W p l e R s m args below meth c H locs cells slots Q (F0 m pc ls (.int x :: .ref (cx_b G + ly_loc 33 i) :: rest)) := r_iald X S (ly_ok_33 hi S.2.2.2) rfl hx hd kk
theorem as_33 (X : cx_ok G p s m args meth c cc nL own ret) (S : st_ok G n I J s H locs) {i : Nat} (hi : i < 1) {x y : Int32} (hx : ix_in x 8 = true) (hd : decode cc pc = .ok (.iastore, 1)) (kk : ∀ (J1 : mm_T) (H1 : Heap) (locs1 : List Loc), J1 = mm_up J 33 i x.toNatClampNeg y → st_ok G n I J1 s H1 locs1 → W p l e R s m args below meth c H1 locs1 cells slots Q (F0 m (pc + 1) ls rest)) : W p l e R s m args below meth c H locs cells slots Q (F0 m pc ls (.int y :: .int x :: .ref (cx_b G + ly_loc 33 i) :: rest)) := r_iastJ X S (ly_ok_33 hi S.2.2.2) rfl (fun _ => rfl) hx hd kk
theorem ln_33 (X : cx_ok G p s m args meth c cc nL own ret) (S : st_ok G n I J s H locs) {i : Nat} (hi : i < 1) (hd : decode cc pc = .ok (.arraylength, 1)) (kk : W p l e R s m args below meth c H locs cells slots Q (F0 m (pc + 1) ls (.int (Int32.ofNat 8) :: rest))) : W p l e R s m args below meth c H locs cells slots Q (F0 m pc ls (.ref (cx_b G + ly_loc 33 i) :: rest)) := r_alen X S (ly_ok_33 hi S.2.2.2) rfl rfl hd kk
theorem al_34 (X : cx_ok G p s m args meth c cc nL own ret) (S : st_ok G n I J s H locs) {i : Nat} (hi : i < 1) {x : Int32} (hx : ix_in x 8 = true) (hd : decode cc pc = .ok (.iaload, 1)) (kk : W p l e R s m args below meth c H locs cells slots Q (F0 m (pc + 1) ls (.int (J 34 i x.toNatClampNeg) :: rest))) : W p l e R s m args below meth c H locs cells slots Q (F0 m pc ls (.int x :: .ref (cx_b G + ly_loc 34 i) :: rest)) := r_iald X S (ly_ok_34 hi S.2.2.2) rfl hx hd kk
theorem as_34 (X : cx_ok G p s m args meth c cc nL own ret) (S : st_ok G n I J s H locs) {i : Nat} (hi : i < 1) {x y : Int32} (hx : ix_in x 8 = true) (hd : decode cc pc = .ok (.iastore, 1)) (kk : ∀ (J1 : mm_T) (H1 : Heap) (locs1 : List Loc), J1 = mm_up J 34 i x.toNatClampNeg y → st_ok G n I J1 s H1 locs1 → W p l e R s m args below meth c H1 locs1 cells slots Q (F0 m (pc + 1) ls rest)) : W p l e R s m args below meth c H locs cells slots Q (F0 m pc ls (.int y :: .int x :: .ref (cx_b G + ly_loc 34 i) :: rest)) := r_iastJ X S (ly_ok_34 hi S.2.2.2) rfl (fun _ => rfl) hx hd kk
theorem ln_34 (X : cx_ok G p s m args meth c cc nL own ret) (S : st_ok G n I J s H locs) {i : Nat} (hi : i < 1) (hd : decode cc pc = .ok (.arraylength, 1)) (kk : W p l e R s m args below meth c H locs cells slots Q (F0 m (pc + 1) ls (.int (Int32.ofNat 8) :: rest))) : W p l e R s m args below meth c H locs cells slots Q (F0 m pc ls (.ref (cx_b G + ly_loc 34 i) :: rest)) := r_alen X S (ly_ok_34 hi S.2.2.2) rfl rfl hd kk
theorem al_35 (X : cx_ok G p s m args meth c cc nL own ret) (S : st_ok G n I J s H locs) {i : Nat} (hi : i < 1) {x : Int32} (hx : ix_in x 7 = true) (hd : decode cc pc = .ok (.iaload, 1)) (kk : W p l e R s m args below meth c H locs cells slots Q (F0 m (pc + 1) ls (.int (J 35 i x.toNatClampNeg) :: rest))) : W p l e R s m args below meth c H locs cells slots Q (F0 m pc ls (.int x :: .ref (cx_b G + ly_loc 35 i) :: rest)) := r_iald X S (ly_ok_35 hi S.2.2.2) rfl hx hd kk
theorem as_35 (X : cx_ok G p s m args meth c cc nL own ret) (S : st_ok G n I J s H locs) {i : Nat} (hi : i < 1) {x y : Int32} (hx : ix_in x 7 = true) (hd : decode cc pc = .ok (.iastore, 1)) (kk : ∀ (J1 : mm_T) (H1 : Heap) (locs1 : List Loc), J1 = mm_up J 35 i x.toNatClampNeg y → st_ok G n I J1 s H1 locs1 → W p l e R s m args below meth c H1 locs1 cells slots Q (F0 m (pc + 1) ls rest)) : W p l e R s m args below meth c H locs cells slots Q (F0 m pc ls (.int y :: .int x :: .ref (cx_b G + ly_loc 35 i) :: rest)) := r_iastJ X S (ly_ok_35 hi S.2.2.2) rfl (fun _ => rfl) hx hd kk
theorem ln_35 (X : cx_ok G p s m args meth c cc nL own ret) (S : st_ok G n I J s H locs) {i : Nat} (hi : i < 1) (hd : decode cc pc = .ok (.arraylength, 1)) (kk : W p l e R s m args below meth c H locs cells slots Q (F0 m (pc + 1) ls (.int (Int32.ofNat 7) :: rest))) : W p l e R s m args below meth c H locs cells slots Q (F0 m pc ls (.ref (cx_b G + ly_loc 35 i) :: rest)) := r_alen X S (ly_ok_35 hi S.2.2.2) rfl rfl hd kk
theorem al_36 (X : cx_ok G p s m args meth c cc nL own ret) (S : st_ok G n I J s H locs) {i : Nat} (hi : i < 1) {x : Int32} (hx : ix_in x 7 = true) (hd : decode cc pc = .ok (.iaload, 1)) (kk : W p l e R s m args below meth c H locs cells slots Q (F0 m (pc + 1) ls (.int (J 36 i x.toNatClampNeg) :: rest))) : W p l e R s m args below meth c H locs cells slots Q (F0 m pc ls (.int x :: .ref (cx_b G + ly_loc 36 i) :: rest)) := r_iald X S (ly_ok_36 hi S.2.2.2) rfl hx hd kk
theorem as_36 (X : cx_ok G p s m args meth c cc nL own ret) (S : st_ok G n I J s H locs) {i : Nat} (hi : i < 1) {x y : Int32} (hx : ix_in x 7 = true) (hd : decode cc pc = .ok (.iastore, 1)) (kk : ∀ (J1 : mm_T) (H1 : Heap) (locs1 : List Loc), J1 = mm_up J 36 i x.toNatClampNeg y → st_ok G n I J1 s H1 locs1 → W p l e R s m args below meth c H1 locs1 cells slots Q (F0 m (pc + 1) ls rest)) : W p l e R s m args below meth c H locs cells slots Q (F0 m pc ls (.int y :: .int x :: .ref (cx_b G + ly_loc 36 i) :: rest)) := r_iastJ X S (ly_ok_36 hi S.2.2.2) rfl (fun _ => rfl) hx hd kk
theorem ln_36 (X : cx_ok G p s m args meth c cc nL own ret) (S : st_ok G n I J s H locs) {i : Nat} (hi : i < 1) (hd : decode cc pc = .ok (.arraylength, 1)) (kk : W p l e R s m args below meth c H locs cells slots Q (F0 m (pc + 1) ls (.int (Int32.ofNat 7) :: rest))) : W p l e R s m args below meth c H locs cells slots Q (F0 m pc ls (.ref (cx_b G + ly_loc 36 i) :: rest)) := r_alen X S (ly_ok_36 hi S.2.2.2) rfl rfl hd kk
theorem al_37 (X : cx_ok G p s m args meth c cc nL own ret) (S : st_ok G n I J s H locs) {i : Nat} (hi : i < 1) {x : Int32} (hx : ix_in x 7 = true) (hd : decode cc pc = .ok (.iaload, 1)) (kk : W p l e R s m args below meth c H locs cells slots Q (F0 m (pc + 1) ls (.int (J 37 i x.toNatClampNeg) :: rest))) : W p l e R s m args below meth c H locs cells slots Q (F0 m pc ls (.int x :: .ref (cx_b G + ly_loc 37 i) :: rest)) := r_iald X S (ly_ok_37 hi S.2.2.2) rfl hx hd kk
theorem as_37 (X : cx_ok G p s m args meth c cc nL own ret) (S : st_ok G n I J s H locs) {i : Nat} (hi : i < 1) {x y : Int32} (hx : ix_in x 7 = true) (hd : decode cc pc = .ok (.iastore, 1)) (kk : ∀ (J1 : mm_T) (H1 : Heap) (locs1 : List Loc), J1 = mm_up J 37 i x.toNatClampNeg y → st_ok G n I J1 s H1 locs1 → W p l e R s m args below meth c H1 locs1 cells slots Q (F0 m (pc + 1) ls rest)) : W p l e R s m args below meth c H locs cells slots Q (F0 m pc ls (.int y :: .int x :: .ref (cx_b G + ly_loc 37 i) :: rest)) := r_iastJ X S (ly_ok_37 hi S.2.2.2) rfl (fun _ => rfl) hx hd kk
theorem ln_37 (X : cx_ok G p s m args meth c cc nL own ret) (S : st_ok G n I J s H locs) {i : Nat} (hi : i < 1) (hd : decode cc pc = .ok (.arraylength, 1)) (kk : W p l e R s m args below meth c H locs cells slots Q (F0 m (pc + 1) ls (.int (Int32.ofNat 7) :: rest))) : W p l e R s m args below meth c H locs cells slots Q (F0 m pc ls (.ref (cx_b G + ly_loc 37 i) :: rest)) := r_alen X S (ly_ok_37 hi S.2.2.2) rfl rfl hd kk
theorem al_38 (X : cx_ok G p s m args meth c cc nL own ret) (S : st_ok G n I J s H locs) {i : Nat} (hi : i < 1) {x : Int32} (hx : ix_in x 7 = true) (hd : decode cc pc = .ok (.iaload, 1)) (kk : W p l e R s m args below meth c H locs cells slots Q (F0 m (pc + 1) ls (.int (J 38 i x.toNatClampNeg) :: rest))) : W p l e R s m args below meth c H locs cells slots Q (F0 m pc ls (.int x :: .ref (cx_b G + ly_loc 38 i) :: rest)) := r_iald X S (ly_ok_38 hi S.2.2.2) rfl hx hd kk
theorem as_38 (X : cx_ok G p s m args meth c cc nL own ret) (S : st_ok G n I J s H locs) {i : Nat} (hi : i < 1) {x y : Int32} (hx : ix_in x 7 = true) (hd : decode cc pc = .ok (.iastore, 1)) (kk : ∀ (J1 : mm_T) (H1 : Heap) (locs1 : List Loc), J1 = mm_up J 38 i x.toNatClampNeg y → st_ok G n I J1 s H1 locs1 → W p l e R s m args below meth c H1 locs1 cells slots Q (F0 m (pc + 1) ls rest)) : W p l e R s m args below meth c H locs cells slots Q (F0 m pc ls (.int y :: .int x :: .ref (cx_b G + ly_loc 38 i) :: rest)) := r_iastJ X S (ly_ok_38 hi S.2.2.2) rfl (fun _ => rfl) hx hd kk
theorem ln_38 (X : cx_ok G p s m args meth c cc nL own ret) (S : st_ok G n I J s H locs) {i : Nat} (hi : i < 1) (hd : decode cc pc = .ok (.arraylength, 1)) (kk : W p l e R s m args below meth c H locs cells slots Q (F0 m (pc + 1) ls (.int (Int32.ofNat 7) :: rest))) : W p l e R s m args below meth c H locs cells slots Q (F0 m pc ls (.ref (cx_b G + ly_loc 38 i) :: rest)) := r_alen X S (ly_ok_38 hi S.2.2.2) rfl rfl hd kk
theorem al_39 (X : cx_ok G p s m args meth c cc nL own ret) (S : st_ok G n I J s H locs) {i : Nat} (hi : i < 1) {x : Int32} (hx : ix_in x 8 = true) (hd : decode cc pc = .ok (.iaload, 1)) (kk : W p l e R s m args below meth c H locs cells slots Q (F0 m (pc + 1) ls (.int (J 39 i x.toNatClampNeg) :: rest))) : W p l e R s m args below meth c H locs cells slots Q (F0 m pc ls (.int x :: .ref (cx_b G + ly_loc 39 i) :: rest)) := r_iald X S (ly_ok_39 hi S.2.2.2) rfl hx hd kk
theorem as_39 (X : cx_ok G p s m args meth c cc nL own ret) (S : st_ok G n I J s H locs) {i : Nat} (hi : i < 1) {x y : Int32} (hx : ix_in x 8 = true) (hd : decode cc pc = .ok (.iastore, 1)) (kk : ∀ (J1 : mm_T) (H1 : Heap) (locs1 : List Loc), J1 = mm_up J 39 i x.toNatClampNeg y → st_ok G n I J1 s H1 locs1 → W p l e R s m args below meth c H1 locs1 cells slots Q (F0 m (pc + 1) ls rest)) : W p l e R s m args below meth c H locs cells slots Q (F0 m pc ls (.int y :: .int x :: .ref (cx_b G + ly_loc 39 i) :: rest)) := r_iastJ X S (ly_ok_39 hi S.2.2.2) rfl (fun _ => rfl) hx hd kk
theorem ln_39 (X : cx_ok G p s m args meth c cc nL own ret) (S : st_ok G n I J s H locs) {i : Nat} (hi : i < 1) (hd : decode cc pc = .ok (.arraylength, 1)) (kk : W p l e R s m args below meth c H locs cells slots Q (F0 m (pc + 1) ls (.int (Int32.ofNat 8) :: rest))) : W p l e R s m args below meth c H locs cells slots Q (F0 m pc ls (.ref (cx_b G + ly_loc 39 i) :: rest)) := r_alen X S (ly_ok_39 hi S.2.2.2) rfl rfl hd kk
theorem al_40 (X : cx_ok G p s m args meth c cc nL own ret) (S : st_ok G n I J s H locs) {i : Nat} (hi : i < 1) {x : Int32} (hx : ix_in x 8 = true) (hd : decode cc pc = .ok (.iaload, 1)) (kk : W p l e R s m args below meth c H locs cells slots Q (F0 m (pc + 1) ls (.int (J 40 i x.toNatClampNeg) :: rest))) : W p l e R s m args below meth c H locs cells slots Q (F0 m pc ls (.int x :: .ref (cx_b G + ly_loc 40 i) :: rest)) := r_iald X S (ly_ok_40 hi S.2.2.2) rfl hx hd kk
theorem as_40 (X : cx_ok G p s m args meth c cc nL own ret) (S : st_ok G n I J s H locs) {i : Nat} (hi : i < 1) {x y : Int32} (hx : ix_in x 8 = true) (hd : decode cc pc = .ok (.iastore, 1)) (kk : ∀ (J1 : mm_T) (H1 : Heap) (locs1 : List Loc), J1 = mm_up J 40 i x.toNatClampNeg y → st_ok G n I J1 s H1 locs1 → W p l e R s m args below meth c H1 locs1 cells slots Q (F0 m (pc + 1) ls rest)) : W p l e R s m args below meth c H locs cells slots Q (F0 m pc ls (.int y :: .int x :: .ref (cx_b G + ly_loc 40 i) :: rest)) := r_iastJ X S (ly_ok_40 hi S.2.2.2) rfl (fun _ => rfl) hx hd kk
theorem ln_40 (X : cx_ok G p s m args meth c cc nL own ret) (S : st_ok G n I J s H locs) {i : Nat} (hi : i < 1) (hd : decode cc pc = .ok (.arraylength, 1)) (kk : W p l e R s m args below meth c H locs cells slots Q (F0 m (pc + 1) ls (.int (Int32.ofNat 8) :: rest))) : W p l e R s m args below meth c H locs cells slots Q (F0 m pc ls (.ref (cx_b G + ly_loc 40 i) :: rest)) := r_alen X S (ly_ok_40 hi S.2.2.2) rfl rfl hd kk
theorem al_41 (X : cx_ok G p s m args meth c cc nL own ret) (S : st_ok G n I J s H locs) {i : Nat} (hi : i < 1) {x : Int32} (hx : ix_in x 7 = true) (hd : decode cc pc = .ok (.iaload, 1)) (kk : W p l e R s m args below meth c H locs cells slots Q (F0 m (pc + 1) ls (.int (J 41 i x.toNatClampNeg) :: rest))) : W p l e R s m args below meth c H locs cells slots Q (F0 m pc ls (.int x :: .ref (cx_b G + ly_loc 41 i) :: rest)) := r_iald X S (ly_ok_41 hi S.2.2.2) rfl hx hd kk
theorem as_41 (X : cx_ok G p s m args meth c cc nL own ret) (S : st_ok G n I J s H locs) {i : Nat} (hi : i < 1) {x y : Int32} (hx : ix_in x 7 = true) (hd : decode cc pc = .ok (.iastore, 1)) (kk : ∀ (J1 : mm_T) (H1 : Heap) (locs1 : List Loc), J1 = mm_up J 41 i x.toNatClampNeg y → st_ok G n I J1 s H1 locs1 → W p l e R s m args below meth c H1 locs1 cells slots Q (F0 m (pc + 1) ls rest)) : W p l e R s m args below meth c H locs cells slots Q (F0 m pc ls (.int y :: .int x :: .ref (cx_b G + ly_loc 41 i) :: rest)) := r_iastJ X S (ly_ok_41 hi S.2.2.2) rfl (fun _ => rfl) hx hd kk
theorem ln_41 (X : cx_ok G p s m args meth c cc nL own ret) (S : st_ok G n I J s H locs) {i : Nat} (hi : i < 1) (hd : decode cc pc = .ok (.arraylength, 1)) (kk : W p l e R s m args below meth c H locs cells slots Q (F0 m (pc + 1) ls (.int (Int32.ofNat 7) :: rest))) : W p l e R s m args below meth c H locs cells slots Q (F0 m pc ls (.ref (cx_b G + ly_loc 41 i) :: rest)) := r_alen X S (ly_ok_41 hi S.2.2.2) rfl rfl hd kk
theorem al_42 (X : cx_ok G p s m args meth c cc nL own ret) (S : st_ok G n I J s H locs) {i : Nat} (hi : i < 1) {x : Int32} (hx : ix_in x 56 = true) (hd : decode cc pc = .ok (.iaload, 1)) (kk : W p l e R s m args below meth c H locs cells slots Q (F0 m (pc + 1) ls (.int (J 42 i x.toNatClampNeg) :: rest))) : W p l e R s m args below meth c H locs cells slots Q (F0 m pc ls (.int x :: .ref (cx_b G + ly_loc 42 i) :: rest)) := r_iald X S (ly_ok_42 hi S.2.2.2) rfl hx hd kk
theorem as_42 (X : cx_ok G p s m args meth c cc nL own ret) (S : st_ok G n I J s H locs) {i : Nat} (hi : i < 1) {x y : Int32} (hx : ix_in x 56 = true) (hd : decode cc pc = .ok (.iastore, 1)) (kk : ∀ (J1 : mm_T) (H1 : Heap) (locs1 : List Loc), J1 = mm_up J 42 i x.toNatClampNeg y → st_ok G n I J1 s H1 locs1 → W p l e R s m args below meth c H1 locs1 cells slots Q (F0 m (pc + 1) ls rest)) : W p l e R s m args below meth c H locs cells slots Q (F0 m pc ls (.int y :: .int x :: .ref (cx_b G + ly_loc 42 i) :: rest)) := r_iastJ X S (ly_ok_42 hi S.2.2.2) rfl (fun _ => rfl) hx hd kk
theorem ln_42 (X : cx_ok G p s m args meth c cc nL own ret) (S : st_ok G n I J s H locs) {i : Nat} (hi : i < 1) (hd : decode cc pc = .ok (.arraylength, 1)) (kk : W p l e R s m args below meth c H locs cells slots Q (F0 m (pc + 1) ls (.int (Int32.ofNat 56) :: rest))) : W p l e R s m args below meth c H locs cells slots Q (F0 m pc ls (.ref (cx_b G + ly_loc 42 i) :: rest)) := r_alen X S (ly_ok_42 hi S.2.2.2) rfl rfl hd kk
theorem al_43 (X : cx_ok G p s m args meth c cc nL own ret) (S : st_ok G n I J s H locs) {i : Nat} (hi : i < 1) {x : Int32} (hx : ix_in x 64 = true) (hd : decode cc pc = .ok (.iaload, 1)) (kk : W p l e R s m args below meth c H locs cells slots Q (F0 m (pc + 1) ls (.int (J 43 i x.toNatClampNeg) :: rest))) : W p l e R s m args below meth c H locs cells slots Q (F0 m pc ls (.int x :: .ref (cx_b G + ly_loc 43 i) :: rest)) := r_iald X S (ly_ok_43 hi S.2.2.2) rfl hx hd kk
theorem as_43 (X : cx_ok G p s m args meth c cc nL own ret) (S : st_ok G n I J s H locs) {i : Nat} (hi : i < 1) {x y : Int32} (hx : ix_in x 64 = true) (hd : decode cc pc = .ok (.iastore, 1)) (kk : ∀ (J1 : mm_T) (H1 : Heap) (locs1 : List Loc), J1 = mm_up J 43 i x.toNatClampNeg y → st_ok G n I J1 s H1 locs1 → W p l e R s m args below meth c H1 locs1 cells slots Q (F0 m (pc + 1) ls rest)) : W p l e R s m args below meth c H locs cells slots Q (F0 m pc ls (.int y :: .int x :: .ref (cx_b G + ly_loc 43 i) :: rest)) := r_iastJ X S (ly_ok_43 hi S.2.2.2) rfl (fun _ => rfl) hx hd kk
theorem ln_43 (X : cx_ok G p s m args meth c cc nL own ret) (S : st_ok G n I J s H locs) {i : Nat} (hi : i < 1) (hd : decode cc pc = .ok (.arraylength, 1)) (kk : W p l e R s m args below meth c H locs cells slots Q (F0 m (pc + 1) ls (.int (Int32.ofNat 64) :: rest))) : W p l e R s m args below meth c H locs cells slots Q (F0 m pc ls (.ref (cx_b G + ly_loc 43 i) :: rest)) := r_alen X S (ly_ok_43 hi S.2.2.2) rfl rfl hd kk
theorem al_44 (X : cx_ok G p s m args meth c cc nL own ret) (S : st_ok G n I J s H locs) {i : Nat} (hi : i < 1) {x : Int32} (hx : ix_in x 64 = true) (hd : decode cc pc = .ok (.iaload, 1)) (kk : W p l e R s m args below meth c H locs cells slots Q (F0 m (pc + 1) ls (.int (J 44 i x.toNatClampNeg) :: rest))) : W p l e R s m args below meth c H locs cells slots Q (F0 m pc ls (.int x :: .ref (cx_b G + ly_loc 44 i) :: rest)) := r_iald X S (ly_ok_44 hi S.2.2.2) rfl hx hd kk
theorem as_44 (X : cx_ok G p s m args meth c cc nL own ret) (S : st_ok G n I J s H locs) {i : Nat} (hi : i < 1) {x y : Int32} (hx : ix_in x 64 = true) (hd : decode cc pc = .ok (.iastore, 1)) (kk : ∀ (J1 : mm_T) (H1 : Heap) (locs1 : List Loc), J1 = mm_up J 44 i x.toNatClampNeg y → st_ok G n I J1 s H1 locs1 → W p l e R s m args below meth c H1 locs1 cells slots Q (F0 m (pc + 1) ls rest)) : W p l e R s m args below meth c H locs cells slots Q (F0 m pc ls (.int y :: .int x :: .ref (cx_b G + ly_loc 44 i) :: rest)) := r_iastJ X S (ly_ok_44 hi S.2.2.2) rfl (fun _ => rfl) hx hd kk
theorem ln_44 (X : cx_ok G p s m args meth c cc nL own ret) (S : st_ok G n I J s H locs) {i : Nat} (hi : i < 1) (hd : decode cc pc = .ok (.arraylength, 1)) (kk : W p l e R s m args below meth c H locs cells slots Q (F0 m (pc + 1) ls (.int (Int32.ofNat 64) :: rest))) : W p l e R s m args below meth c H locs cells slots Q (F0 m pc ls (.ref (cx_b G + ly_loc 44 i) :: rest)) := r_alen X S (ly_ok_44 hi S.2.2.2) rfl rfl hd kk
theorem al_45 (X : cx_ok G p s m args meth c cc nL own ret) (S : st_ok G n I J s H locs) {i : Nat} (hi : i < 1) {x : Int32} (hx : ix_in x 16 = true) (hd : decode cc pc = .ok (.iaload, 1)) (kk : W p l e R s m args below meth c H locs cells slots Q (F0 m (pc + 1) ls (.int (J 45 i x.toNatClampNeg) :: rest))) : W p l e R s m args below meth c H locs cells slots Q (F0 m pc ls (.int x :: .ref (cx_b G + ly_loc 45 i) :: rest)) := r_iald X S (ly_ok_45 hi S.2.2.2) rfl hx hd kk
theorem as_45 (X : cx_ok G p s m args meth c cc nL own ret) (S : st_ok G n I J s H locs) {i : Nat} (hi : i < 1) {x y : Int32} (hx : ix_in x 16 = true) (hd : decode cc pc = .ok (.iastore, 1)) (kk : ∀ (J1 : mm_T) (H1 : Heap) (locs1 : List Loc), J1 = mm_up J 45 i x.toNatClampNeg y → st_ok G n I J1 s H1 locs1 → W p l e R s m args below meth c H1 locs1 cells slots Q (F0 m (pc + 1) ls rest)) : W p l e R s m args below meth c H locs cells slots Q (F0 m pc ls (.int y :: .int x :: .ref (cx_b G + ly_loc 45 i) :: rest)) := r_iastJ X S (ly_ok_45 hi S.2.2.2) rfl (fun _ => rfl) hx hd kk
theorem ln_45 (X : cx_ok G p s m args meth c cc nL own ret) (S : st_ok G n I J s H locs) {i : Nat} (hi : i < 1) (hd : decode cc pc = .ok (.arraylength, 1)) (kk : W p l e R s m args below meth c H locs cells slots Q (F0 m (pc + 1) ls (.int (Int32.ofNat 16) :: rest))) : W p l e R s m args below meth c H locs cells slots Q (F0 m pc ls (.ref (cx_b G + ly_loc 45 i) :: rest)) := r_alen X S (ly_ok_45 hi S.2.2.2) rfl rfl hd kk
theorem al_46 (X : cx_ok G p s m args meth c cc nL own ret) (S : st_ok G n I J s H locs) {i : Nat} (hi : i < 1) {x : Int32} (hx : ix_in x 21 = true) (hd : decode cc pc = .ok (.iaload, 1)) (kk : W p l e R s m args below meth c H locs cells slots Q (F0 m (pc + 1) ls (.int (J 46 i x.toNatClampNeg) :: rest))) : W p l e R s m args below meth c H locs cells slots Q (F0 m pc ls (.int x :: .ref (cx_b G + ly_loc 46 i) :: rest)) := r_iald X S (ly_ok_46 hi S.2.2.2) rfl hx hd kk
theorem as_46 (X : cx_ok G p s m args meth c cc nL own ret) (S : st_ok G n I J s H locs) {i : Nat} (hi : i < 1) {x y : Int32} (hx : ix_in x 21 = true) (hd : decode cc pc = .ok (.iastore, 1)) (kk : ∀ (J1 : mm_T) (H1 : Heap) (locs1 : List Loc), J1 = mm_up J 46 i x.toNatClampNeg y → st_ok G n I J1 s H1 locs1 → W p l e R s m args below meth c H1 locs1 cells slots Q (F0 m (pc + 1) ls rest)) : W p l e R s m args below meth c H locs cells slots Q (F0 m pc ls (.int y :: .int x :: .ref (cx_b G + ly_loc 46 i) :: rest)) := r_iastJ X S (ly_ok_46 hi S.2.2.2) rfl (fun _ => rfl) hx hd kk
theorem ln_46 (X : cx_ok G p s m args meth c cc nL own ret) (S : st_ok G n I J s H locs) {i : Nat} (hi : i < 1) (hd : decode cc pc = .ok (.arraylength, 1)) (kk : W p l e R s m args below meth c H locs cells slots Q (F0 m (pc + 1) ls (.int (Int32.ofNat 21) :: rest))) : W p l e R s m args below meth c H locs cells slots Q (F0 m pc ls (.ref (cx_b G + ly_loc 46 i) :: rest)) := r_alen X S (ly_ok_46 hi S.2.2.2) rfl rfl hd kk
theorem al_47 (X : cx_ok G p s m args meth c cc nL own ret) (S : st_ok G n I J s H locs) {i : Nat} (hi : i < 1) {x : Int32} (hx : ix_in x 4 = true) (hd : decode cc pc = .ok (.baload, 1)) (kk : W p l e R s m args below meth c H locs cells slots Q (F0 m (pc + 1) ls (.int (J 47 i x.toNatClampNeg) :: rest))) : W p l e R s m args below meth c H locs cells slots Q (F0 m pc ls (.int x :: .ref (cx_b G + ly_loc 47 i) :: rest)) := r_zald X S (ly_ok_47 hi S.2.2.2) rfl hx hd kk
theorem as_47 (X : cx_ok G p s m args meth c cc nL own ret) (S : st_ok G n I J s H locs) {i : Nat} (hi : i < 1) {x y : Int32} (hx : ix_in x 4 = true) (hd : decode cc pc = .ok (.bastore, 1)) (kk : ∀ (J1 : mm_T) (H1 : Heap) (locs1 : List Loc), J1 = mm_up J 47 i x.toNatClampNeg (vp_nar .boolean y) → st_ok G n I J1 s H1 locs1 → W p l e R s m args below meth c H1 locs1 cells slots Q (F0 m (pc + 1) ls rest)) : W p l e R s m args below meth c H locs cells slots Q (F0 m pc ls (.int y :: .int x :: .ref (cx_b G + ly_loc 47 i) :: rest)) := r_zastJ X S (ly_ok_47 hi S.2.2.2) rfl (fun _ => rfl) hx hd kk
theorem al_48 (X : cx_ok G p s m args meth c cc nL own ret) (S : st_ok G n I J s H locs) {i : Nat} (hi : i < 1) {x : Int32} (hx : ix_in x 4 = true) (hd : decode cc pc = .ok (.iaload, 1)) (kk : W p l e R s m args below meth c H locs cells slots Q (F0 m (pc + 1) ls (.int (J 48 i x.toNatClampNeg) :: rest))) : W p l e R s m args below meth c H locs cells slots Q (F0 m pc ls (.int x :: .ref (cx_b G + ly_loc 48 i) :: rest)) := r_iald X S (ly_ok_48 hi S.2.2.2) rfl hx hd kk
theorem as_48 (X : cx_ok G p s m args meth c cc nL own ret) (S : st_ok G n I J s H locs) {i : Nat} (hi : i < 1) {x y : Int32} (hx : ix_in x 4 = true) (hd : decode cc pc = .ok (.iastore, 1)) (kk : ∀ (J1 : mm_T) (H1 : Heap) (locs1 : List Loc), J1 = mm_up J 48 i x.toNatClampNeg y → st_ok G n I J1 s H1 locs1 → W p l e R s m args below meth c H1 locs1 cells slots Q (F0 m (pc + 1) ls rest)) : W p l e R s m args below meth c H locs cells slots Q (F0 m pc ls (.int y :: .int x :: .ref (cx_b G + ly_loc 48 i) :: rest)) := r_iastJ X S (ly_ok_48 hi S.2.2.2) rfl (fun _ => rfl) hx hd kk
theorem ln_48 (X : cx_ok G p s m args meth c cc nL own ret) (S : st_ok G n I J s H locs) {i : Nat} (hi : i < 1) (hd : decode cc pc = .ok (.arraylength, 1)) (kk : W p l e R s m args below meth c H locs cells slots Q (F0 m (pc + 1) ls (.int (Int32.ofNat 4) :: rest))) : W p l e R s m args below meth c H locs cells slots Q (F0 m pc ls (.ref (cx_b G + ly_loc 48 i) :: rest)) := r_alen X S (ly_ok_48 hi S.2.2.2) rfl rfl hd kk
theorem al_49 (X : cx_ok G p s m args meth c cc nL own ret) (S : st_ok G n I J s H locs) {i : Nat} (hi : i < 1) {x : Int32} (hx : ix_in x 4 = true) (hd : decode cc pc = .ok (.iaload, 1)) (kk : W p l e R s m args below meth c H locs cells slots Q (F0 m (pc + 1) ls (.int (J 49 i x.toNatClampNeg) :: rest))) : W p l e R s m args below meth c H locs cells slots Q (F0 m pc ls (.int x :: .ref (cx_b G + ly_loc 49 i) :: rest)) := r_iald X S (ly_ok_49 hi S.2.2.2) rfl hx hd kk
theorem as_49 (X : cx_ok G p s m args meth c cc nL own ret) (S : st_ok G n I J s H locs) {i : Nat} (hi : i < 1) {x y : Int32} (hx : ix_in x 4 = true) (hd : decode cc pc = .ok (.iastore, 1)) (kk : ∀ (J1 : mm_T) (H1 : Heap) (locs1 : List Loc), J1 = mm_up J 49 i x.toNatClampNeg y → st_ok G n I J1 s H1 locs1 → W p l e R s m args below meth c H1 locs1 cells slots Q (F0 m (pc + 1) ls rest)) : W p l e R s m args below meth c H locs cells slots Q (F0 m pc ls (.int y :: .int x :: .ref (cx_b G + ly_loc 49 i) :: rest)) := r_iastJ X S (ly_ok_49 hi S.2.2.2) rfl (fun _ => rfl) hx hd kk
theorem ln_49 (X : cx_ok G p s m args meth c cc nL own ret) (S : st_ok G n I J s H locs) {i : Nat} (hi : i < 1) (hd : decode cc pc = .ok (.arraylength, 1)) (kk : W p l e R s m args below meth c H locs cells slots Q (F0 m (pc + 1) ls (.int (Int32.ofNat 4) :: rest))) : W p l e R s m args below meth c H locs cells slots Q (F0 m pc ls (.ref (cx_b G + ly_loc 49 i) :: rest)) := r_alen X S (ly_ok_49 hi S.2.2.2) rfl rfl hd kk
theorem al_50 (X : cx_ok G p s m args meth c cc nL own ret) (S : st_ok G n I J s H locs) {i : Nat} (hi : i < 1) {x : Int32} (hx : ix_in x 160 = true) (hd : decode cc pc = .ok (.iaload, 1)) (kk : W p l e R s m args below meth c H locs cells slots Q (F0 m (pc + 1) ls (.int (J 50 i x.toNatClampNeg) :: rest))) : W p l e R s m args below meth c H locs cells slots Q (F0 m pc ls (.int x :: .ref (cx_b G + ly_loc 50 i) :: rest)) := r_iald X S (ly_ok_50 hi S.2.2.2) rfl hx hd kk
theorem as_50 (X : cx_ok G p s m args meth c cc nL own ret) (S : st_ok G n I J s H locs) {i : Nat} (hi : i < 1) {x y : Int32} (hx : ix_in x 160 = true) (hd : decode cc pc = .ok (.iastore, 1)) (kk : ∀ (J1 : mm_T) (H1 : Heap) (locs1 : List Loc), J1 = mm_up J 50 i x.toNatClampNeg y → st_ok G n I J1 s H1 locs1 → W p l e R s m args below meth c H1 locs1 cells slots Q (F0 m (pc + 1) ls rest)) : W p l e R s m args below meth c H locs cells slots Q (F0 m pc ls (.int y :: .int x :: .ref (cx_b G + ly_loc 50 i) :: rest)) := r_iastJ X S (ly_ok_50 hi S.2.2.2) rfl (fun _ => rfl) hx hd kk
theorem ln_50 (X : cx_ok G p s m args meth c cc nL own ret) (S : st_ok G n I J s H locs) {i : Nat} (hi : i < 1) (hd : decode cc pc = .ok (.arraylength, 1)) (kk : W p l e R s m args below meth c H locs cells slots Q (F0 m (pc + 1) ls (.int (Int32.ofNat 160) :: rest))) : W p l e R s m args below meth c H locs cells slots Q (F0 m pc ls (.ref (cx_b G + ly_loc 50 i) :: rest)) := r_alen X S (ly_ok_50 hi S.2.2.2) rfl rfl hd kk
end RS
theorem cw_J0_charAt_5068e : Cond.code yJ0_charAt_5068e cJ0_charAt_5068e 2 (some .char) ∈ gw_t := gw_mem 340 (by decide +kernel) (by decide +kernel)
theorem ny_J0_charAt_5068e : yJ0_charAt_5068e.cls ≠ "java/lang/invoke/MethodHandle" ∧ yJ0_charAt_5068e.cls ≠ "java/lang/invoke/VarHandle" ∧ (parseMethodDescriptor yJ0_charAt_5068e.desc).map (fun d => d.parameters.length) = some 1 := by decide +kernel
theorem cw_J0_checkBoundsBeginEnd_23922 : Cond.code yJ0_checkBoundsBeginEnd_23922 cJ0_checkBoundsBeginEnd_23922 3 none ∈ gw_t := gw_mem 458 (by decide +kernel) (by decide +kernel)
theorem ny_J0_checkBoundsBeginEnd_23922 : yJ0_checkBoundsBeginEnd_23922.cls ≠ "java/lang/invoke/MethodHandle" ∧ yJ0_checkBoundsBeginEnd_23922.cls ≠ "java/lang/invoke/VarHandle" ∧ (parseMethodDescriptor yJ0_checkBoundsBeginEnd_23922.desc).map (fun d => d.parameters.length) = some 3 := by decide +kernel
theorem cw_J0_checkIndex_df160 : Cond.code yJ0_checkIndex_df160 cJ0_checkIndex_df160 2 none ∈ gw_t := gw_mem 350 (by decide +kernel) (by decide +kernel)
theorem ny_J0_checkIndex_df160 : yJ0_checkIndex_df160.cls ≠ "java/lang/invoke/MethodHandle" ∧ yJ0_checkIndex_df160.cls ≠ "java/lang/invoke/VarHandle" ∧ (parseMethodDescriptor yJ0_checkIndex_df160.desc).map (fun d => d.parameters.length) = some 2 := by decide +kernel
theorem cw_J0_coder_7d493 : Cond.code yJ0_coder_7d493 cJ0_coder_7d493 1 (some .byte) ∈ gw_t := gw_mem 334 (by decide +kernel) (by decide +kernel)
theorem ny_J0_coder_7d493 : yJ0_coder_7d493.cls ≠ "java/lang/invoke/MethodHandle" ∧ yJ0_coder_7d493.cls ≠ "java/lang/invoke/VarHandle" ∧ (parseMethodDescriptor yJ0_coder_7d493.desc).map (fun d => d.parameters.length) = some 0 := by decide +kernel
theorem cw_J0_indexOf_0f7a4 : Cond.code yJ0_indexOf_0f7a4 cJ0_indexOf_0f7a4 2 (some .int) ∈ gw_t := gw_mem 423 (by decide +kernel) (by decide +kernel)
theorem ny_J0_indexOf_0f7a4 : yJ0_indexOf_0f7a4.cls ≠ "java/lang/invoke/MethodHandle" ∧ yJ0_indexOf_0f7a4.cls ≠ "java/lang/invoke/VarHandle" ∧ (parseMethodDescriptor yJ0_indexOf_0f7a4.desc).map (fun d => d.parameters.length) = some 1 := by decide +kernel
theorem cw_J0_indexOf_7cf53 : Cond.code yJ0_indexOf_7cf53 cJ0_indexOf_7cf53 3 (some .int) ∈ gw_t := gw_mem 427 (by decide +kernel) (by decide +kernel)
theorem ny_J0_indexOf_7cf53 : yJ0_indexOf_7cf53.cls ≠ "java/lang/invoke/MethodHandle" ∧ yJ0_indexOf_7cf53.cls ≠ "java/lang/invoke/VarHandle" ∧ (parseMethodDescriptor yJ0_indexOf_7cf53.desc).map (fun d => d.parameters.length) = some 2 := by decide +kernel
theorem cw_J0_isLatin1_aae02 : Cond.code yJ0_isLatin1_aae02 cJ0_isLatin1_aae02 1 (some .boolean) ∈ gw_t := gw_mem 344 (by decide +kernel) (by decide +kernel)
theorem ny_J0_isLatin1_aae02 : yJ0_isLatin1_aae02.cls ≠ "java/lang/invoke/MethodHandle" ∧ yJ0_isLatin1_aae02.cls ≠ "java/lang/invoke/VarHandle" ∧ (parseMethodDescriptor yJ0_isLatin1_aae02.desc).map (fun d => d.parameters.length) = some 0 := by decide +kernel
theorem cw_J0_length_8abf5 : Cond.code yJ0_length_8abf5 cJ0_length_8abf5 1 (some .int) ∈ gw_t := gw_mem 330 (by decide +kernel) (by decide +kernel)
theorem ny_J0_length_8abf5 : yJ0_length_8abf5.cls ≠ "java/lang/invoke/MethodHandle" ∧ yJ0_length_8abf5.cls ≠ "java/lang/invoke/VarHandle" ∧ (parseMethodDescriptor yJ0_length_8abf5.desc).map (fun d => d.parameters.length) = some 0 := by decide +kernel
theorem cw_J11_highSurrogate_5068e : Cond.code yJ11_highSurrogate_5068e cJ11_highSurrogate_5068e 1 (some .char) ∈ gw_t := gw_mem 473 (by decide +kernel) (by decide +kernel)
theorem ny_J11_highSurrogate_5068e : yJ11_highSurrogate_5068e.cls ≠ "java/lang/invoke/MethodHandle" ∧ yJ11_highSurrogate_5068e.cls ≠ "java/lang/invoke/VarHandle" ∧ (parseMethodDescriptor yJ11_highSurrogate_5068e.desc).map (fun d => d.parameters.length) = some 1 := by decide +kernel
theorem cw_J11_isValidCodePoint_9a6ad : Cond.code yJ11_isValidCodePoint_9a6ad cJ11_isValidCodePoint_9a6ad 2 (some .boolean) ∈ gw_t := gw_mem 470 (by decide +kernel) (by decide +kernel)
theorem ny_J11_isValidCodePoint_9a6ad : yJ11_isValidCodePoint_9a6ad.cls ≠ "java/lang/invoke/MethodHandle" ∧ yJ11_isValidCodePoint_9a6ad.cls ≠ "java/lang/invoke/VarHandle" ∧ (parseMethodDescriptor yJ11_isValidCodePoint_9a6ad.desc).map (fun d => d.parameters.length) = some 1 := by decide +kernel
theorem cw_J11_lowSurrogate_5068e : Cond.code yJ11_lowSurrogate_5068e cJ11_lowSurrogate_5068e 1 (some .char) ∈ gw_t := gw_mem 477 (by decide +kernel) (by decide +kernel)
theorem ny_J11_lowSurrogate_5068e : yJ11_lowSurrogate_5068e.cls ≠ "java/lang/invoke/MethodHandle" ∧ yJ11_lowSurrogate_5068e.cls ≠ "java/lang/invoke/VarHandle" ∧ (parseMethodDescriptor yJ11_lowSurrogate_5068e.desc).map (fun d => d.parameters.length) = some 1 := by decide +kernel
theorem cw_J1_canEncode_9a6ad : Cond.code yJ1_canEncode_9a6ad cJ1_canEncode_9a6ad 1 (some .boolean) ∈ gw_t := gw_mem 434 (by decide +kernel) (by decide +kernel)
theorem ny_J1_canEncode_9a6ad : yJ1_canEncode_9a6ad.cls ≠ "java/lang/invoke/MethodHandle" ∧ yJ1_canEncode_9a6ad.cls ≠ "java/lang/invoke/VarHandle" ∧ (parseMethodDescriptor yJ1_canEncode_9a6ad.desc).map (fun d => d.parameters.length) = some 1 := by decide +kernel
theorem cw_J1_charAt_3b067 : Cond.code yJ1_charAt_3b067 cJ1_charAt_3b067 2 (some .char) ∈ gw_t := gw_mem 347 (by decide +kernel) (by decide +kernel)
theorem ny_J1_charAt_3b067 : yJ1_charAt_3b067.cls ≠ "java/lang/invoke/MethodHandle" ∧ yJ1_charAt_3b067.cls ≠ "java/lang/invoke/VarHandle" ∧ (parseMethodDescriptor yJ1_charAt_3b067.desc).map (fun d => d.parameters.length) = some 2 := by decide +kernel
theorem cw_J1_indexOfChar_4cfef : Cond.code yJ1_indexOfChar_4cfef cJ1_indexOfChar_4cfef 6 (some .int) ∈ gw_t := gw_mem 443 (by decide +kernel) (by decide +kernel)
theorem ny_J1_indexOfChar_4cfef : yJ1_indexOfChar_4cfef.cls ≠ "java/lang/invoke/MethodHandle" ∧ yJ1_indexOfChar_4cfef.cls ≠ "java/lang/invoke/VarHandle" ∧ (parseMethodDescriptor yJ1_indexOfChar_4cfef.desc).map (fun d => d.parameters.length) = some 4 := by decide +kernel
theorem cw_J1_indexOf_4cfef : Cond.code yJ1_indexOf_4cfef cJ1_indexOf_4cfef 4 (some .int) ∈ gw_t := gw_mem 431 (by decide +kernel) (by decide +kernel)
theorem ny_J1_indexOf_4cfef : yJ1_indexOf_4cfef.cls ≠ "java/lang/invoke/MethodHandle" ∧ yJ1_indexOf_4cfef.cls ≠ "java/lang/invoke/VarHandle" ∧ (parseMethodDescriptor yJ1_indexOf_4cfef.desc).map (fun d => d.parameters.length) = some 4 := by decide +kernel
theorem cw_J2_charAt_3b067 : Cond.code yJ2_charAt_3b067 cJ2_charAt_3b067 2 (some .char) ∈ gw_t := gw_mem 358 (by decide +kernel) (by decide +kernel)
theorem ny_J2_charAt_3b067 : yJ2_charAt_3b067.cls ≠ "java/lang/invoke/MethodHandle" ∧ yJ2_charAt_3b067.cls ≠ "java/lang/invoke/VarHandle" ∧ (parseMethodDescriptor yJ2_charAt_3b067.desc).map (fun d => d.parameters.length) = some 2 := by decide +kernel
theorem cw_J2_checkBoundsBeginEnd_d044e : Cond.code yJ2_checkBoundsBeginEnd_d044e cJ2_checkBoundsBeginEnd_d044e 3 none ∈ gw_t := gw_mem 455 (by decide +kernel) (by decide +kernel)
theorem ny_J2_checkBoundsBeginEnd_d044e : yJ2_checkBoundsBeginEnd_d044e.cls ≠ "java/lang/invoke/MethodHandle" ∧ yJ2_checkBoundsBeginEnd_d044e.cls ≠ "java/lang/invoke/VarHandle" ∧ (parseMethodDescriptor yJ2_checkBoundsBeginEnd_d044e.desc).map (fun d => d.parameters.length) = some 3 := by decide +kernel
theorem cw_J2_checkIndex_2214a : Cond.code yJ2_checkIndex_2214a cJ2_checkIndex_2214a 2 none ∈ gw_t := gw_mem 361 (by decide +kernel) (by decide +kernel)
theorem ny_J2_checkIndex_2214a : yJ2_checkIndex_2214a.cls ≠ "java/lang/invoke/MethodHandle" ∧ yJ2_checkIndex_2214a.cls ≠ "java/lang/invoke/VarHandle" ∧ (parseMethodDescriptor yJ2_checkIndex_2214a.desc).map (fun d => d.parameters.length) = some 2 := by decide +kernel
theorem cw_J2_getChar_3b067 : Cond.code yJ2_getChar_3b067 cJ2_getChar_3b067 2 (some .char) ∈ gw_t := gw_mem 368 (by decide +kernel) (by decide +kernel)
theorem ny_J2_getChar_3b067 : yJ2_getChar_3b067.cls ≠ "java/lang/invoke/MethodHandle" ∧ yJ2_getChar_3b067.cls ≠ "java/lang/invoke/VarHandle" ∧ (parseMethodDescriptor yJ2_getChar_3b067.desc).map (fun d => d.parameters.length) = some 2 := by decide +kernel
theorem cw_J2_indexOfCharUnsafe_4cfef : Cond.code yJ2_indexOfCharUnsafe_4cfef cJ2_indexOfCharUnsafe_4cfef 5 (some .int) ∈ gw_t := gw_mem 464 (by decide +kernel) (by decide +kernel)
theorem ny_J2_indexOfCharUnsafe_4cfef : yJ2_indexOfCharUnsafe_4cfef.cls ≠ "java/lang/invoke/MethodHandle" ∧ yJ2_indexOfCharUnsafe_4cfef.cls ≠ "java/lang/invoke/VarHandle" ∧ (parseMethodDescriptor yJ2_indexOfCharUnsafe_4cfef.desc).map (fun d => d.parameters.length) = some 4 := by decide +kernel
theorem cw_J2_indexOfChar_4cfef : Cond.code yJ2_indexOfChar_4cfef cJ2_indexOfChar_4cfef 4 (some .int) ∈ gw_t := gw_mem 452 (by decide +kernel) (by decide +kernel)
theorem ny_J2_indexOfChar_4cfef : yJ2_indexOfChar_4cfef.cls ≠ "java/lang/invoke/MethodHandle" ∧ yJ2_indexOfChar_4cfef.cls ≠ "java/lang/invoke/VarHandle" ∧ (parseMethodDescriptor yJ2_indexOfChar_4cfef.desc).map (fun d => d.parameters.length) = some 4 := by decide +kernel
theorem cw_J2_indexOfSupplementary_4cfef : Cond.code yJ2_indexOfSupplementary_4cfef cJ2_indexOfSupplementary_4cfef 7 (some .int) ∈ gw_t := gw_mem 467 (by decide +kernel) (by decide +kernel)
theorem ny_J2_indexOfSupplementary_4cfef : yJ2_indexOfSupplementary_4cfef.cls ≠ "java/lang/invoke/MethodHandle" ∧ yJ2_indexOfSupplementary_4cfef.cls ≠ "java/lang/invoke/VarHandle" ∧ (parseMethodDescriptor yJ2_indexOfSupplementary_4cfef.desc).map (fun d => d.parameters.length) = some 4 := by decide +kernel
theorem cw_J2_indexOf_4cfef : Cond.code yJ2_indexOf_4cfef cJ2_indexOf_4cfef 4 (some .int) ∈ gw_t := gw_mem 446 (by decide +kernel) (by decide +kernel)
theorem ny_J2_indexOf_4cfef : yJ2_indexOf_4cfef.cls ≠ "java/lang/invoke/MethodHandle" ∧ yJ2_indexOf_4cfef.cls ≠ "java/lang/invoke/VarHandle" ∧ (parseMethodDescriptor yJ2_indexOf_4cfef.desc).map (fun d => d.parameters.length) = some 4 := by decide +kernel
theorem cw_J2_length_9d52b : Cond.code yJ2_length_9d52b cJ2_length_9d52b 1 (some .int) ∈ gw_t := gw_mem 364 (by decide +kernel) (by decide +kernel)
theorem ny_J2_length_9d52b : yJ2_length_9d52b.cls ≠ "java/lang/invoke/MethodHandle" ∧ yJ2_length_9d52b.cls ≠ "java/lang/invoke/VarHandle" ∧ (parseMethodDescriptor yJ2_length_9d52b.desc).map (fun d => d.parameters.length) = some 1 := by decide +kernel
theorem cw_J3_checkFromToIndex_8c36e : Cond.code yJ3_checkFromToIndex_8c36e cJ3_checkFromToIndex_8c36e 4 (some .int) ∈ gw_t := gw_mem 461 (by decide +kernel) (by decide +kernel)
theorem ny_J3_checkFromToIndex_8c36e : yJ3_checkFromToIndex_8c36e.cls ≠ "java/lang/invoke/MethodHandle" ∧ yJ3_checkFromToIndex_8c36e.cls ≠ "java/lang/invoke/VarHandle" ∧ (parseMethodDescriptor yJ3_checkFromToIndex_8c36e.desc).map (fun d => d.parameters.length) = some 4 := by decide +kernel
theorem cw_J3_checkIndex_8e157 : Cond.code yJ3_checkIndex_8e157 cJ3_checkIndex_8e157 3 (some .int) ∈ gw_t := gw_mem 355 (by decide +kernel) (by decide +kernel)
theorem ny_J3_checkIndex_8e157 : yJ3_checkIndex_8e157.cls ≠ "java/lang/invoke/MethodHandle" ∧ yJ3_checkIndex_8e157.cls ≠ "java/lang/invoke/VarHandle" ∧ (parseMethodDescriptor yJ3_checkIndex_8e157.desc).map (fun d => d.parameters.length) = some 3 := by decide +kernel
theorem cw_J6_bitCount_0f7a4 : Cond.code yJ6_bitCount_0f7a4 cJ6_bitCount_0f7a4 1 (some .int) ∈ gw_t := gw_mem 729 (by decide +kernel) (by decide +kernel)
theorem ny_J6_bitCount_0f7a4 : yJ6_bitCount_0f7a4.cls ≠ "java/lang/invoke/MethodHandle" ∧ yJ6_bitCount_0f7a4.cls ≠ "java/lang/invoke/VarHandle" ∧ (parseMethodDescriptor yJ6_bitCount_0f7a4.desc).map (fun d => d.parameters.length) = some 1 := by decide +kernel
theorem cw_J7_copyOf_59c91 : Cond.code yJ7_copyOf_59c91 cJ7_copyOf_59c91 3 (some (.array .int)) ∈ gw_t := gw_mem 522 (by decide +kernel) (by decide +kernel)
theorem ny_J7_copyOf_59c91 : yJ7_copyOf_59c91.cls ≠ "java/lang/invoke/MethodHandle" ∧ yJ7_copyOf_59c91.cls ≠ "java/lang/invoke/VarHandle" ∧ (parseMethodDescriptor yJ7_copyOf_59c91.desc).map (fun d => d.parameters.length) = some 2 := by decide +kernel
theorem cw_J7_fill_53178 : Cond.code yJ7_fill_53178 cJ7_fill_53178 4 none ∈ gw_t := gw_mem 684 (by decide +kernel) (by decide +kernel)
theorem ny_J7_fill_53178 : yJ7_fill_53178.cls ≠ "java/lang/invoke/MethodHandle" ∧ yJ7_fill_53178.cls ≠ "java/lang/invoke/VarHandle" ∧ (parseMethodDescriptor yJ7_fill_53178.desc).map (fun d => d.parameters.length) = some 2 := by decide +kernel
theorem cw_J9_max_7cf53 : Cond.code yJ9_max_7cf53 cJ9_max_7cf53 2 (some .int) ∈ gw_t := gw_mem 437 (by decide +kernel) (by decide +kernel)
theorem ny_J9_max_7cf53 : yJ9_max_7cf53.cls ≠ "java/lang/invoke/MethodHandle" ∧ yJ9_max_7cf53.cls ≠ "java/lang/invoke/VarHandle" ∧ (parseMethodDescriptor yJ9_max_7cf53.desc).map (fun d => d.parameters.length) = some 2 := by decide +kernel
theorem cw_J9_min_7cf53 : Cond.code yJ9_min_7cf53 cJ9_min_7cf53 2 (some .int) ∈ gw_t := gw_mem 440 (by decide +kernel) (by decide +kernel)
theorem ny_J9_min_7cf53 : yJ9_min_7cf53.cls ≠ "java/lang/invoke/MethodHandle" ∧ yJ9_min_7cf53.cls ≠ "java/lang/invoke/VarHandle" ∧ (parseMethodDescriptor yJ9_min_7cf53.desc).map (fun d => d.parameters.length) = some 2 := by decide +kernel
theorem cw_X0_answer : Cond.code yX0_answer cX0_answer 2 (some .int) ∈ gw_t := gw_mem 745 (by decide +kernel) (by decide +kernel)
theorem ny_X0_answer : yX0_answer.cls ≠ "java/lang/invoke/MethodHandle" ∧ yX0_answer.cls ≠ "java/lang/invoke/VarHandle" ∧ (parseMethodDescriptor yX0_answer.desc).map (fun d => d.parameters.length) = some 1 := by decide +kernel
theorem cw_X0_begin : Cond.code yX0_begin cX0_begin 2 none ∈ gw_t := gw_mem 681 (by decide +kernel) (by decide +kernel)
theorem ny_X0_begin : yX0_begin.cls ≠ "java/lang/invoke/MethodHandle" ∧ yX0_begin.cls ≠ "java/lang/invoke/VarHandle" ∧ (parseMethodDescriptor yX0_begin.desc).map (fun d => d.parameters.length) = some 1 := by decide +kernel
theorem cw_X0_callByChance : Cond.code yX0_callByChance cX0_callByChance 4 none ∈ gw_t := gw_mem 849 (by decide +kernel) (by decide +kernel)
theorem ny_X0_callByChance : yX0_callByChance.cls ≠ "java/lang/invoke/MethodHandle" ∧ yX0_callByChance.cls ≠ "java/lang/invoke/VarHandle" ∧ (parseMethodDescriptor yX0_callByChance.desc).map (fun d => d.parameters.length) = some 1 := by decide +kernel
theorem cw_X0_callByDesk : Cond.code yX0_callByDesk cX0_callByDesk 2 none ∈ gw_t := gw_mem 797 (by decide +kernel) (by decide +kernel)
theorem ny_X0_callByDesk : yX0_callByDesk.cls ≠ "java/lang/invoke/MethodHandle" ∧ yX0_callByDesk.cls ≠ "java/lang/invoke/VarHandle" ∧ (parseMethodDescriptor yX0_callByDesk.desc).map (fun d => d.parameters.length) = some 0 := by decide +kernel
theorem cw_X0_callRow : Cond.code yX0_callRow cX0_callRow 3 none ∈ gw_t := gw_mem 688 (by decide +kernel) (by decide +kernel)
theorem ny_X0_callRow : yX0_callRow.cls ≠ "java/lang/invoke/MethodHandle" ∧ yX0_callRow.cls ≠ "java/lang/invoke/VarHandle" ∧ (parseMethodDescriptor yX0_callRow.desc).map (fun d => d.parameters.length) = some 1 := by decide +kernel
theorem cw_X0_callSlip : Cond.code yX0_callSlip cX0_callSlip 5 none ∈ gw_t := gw_mem 693 (by decide +kernel) (by decide +kernel)
theorem ny_X0_callSlip : yX0_callSlip.cls ≠ "java/lang/invoke/MethodHandle" ∧ yX0_callSlip.cls ≠ "java/lang/invoke/VarHandle" ∧ (parseMethodDescriptor yX0_callSlip.desc).map (fun d => d.parameters.length) = some 1 := by decide +kernel
theorem cw_X0_firstByDesk : Cond.code yX0_firstByDesk cX0_firstByDesk 7 (some .int) ∈ gw_t := gw_mem 801 (by decide +kernel) (by decide +kernel)
theorem ny_X0_firstByDesk : yX0_firstByDesk.cls ≠ "java/lang/invoke/MethodHandle" ∧ yX0_firstByDesk.cls ≠ "java/lang/invoke/VarHandle" ∧ (parseMethodDescriptor yX0_firstByDesk.desc).map (fun d => d.parameters.length) = some 0 := by decide +kernel
theorem cw_X0_goOnFrom : Cond.code yX0_goOnFrom cX0_goOnFrom 2 none ∈ gw_t := gw_mem 771 (by decide +kernel) (by decide +kernel)
theorem ny_X0_goOnFrom : yX0_goOnFrom.cls ≠ "java/lang/invoke/MethodHandle" ∧ yX0_goOnFrom.cls ≠ "java/lang/invoke/VarHandle" ∧ (parseMethodDescriptor yX0_goOnFrom.desc).map (fun d => d.parameters.length) = some 1 := by decide +kernel
theorem cw_X0_init : Cond.code yX0_init cX0_init 2 none ∈ gw_t := gw_mem 233 (by decide +kernel) (by decide +kernel)
theorem ny_X0_init : yX0_init.cls ≠ "java/lang/invoke/MethodHandle" ∧ yX0_init.cls ≠ "java/lang/invoke/VarHandle" ∧ (parseMethodDescriptor yX0_init.desc).map (fun d => d.parameters.length) = some 1 := by decide +kernel
theorem cw_X0_leaveOut : Cond.code yX0_leaveOut cX0_leaveOut 2 none ∈ gw_t := gw_mem 793 (by decide +kernel) (by decide +kernel)
theorem ny_X0_leaveOut : yX0_leaveOut.cls ≠ "java/lang/invoke/MethodHandle" ∧ yX0_leaveOut.cls ≠ "java/lang/invoke/VarHandle" ∧ (parseMethodDescriptor yX0_leaveOut.desc).map (fun d => d.parameters.length) = some 1 := by decide +kernel
theorem cw_X0_letLeave : Cond.code yX0_letLeave cX0_letLeave 5 none ∈ gw_t := gw_mem 741 (by decide +kernel) (by decide +kernel)
theorem ny_X0_letLeave : yX0_letLeave.cls ≠ "java/lang/invoke/MethodHandle" ∧ yX0_letLeave.cls ≠ "java/lang/invoke/VarHandle" ∧ (parseMethodDescriptor yX0_letLeave.desc).map (fun d => d.parameters.length) = some 0 := by decide +kernel
theorem cw_X0_nameAll : Cond.code yX0_nameAll cX0_nameAll 4 none ∈ gw_t := gw_mem 719 (by decide +kernel) (by decide +kernel)
theorem ny_X0_nameAll : yX0_nameAll.cls ≠ "java/lang/invoke/MethodHandle" ∧ yX0_nameAll.cls ≠ "java/lang/invoke/VarHandle" ∧ (parseMethodDescriptor yX0_nameAll.desc).map (fun d => d.parameters.length) = some 3 := by decide +kernel
theorem cw_X0_rowAsDigits : Cond.code yX0_rowAsDigits cX0_rowAsDigits 3 (some .int) ∈ gw_t := gw_mem 749 (by decide +kernel) (by decide +kernel)
theorem ny_X0_rowAsDigits : yX0_rowAsDigits.cls ≠ "java/lang/invoke/MethodHandle" ∧ yX0_rowAsDigits.cls ≠ "java/lang/invoke/VarHandle" ∧ (parseMethodDescriptor yX0_rowAsDigits.desc).map (fun d => d.parameters.length) = some 0 := by decide +kernel
theorem cw_X0_uncalled : Cond.code yX0_uncalled cX0_uncalled 4 (some .int) ∈ gw_t := gw_mem 854 (by decide +kernel) (by decide +kernel)
theorem ny_X0_uncalled : yX0_uncalled.cls ≠ "java/lang/invoke/MethodHandle" ∧ yX0_uncalled.cls ≠ "java/lang/invoke/VarHandle" ∧ (parseMethodDescriptor yX0_uncalled.desc).map (fun d => d.parameters.length) = some 1 := by decide +kernel
theorem cw_X0_wasCalled : Cond.code yX0_wasCalled cX0_wasCalled 2 (some .boolean) ∈ gw_t := gw_mem 698 (by decide +kernel) (by decide +kernel)
theorem ny_X0_wasCalled : yX0_wasCalled.cls ≠ "java/lang/invoke/MethodHandle" ∧ yX0_wasCalled.cls ≠ "java/lang/invoke/VarHandle" ∧ (parseMethodDescriptor yX0_wasCalled.desc).map (fun d => d.parameters.length) = some 1 := by decide +kernel
theorem cw_X0_wouldBeSung : Cond.code yX0_wouldBeSung cX0_wouldBeSung 3 (some .boolean) ∈ gw_t := gw_mem 702 (by decide +kernel) (by decide +kernel)
theorem ny_X0_wouldBeSung : yX0_wouldBeSung.cls ≠ "java/lang/invoke/MethodHandle" ∧ yX0_wouldBeSung.cls ≠ "java/lang/invoke/VarHandle" ∧ (parseMethodDescriptor yX0_wouldBeSung.desc).map (fun d => d.parameters.length) = some 1 := by decide +kernel
theorem cw_X1_addPerson : Cond.code yX1_addPerson cX1_addPerson 3 (some .int) ∈ gw_t := gw_mem 613 (by decide +kernel) (by decide +kernel)
theorem ny_X1_addPerson : yX1_addPerson.cls ≠ "java/lang/invoke/MethodHandle" ∧ yX1_addPerson.cls ≠ "java/lang/invoke/VarHandle" ∧ (parseMethodDescriptor yX1_addPerson.desc).map (fun d => d.parameters.length) = some 2 := by decide +kernel
theorem cw_X1_addSlip : Cond.code yX1_addSlip cX1_addSlip 5 (some .int) ∈ gw_t := gw_mem 621 (by decide +kernel) (by decide +kernel)
theorem ny_X1_addSlip : yX1_addSlip.cls ≠ "java/lang/invoke/MethodHandle" ∧ yX1_addSlip.cls ≠ "java/lang/invoke/VarHandle" ∧ (parseMethodDescriptor yX1_addSlip.desc).map (fun d => d.parameters.length) = some 3 := by decide +kernel
theorem cw_X1_allows : Cond.code yX1_allows cX1_allows 3 (some .boolean) ∈ gw_t := gw_mem 605 (by decide +kernel) (by decide +kernel)
theorem ny_X1_allows : yX1_allows.cls ≠ "java/lang/invoke/MethodHandle" ∧ yX1_allows.cls ≠ "java/lang/invoke/VarHandle" ∧ (parseMethodDescriptor yX1_allows.desc).map (fun d => d.parameters.length) = some 2 := by decide +kernel
theorem cw_X1_become : Cond.code yX1_become cX1_become 3 none ∈ gw_t := gw_mem 870 (by decide +kernel) (by decide +kernel)
theorem ny_X1_become : yX1_become.cls ≠ "java/lang/invoke/MethodHandle" ∧ yX1_become.cls ≠ "java/lang/invoke/VarHandle" ∧ (parseMethodDescriptor yX1_become.desc).map (fun d => d.parameters.length) = some 1 := by decide +kernel
theorem cw_X1_change : Cond.code yX1_change cX1_change 4 none ∈ gw_t := gw_mem 643 (by decide +kernel) (by decide +kernel)
theorem ny_X1_change : yX1_change.cls ≠ "java/lang/invoke/MethodHandle" ∧ yX1_change.cls ≠ "java/lang/invoke/VarHandle" ∧ (parseMethodDescriptor yX1_change.desc).map (fun d => d.parameters.length) = some 3 := by decide +kernel
theorem cw_X1_follow : Cond.code yX1_follow cX1_follow 2 none ∈ gw_t := gw_mem 665 (by decide +kernel) (by decide +kernel)
theorem ny_X1_follow : yX1_follow.cls ≠ "java/lang/invoke/MethodHandle" ∧ yX1_follow.cls ≠ "java/lang/invoke/VarHandle" ∧ (parseMethodDescriptor yX1_follow.desc).map (fun d => d.parameters.length) = some 1 := by decide +kernel
theorem cw_X1_groupOf : Cond.code yX1_groupOf cX1_groupOf 2 (some .int) ∈ gw_t := gw_mem 706 (by decide +kernel) (by decide +kernel)
theorem ny_X1_groupOf : yX1_groupOf.cls ≠ "java/lang/invoke/MethodHandle" ∧ yX1_groupOf.cls ≠ "java/lang/invoke/VarHandle" ∧ (parseMethodDescriptor yX1_groupOf.desc).map (fun d => d.parameters.length) = some 1 := by decide +kernel
theorem cw_X1_hasPerson : Cond.code yX1_hasPerson cX1_hasPerson 2 (some .boolean) ∈ gw_t := gw_mem 609 (by decide +kernel) (by decide +kernel)
theorem ny_X1_hasPerson : yX1_hasPerson.cls ≠ "java/lang/invoke/MethodHandle" ∧ yX1_hasPerson.cls ≠ "java/lang/invoke/VarHandle" ∧ (parseMethodDescriptor yX1_hasPerson.desc).map (fun d => d.parameters.length) = some 1 := by decide +kernel
theorem cw_X1_hasSlip : Cond.code yX1_hasSlip cX1_hasSlip 2 (some .boolean) ∈ gw_t := gw_mem 633 (by decide +kernel) (by decide +kernel)
theorem ny_X1_hasSlip : yX1_hasSlip.cls ≠ "java/lang/invoke/MethodHandle" ∧ yX1_hasSlip.cls ≠ "java/lang/invoke/VarHandle" ∧ (parseMethodDescriptor yX1_hasSlip.desc).map (fun d => d.parameters.length) = some 1 := by decide +kernel
theorem cw_X1_hasValue : Cond.code yX1_hasValue cX1_hasValue 3 (some .boolean) ∈ gw_t := gw_mem 629 (by decide +kernel) (by decide +kernel)
theorem ny_X1_hasValue : yX1_hasValue.cls ≠ "java/lang/invoke/MethodHandle" ∧ yX1_hasValue.cls ≠ "java/lang/invoke/VarHandle" ∧ (parseMethodDescriptor yX1_hasValue.desc).map (fun d => d.parameters.length) = some 2 := by decide +kernel
theorem cw_X1_init : Cond.code yX1_init cX1_init 2 none ∈ gw_t := gw_mem 95 (by decide +kernel) (by decide +kernel)
theorem ny_X1_init : yX1_init.cls ≠ "java/lang/invoke/MethodHandle" ∧ yX1_init.cls ≠ "java/lang/invoke/VarHandle" ∧ (parseMethodDescriptor yX1_init.desc).map (fun d => d.parameters.length) = some 0 := by decide +kernel
theorem cw_X1_isRow : Cond.code yX1_isRow cX1_isRow 5 (some .boolean) ∈ gw_t := gw_mem 673 (by decide +kernel) (by decide +kernel)
theorem ny_X1_isRow : yX1_isRow.cls ≠ "java/lang/invoke/MethodHandle" ∧ yX1_isRow.cls ≠ "java/lang/invoke/VarHandle" ∧ (parseMethodDescriptor yX1_isRow.desc).map (fun d => d.parameters.length) = some 1 := by decide +kernel
theorem cw_X1_valueOf : Cond.code yX1_valueOf cX1_valueOf 3 (some .int) ∈ gw_t := gw_mem 638 (by decide +kernel) (by decide +kernel)
theorem ny_X1_valueOf : yX1_valueOf.cls ≠ "java/lang/invoke/MethodHandle" ∧ yX1_valueOf.cls ≠ "java/lang/invoke/VarHandle" ∧ (parseMethodDescriptor yX1_valueOf.desc).map (fun d => d.parameters.length) = some 2 := by decide +kernel
theorem cw_X2_become : Cond.code yX2_become cX2_become 2 none ∈ gw_t := gw_mem 874 (by decide +kernel) (by decide +kernel)
theorem ny_X2_become : yX2_become.cls ≠ "java/lang/invoke/MethodHandle" ∧ yX2_become.cls ≠ "java/lang/invoke/VarHandle" ∧ (parseMethodDescriptor yX2_become.desc).map (fun d => d.parameters.length) = some 1 := by decide +kernel
theorem cw_X2_init : Cond.code yX2_init cX2_init 1 none ∈ gw_t := gw_mem 104 (by decide +kernel) (by decide +kernel)
theorem ny_X2_init : yX2_init.cls ≠ "java/lang/invoke/MethodHandle" ∧ yX2_init.cls ≠ "java/lang/invoke/VarHandle" ∧ (parseMethodDescriptor yX2_init.desc).map (fun d => d.parameters.length) = some 0 := by decide +kernel
theorem cw_X3_add : Cond.code yX3_add cX3_add 2 (some .boolean) ∈ gw_t := gw_mem 378 (by decide +kernel) (by decide +kernel)
theorem ny_X3_add : yX3_add.cls ≠ "java/lang/invoke/MethodHandle" ∧ yX3_add.cls ≠ "java/lang/invoke/VarHandle" ∧ (parseMethodDescriptor yX3_add.desc).map (fun d => d.parameters.length) = some 1 := by decide +kernel
theorem cw_X3_emit : Cond.code yX3_emit cX3_emit 2 none ∈ gw_t := gw_mem 502 (by decide +kernel) (by decide +kernel)
theorem ny_X3_emit : yX3_emit.cls ≠ "java/lang/invoke/MethodHandle" ∧ yX3_emit.cls ≠ "java/lang/invoke/VarHandle" ∧ (parseMethodDescriptor yX3_emit.desc).map (fun d => d.parameters.length) = some 1 := by decide +kernel
theorem cw_X3_fail : Cond.code yX3_fail cX3_fail 1 none ∈ gw_t := gw_mem 490 (by decide +kernel) (by decide +kernel)
theorem ny_X3_fail : yX3_fail.cls ≠ "java/lang/invoke/MethodHandle" ∧ yX3_fail.cls ≠ "java/lang/invoke/VarHandle" ∧ (parseMethodDescriptor yX3_fail.desc).map (fun d => d.parameters.length) = some 0 := by decide +kernel
theorem cw_X3_init : Cond.code yX3_init cX3_init 1 none ∈ gw_t := gw_mem 188 (by decide +kernel) (by decide +kernel)
theorem ny_X3_init : yX3_init.cls ≠ "java/lang/invoke/MethodHandle" ∧ yX3_init.cls ≠ "java/lang/invoke/VarHandle" ∧ (parseMethodDescriptor yX3_init.desc).map (fun d => d.parameters.length) = some 0 := by decide +kernel
theorem cw_X3_isDigit : Cond.code yX3_isDigit cX3_isDigit 1 (some .boolean) ∈ gw_t := gw_mem 414 (by decide +kernel) (by decide +kernel)
theorem ny_X3_isDigit : yX3_isDigit.cls ≠ "java/lang/invoke/MethodHandle" ∧ yX3_isDigit.cls ≠ "java/lang/invoke/VarHandle" ∧ (parseMethodDescriptor yX3_isDigit.desc).map (fun d => d.parameters.length) = some 1 := by decide +kernel
theorem cw_X3_isLetter : Cond.code yX3_isLetter cX3_isLetter 1 (some .boolean) ∈ gw_t := gw_mem 389 (by decide +kernel) (by decide +kernel)
theorem ny_X3_isLetter : yX3_isLetter.cls ≠ "java/lang/invoke/MethodHandle" ∧ yX3_isLetter.cls ≠ "java/lang/invoke/VarHandle" ∧ (parseMethodDescriptor yX3_isLetter.desc).map (fun d => d.parameters.length) = some 1 := by decide +kernel
theorem cw_X3_isName : Cond.code yX3_isName cX3_isName 1 (some .boolean) ∈ gw_t := gw_mem 505 (by decide +kernel) (by decide +kernel)
theorem ny_X3_isName : yX3_isName.cls ≠ "java/lang/invoke/MethodHandle" ∧ yX3_isName.cls ≠ "java/lang/invoke/VarHandle" ∧ (parseMethodDescriptor yX3_isName.desc).map (fun d => d.parameters.length) = some 1 := by decide +kernel
theorem cw_X3_joins : Cond.code yX3_joins cX3_joins 2 (some .boolean) ∈ gw_t := gw_mem 513 (by decide +kernel) (by decide +kernel)
theorem ny_X3_joins : yX3_joins.cls ≠ "java/lang/invoke/MethodHandle" ∧ yX3_joins.cls ≠ "java/lang/invoke/VarHandle" ∧ (parseMethodDescriptor yX3_joins.desc).map (fun d => d.parameters.length) = some 1 := by decide +kernel
theorem cw_X3_made : Cond.code yX3_made cX3_made 1 (some (.object "WhoSingsNext$Text")) ∈ gw_t := gw_mem 517 (by decide +kernel) (by decide +kernel)
theorem ny_X3_made : yX3_made.cls ≠ "java/lang/invoke/MethodHandle" ∧ yX3_made.cls ≠ "java/lang/invoke/VarHandle" ∧ (parseMethodDescriptor yX3_made.desc).map (fun d => d.parameters.length) = some 0 := by decide +kernel
theorem cw_X3_pass : Cond.code yX3_pass cX3_pass 2 none ∈ gw_t := gw_mem 486 (by decide +kernel) (by decide +kernel)
theorem ny_X3_pass : yX3_pass.cls ≠ "java/lang/invoke/MethodHandle" ∧ yX3_pass.cls ≠ "java/lang/invoke/VarHandle" ∧ (parseMethodDescriptor yX3_pass.desc).map (fun d => d.parameters.length) = some 1 := by decide +kernel
theorem cw_X3_readLevel : Cond.code yX3_readLevel cX3_readLevel 6 none ∈ gw_t := gw_mem 494 (by decide +kernel) (by decide +kernel)
theorem ny_X3_readLevel : yX3_readLevel.cls ≠ "java/lang/invoke/MethodHandle" ∧ yX3_readLevel.cls ≠ "java/lang/invoke/VarHandle" ∧ (parseMethodDescriptor yX3_readLevel.desc).map (fun d => d.parameters.length) = some 2 := by decide +kernel
theorem cw_X3_readNot : Cond.code yX3_readNot cX3_readNot 2 none ∈ gw_t := gw_mem 509 (by decide +kernel) (by decide +kernel)
theorem ny_X3_readNot : yX3_readNot.cls ≠ "java/lang/invoke/MethodHandle" ∧ yX3_readNot.cls ≠ "java/lang/invoke/VarHandle" ∧ (parseMethodDescriptor yX3_readNot.desc).map (fun d => d.parameters.length) = some 1 := by decide +kernel
theorem cw_X3_readNumber : Cond.code yX3_readNumber cX3_readNumber 1 none ∈ gw_t := gw_mem 418 (by decide +kernel) (by decide +kernel)
theorem ny_X3_readNumber : yX3_readNumber.cls ≠ "java/lang/invoke/MethodHandle" ∧ yX3_readNumber.cls ≠ "java/lang/invoke/VarHandle" ∧ (parseMethodDescriptor yX3_readNumber.desc).map (fun d => d.parameters.length) = some 0 := by decide +kernel
theorem cw_X3_readOne : Cond.code yX3_readOne cX3_readOne 2 none ∈ gw_t := gw_mem 498 (by decide +kernel) (by decide +kernel)
theorem ny_X3_readOne : yX3_readOne.cls ≠ "java/lang/invoke/MethodHandle" ∧ yX3_readOne.cls ≠ "java/lang/invoke/VarHandle" ∧ (parseMethodDescriptor yX3_readOne.desc).map (fun d => d.parameters.length) = some 1 := by decide +kernel
theorem cw_X3_readPart : Cond.code yX3_readPart cX3_readPart 2 none ∈ gw_t := gw_mem 482 (by decide +kernel) (by decide +kernel)
theorem ny_X3_readPart : yX3_readPart.cls ≠ "java/lang/invoke/MethodHandle" ∧ yX3_readPart.cls ≠ "java/lang/invoke/VarHandle" ∧ (parseMethodDescriptor yX3_readPart.desc).map (fun d => d.parameters.length) = some 1 := by decide +kernel
theorem cw_X3_readTape : Cond.code yX3_readTape cX3_readTape 1 (some .boolean) ∈ gw_t := gw_mem 382 (by decide +kernel) (by decide +kernel)
theorem ny_X3_readTape : yX3_readTape.cls ≠ "java/lang/invoke/MethodHandle" ∧ yX3_readTape.cls ≠ "java/lang/invoke/VarHandle" ∧ (parseMethodDescriptor yX3_readTape.desc).map (fun d => d.parameters.length) = some 0 := by decide +kernel
theorem cw_X3_readToken : Cond.code yX3_readToken cX3_readToken 1 none ∈ gw_t := gw_mem 386 (by decide +kernel) (by decide +kernel)
theorem ny_X3_readToken : yX3_readToken.cls ≠ "java/lang/invoke/MethodHandle" ∧ yX3_readToken.cls ≠ "java/lang/invoke/VarHandle" ∧ (parseMethodDescriptor yX3_readToken.desc).map (fun d => d.parameters.length) = some 0 := by decide +kernel
theorem cw_X3_readWord : Cond.code yX3_readWord cX3_readWord 1 none ∈ gw_t := gw_mem 393 (by decide +kernel) (by decide +kernel)
theorem ny_X3_readWord : yX3_readWord.cls ≠ "java/lang/invoke/MethodHandle" ∧ yX3_readWord.cls ≠ "java/lang/invoke/VarHandle" ∧ (parseMethodDescriptor yX3_readWord.desc).map (fun d => d.parameters.length) = some 0 := by decide +kernel
theorem cw_X3_spells : Cond.code yX3_spells cX3_spells 3 (some .boolean) ∈ gw_t := gw_mem 398 (by decide +kernel) (by decide +kernel)
theorem ny_X3_spells : yX3_spells.cls ≠ "java/lang/invoke/MethodHandle" ∧ yX3_spells.cls ≠ "java/lang/invoke/VarHandle" ∧ (parseMethodDescriptor yX3_spells.desc).map (fun d => d.parameters.length) = some 1 := by decide +kernel
theorem cw_X4_answer : Cond.code yX4_answer cX4_answer 3 (some .int) ∈ gw_t := gw_mem 781 (by decide +kernel) (by decide +kernel)
theorem ny_X4_answer : yX4_answer.cls ≠ "java/lang/invoke/MethodHandle" ∧ yX4_answer.cls ≠ "java/lang/invoke/VarHandle" ∧ (parseMethodDescriptor yX4_answer.desc).map (fun d => d.parameters.length) = some 2 := by decide +kernel
theorem cw_X4_goOn : Cond.code yX4_goOn cX4_goOn 6 none ∈ gw_t := gw_mem 766 (by decide +kernel) (by decide +kernel)
theorem ny_X4_goOn : yX4_goOn.cls ≠ "java/lang/invoke/MethodHandle" ∧ yX4_goOn.cls ≠ "java/lang/invoke/VarHandle" ∧ (parseMethodDescriptor yX4_goOn.desc).map (fun d => d.parameters.length) = some 2 := by decide +kernel
theorem cw_X4_init : Cond.code yX4_init cX4_init 3 none ∈ gw_t := gw_mem 297 (by decide +kernel) (by decide +kernel)
theorem ny_X4_init : yX4_init.cls ≠ "java/lang/invoke/MethodHandle" ∧ yX4_init.cls ≠ "java/lang/invoke/VarHandle" ∧ (parseMethodDescriptor yX4_init.desc).map (fun d => d.parameters.length) = some 1 := by decide +kernel
theorem cw_X4_look : Cond.code yX4_look cX4_look 2 none ∈ gw_t := gw_mem 757 (by decide +kernel) (by decide +kernel)
theorem ny_X4_look : yX4_look.cls ≠ "java/lang/invoke/MethodHandle" ∧ yX4_look.cls ≠ "java/lang/invoke/VarHandle" ∧ (parseMethodDescriptor yX4_look.desc).map (fun d => d.parameters.length) = some 1 := by decide +kernel
theorem cw_X4_losesFewer : Cond.code yX4_losesFewer cX4_losesFewer 2 (some .boolean) ∈ gw_t := gw_mem 777 (by decide +kernel) (by decide +kernel)
theorem ny_X4_losesFewer : yX4_losesFewer.cls ≠ "java/lang/invoke/MethodHandle" ∧ yX4_losesFewer.cls ≠ "java/lang/invoke/VarHandle" ∧ (parseMethodDescriptor yX4_losesFewer.desc).map (fun d => d.parameters.length) = some 1 := by decide +kernel
theorem cw_X4_note : Cond.code yX4_note cX4_note 4 none ∈ gw_t := gw_mem 762 (by decide +kernel) (by decide +kernel)
theorem ny_X4_note : yX4_note.cls ≠ "java/lang/invoke/MethodHandle" ∧ yX4_note.cls ≠ "java/lang/invoke/VarHandle" ∧ (parseMethodDescriptor yX4_note.desc).map (fun d => d.parameters.length) = some 3 := by decide +kernel
theorem cw_X5_holds : Cond.code yX5_holds cX5_holds 3 (some .boolean) ∈ gw_t := gw_mem 903 (by decide +kernel) (by decide +kernel)
theorem ny_X5_holds : yX5_holds.cls ≠ "java/lang/invoke/MethodHandle" ∧ yX5_holds.cls ≠ "java/lang/invoke/VarHandle" ∧ (parseMethodDescriptor yX5_holds.desc).map (fun d => d.parameters.length) = some 2 := by decide +kernel
theorem cw_X5_init : Cond.code yX5_init cX5_init 1 none ∈ gw_t := gw_mem 555 (by decide +kernel) (by decide +kernel)
theorem ny_X5_init : yX5_init.cls ≠ "java/lang/invoke/MethodHandle" ∧ yX5_init.cls ≠ "java/lang/invoke/VarHandle" ∧ (parseMethodDescriptor yX5_init.desc).map (fun d => d.parameters.length) = some 0 := by decide +kernel
theorem cw_X5_put : Cond.code yX5_put cX5_put 3 none ∈ gw_t := gw_mem 907 (by decide +kernel) (by decide +kernel)
theorem ny_X5_put : yX5_put.cls ≠ "java/lang/invoke/MethodHandle" ∧ yX5_put.cls ≠ "java/lang/invoke/VarHandle" ∧ (parseMethodDescriptor yX5_put.desc).map (fun d => d.parameters.length) = some 2 := by decide +kernel
theorem cw_X5_remake : Cond.code yX5_remake cX5_remake 3 none ∈ gw_t := gw_mem 894 (by decide +kernel) (by decide +kernel)
theorem ny_X5_remake : yX5_remake.cls ≠ "java/lang/invoke/MethodHandle" ∧ yX5_remake.cls ≠ "java/lang/invoke/VarHandle" ∧ (parseMethodDescriptor yX5_remake.desc).map (fun d => d.parameters.length) = some 2 := by decide +kernel
theorem cw_X6_become : Cond.code yX6_become cX6_become 2 none ∈ gw_t := gw_mem 878 (by decide +kernel) (by decide +kernel)
theorem ny_X6_become : yX6_become.cls ≠ "java/lang/invoke/MethodHandle" ∧ yX6_become.cls ≠ "java/lang/invoke/VarHandle" ∧ (parseMethodDescriptor yX6_become.desc).map (fun d => d.parameters.length) = some 1 := by decide +kernel
theorem cw_X6_init : Cond.code yX6_init cX6_init 1 none ∈ gw_t := gw_mem 120 (by decide +kernel) (by decide +kernel)
theorem ny_X6_init : yX6_init.cls ≠ "java/lang/invoke/MethodHandle" ∧ yX6_init.cls ≠ "java/lang/invoke/VarHandle" ∧ (parseMethodDescriptor yX6_init.desc).map (fun d => d.parameters.length) = some 0 := by decide +kernel
theorem cw_X6_isOf : Cond.code yX6_isOf cX6_isOf 2 (some .boolean) ∈ gw_t := gw_mem 924 (by decide +kernel) (by decide +kernel)
theorem ny_X6_isOf : yX6_isOf.cls ≠ "java/lang/invoke/MethodHandle" ∧ yX6_isOf.cls ≠ "java/lang/invoke/VarHandle" ∧ (parseMethodDescriptor yX6_isOf.desc).map (fun d => d.parameters.length) = some 1 := by decide +kernel
theorem cw_X6_moves : Cond.code yX6_moves cX6_moves 2 (some .int) ∈ gw_t := gw_mem 710 (by decide +kernel) (by decide +kernel)
theorem ny_X6_moves : yX6_moves.cls ≠ "java/lang/invoke/MethodHandle" ∧ yX6_moves.cls ≠ "java/lang/invoke/VarHandle" ∧ (parseMethodDescriptor yX6_moves.desc).map (fun d => d.parameters.length) = some 1 := by decide +kernel
theorem cw_X6_thirst : Cond.code yX6_thirst cX6_thirst 2 (some .int) ∈ gw_t := gw_mem 736 (by decide +kernel) (by decide +kernel)
theorem ny_X6_thirst : yX6_thirst.cls ≠ "java/lang/invoke/MethodHandle" ∧ yX6_thirst.cls ≠ "java/lang/invoke/VarHandle" ∧ (parseMethodDescriptor yX6_thirst.desc).map (fun d => d.parameters.length) = some 1 := by decide +kernel
theorem cw_X7_init : Cond.code yX7_init cX7_init 4 none ∈ gw_t := gw_mem 536 (by decide +kernel) (by decide +kernel)
theorem ny_X7_init : yX7_init.cls ≠ "java/lang/invoke/MethodHandle" ∧ yX7_init.cls ≠ "java/lang/invoke/VarHandle" ∧ (parseMethodDescriptor yX7_init.desc).map (fun d => d.parameters.length) = some 3 := by decide +kernel
theorem cw_X7_joined : Cond.code yX7_joined cX7_joined 3 (some .int) ∈ gw_t := gw_mem 726 (by decide +kernel) (by decide +kernel)
theorem ny_X7_joined : yX7_joined.cls ≠ "java/lang/invoke/MethodHandle" ∧ yX7_joined.cls ≠ "java/lang/invoke/VarHandle" ∧ (parseMethodDescriptor yX7_joined.desc).map (fun d => d.parameters.length) = some 3 := by decide +kernel
theorem cw_X7_worth : Cond.code yX7_worth cX7_worth 9 (some .int) ∈ gw_t := gw_mem 723 (by decide +kernel) (by decide +kernel)
theorem ny_X7_worth : yX7_worth.cls ≠ "java/lang/invoke/MethodHandle" ∧ yX7_worth.cls ≠ "java/lang/invoke/VarHandle" ∧ (parseMethodDescriptor yX7_worth.desc).map (fun d => d.parameters.length) = some 2 := by decide +kernel
theorem cw_X8_back : Cond.code yX8_back cX8_back 1 (some .int) ∈ gw_t := gw_mem 882 (by decide +kernel) (by decide +kernel)
theorem ny_X8_back : yX8_back.cls ≠ "java/lang/invoke/MethodHandle" ∧ yX8_back.cls ≠ "java/lang/invoke/VarHandle" ∧ (parseMethodDescriptor yX8_back.desc).map (fun d => d.parameters.length) = some 0 := by decide +kernel
theorem cw_X8_behind : Cond.code yX8_behind cX8_behind 5 (some .int) ∈ gw_t := gw_mem 841 (by decide +kernel) (by decide +kernel)
theorem ny_X8_behind : yX8_behind.cls ≠ "java/lang/invoke/MethodHandle" ∧ yX8_behind.cls ≠ "java/lang/invoke/VarHandle" ∧ (parseMethodDescriptor yX8_behind.desc).map (fun d => d.parameters.length) = some 0 := by decide +kernel
theorem cw_X8_best : Cond.code yX8_best cX8_best 3 (some .int) ∈ gw_t := gw_mem 753 (by decide +kernel) (by decide +kernel)
theorem ny_X8_best : yX8_best.cls ≠ "java/lang/invoke/MethodHandle" ∧ yX8_best.cls ≠ "java/lang/invoke/VarHandle" ∧ (parseMethodDescriptor yX8_best.desc).map (fun d => d.parameters.length) = some 2 := by decide +kernel
theorem cw_X8_cell : Cond.code yX8_cell cX8_cell 5 (some .int) ∈ gw_t := gw_mem 899 (by decide +kernel) (by decide +kernel)
theorem ny_X8_cell : yX8_cell.cls ≠ "java/lang/invoke/MethodHandle" ∧ yX8_cell.cls ≠ "java/lang/invoke/VarHandle" ∧ (parseMethodDescriptor yX8_cell.desc).map (fun d => d.parameters.length) = some 3 := by decide +kernel
theorem cw_X8_chance : Cond.code yX8_chance cX8_chance 6 (some .long) ∈ gw_t := gw_mem 858 (by decide +kernel) (by decide +kernel)
theorem ny_X8_chance : yX8_chance.cls ≠ "java/lang/invoke/MethodHandle" ∧ yX8_chance.cls ≠ "java/lang/invoke/VarHandle" ∧ (parseMethodDescriptor yX8_chance.desc).map (fun d => d.parameters.length) = some 3 := by decide +kernel
theorem cw_X8_coin : Cond.code yX8_coin cX8_coin 3 (some .int) ∈ gw_t := gw_mem 817 (by decide +kernel) (by decide +kernel)
theorem ny_X8_coin : yX8_coin.cls ≠ "java/lang/invoke/MethodHandle" ∧ yX8_coin.cls ≠ "java/lang/invoke/VarHandle" ∧ (parseMethodDescriptor yX8_coin.desc).map (fun d => d.parameters.length) = some 1 := by decide +kernel
theorem cw_X8_come : Cond.code yX8_come cX8_come 3 (some .int) ∈ gw_t := gw_mem 601 (by decide +kernel) (by decide +kernel)
theorem ny_X8_come : yX8_come.cls ≠ "java/lang/invoke/MethodHandle" ∧ yX8_come.cls ≠ "java/lang/invoke/VarHandle" ∧ (parseMethodDescriptor yX8_come.desc).map (fun d => d.parameters.length) = some 2 := by decide +kernel
theorem cw_X8_commonDivisor : Cond.code yX8_commonDivisor cX8_commonDivisor 3 (some .int) ∈ gw_t := gw_mem 862 (by decide +kernel) (by decide +kernel)
theorem ny_X8_commonDivisor : yX8_commonDivisor.cls ≠ "java/lang/invoke/MethodHandle" ∧ yX8_commonDivisor.cls ≠ "java/lang/invoke/VarHandle" ∧ (parseMethodDescriptor yX8_commonDivisor.desc).map (fun d => d.parameters.length) = some 2 := by decide +kernel
theorem cw_X8_copy : Cond.code yX8_copy cX8_copy 8 (some .int) ∈ gw_t := gw_mem 911 (by decide +kernel) (by decide +kernel)
theorem ny_X8_copy : yX8_copy.cls ≠ "java/lang/invoke/MethodHandle" ∧ yX8_copy.cls ≠ "java/lang/invoke/VarHandle" ∧ (parseMethodDescriptor yX8_copy.desc).map (fun d => d.parameters.length) = some 5 := by decide +kernel
theorem cw_X8_count : Cond.code yX8_count cX8_count 2 (some .int) ∈ gw_t := gw_mem 886 (by decide +kernel) (by decide +kernel)
theorem ny_X8_count : yX8_count.cls ≠ "java/lang/invoke/MethodHandle" ∧ yX8_count.cls ≠ "java/lang/invoke/VarHandle" ∧ (parseMethodDescriptor yX8_count.desc).map (fun d => d.parameters.length) = some 1 := by decide +kernel
theorem cw_X8_desk : Cond.code yX8_desk cX8_desk 2 (some .int) ∈ gw_t := gw_mem 785 (by decide +kernel) (by decide +kernel)
theorem ny_X8_desk : yX8_desk.cls ≠ "java/lang/invoke/MethodHandle" ∧ yX8_desk.cls ≠ "java/lang/invoke/VarHandle" ∧ (parseMethodDescriptor yX8_desk.desc).map (fun d => d.parameters.length) = some 1 := by decide +kernel
theorem cw_X8_drawn : Cond.code yX8_drawn cX8_drawn 2 (some .int) ∈ gw_t := gw_mem 845 (by decide +kernel) (by decide +kernel)
theorem ny_X8_drawn : yX8_drawn.cls ≠ "java/lang/invoke/MethodHandle" ∧ yX8_drawn.cls ≠ "java/lang/invoke/VarHandle" ∧ (parseMethodDescriptor yX8_drawn.desc).map (fun d => d.parameters.length) = some 1 := by decide +kernel
theorem cw_X8_evening : Cond.code yX8_evening cX8_evening 3 (some .int) ∈ gw_t := gw_mem 669 (by decide +kernel) (by decide +kernel)
theorem ny_X8_evening : yX8_evening.cls ≠ "java/lang/invoke/MethodHandle" ∧ yX8_evening.cls ≠ "java/lang/invoke/VarHandle" ∧ (parseMethodDescriptor yX8_evening.desc).map (fun d => d.parameters.length) = some 2 := by decide +kernel
theorem cw_X8_feed : Cond.code yX8_feed cX8_feed 2 (some .int) ∈ gw_t := gw_mem 653 (by decide +kernel) (by decide +kernel)
theorem ny_X8_feed : yX8_feed.cls ≠ "java/lang/invoke/MethodHandle" ∧ yX8_feed.cls ≠ "java/lang/invoke/VarHandle" ∧ (parseMethodDescriptor yX8_feed.desc).map (fun d => d.parameters.length) = some 1 := by decide +kernel
theorem cw_X8_force : Cond.code yX8_force cX8_force 3 (some .int) ∈ gw_t := gw_mem 661 (by decide +kernel) (by decide +kernel)
theorem ny_X8_force : yX8_force.cls ≠ "java/lang/invoke/MethodHandle" ∧ yX8_force.cls ≠ "java/lang/invoke/VarHandle" ∧ (parseMethodDescriptor yX8_force.desc).map (fun d => d.parameters.length) = some 1 := by decide +kernel
theorem cw_X8_harm : Cond.code yX8_harm cX8_harm 3 (some .int) ∈ gw_t := gw_mem 822 (by decide +kernel) (by decide +kernel)
theorem ny_X8_harm : yX8_harm.cls ≠ "java/lang/invoke/MethodHandle" ∧ yX8_harm.cls ≠ "java/lang/invoke/VarHandle" ∧ (parseMethodDescriptor yX8_harm.desc).map (fun d => d.parameters.length) = some 1 := by decide +kernel
theorem cw_X8_hold : Cond.code yX8_hold cX8_hold 2 (some .int) ∈ gw_t := gw_mem 805 (by decide +kernel) (by decide +kernel)
theorem ny_X8_hold : yX8_hold.cls ≠ "java/lang/invoke/MethodHandle" ∧ yX8_hold.cls ≠ "java/lang/invoke/VarHandle" ∧ (parseMethodDescriptor yX8_hold.desc).map (fun d => d.parameters.length) = some 1 := by decide +kernel
theorem cw_X8_image : Cond.code yX8_image cX8_image 1 (some .int) ∈ gw_t := gw_mem 866 (by decide +kernel) (by decide +kernel)
theorem ny_X8_image : yX8_image.cls ≠ "java/lang/invoke/MethodHandle" ∧ yX8_image.cls ≠ "java/lang/invoke/VarHandle" ∧ (parseMethodDescriptor yX8_image.desc).map (fun d => d.parameters.length) = some 0 := by decide +kernel
theorem cw_X8_init : Cond.code yX8_init cX8_init 3 none ∈ gw_t := gw_mem 87 (by decide +kernel) (by decide +kernel)
theorem ny_X8_init : yX8_init.cls ≠ "java/lang/invoke/MethodHandle" ∧ yX8_init.cls ≠ "java/lang/invoke/VarHandle" ∧ (parseMethodDescriptor yX8_init.desc).map (fun d => d.parameters.length) = some 0 := by decide +kernel
theorem cw_X8_isSheet : Cond.code yX8_isSheet cX8_isSheet 1 (some .boolean) ∈ gw_t := gw_mem 829 (by decide +kernel) (by decide +kernel)
theorem ny_X8_isSheet : yX8_isSheet.cls ≠ "java/lang/invoke/MethodHandle" ∧ yX8_isSheet.cls ≠ "java/lang/invoke/VarHandle" ∧ (parseMethodDescriptor yX8_isSheet.desc).map (fun d => d.parameters.length) = some 1 := by decide +kernel
theorem cw_X8_judge : Cond.code yX8_judge cX8_judge 2 (some .int) ∈ gw_t := gw_mem 826 (by decide +kernel) (by decide +kernel)
theorem ny_X8_judge : yX8_judge.cls ≠ "java/lang/invoke/MethodHandle" ∧ yX8_judge.cls ≠ "java/lang/invoke/VarHandle" ∧ (parseMethodDescriptor yX8_judge.desc).map (fun d => d.parameters.length) = some 1 := by decide +kernel
theorem cw_X8_judged : Cond.code yX8_judged cX8_judged 4 (some .int) ∈ gw_t := gw_mem 833 (by decide +kernel) (by decide +kernel)
theorem ny_X8_judged : yX8_judged.cls ≠ "java/lang/invoke/MethodHandle" ∧ yX8_judged.cls ≠ "java/lang/invoke/VarHandle" ∧ (parseMethodDescriptor yX8_judged.desc).map (fun d => d.parameters.length) = some 2 := by decide +kernel
theorem cw_X8_refuse : Cond.code yX8_refuse cX8_refuse 5 (some .int) ∈ gw_t := gw_mem 813 (by decide +kernel) (by decide +kernel)
theorem ny_X8_refuse : yX8_refuse.cls ≠ "java/lang/invoke/MethodHandle" ∧ yX8_refuse.cls ≠ "java/lang/invoke/VarHandle" ∧ (parseMethodDescriptor yX8_refuse.desc).map (fun d => d.parameters.length) = some 1 := by decide +kernel
theorem cw_X8_rule : Cond.code yX8_rule cX8_rule 1 (some (.object "WhoSingsNext$Text")) ∈ gw_t := gw_mem 677 (by decide +kernel) (by decide +kernel)
theorem ny_X8_rule : yX8_rule.cls ≠ "java/lang/invoke/MethodHandle" ∧ yX8_rule.cls ≠ "java/lang/invoke/VarHandle" ∧ (parseMethodDescriptor yX8_rule.desc).map (fun d => d.parameters.length) = some 0 := by decide +kernel
theorem cw_X8_runDesk : Cond.code yX8_runDesk cX8_runDesk 3 none ∈ gw_t := gw_mem 789 (by decide +kernel) (by decide +kernel)
theorem ny_X8_runDesk : yX8_runDesk.cls ≠ "java/lang/invoke/MethodHandle" ∧ yX8_runDesk.cls ≠ "java/lang/invoke/VarHandle" ∧ (parseMethodDescriptor yX8_runDesk.desc).map (fun d => d.parameters.length) = some 2 := by decide +kernel
theorem cw_X8_set : Cond.code yX8_set cX8_set 5 (some .int) ∈ gw_t := gw_mem 625 (by decide +kernel) (by decide +kernel)
theorem ny_X8_set : yX8_set.cls ≠ "java/lang/invoke/MethodHandle" ∧ yX8_set.cls ≠ "java/lang/invoke/VarHandle" ∧ (parseMethodDescriptor yX8_set.desc).map (fun d => d.parameters.length) = some 3 := by decide +kernel
theorem cw_X8_sheet : Cond.code yX8_sheet cX8_sheet 4 (some .int) ∈ gw_t := gw_mem 890 (by decide +kernel) (by decide +kernel)
theorem ny_X8_sheet : yX8_sheet.cls ≠ "java/lang/invoke/MethodHandle" ∧ yX8_sheet.cls ≠ "java/lang/invoke/VarHandle" ∧ (parseMethodDescriptor yX8_sheet.desc).map (fun d => d.parameters.length) = some 3 := by decide +kernel
theorem cw_X8_slip : Cond.code yX8_slip cX8_slip 4 (some .int) ∈ gw_t := gw_mem 617 (by decide +kernel) (by decide +kernel)
theorem ny_X8_slip : yX8_slip.cls ≠ "java/lang/invoke/MethodHandle" ∧ yX8_slip.cls ≠ "java/lang/invoke/VarHandle" ∧ (parseMethodDescriptor yX8_slip.desc).map (fun d => d.parameters.length) = some 3 := by decide +kernel
theorem cw_X8_slips : Cond.code yX8_slips cX8_slips 9 (some .int) ∈ gw_t := gw_mem 916 (by decide +kernel) (by decide +kernel)
theorem ny_X8_slips : yX8_slips.cls ≠ "java/lang/invoke/MethodHandle" ∧ yX8_slips.cls ≠ "java/lang/invoke/VarHandle" ∧ (parseMethodDescriptor yX8_slips.desc).map (fun d => d.parameters.length) = some 4 := by decide +kernel
theorem cw_X8_taken : Cond.code yX8_taken cX8_taken 3 (some .int) ∈ gw_t := gw_mem 920 (by decide +kernel) (by decide +kernel)
theorem ny_X8_taken : yX8_taken.cls ≠ "java/lang/invoke/MethodHandle" ∧ yX8_taken.cls ≠ "java/lang/invoke/VarHandle" ∧ (parseMethodDescriptor yX8_taken.desc).map (fun d => d.parameters.length) = some 2 := by decide +kernel
theorem cw_X8_text : Cond.code yX8_text cX8_text 1 (some .int) ∈ gw_t := gw_mem 657 (by decide +kernel) (by decide +kernel)
theorem ny_X8_text : yX8_text.cls ≠ "java/lang/invoke/MethodHandle" ∧ yX8_text.cls ≠ "java/lang/invoke/VarHandle" ∧ (parseMethodDescriptor yX8_text.desc).map (fun d => d.parameters.length) = some 0 := by decide +kernel
theorem cw_X8_told : Cond.code yX8_told cX8_told 3 (some .int) ∈ gw_t := gw_mem 648 (by decide +kernel) (by decide +kernel)
theorem ny_X8_told : yX8_told.cls ≠ "java/lang/invoke/MethodHandle" ∧ yX8_told.cls ≠ "java/lang/invoke/VarHandle" ∧ (parseMethodDescriptor yX8_told.desc).map (fun d => d.parameters.length) = some 2 := by decide +kernel
theorem cw_X8_wait : Cond.code yX8_wait cX8_wait 2 (some .int) ∈ gw_t := gw_mem 809 (by decide +kernel) (by decide +kernel)
theorem ny_X8_wait : yX8_wait.cls ≠ "java/lang/invoke/MethodHandle" ∧ yX8_wait.cls ≠ "java/lang/invoke/VarHandle" ∧ (parseMethodDescriptor yX8_wait.desc).map (fun d => d.parameters.length) = some 1 := by decide +kernel
theorem cw_X8_which : Cond.code yX8_which cX8_which 4 (some .int) ∈ gw_t := gw_mem 837 (by decide +kernel) (by decide +kernel)
theorem ny_X8_which : yX8_which.cls ≠ "java/lang/invoke/MethodHandle" ∧ yX8_which.cls ≠ "java/lang/invoke/VarHandle" ∧ (parseMethodDescriptor yX8_which.desc).map (fun d => d.parameters.length) = some 1 := by decide +kernel
theorem cw_X8_within : Cond.code yX8_within cX8_within 3 (some .int) ∈ gw_t := gw_mem 713 (by decide +kernel) (by decide +kernel)
theorem ny_X8_within : yX8_within.cls ≠ "java/lang/invoke/MethodHandle" ∧ yX8_within.cls ≠ "java/lang/invoke/VarHandle" ∧ (parseMethodDescriptor yX8_within.desc).map (fun d => d.parameters.length) = some 3 := by decide +kernel
theorem cw_X9_added : Cond.code yX9_added cX9_added 4 (some .int) ∈ gw_t := gw_mem 1216 (by decide +kernel) (by decide +kernel)
theorem ny_X9_added : yX9_added.cls ≠ "java/lang/invoke/MethodHandle" ∧ yX9_added.cls ≠ "java/lang/invoke/VarHandle" ∧ (parseMethodDescriptor yX9_added.desc).map (fun d => d.parameters.length) = some 0 := by decide +kernel
theorem cw_X9_atom : Cond.code yX9_atom cX9_atom 2 (some .int) ∈ gw_t := gw_mem 1224 (by decide +kernel) (by decide +kernel)
theorem ny_X9_atom : yX9_atom.cls ≠ "java/lang/invoke/MethodHandle" ∧ yX9_atom.cls ≠ "java/lang/invoke/VarHandle" ∧ (parseMethodDescriptor yX9_atom.desc).map (fun d => d.parameters.length) = some 0 := by decide +kernel
theorem cw_X9_back : Cond.code yX9_back cX9_back 2 (some .int) ∈ gw_t := gw_mem 1394 (by decide +kernel) (by decide +kernel)
theorem ny_X9_back : yX9_back.cls ≠ "java/lang/invoke/MethodHandle" ∧ yX9_back.cls ≠ "java/lang/invoke/VarHandle" ∧ (parseMethodDescriptor yX9_back.desc).map (fun d => d.parameters.length) = some 0 := by decide +kernel
theorem cw_X9_begins : Cond.code yX9_begins cX9_begins 2 none ∈ gw_t := gw_mem 1254 (by decide +kernel) (by decide +kernel)
theorem ny_X9_begins : yX9_begins.cls ≠ "java/lang/invoke/MethodHandle" ∧ yX9_begins.cls ≠ "java/lang/invoke/VarHandle" ∧ (parseMethodDescriptor yX9_begins.desc).map (fun d => d.parameters.length) = some 0 := by decide +kernel
theorem cw_X9_behind : Cond.code yX9_behind cX9_behind 4 (some .int) ∈ gw_t := gw_mem 1371 (by decide +kernel) (by decide +kernel)
theorem ny_X9_behind : yX9_behind.cls ≠ "java/lang/invoke/MethodHandle" ∧ yX9_behind.cls ≠ "java/lang/invoke/VarHandle" ∧ (parseMethodDescriptor yX9_behind.desc).map (fun d => d.parameters.length) = some 0 := by decide +kernel
theorem cw_X9_best : Cond.code yX9_best cX9_best 3 (some .int) ∈ gw_t := gw_mem 1299 (by decide +kernel) (by decide +kernel)
theorem ny_X9_best : yX9_best.cls ≠ "java/lang/invoke/MethodHandle" ∧ yX9_best.cls ≠ "java/lang/invoke/VarHandle" ∧ (parseMethodDescriptor yX9_best.desc).map (fun d => d.parameters.length) = some 2 := by decide +kernel
theorem cw_X9_bitsOf : Cond.code yX9_bitsOf cX9_bitsOf 3 (some .int) ∈ gw_t := gw_mem 1275 (by decide +kernel) (by decide +kernel)
theorem ny_X9_bitsOf : yX9_bitsOf.cls ≠ "java/lang/invoke/MethodHandle" ∧ yX9_bitsOf.cls ≠ "java/lang/invoke/VarHandle" ∧ (parseMethodDescriptor yX9_bitsOf.desc).map (fun d => d.parameters.length) = some 1 := by decide +kernel
theorem cw_X9_both : Cond.code yX9_both cX9_both 3 (some .int) ∈ gw_t := gw_mem 1204 (by decide +kernel) (by decide +kernel)
theorem ny_X9_both : yX9_both.cls ≠ "java/lang/invoke/MethodHandle" ∧ yX9_both.cls ≠ "java/lang/invoke/VarHandle" ∧ (parseMethodDescriptor yX9_both.desc).map (fun d => d.parameters.length) = some 0 := by decide +kernel
theorem cw_X9_byteAt : Cond.code yX9_byteAt cX9_byteAt 2 (some .int) ∈ gw_t := gw_mem 1176 (by decide +kernel) (by decide +kernel)
theorem ny_X9_byteAt : yX9_byteAt.cls ≠ "java/lang/invoke/MethodHandle" ∧ yX9_byteAt.cls ≠ "java/lang/invoke/VarHandle" ∧ (parseMethodDescriptor yX9_byteAt.desc).map (fun d => d.parameters.length) = some 1 := by decide +kernel
theorem cw_X9_calls : Cond.code yX9_calls cX9_calls 6 none ∈ gw_t := gw_mem 1261 (by decide +kernel) (by decide +kernel)
theorem ny_X9_calls : yX9_calls.cls ≠ "java/lang/invoke/MethodHandle" ∧ yX9_calls.cls ≠ "java/lang/invoke/VarHandle" ∧ (parseMethodDescriptor yX9_calls.desc).map (fun d => d.parameters.length) = some 1 := by decide +kernel
theorem cw_X9_canSing : Cond.code yX9_canSing cX9_canSing 2 (some .boolean) ∈ gw_t := gw_mem 1265 (by decide +kernel) (by decide +kernel)
theorem ny_X9_canSing : yX9_canSing.cls ≠ "java/lang/invoke/MethodHandle" ∧ yX9_canSing.cls ≠ "java/lang/invoke/VarHandle" ∧ (parseMethodDescriptor yX9_canSing.desc).map (fun d => d.parameters.length) = some 1 := by decide +kernel
theorem cw_X9_cell : Cond.code yX9_cell cX9_cell 4 (some .int) ∈ gw_t := gw_mem 1407 (by decide +kernel) (by decide +kernel)
theorem ny_X9_cell : yX9_cell.cls ≠ "java/lang/invoke/MethodHandle" ∧ yX9_cell.cls ≠ "java/lang/invoke/VarHandle" ∧ (parseMethodDescriptor yX9_cell.desc).map (fun d => d.parameters.length) = some 3 := by decide +kernel
theorem cw_X9_chance : Cond.code yX9_chance cX9_chance 12 (some .long) ∈ gw_t := gw_mem 1384 (by decide +kernel) (by decide +kernel)
theorem ny_X9_chance : yX9_chance.cls ≠ "java/lang/invoke/MethodHandle" ∧ yX9_chance.cls ≠ "java/lang/invoke/VarHandle" ∧ (parseMethodDescriptor yX9_chance.desc).map (fun d => d.parameters.length) = some 3 := by decide +kernel
theorem cw_X9_coin : Cond.code yX9_coin cX9_coin 3 (some .int) ∈ gw_t := gw_mem 1344 (by decide +kernel) (by decide +kernel)
theorem ny_X9_coin : yX9_coin.cls ≠ "java/lang/invoke/MethodHandle" ∧ yX9_coin.cls ≠ "java/lang/invoke/VarHandle" ∧ (parseMethodDescriptor yX9_coin.desc).map (fun d => d.parameters.length) = some 1 := by decide +kernel
theorem cw_X9_come : Cond.code yX9_come cX9_come 3 (some .int) ∈ gw_t := gw_mem 1122 (by decide +kernel) (by decide +kernel)
theorem ny_X9_come : yX9_come.cls ≠ "java/lang/invoke/MethodHandle" ∧ yX9_come.cls ≠ "java/lang/invoke/VarHandle" ∧ (parseMethodDescriptor yX9_come.desc).map (fun d => d.parameters.length) = some 2 := by decide +kernel
theorem cw_X9_copy : Cond.code yX9_copy cX9_copy 9 (some .int) ∈ gw_t := gw_mem 1411 (by decide +kernel) (by decide +kernel)
theorem ny_X9_copy : yX9_copy.cls ≠ "java/lang/invoke/MethodHandle" ∧ yX9_copy.cls ≠ "java/lang/invoke/VarHandle" ∧ (parseMethodDescriptor yX9_copy.desc).map (fun d => d.parameters.length) = some 5 := by decide +kernel
theorem cw_X9_count : Cond.code yX9_count cX9_count 2 (some .int) ∈ gw_t := gw_mem 1398 (by decide +kernel) (by decide +kernel)
theorem ny_X9_count : yX9_count.cls ≠ "java/lang/invoke/MethodHandle" ∧ yX9_count.cls ≠ "java/lang/invoke/VarHandle" ∧ (parseMethodDescriptor yX9_count.desc).map (fun d => d.parameters.length) = some 1 := by decide +kernel
theorem cw_X9_desk : Cond.code yX9_desk cX9_desk 2 (some .int) ∈ gw_t := gw_mem 1320 (by decide +kernel) (by decide +kernel)
theorem ny_X9_desk : yX9_desk.cls ≠ "java/lang/invoke/MethodHandle" ∧ yX9_desk.cls ≠ "java/lang/invoke/VarHandle" ∧ (parseMethodDescriptor yX9_desk.desc).map (fun d => d.parameters.length) = some 1 := by decide +kernel
theorem cw_X9_deskCalls : Cond.code yX9_deskCalls cX9_deskCalls 7 (some .int) ∈ gw_t := gw_mem 1332 (by decide +kernel) (by decide +kernel)
theorem ny_X9_deskCalls : yX9_deskCalls.cls ≠ "java/lang/invoke/MethodHandle" ∧ yX9_deskCalls.cls ≠ "java/lang/invoke/VarHandle" ∧ (parseMethodDescriptor yX9_deskCalls.desc).map (fun d => d.parameters.length) = some 1 := by decide +kernel
theorem cw_X9_desks : Cond.code yX9_desks cX9_desks 2 none ∈ gw_t := gw_mem 1324 (by decide +kernel) (by decide +kernel)
theorem ny_X9_desks : yX9_desks.cls ≠ "java/lang/invoke/MethodHandle" ∧ yX9_desks.cls ≠ "java/lang/invoke/VarHandle" ∧ (parseMethodDescriptor yX9_desks.desc).map (fun d => d.parameters.length) = some 1 := by decide +kernel
theorem cw_X9_drawn : Cond.code yX9_drawn cX9_drawn 2 (some .int) ∈ gw_t := gw_mem 1375 (by decide +kernel) (by decide +kernel)
theorem ny_X9_drawn : yX9_drawn.cls ≠ "java/lang/invoke/MethodHandle" ∧ yX9_drawn.cls ≠ "java/lang/invoke/VarHandle" ∧ (parseMethodDescriptor yX9_drawn.desc).map (fun d => d.parameters.length) = some 1 := by decide +kernel
theorem cw_X9_draws : Cond.code yX9_draws cX9_draws 6 none ∈ gw_t := gw_mem 1379 (by decide +kernel) (by decide +kernel)
theorem ny_X9_draws : yX9_draws.cls ≠ "java/lang/invoke/MethodHandle" ∧ yX9_draws.cls ≠ "java/lang/invoke/VarHandle" ∧ (parseMethodDescriptor yX9_draws.desc).map (fun d => d.parameters.length) = some 1 := by decide +kernel
theorem cw_X9_either : Cond.code yX9_either cX9_either 3 (some .int) ∈ gw_t := gw_mem 1200 (by decide +kernel) (by decide +kernel)
theorem ny_X9_either : yX9_either.cls ≠ "java/lang/invoke/MethodHandle" ∧ yX9_either.cls ≠ "java/lang/invoke/VarHandle" ∧ (parseMethodDescriptor yX9_either.desc).map (fun d => d.parameters.length) = some 0 := by decide +kernel
theorem cw_X9_evening : Cond.code yX9_evening cX9_evening 3 (some .int) ∈ gw_t := gw_mem 1242 (by decide +kernel) (by decide +kernel)
theorem ny_X9_evening : yX9_evening.cls ≠ "java/lang/invoke/MethodHandle" ∧ yX9_evening.cls ≠ "java/lang/invoke/VarHandle" ∧ (parseMethodDescriptor yX9_evening.desc).map (fun d => d.parameters.length) = some 2 := by decide +kernel
theorem cw_X9_fail : Cond.code yX9_fail cX9_fail 1 none ∈ gw_t := gw_mem 1196 (by decide +kernel) (by decide +kernel)
theorem ny_X9_fail : yX9_fail.cls ≠ "java/lang/invoke/MethodHandle" ∧ yX9_fail.cls ≠ "java/lang/invoke/VarHandle" ∧ (parseMethodDescriptor yX9_fail.desc).map (fun d => d.parameters.length) = some 0 := by decide +kernel
theorem cw_X9_feed : Cond.code yX9_feed cX9_feed 2 (some .int) ∈ gw_t := gw_mem 1159 (by decide +kernel) (by decide +kernel)
theorem ny_X9_feed : yX9_feed.cls ≠ "java/lang/invoke/MethodHandle" ∧ yX9_feed.cls ≠ "java/lang/invoke/VarHandle" ∧ (parseMethodDescriptor yX9_feed.desc).map (fun d => d.parameters.length) = some 1 := by decide +kernel
theorem cw_X9_force : Cond.code yX9_force cX9_force 3 (some .int) ∈ gw_t := gw_mem 1238 (by decide +kernel) (by decide +kernel)
theorem ny_X9_force : yX9_force.cls ≠ "java/lang/invoke/MethodHandle" ∧ yX9_force.cls ≠ "java/lang/invoke/VarHandle" ∧ (parseMethodDescriptor yX9_force.desc).map (fun d => d.parameters.length) = some 1 := by decide +kernel
theorem cw_X9_goes : Cond.code yX9_goes cX9_goes 4 none ∈ gw_t := gw_mem 1250 (by decide +kernel) (by decide +kernel)
theorem ny_X9_goes : yX9_goes.cls ≠ "java/lang/invoke/MethodHandle" ∧ yX9_goes.cls ≠ "java/lang/invoke/VarHandle" ∧ (parseMethodDescriptor yX9_goes.desc).map (fun d => d.parameters.length) = some 1 := by decide +kernel
theorem cw_X9_goesOn : Cond.code yX9_goesOn cX9_goesOn 3 none ∈ gw_t := gw_mem 1328 (by decide +kernel) (by decide +kernel)
theorem ny_X9_goesOn : yX9_goesOn.cls ≠ "java/lang/invoke/MethodHandle" ∧ yX9_goesOn.cls ≠ "java/lang/invoke/VarHandle" ∧ (parseMethodDescriptor yX9_goesOn.desc).map (fun d => d.parameters.length) = some 1 := by decide +kernel
theorem cw_X9_harm : Cond.code yX9_harm cX9_harm 3 (some .int) ∈ gw_t := gw_mem 1348 (by decide +kernel) (by decide +kernel)
theorem ny_X9_harm : yX9_harm.cls ≠ "java/lang/invoke/MethodHandle" ∧ yX9_harm.cls ≠ "java/lang/invoke/VarHandle" ∧ (parseMethodDescriptor yX9_harm.desc).map (fun d => d.parameters.length) = some 1 := by decide +kernel
theorem cw_X9_hold : Cond.code yX9_hold cX9_hold 2 (some .int) ∈ gw_t := gw_mem 1295 (by decide +kernel) (by decide +kernel)
theorem ny_X9_hold : yX9_hold.cls ≠ "java/lang/invoke/MethodHandle" ∧ yX9_hold.cls ≠ "java/lang/invoke/VarHandle" ∧ (parseMethodDescriptor yX9_hold.desc).map (fun d => d.parameters.length) = some 1 := by decide +kernel
theorem cw_X9_image : Cond.code yX9_image cX9_image 2 (some .int) ∈ gw_t := gw_mem 1390 (by decide +kernel) (by decide +kernel)
theorem ny_X9_image : yX9_image.cls ≠ "java/lang/invoke/MethodHandle" ∧ yX9_image.cls ≠ "java/lang/invoke/VarHandle" ∧ (parseMethodDescriptor yX9_image.desc).map (fun d => d.parameters.length) = some 0 := by decide +kernel
theorem cw_X9_in : Cond.code yX9_in cX9_in 6 (some .boolean) ∈ gw_t := gw_mem 1126 (by decide +kernel) (by decide +kernel)
theorem ny_X9_in : yX9_in.cls ≠ "java/lang/invoke/MethodHandle" ∧ yX9_in.cls ≠ "java/lang/invoke/VarHandle" ∧ (parseMethodDescriptor yX9_in.desc).map (fun d => d.parameters.length) = some 3 := by decide +kernel
theorem cw_X9_init : Cond.code yX9_init cX9_init 1 none ∈ gw_t := gw_mem 929 (by decide +kernel) (by decide +kernel)
theorem ny_X9_init : yX9_init.cls ≠ "java/lang/invoke/MethodHandle" ∧ yX9_init.cls ≠ "java/lang/invoke/VarHandle" ∧ (parseMethodDescriptor yX9_init.desc).map (fun d => d.parameters.length) = some 0 := by decide +kernel
theorem cw_X9_isBetter : Cond.code yX9_isBetter cX9_isBetter 2 (some .boolean) ∈ gw_t := gw_mem 1308 (by decide +kernel) (by decide +kernel)
theorem ny_X9_isBetter : yX9_isBetter.cls ≠ "java/lang/invoke/MethodHandle" ∧ yX9_isBetter.cls ≠ "java/lang/invoke/VarHandle" ∧ (parseMethodDescriptor yX9_isBetter.desc).map (fun d => d.parameters.length) = some 1 := by decide +kernel
theorem cw_X9_isLetter : Cond.code yX9_isLetter cX9_isLetter 3 (some .boolean) ∈ gw_t := gw_mem 1188 (by decide +kernel) (by decide +kernel)
theorem ny_X9_isLetter : yX9_isLetter.cls ≠ "java/lang/invoke/MethodHandle" ∧ yX9_isLetter.cls ≠ "java/lang/invoke/VarHandle" ∧ (parseMethodDescriptor yX9_isLetter.desc).map (fun d => d.parameters.length) = some 2 := by decide +kernel
theorem cw_X9_isOne : Cond.code yX9_isOne cX9_isOne 2 (some .boolean) ∈ gw_t := gw_mem 1137 (by decide +kernel) (by decide +kernel)
theorem ny_X9_isOne : yX9_isOne.cls ≠ "java/lang/invoke/MethodHandle" ∧ yX9_isOne.cls ≠ "java/lang/invoke/VarHandle" ∧ (parseMethodDescriptor yX9_isOne.desc).map (fun d => d.parameters.length) = some 1 := by decide +kernel
theorem cw_X9_isRow : Cond.code yX9_isRow cX9_isRow 5 (some .boolean) ∈ gw_t := gw_mem 1246 (by decide +kernel) (by decide +kernel)
theorem ny_X9_isRow : yX9_isRow.cls ≠ "java/lang/invoke/MethodHandle" ∧ yX9_isRow.cls ≠ "java/lang/invoke/VarHandle" ∧ (parseMethodDescriptor yX9_isRow.desc).map (fun d => d.parameters.length) = some 1 := by decide +kernel
theorem cw_X9_isSheet : Cond.code yX9_isSheet cX9_isSheet 1 (some .boolean) ∈ gw_t := gw_mem 1359 (by decide +kernel) (by decide +kernel)
theorem ny_X9_isSheet : yX9_isSheet.cls ≠ "java/lang/invoke/MethodHandle" ∧ yX9_isSheet.cls ≠ "java/lang/invoke/VarHandle" ∧ (parseMethodDescriptor yX9_isSheet.desc).map (fun d => d.parameters.length) = some 1 := by decide +kernel
theorem cw_X9_isSign : Cond.code yX9_isSign cX9_isSign 2 (some .boolean) ∈ gw_t := gw_mem 1228 (by decide +kernel) (by decide +kernel)
theorem ny_X9_isSign : yX9_isSign.cls ≠ "java/lang/invoke/MethodHandle" ∧ yX9_isSign.cls ≠ "java/lang/invoke/VarHandle" ∧ (parseMethodDescriptor yX9_isSign.desc).map (fun d => d.parameters.length) = some 1 := by decide +kernel
theorem cw_X9_isSlip : Cond.code yX9_isSlip cX9_isSlip 2 (some .boolean) ∈ gw_t := gw_mem 1148 (by decide +kernel) (by decide +kernel)
theorem ny_X9_isSlip : yX9_isSlip.cls ≠ "java/lang/invoke/MethodHandle" ∧ yX9_isSlip.cls ≠ "java/lang/invoke/VarHandle" ∧ (parseMethodDescriptor yX9_isSlip.desc).map (fun d => d.parameters.length) = some 1 := by decide +kernel
theorem cw_X9_isWord : Cond.code yX9_isWord cX9_isWord 9 (some .boolean) ∈ gw_t := gw_mem 1184 (by decide +kernel) (by decide +kernel)
theorem ny_X9_isWord : yX9_isWord.cls ≠ "java/lang/invoke/MethodHandle" ∧ yX9_isWord.cls ≠ "java/lang/invoke/VarHandle" ∧ (parseMethodDescriptor yX9_isWord.desc).map (fun d => d.parameters.length) = some 8 := by decide +kernel
theorem cw_X9_judge : Cond.code yX9_judge cX9_judge 3 (some .int) ∈ gw_t := gw_mem 1352 (by decide +kernel) (by decide +kernel)
theorem ny_X9_judge : yX9_judge.cls ≠ "java/lang/invoke/MethodHandle" ∧ yX9_judge.cls ≠ "java/lang/invoke/VarHandle" ∧ (parseMethodDescriptor yX9_judge.desc).map (fun d => d.parameters.length) = some 1 := by decide +kernel
theorem cw_X9_lays : Cond.code yX9_lays cX9_lays 4 none ∈ gw_t := gw_mem 1312 (by decide +kernel) (by decide +kernel)
theorem ny_X9_lays : yX9_lays.cls ≠ "java/lang/invoke/MethodHandle" ∧ yX9_lays.cls ≠ "java/lang/invoke/VarHandle" ∧ (parseMethodDescriptor yX9_lays.desc).map (fun d => d.parameters.length) = some 1 := by decide +kernel
theorem cw_X9_laysBack : Cond.code yX9_laysBack cX9_laysBack 4 none ∈ gw_t := gw_mem 1316 (by decide +kernel) (by decide +kernel)
theorem ny_X9_laysBack : yX9_laysBack.cls ≠ "java/lang/invoke/MethodHandle" ∧ yX9_laysBack.cls ≠ "java/lang/invoke/VarHandle" ∧ (parseMethodDescriptor yX9_laysBack.desc).map (fun d => d.parameters.length) = some 1 := by decide +kernel
theorem cw_X9_leftMany : Cond.code yX9_leftMany cX9_leftMany 1 (some .int) ∈ gw_t := gw_mem 1291 (by decide +kernel) (by decide +kernel)
theorem ny_X9_leftMany : yX9_leftMany.cls ≠ "java/lang/invoke/MethodHandle" ∧ yX9_leftMany.cls ≠ "java/lang/invoke/VarHandle" ∧ (parseMethodDescriptor yX9_leftMany.desc).map (fun d => d.parameters.length) = some 0 := by decide +kernel
theorem cw_X9_moves : Cond.code yX9_moves cX9_moves 6 (some .int) ∈ gw_t := gw_mem 1269 (by decide +kernel) (by decide +kernel)
theorem ny_X9_moves : yX9_moves.cls ≠ "java/lang/invoke/MethodHandle" ∧ yX9_moves.cls ≠ "java/lang/invoke/VarHandle" ∧ (parseMethodDescriptor yX9_moves.desc).map (fun d => d.parameters.length) = some 2 := by decide +kernel
theorem cw_X9_name : Cond.code yX9_name cX9_name 1 (some .int) ∈ gw_t := gw_mem 1232 (by decide +kernel) (by decide +kernel)
theorem ny_X9_name : yX9_name.cls ≠ "java/lang/invoke/MethodHandle" ∧ yX9_name.cls ≠ "java/lang/invoke/VarHandle" ∧ (parseMethodDescriptor yX9_name.desc).map (fun d => d.parameters.length) = some 0 := by decide +kernel
theorem cw_X9_next : Cond.code yX9_next cX9_next 3 none ∈ gw_t := gw_mem 1172 (by decide +kernel) (by decide +kernel)
theorem ny_X9_next : yX9_next.cls ≠ "java/lang/invoke/MethodHandle" ∧ yX9_next.cls ≠ "java/lang/invoke/VarHandle" ∧ (parseMethodDescriptor yX9_next.desc).map (fun d => d.parameters.length) = some 0 := by decide +kernel
theorem cw_X9_not : Cond.code yX9_not cX9_not 4 (some .int) ∈ gw_t := gw_mem 1208 (by decide +kernel) (by decide +kernel)
theorem ny_X9_not : yX9_not.cls ≠ "java/lang/invoke/MethodHandle" ∧ yX9_not.cls ≠ "java/lang/invoke/VarHandle" ∧ (parseMethodDescriptor yX9_not.desc).map (fun d => d.parameters.length) = some 0 := by decide +kernel
theorem cw_X9_opens : Cond.code yX9_opens cX9_opens 1 (some .boolean) ∈ gw_t := gw_mem 1212 (by decide +kernel) (by decide +kernel)
theorem ny_X9_opens : yX9_opens.cls ≠ "java/lang/invoke/MethodHandle" ∧ yX9_opens.cls ≠ "java/lang/invoke/VarHandle" ∧ (parseMethodDescriptor yX9_opens.desc).map (fun d => d.parameters.length) = some 0 := by decide +kernel
theorem cw_X9_over : Cond.code yX9_over cX9_over 1 (some .int) ∈ gw_t := gw_mem 1423 (by decide +kernel) (by decide +kernel)
theorem ny_X9_over : yX9_over.cls ≠ "java/lang/invoke/MethodHandle" ∧ yX9_over.cls ≠ "java/lang/invoke/VarHandle" ∧ (parseMethodDescriptor yX9_over.desc).map (fun d => d.parameters.length) = some 1 := by decide +kernel
theorem cw_X9_part : Cond.code yX9_part cX9_part 3 (some .int) ∈ gw_t := gw_mem 1192 (by decide +kernel) (by decide +kernel)
theorem ny_X9_part : yX9_part.cls ≠ "java/lang/invoke/MethodHandle" ∧ yX9_part.cls ≠ "java/lang/invoke/VarHandle" ∧ (parseMethodDescriptor yX9_part.desc).map (fun d => d.parameters.length) = some 1 := by decide +kernel
theorem cw_X9_read : Cond.code yX9_read cX9_read 6 (some .int) ∈ gw_t := gw_mem 1168 (by decide +kernel) (by decide +kernel)
theorem ny_X9_read : yX9_read.cls ≠ "java/lang/invoke/MethodHandle" ∧ yX9_read.cls ≠ "java/lang/invoke/VarHandle" ∧ (parseMethodDescriptor yX9_read.desc).map (fun d => d.parameters.length) = some 2 := by decide +kernel
theorem cw_X9_refuse : Cond.code yX9_refuse cX9_refuse 5 (some .int) ∈ gw_t := gw_mem 1340 (by decide +kernel) (by decide +kernel)
theorem ny_X9_refuse : yX9_refuse.cls ≠ "java/lang/invoke/MethodHandle" ∧ yX9_refuse.cls ≠ "java/lang/invoke/VarHandle" ∧ (parseMethodDescriptor yX9_refuse.desc).map (fun d => d.parameters.length) = some 1 := by decide +kernel
theorem cw_X9_rows : Cond.code yX9_rows cX9_rows 5 none ∈ gw_t := gw_mem 1304 (by decide +kernel) (by decide +kernel)
theorem ny_X9_rows : yX9_rows.cls ≠ "java/lang/invoke/MethodHandle" ∧ yX9_rows.cls ≠ "java/lang/invoke/VarHandle" ∧ (parseMethodDescriptor yX9_rows.desc).map (fun d => d.parameters.length) = some 3 := by decide +kernel
theorem cw_X9_says : Cond.code yX9_says cX9_says 6 (some .int) ∈ gw_t := gw_mem 1283 (by decide +kernel) (by decide +kernel)
theorem ny_X9_says : yX9_says.cls ≠ "java/lang/invoke/MethodHandle" ∧ yX9_says.cls ≠ "java/lang/invoke/VarHandle" ∧ (parseMethodDescriptor yX9_says.desc).map (fun d => d.parameters.length) = some 4 := by decide +kernel
theorem cw_X9_set : Cond.code yX9_set cX9_set 5 (some .int) ∈ gw_t := gw_mem 1141 (by decide +kernel) (by decide +kernel)
theorem ny_X9_set : yX9_set.cls ≠ "java/lang/invoke/MethodHandle" ∧ yX9_set.cls ≠ "java/lang/invoke/VarHandle" ∧ (parseMethodDescriptor yX9_set.desc).map (fun d => d.parameters.length) = some 3 := by decide +kernel
theorem cw_X9_sheet : Cond.code yX9_sheet cX9_sheet 5 (some .int) ∈ gw_t := gw_mem 1402 (by decide +kernel) (by decide +kernel)
theorem ny_X9_sheet : yX9_sheet.cls ≠ "java/lang/invoke/MethodHandle" ∧ yX9_sheet.cls ≠ "java/lang/invoke/VarHandle" ∧ (parseMethodDescriptor yX9_sheet.desc).map (fun d => d.parameters.length) = some 3 := by decide +kernel
theorem cw_X9_sizeOf : Cond.code yX9_sizeOf cX9_sizeOf 3 (some .int) ∈ gw_t := gw_mem 1257 (by decide +kernel) (by decide +kernel)
theorem ny_X9_sizeOf : yX9_sizeOf.cls ≠ "java/lang/invoke/MethodHandle" ∧ yX9_sizeOf.cls ≠ "java/lang/invoke/VarHandle" ∧ (parseMethodDescriptor yX9_sizeOf.desc).map (fun d => d.parameters.length) = some 1 := by decide +kernel
theorem cw_X9_slip : Cond.code yX9_slip cX9_slip 4 (some .int) ∈ gw_t := gw_mem 1131 (by decide +kernel) (by decide +kernel)
theorem ny_X9_slip : yX9_slip.cls ≠ "java/lang/invoke/MethodHandle" ∧ yX9_slip.cls ≠ "java/lang/invoke/VarHandle" ∧ (parseMethodDescriptor yX9_slip.desc).map (fun d => d.parameters.length) = some 3 := by decide +kernel
theorem cw_X9_slips : Cond.code yX9_slips cX9_slips 8 (some .int) ∈ gw_t := gw_mem 1415 (by decide +kernel) (by decide +kernel)
theorem ny_X9_slips : yX9_slips.cls ≠ "java/lang/invoke/MethodHandle" ∧ yX9_slips.cls ≠ "java/lang/invoke/VarHandle" ∧ (parseMethodDescriptor yX9_slips.desc).map (fun d => d.parameters.length) = some 4 := by decide +kernel
theorem cw_X9_spell : Cond.code yX9_spell cX9_spell 10 none ∈ gw_t := gw_mem 934 (by decide +kernel) (by decide +kernel)
theorem ny_X9_spell : yX9_spell.cls ≠ "java/lang/invoke/MethodHandle" ∧ yX9_spell.cls ≠ "java/lang/invoke/VarHandle" ∧ (parseMethodDescriptor yX9_spell.desc).map (fun d => d.parameters.length) = some 9 := by decide +kernel
theorem cw_X9_taken : Cond.code yX9_taken cX9_taken 4 (some .int) ∈ gw_t := gw_mem 1420 (by decide +kernel) (by decide +kernel)
theorem ny_X9_taken : yX9_taken.cls ≠ "java/lang/invoke/MethodHandle" ∧ yX9_taken.cls ≠ "java/lang/invoke/VarHandle" ∧ (parseMethodDescriptor yX9_taken.desc).map (fun d => d.parameters.length) = some 2 := by decide +kernel
theorem cw_X9_tellBad : Cond.code yX9_tellBad cX9_tellBad 2 (some .int) ∈ gw_t := gw_mem 1356 (by decide +kernel) (by decide +kernel)
theorem ny_X9_tellBad : yX9_tellBad.cls ≠ "java/lang/invoke/MethodHandle" ∧ yX9_tellBad.cls ≠ "java/lang/invoke/VarHandle" ∧ (parseMethodDescriptor yX9_tellBad.desc).map (fun d => d.parameters.length) = some 1 := by decide +kernel
theorem cw_X9_tells : Cond.code yX9_tells cX9_tells 2 (some .int) ∈ gw_t := gw_mem 1287 (by decide +kernel) (by decide +kernel)
theorem ny_X9_tells : yX9_tells.cls ≠ "java/lang/invoke/MethodHandle" ∧ yX9_tells.cls ≠ "java/lang/invoke/VarHandle" ∧ (parseMethodDescriptor yX9_tells.desc).map (fun d => d.parameters.length) = some 1 := by decide +kernel
theorem cw_X9_term : Cond.code yX9_term cX9_term 2 (some .int) ∈ gw_t := gw_mem 1220 (by decide +kernel) (by decide +kernel)
theorem ny_X9_term : yX9_term.cls ≠ "java/lang/invoke/MethodHandle" ∧ yX9_term.cls ≠ "java/lang/invoke/VarHandle" ∧ (parseMethodDescriptor yX9_term.desc).map (fun d => d.parameters.length) = some 0 := by decide +kernel
theorem cw_X9_text : Cond.code yX9_text cX9_text 2 (some .int) ∈ gw_t := gw_mem 1164 (by decide +kernel) (by decide +kernel)
theorem ny_X9_text : yX9_text.cls ≠ "java/lang/invoke/MethodHandle" ∧ yX9_text.cls ≠ "java/lang/invoke/VarHandle" ∧ (parseMethodDescriptor yX9_text.desc).map (fun d => d.parameters.length) = some 0 := by decide +kernel
theorem cw_X9_thirst : Cond.code yX9_thirst cX9_thirst 5 (some .int) ∈ gw_t := gw_mem 1279 (by decide +kernel) (by decide +kernel)
theorem ny_X9_thirst : yX9_thirst.cls ≠ "java/lang/invoke/MethodHandle" ∧ yX9_thirst.cls ≠ "java/lang/invoke/VarHandle" ∧ (parseMethodDescriptor yX9_thirst.desc).map (fun d => d.parameters.length) = some 2 := by decide +kernel
theorem cw_X9_told : Cond.code yX9_told cX9_told 3 (some .int) ∈ gw_t := gw_mem 1155 (by decide +kernel) (by decide +kernel)
theorem ny_X9_told : yX9_told.cls ≠ "java/lang/invoke/MethodHandle" ∧ yX9_told.cls ≠ "java/lang/invoke/VarHandle" ∧ (parseMethodDescriptor yX9_told.desc).map (fun d => d.parameters.length) = some 2 := by decide +kernel
theorem cw_X9_wait : Cond.code yX9_wait cX9_wait 2 (some .int) ∈ gw_t := gw_mem 1336 (by decide +kernel) (by decide +kernel)
theorem ny_X9_wait : yX9_wait.cls ≠ "java/lang/invoke/MethodHandle" ∧ yX9_wait.cls ≠ "java/lang/invoke/VarHandle" ∧ (parseMethodDescriptor yX9_wait.desc).map (fun d => d.parameters.length) = some 1 := by decide +kernel
theorem cw_X9_which : Cond.code yX9_which cX9_which 5 (some .int) ∈ gw_t := gw_mem 1367 (by decide +kernel) (by decide +kernel)
theorem ny_X9_which : yX9_which.cls ≠ "java/lang/invoke/MethodHandle" ∧ yX9_which.cls ≠ "java/lang/invoke/VarHandle" ∧ (parseMethodDescriptor yX9_which.desc).map (fun d => d.parameters.length) = some 1 := by decide +kernel
theorem cw_X9_within : Cond.code yX9_within cX9_within 3 (some .int) ∈ gw_t := gw_mem 1272 (by decide +kernel) (by decide +kernel)
theorem ny_X9_within : yX9_within.cls ≠ "java/lang/invoke/MethodHandle" ∧ yX9_within.cls ≠ "java/lang/invoke/VarHandle" ∧ (parseMethodDescriptor yX9_within.desc).map (fun d => d.parameters.length) = some 3 := by decide +kernel
theorem cw_X9_wrongAt : Cond.code yX9_wrongAt cX9_wrongAt 4 (some .int) ∈ gw_t := gw_mem 1363 (by decide +kernel) (by decide +kernel)
theorem ny_X9_wrongAt : yX9_wrongAt.cls ≠ "java/lang/invoke/MethodHandle" ∧ yX9_wrongAt.cls ≠ "java/lang/invoke/VarHandle" ∧ (parseMethodDescriptor yX9_wrongAt.desc).map (fun d => d.parameters.length) = some 1 := by decide +kernel
theorem ml_J0_492 : Cond.methodLink RJ0 492 yJ0_isLatin1_aae02 ∈ gw_t := gw_mem 341 (by decide +kernel) (by decide +kernel)
theorem gd_J0_492 : GoodIn gw_t (wsV RJ0 492 RJ0 yJ0_isLatin1_aae02 (.code yJ0_isLatin1_aae02 cJ0_isLatin1_aae02 1 (some .boolean) :: gw_t)) := gw_wsV ml_J0_492 (gw_mem 342 (by decide +kernel) (by decide +kernel)) (gw_mem 343 (by decide +kernel) (by decide +kernel)) (gw_mem 71 (by decide +kernel) (by decide +kernel)) cw_J0_isLatin1_aae02
theorem ml_J0_495 : Cond.methodLink RJ0 495 yJ1_charAt_3b067 ∈ gw_t := gw_mem 345 (by decide +kernel) (by decide +kernel)
theorem gd_J0_495 : GoodIn gw_t (va_wsS RJ0 495 yJ1_charAt_3b067 (.code yJ1_charAt_3b067 cJ1_charAt_3b067 2 (some .char) :: gw_t)) := gw_wsS ml_J0_495 (gw_mem 346 (by decide +kernel) (by decide +kernel)) (gw_mem 72 (by decide +kernel) (by decide +kernel)) cw_J1_charAt_3b067
theorem ml_J0_498 : Cond.methodLink RJ0 498 yJ2_charAt_3b067 ∈ gw_t := gw_mem 356 (by decide +kernel) (by decide +kernel)
theorem gd_J0_498 : GoodIn gw_t (va_wsS RJ0 498 yJ2_charAt_3b067 (.code yJ2_charAt_3b067 cJ2_charAt_3b067 2 (some .char) :: gw_t)) := gw_wsS ml_J0_498 (gw_mem 357 (by decide +kernel) (by decide +kernel)) (gw_mem 74 (by decide +kernel) (by decide +kernel)) cw_J2_charAt_3b067
theorem ml_J0_1062 : Cond.methodLink RJ0 1062 yJ3_checkFromToIndex_8c36e ∈ gw_t := gw_mem 459 (by decide +kernel) (by decide +kernel)
theorem gd_J0_1062 : GoodIn gw_t (va_wsS RJ0 1062 yJ3_checkFromToIndex_8c36e (.code yJ3_checkFromToIndex_8c36e cJ3_checkFromToIndex_8c36e 4 (some .int) :: gw_t)) := gw_wsS ml_J0_1062 (gw_mem 460 (by decide +kernel) (by decide +kernel)) (gw_mem 73 (by decide +kernel) (by decide +kernel)) cw_J3_checkFromToIndex_8c36e
theorem ml_J0_1059 : Cond.methodLink RJ0 1059 yJ3_checkIndex_8e157 ∈ gw_t := gw_mem 353 (by decide +kernel) (by decide +kernel)
theorem gd_J0_1059 : GoodIn gw_t (va_wsS RJ0 1059 yJ3_checkIndex_8e157 (.code yJ3_checkIndex_8e157 cJ3_checkIndex_8e157 3 (some .int) :: gw_t)) := gw_wsS ml_J0_1059 (gw_mem 354 (by decide +kernel) (by decide +kernel)) (gw_mem 73 (by decide +kernel) (by decide +kernel)) cw_J3_checkIndex_8e157
theorem ml_J0_633 : Cond.methodLink RJ0 633 yJ0_indexOf_7cf53 ∈ gw_t := gw_mem 424 (by decide +kernel) (by decide +kernel)
theorem gd_J0_633 : GoodIn gw_t (wsV RJ0 633 RJ0 yJ0_indexOf_7cf53 (.code yJ0_indexOf_7cf53 cJ0_indexOf_7cf53 3 (some .int) :: gw_t)) := gw_wsV ml_J0_633 (gw_mem 425 (by decide +kernel) (by decide +kernel)) (gw_mem 426 (by decide +kernel) (by decide +kernel)) (gw_mem 71 (by decide +kernel) (by decide +kernel)) cw_J0_indexOf_7cf53
theorem ml_J0_505 : Cond.methodLink RJ0 505 yJ0_length_8abf5 ∈ gw_t := gw_mem 428 (by decide +kernel) (by decide +kernel)
theorem gd_J0_505 : GoodIn gw_t (wsV RJ0 505 RJ0 yJ0_length_8abf5 (.code yJ0_length_8abf5 cJ0_length_8abf5 1 (some .int) :: gw_t)) := gw_wsV ml_J0_505 (gw_mem 328 (by decide +kernel) (by decide +kernel)) (gw_mem 329 (by decide +kernel) (by decide +kernel)) (gw_mem 71 (by decide +kernel) (by decide +kernel)) cw_J0_length_8abf5
theorem ml_J0_637 : Cond.methodLink RJ0 637 yJ1_indexOf_4cfef ∈ gw_t := gw_mem 429 (by decide +kernel) (by decide +kernel)
theorem gd_J0_637 : GoodIn gw_t (va_wsS RJ0 637 yJ1_indexOf_4cfef (.code yJ1_indexOf_4cfef cJ1_indexOf_4cfef 4 (some .int) :: gw_t)) := gw_wsS ml_J0_637 (gw_mem 430 (by decide +kernel) (by decide +kernel)) (gw_mem 72 (by decide +kernel) (by decide +kernel)) cw_J1_indexOf_4cfef
theorem ml_J0_640 : Cond.methodLink RJ0 640 yJ2_indexOf_4cfef ∈ gw_t := gw_mem 444 (by decide +kernel) (by decide +kernel)
theorem gd_J0_640 : GoodIn gw_t (va_wsS RJ0 640 yJ2_indexOf_4cfef (.code yJ2_indexOf_4cfef cJ2_indexOf_4cfef 4 (some .int) :: gw_t)) := gw_wsS ml_J0_640 (gw_mem 445 (by decide +kernel) (by decide +kernel)) (gw_mem 74 (by decide +kernel) (by decide +kernel)) cw_J2_indexOf_4cfef
theorem ml_J0_335 : Cond.methodLink RJ0 335 yJ0_coder_7d493 ∈ gw_t := gw_mem 331 (by decide +kernel) (by decide +kernel)
theorem gd_J0_335 : GoodIn gw_t (wsV RJ0 335 RJ0 yJ0_coder_7d493 (.code yJ0_coder_7d493 cJ0_coder_7d493 1 (some .byte) :: gw_t)) := gw_wsV ml_J0_335 (gw_mem 332 (by decide +kernel) (by decide +kernel)) (gw_mem 333 (by decide +kernel) (by decide +kernel)) (gw_mem 71 (by decide +kernel) (by decide +kernel)) cw_J0_coder_7d493
theorem ml_J1_9 : Cond.methodLink RJ1 9 yJ0_checkIndex_df160 ∈ gw_t := gw_mem 348 (by decide +kernel) (by decide +kernel)
theorem gd_J1_9 : GoodIn gw_t (va_wsS RJ1 9 yJ0_checkIndex_df160 (.code yJ0_checkIndex_df160 cJ0_checkIndex_df160 2 none :: gw_t)) := gw_wsS ml_J1_9 (gw_mem 349 (by decide +kernel) (by decide +kernel)) (gw_mem 71 (by decide +kernel) (by decide +kernel)) cw_J0_checkIndex_df160
theorem ml_J1_88 : Cond.methodLink RJ1 88 yJ1_canEncode_9a6ad ∈ gw_t := gw_mem 432 (by decide +kernel) (by decide +kernel)
theorem gd_J1_88 : GoodIn gw_t (va_wsS RJ1 88 yJ1_canEncode_9a6ad (.code yJ1_canEncode_9a6ad cJ1_canEncode_9a6ad 1 (some .boolean) :: gw_t)) := gw_wsS ml_J1_88 (gw_mem 433 (by decide +kernel) (by decide +kernel)) (gw_mem 72 (by decide +kernel) (by decide +kernel)) cw_J1_canEncode_9a6ad
theorem ml_J1_92 : Cond.methodLink RJ1 92 yJ9_max_7cf53 ∈ gw_t := gw_mem 435 (by decide +kernel) (by decide +kernel)
theorem gd_J1_92 : GoodIn gw_t (va_wsS RJ1 92 yJ9_max_7cf53 (.code yJ9_max_7cf53 cJ9_max_7cf53 2 (some .int) :: gw_t)) := gw_wsS ml_J1_92 (gw_mem 436 (by decide +kernel) (by decide +kernel)) (gw_mem 75 (by decide +kernel) (by decide +kernel)) cw_J9_max_7cf53
theorem ml_J1_38 : Cond.methodLink RJ1 38 yJ9_min_7cf53 ∈ gw_t := gw_mem 438 (by decide +kernel) (by decide +kernel)
theorem gd_J1_38 : GoodIn gw_t (va_wsS RJ1 38 yJ9_min_7cf53 (.code yJ9_min_7cf53 cJ9_min_7cf53 2 (some .int) :: gw_t)) := gw_wsS ml_J1_38 (gw_mem 439 (by decide +kernel) (by decide +kernel)) (gw_mem 75 (by decide +kernel) (by decide +kernel)) cw_J9_min_7cf53
theorem ml_J1_95 : Cond.methodLink RJ1 95 yJ1_indexOfChar_4cfef ∈ gw_t := gw_mem 441 (by decide +kernel) (by decide +kernel)
theorem gd_J1_95 : GoodIn gw_t (va_wsS RJ1 95 yJ1_indexOfChar_4cfef (.code yJ1_indexOfChar_4cfef cJ1_indexOfChar_4cfef 6 (some .int) :: gw_t)) := gw_wsS ml_J1_95 (gw_mem 442 (by decide +kernel) (by decide +kernel)) (gw_mem 72 (by decide +kernel) (by decide +kernel)) cw_J1_indexOfChar_4cfef
theorem ml_J2_67 : Cond.methodLink RJ2 67 yJ2_checkIndex_2214a ∈ gw_t := gw_mem 359 (by decide +kernel) (by decide +kernel)
theorem gd_J2_67 : GoodIn gw_t (va_wsS RJ2 67 yJ2_checkIndex_2214a (.code yJ2_checkIndex_2214a cJ2_checkIndex_2214a 2 none :: gw_t)) := gw_wsS ml_J2_67 (gw_mem 360 (by decide +kernel) (by decide +kernel)) (gw_mem 74 (by decide +kernel) (by decide +kernel)) cw_J2_checkIndex_2214a
theorem ml_J2_71 : Cond.methodLink RJ2 71 yJ2_getChar_3b067 ∈ gw_t := gw_mem 366 (by decide +kernel) (by decide +kernel)
theorem gd_J2_71 : GoodIn gw_t (va_wsS RJ2 71 yJ2_getChar_3b067 (.code yJ2_getChar_3b067 cJ2_getChar_3b067 2 (some .char) :: gw_t)) := gw_wsS ml_J2_71 (gw_mem 367 (by decide +kernel) (by decide +kernel)) (gw_mem 74 (by decide +kernel) (by decide +kernel)) cw_J2_getChar_3b067
theorem ml_J2_48 : Cond.methodLink RJ2 48 yJ2_length_9d52b ∈ gw_t := gw_mem 362 (by decide +kernel) (by decide +kernel)
theorem gd_J2_48 : GoodIn gw_t (va_wsS RJ2 48 yJ2_length_9d52b (.code yJ2_length_9d52b cJ2_length_9d52b 1 (some .int) :: gw_t)) := gw_wsS ml_J2_48 (gw_mem 363 (by decide +kernel) (by decide +kernel)) (gw_mem 74 (by decide +kernel) (by decide +kernel)) cw_J2_length_9d52b
theorem ml_J2_241 : Cond.methodLink RJ2 241 yJ0_checkBoundsBeginEnd_23922 ∈ gw_t := gw_mem 456 (by decide +kernel) (by decide +kernel)
theorem gd_J2_241 : GoodIn gw_t (va_wsS RJ2 241 yJ0_checkBoundsBeginEnd_23922 (.code yJ0_checkBoundsBeginEnd_23922 cJ0_checkBoundsBeginEnd_23922 3 none :: gw_t)) := gw_wsS ml_J2_241 (gw_mem 457 (by decide +kernel) (by decide +kernel)) (gw_mem 71 (by decide +kernel) (by decide +kernel)) cw_J0_checkBoundsBeginEnd_23922
theorem ml_J2_414 : Cond.methodLink RJ2 414 yJ0_checkIndex_df160 ∈ gw_t := gw_mem 365 (by decide +kernel) (by decide +kernel)
theorem gd_J2_414 : GoodIn gw_t (va_wsS RJ2 414 yJ0_checkIndex_df160 (.code yJ0_checkIndex_df160 cJ0_checkIndex_df160 2 none :: gw_t)) := gw_wsS ml_J2_414 (gw_mem 349 (by decide +kernel) (by decide +kernel)) (gw_mem 71 (by decide +kernel) (by decide +kernel)) cw_J0_checkIndex_df160
theorem ml_J2_96 : Cond.methodLink RJ2 96 yJ2_checkBoundsBeginEnd_d044e ∈ gw_t := gw_mem 453 (by decide +kernel) (by decide +kernel)
theorem gd_J2_96 : GoodIn gw_t (va_wsS RJ2 96 yJ2_checkBoundsBeginEnd_d044e (.code yJ2_checkBoundsBeginEnd_d044e cJ2_checkBoundsBeginEnd_d044e 3 none :: gw_t)) := gw_wsS ml_J2_96 (gw_mem 454 (by decide +kernel) (by decide +kernel)) (gw_mem 74 (by decide +kernel) (by decide +kernel)) cw_J2_checkBoundsBeginEnd_d044e
theorem ml_J2_244 : Cond.methodLink RJ2 244 yJ2_indexOfCharUnsafe_4cfef ∈ gw_t := gw_mem 462 (by decide +kernel) (by decide +kernel)
theorem gd_J2_244 : GoodIn gw_t (va_wsS RJ2 244 yJ2_indexOfCharUnsafe_4cfef (.code yJ2_indexOfCharUnsafe_4cfef cJ2_indexOfCharUnsafe_4cfef 5 (some .int) :: gw_t)) := gw_wsS ml_J2_244 (gw_mem 463 (by decide +kernel) (by decide +kernel)) (gw_mem 74 (by decide +kernel) (by decide +kernel)) cw_J2_indexOfCharUnsafe_4cfef
theorem ml_J2_164 : Cond.methodLink RJ2 164 yJ11_isValidCodePoint_9a6ad ∈ gw_t := gw_mem 468 (by decide +kernel) (by decide +kernel)
theorem gd_J2_164 : GoodIn gw_t (va_wsS RJ2 164 yJ11_isValidCodePoint_9a6ad (.code yJ11_isValidCodePoint_9a6ad cJ11_isValidCodePoint_9a6ad 2 (some .boolean) :: gw_t)) := gw_wsS ml_J2_164 (gw_mem 469 (by decide +kernel) (by decide +kernel)) (gw_mem 76 (by decide +kernel) (by decide +kernel)) cw_J11_isValidCodePoint_9a6ad
theorem ml_J2_157 : Cond.methodLink RJ2 157 yJ11_highSurrogate_5068e ∈ gw_t := gw_mem 471 (by decide +kernel) (by decide +kernel)
theorem gd_J2_157 : GoodIn gw_t (va_wsS RJ2 157 yJ11_highSurrogate_5068e (.code yJ11_highSurrogate_5068e cJ11_highSurrogate_5068e 1 (some .char) :: gw_t)) := gw_wsS ml_J2_157 (gw_mem 472 (by decide +kernel) (by decide +kernel)) (gw_mem 76 (by decide +kernel) (by decide +kernel)) cw_J11_highSurrogate_5068e
theorem ml_J2_161 : Cond.methodLink RJ2 161 yJ11_lowSurrogate_5068e ∈ gw_t := gw_mem 475 (by decide +kernel) (by decide +kernel)
theorem gd_J2_161 : GoodIn gw_t (va_wsS RJ2 161 yJ11_lowSurrogate_5068e (.code yJ11_lowSurrogate_5068e cJ11_lowSurrogate_5068e 1 (some .char) :: gw_t)) := gw_wsS ml_J2_161 (gw_mem 476 (by decide +kernel) (by decide +kernel)) (gw_mem 76 (by decide +kernel) (by decide +kernel)) cw_J11_lowSurrogate_5068e
theorem ml_J2_224 : Cond.methodLink RJ2 224 yJ9_max_7cf53 ∈ gw_t := gw_mem 447 (by decide +kernel) (by decide +kernel)
theorem gd_J2_224 : GoodIn gw_t (va_wsS RJ2 224 yJ9_max_7cf53 (.code yJ9_max_7cf53 cJ9_max_7cf53 2 (some .int) :: gw_t)) := gw_wsS ml_J2_224 (gw_mem 436 (by decide +kernel) (by decide +kernel)) (gw_mem 75 (by decide +kernel) (by decide +kernel)) cw_J9_max_7cf53
theorem ml_J2_183 : Cond.methodLink RJ2 183 yJ9_min_7cf53 ∈ gw_t := gw_mem 448 (by decide +kernel) (by decide +kernel)
theorem gd_J2_183 : GoodIn gw_t (va_wsS RJ2 183 yJ9_min_7cf53 (.code yJ9_min_7cf53 cJ9_min_7cf53 2 (some .int) :: gw_t)) := gw_wsS ml_J2_183 (gw_mem 439 (by decide +kernel) (by decide +kernel)) (gw_mem 75 (by decide +kernel) (by decide +kernel)) cw_J9_min_7cf53
theorem ml_J2_228 : Cond.methodLink RJ2 228 yJ2_indexOfChar_4cfef ∈ gw_t := gw_mem 450 (by decide +kernel) (by decide +kernel)
theorem gd_J2_228 : GoodIn gw_t (va_wsS RJ2 228 yJ2_indexOfChar_4cfef (.code yJ2_indexOfChar_4cfef cJ2_indexOfChar_4cfef 4 (some .int) :: gw_t)) := gw_wsS ml_J2_228 (gw_mem 451 (by decide +kernel) (by decide +kernel)) (gw_mem 74 (by decide +kernel) (by decide +kernel)) cw_J2_indexOfChar_4cfef
theorem ml_J2_232 : Cond.methodLink RJ2 232 yJ2_indexOfSupplementary_4cfef ∈ gw_t := gw_mem 465 (by decide +kernel) (by decide +kernel)
theorem gd_J2_232 : GoodIn gw_t (va_wsS RJ2 232 yJ2_indexOfSupplementary_4cfef (.code yJ2_indexOfSupplementary_4cfef cJ2_indexOfSupplementary_4cfef 7 (some .int) :: gw_t)) := gw_wsS ml_J2_232 (gw_mem 466 (by decide +kernel) (by decide +kernel)) (gw_mem 74 (by decide +kernel) (by decide +kernel)) cw_J2_indexOfSupplementary_4cfef
theorem ml_J7_304 : Cond.methodLink RJ7 304 yJ9_min_7cf53 ∈ gw_t := gw_mem 530 (by decide +kernel) (by decide +kernel)
theorem gd_J7_304 : GoodIn gw_t (va_wsS RJ7 304 yJ9_min_7cf53 (.code yJ9_min_7cf53 cJ9_min_7cf53 2 (some .int) :: gw_t)) := gw_wsS ml_J7_304 (gw_mem 439 (by decide +kernel) (by decide +kernel)) (gw_mem 75 (by decide +kernel) (by decide +kernel)) cw_J9_min_7cf53
theorem ml_L_13 : Cond.methodLink RL 13 yX8_come ∈ gw_t := gw_mem 598 (by decide +kernel) (by decide +kernel)
theorem gd_L_13 : GoodIn gw_t (wsV RL 13 RX8 yX8_come (.code yX8_come cX8_come 3 (some .int) :: gw_t)) := gw_wsV ml_L_13 (gw_mem 599 (by decide +kernel) (by decide +kernel)) (gw_mem 600 (by decide +kernel) (by decide +kernel)) (gw_mem 64 (by decide +kernel) (by decide +kernel)) cw_X8_come
theorem ml_L_17 : Cond.methodLink RL 17 yX9_come ∈ gw_t := gw_mem 1119 (by decide +kernel) (by decide +kernel)
theorem gd_L_17 : GoodIn gw_t (wsV RL 17 RX9 yX9_come (.code yX9_come cX9_come 3 (some .int) :: gw_t)) := gw_wsV ml_L_17 (gw_mem 1120 (by decide +kernel) (by decide +kernel)) (gw_mem 1121 (by decide +kernel) (by decide +kernel)) (gw_mem 81 (by decide +kernel) (by decide +kernel)) cw_X9_come
theorem ml_L_18 : Cond.methodLink RL 18 yX8_slip ∈ gw_t := gw_mem 614 (by decide +kernel) (by decide +kernel)
theorem gd_L_18 : GoodIn gw_t (wsV RL 18 RX8 yX8_slip (.code yX8_slip cX8_slip 4 (some .int) :: gw_t)) := gw_wsV ml_L_18 (gw_mem 615 (by decide +kernel) (by decide +kernel)) (gw_mem 616 (by decide +kernel) (by decide +kernel)) (gw_mem 64 (by decide +kernel) (by decide +kernel)) cw_X8_slip
theorem ml_L_22 : Cond.methodLink RL 22 yX9_slip ∈ gw_t := gw_mem 1128 (by decide +kernel) (by decide +kernel)
theorem gd_L_22 : GoodIn gw_t (wsV RL 22 RX9 yX9_slip (.code yX9_slip cX9_slip 4 (some .int) :: gw_t)) := gw_wsV ml_L_22 (gw_mem 1129 (by decide +kernel) (by decide +kernel)) (gw_mem 1130 (by decide +kernel) (by decide +kernel)) (gw_mem 81 (by decide +kernel) (by decide +kernel)) cw_X9_slip
theorem ml_L_23 : Cond.methodLink RL 23 yX8_set ∈ gw_t := gw_mem 622 (by decide +kernel) (by decide +kernel)
theorem gd_L_23 : GoodIn gw_t (wsV RL 23 RX8 yX8_set (.code yX8_set cX8_set 5 (some .int) :: gw_t)) := gw_wsV ml_L_23 (gw_mem 623 (by decide +kernel) (by decide +kernel)) (gw_mem 624 (by decide +kernel) (by decide +kernel)) (gw_mem 64 (by decide +kernel) (by decide +kernel)) cw_X8_set
theorem ml_L_26 : Cond.methodLink RL 26 yX9_set ∈ gw_t := gw_mem 1138 (by decide +kernel) (by decide +kernel)
theorem gd_L_26 : GoodIn gw_t (wsV RL 26 RX9 yX9_set (.code yX9_set cX9_set 5 (some .int) :: gw_t)) := gw_wsV ml_L_26 (gw_mem 1139 (by decide +kernel) (by decide +kernel)) (gw_mem 1140 (by decide +kernel) (by decide +kernel)) (gw_mem 81 (by decide +kernel) (by decide +kernel)) cw_X9_set
theorem ml_L_27 : Cond.methodLink RL 27 yX8_told ∈ gw_t := gw_mem 645 (by decide +kernel) (by decide +kernel)
theorem gd_L_27 : GoodIn gw_t (wsV RL 27 RX8 yX8_told (.code yX8_told cX8_told 3 (some .int) :: gw_t)) := gw_wsV ml_L_27 (gw_mem 646 (by decide +kernel) (by decide +kernel)) (gw_mem 647 (by decide +kernel) (by decide +kernel)) (gw_mem 64 (by decide +kernel) (by decide +kernel)) cw_X8_told
theorem ml_L_30 : Cond.methodLink RL 30 yX9_told ∈ gw_t := gw_mem 1152 (by decide +kernel) (by decide +kernel)
theorem gd_L_30 : GoodIn gw_t (wsV RL 30 RX9 yX9_told (.code yX9_told cX9_told 3 (some .int) :: gw_t)) := gw_wsV ml_L_30 (gw_mem 1153 (by decide +kernel) (by decide +kernel)) (gw_mem 1154 (by decide +kernel) (by decide +kernel)) (gw_mem 81 (by decide +kernel) (by decide +kernel)) cw_X9_told
theorem ml_L_31 : Cond.methodLink RL 31 yX8_feed ∈ gw_t := gw_mem 650 (by decide +kernel) (by decide +kernel)
theorem gd_L_31 : GoodIn gw_t (wsV RL 31 RX8 yX8_feed (.code yX8_feed cX8_feed 2 (some .int) :: gw_t)) := gw_wsV ml_L_31 (gw_mem 651 (by decide +kernel) (by decide +kernel)) (gw_mem 652 (by decide +kernel) (by decide +kernel)) (gw_mem 64 (by decide +kernel) (by decide +kernel)) cw_X8_feed
theorem ml_L_35 : Cond.methodLink RL 35 yX9_feed ∈ gw_t := gw_mem 1156 (by decide +kernel) (by decide +kernel)
theorem gd_L_35 : GoodIn gw_t (wsV RL 35 RX9 yX9_feed (.code yX9_feed cX9_feed 2 (some .int) :: gw_t)) := gw_wsV ml_L_35 (gw_mem 1157 (by decide +kernel) (by decide +kernel)) (gw_mem 1158 (by decide +kernel) (by decide +kernel)) (gw_mem 81 (by decide +kernel) (by decide +kernel)) cw_X9_feed
theorem ml_L_36 : Cond.methodLink RL 36 yX8_text ∈ gw_t := gw_mem 654 (by decide +kernel) (by decide +kernel)
theorem gd_L_36 : GoodIn gw_t (wsV RL 36 RX8 yX8_text (.code yX8_text cX8_text 1 (some .int) :: gw_t)) := gw_wsV ml_L_36 (gw_mem 655 (by decide +kernel) (by decide +kernel)) (gw_mem 656 (by decide +kernel) (by decide +kernel)) (gw_mem 64 (by decide +kernel) (by decide +kernel)) cw_X8_text
theorem ml_L_40 : Cond.methodLink RL 40 yX9_text ∈ gw_t := gw_mem 1161 (by decide +kernel) (by decide +kernel)
theorem gd_L_40 : GoodIn gw_t (wsV RL 40 RX9 yX9_text (.code yX9_text cX9_text 2 (some .int) :: gw_t)) := gw_wsV ml_L_40 (gw_mem 1162 (by decide +kernel) (by decide +kernel)) (gw_mem 1163 (by decide +kernel) (by decide +kernel)) (gw_mem 81 (by decide +kernel) (by decide +kernel)) cw_X9_text
theorem ml_L_41 : Cond.methodLink RL 41 yX8_force ∈ gw_t := gw_mem 658 (by decide +kernel) (by decide +kernel)
theorem gd_L_41 : GoodIn gw_t (wsV RL 41 RX8 yX8_force (.code yX8_force cX8_force 3 (some .int) :: gw_t)) := gw_wsV ml_L_41 (gw_mem 659 (by decide +kernel) (by decide +kernel)) (gw_mem 660 (by decide +kernel) (by decide +kernel)) (gw_mem 64 (by decide +kernel) (by decide +kernel)) cw_X8_force
theorem ml_L_44 : Cond.methodLink RL 44 yX9_force ∈ gw_t := gw_mem 1235 (by decide +kernel) (by decide +kernel)
theorem gd_L_44 : GoodIn gw_t (wsV RL 44 RX9 yX9_force (.code yX9_force cX9_force 3 (some .int) :: gw_t)) := gw_wsV ml_L_44 (gw_mem 1236 (by decide +kernel) (by decide +kernel)) (gw_mem 1237 (by decide +kernel) (by decide +kernel)) (gw_mem 81 (by decide +kernel) (by decide +kernel)) cw_X9_force
theorem ml_L_45 : Cond.methodLink RL 45 yX8_evening ∈ gw_t := gw_mem 666 (by decide +kernel) (by decide +kernel)
theorem gd_L_45 : GoodIn gw_t (wsV RL 45 RX8 yX8_evening (.code yX8_evening cX8_evening 3 (some .int) :: gw_t)) := gw_wsV ml_L_45 (gw_mem 667 (by decide +kernel) (by decide +kernel)) (gw_mem 668 (by decide +kernel) (by decide +kernel)) (gw_mem 64 (by decide +kernel) (by decide +kernel)) cw_X8_evening
theorem ml_L_48 : Cond.methodLink RL 48 yX9_evening ∈ gw_t := gw_mem 1239 (by decide +kernel) (by decide +kernel)
theorem gd_L_48 : GoodIn gw_t (wsV RL 48 RX9 yX9_evening (.code yX9_evening cX9_evening 3 (some .int) :: gw_t)) := gw_wsV ml_L_48 (gw_mem 1240 (by decide +kernel) (by decide +kernel)) (gw_mem 1241 (by decide +kernel) (by decide +kernel)) (gw_mem 81 (by decide +kernel) (by decide +kernel)) cw_X9_evening
theorem ml_L_49 : Cond.methodLink RL 49 yX8_best ∈ gw_t := gw_mem 750 (by decide +kernel) (by decide +kernel)
theorem gd_L_49 : GoodIn gw_t (wsV RL 49 RX8 yX8_best (.code yX8_best cX8_best 3 (some .int) :: gw_t)) := gw_wsV ml_L_49 (gw_mem 751 (by decide +kernel) (by decide +kernel)) (gw_mem 752 (by decide +kernel) (by decide +kernel)) (gw_mem 64 (by decide +kernel) (by decide +kernel)) cw_X8_best
theorem ml_L_52 : Cond.methodLink RL 52 yX9_best ∈ gw_t := gw_mem 1296 (by decide +kernel) (by decide +kernel)
theorem gd_L_52 : GoodIn gw_t (wsV RL 52 RX9 yX9_best (.code yX9_best cX9_best 3 (some .int) :: gw_t)) := gw_wsV ml_L_52 (gw_mem 1297 (by decide +kernel) (by decide +kernel)) (gw_mem 1298 (by decide +kernel) (by decide +kernel)) (gw_mem 81 (by decide +kernel) (by decide +kernel)) cw_X9_best
theorem ml_L_53 : Cond.methodLink RL 53 yX8_desk ∈ gw_t := gw_mem 782 (by decide +kernel) (by decide +kernel)
theorem gd_L_53 : GoodIn gw_t (wsV RL 53 RX8 yX8_desk (.code yX8_desk cX8_desk 2 (some .int) :: gw_t)) := gw_wsV ml_L_53 (gw_mem 783 (by decide +kernel) (by decide +kernel)) (gw_mem 784 (by decide +kernel) (by decide +kernel)) (gw_mem 64 (by decide +kernel) (by decide +kernel)) cw_X8_desk
theorem ml_L_56 : Cond.methodLink RL 56 yX9_desk ∈ gw_t := gw_mem 1317 (by decide +kernel) (by decide +kernel)
theorem gd_L_56 : GoodIn gw_t (wsV RL 56 RX9 yX9_desk (.code yX9_desk cX9_desk 2 (some .int) :: gw_t)) := gw_wsV ml_L_56 (gw_mem 1318 (by decide +kernel) (by decide +kernel)) (gw_mem 1319 (by decide +kernel) (by decide +kernel)) (gw_mem 81 (by decide +kernel) (by decide +kernel)) cw_X9_desk
theorem ml_L_57 : Cond.methodLink RL 57 yX8_hold ∈ gw_t := gw_mem 802 (by decide +kernel) (by decide +kernel)
theorem gd_L_57 : GoodIn gw_t (wsV RL 57 RX8 yX8_hold (.code yX8_hold cX8_hold 2 (some .int) :: gw_t)) := gw_wsV ml_L_57 (gw_mem 803 (by decide +kernel) (by decide +kernel)) (gw_mem 804 (by decide +kernel) (by decide +kernel)) (gw_mem 64 (by decide +kernel) (by decide +kernel)) cw_X8_hold
theorem ml_L_60 : Cond.methodLink RL 60 yX9_hold ∈ gw_t := gw_mem 1292 (by decide +kernel) (by decide +kernel)
theorem gd_L_60 : GoodIn gw_t (wsV RL 60 RX9 yX9_hold (.code yX9_hold cX9_hold 2 (some .int) :: gw_t)) := gw_wsV ml_L_60 (gw_mem 1293 (by decide +kernel) (by decide +kernel)) (gw_mem 1294 (by decide +kernel) (by decide +kernel)) (gw_mem 81 (by decide +kernel) (by decide +kernel)) cw_X9_hold
theorem ml_L_61 : Cond.methodLink RL 61 yX8_wait ∈ gw_t := gw_mem 806 (by decide +kernel) (by decide +kernel)
theorem gd_L_61 : GoodIn gw_t (wsV RL 61 RX8 yX8_wait (.code yX8_wait cX8_wait 2 (some .int) :: gw_t)) := gw_wsV ml_L_61 (gw_mem 807 (by decide +kernel) (by decide +kernel)) (gw_mem 808 (by decide +kernel) (by decide +kernel)) (gw_mem 64 (by decide +kernel) (by decide +kernel)) cw_X8_wait
theorem ml_L_64 : Cond.methodLink RL 64 yX9_wait ∈ gw_t := gw_mem 1333 (by decide +kernel) (by decide +kernel)
theorem gd_L_64 : GoodIn gw_t (wsV RL 64 RX9 yX9_wait (.code yX9_wait cX9_wait 2 (some .int) :: gw_t)) := gw_wsV ml_L_64 (gw_mem 1334 (by decide +kernel) (by decide +kernel)) (gw_mem 1335 (by decide +kernel) (by decide +kernel)) (gw_mem 81 (by decide +kernel) (by decide +kernel)) cw_X9_wait
theorem ml_L_65 : Cond.methodLink RL 65 yX8_refuse ∈ gw_t := gw_mem 810 (by decide +kernel) (by decide +kernel)
theorem gd_L_65 : GoodIn gw_t (wsV RL 65 RX8 yX8_refuse (.code yX8_refuse cX8_refuse 5 (some .int) :: gw_t)) := gw_wsV ml_L_65 (gw_mem 811 (by decide +kernel) (by decide +kernel)) (gw_mem 812 (by decide +kernel) (by decide +kernel)) (gw_mem 64 (by decide +kernel) (by decide +kernel)) cw_X8_refuse
theorem ml_L_68 : Cond.methodLink RL 68 yX9_refuse ∈ gw_t := gw_mem 1337 (by decide +kernel) (by decide +kernel)
theorem gd_L_68 : GoodIn gw_t (wsV RL 68 RX9 yX9_refuse (.code yX9_refuse cX9_refuse 5 (some .int) :: gw_t)) := gw_wsV ml_L_68 (gw_mem 1338 (by decide +kernel) (by decide +kernel)) (gw_mem 1339 (by decide +kernel) (by decide +kernel)) (gw_mem 81 (by decide +kernel) (by decide +kernel)) cw_X9_refuse
theorem ml_L_69 : Cond.methodLink RL 69 yX8_coin ∈ gw_t := gw_mem 814 (by decide +kernel) (by decide +kernel)
theorem gd_L_69 : GoodIn gw_t (wsV RL 69 RX8 yX8_coin (.code yX8_coin cX8_coin 3 (some .int) :: gw_t)) := gw_wsV ml_L_69 (gw_mem 815 (by decide +kernel) (by decide +kernel)) (gw_mem 816 (by decide +kernel) (by decide +kernel)) (gw_mem 64 (by decide +kernel) (by decide +kernel)) cw_X8_coin
theorem ml_L_72 : Cond.methodLink RL 72 yX9_coin ∈ gw_t := gw_mem 1341 (by decide +kernel) (by decide +kernel)
theorem gd_L_72 : GoodIn gw_t (wsV RL 72 RX9 yX9_coin (.code yX9_coin cX9_coin 3 (some .int) :: gw_t)) := gw_wsV ml_L_72 (gw_mem 1342 (by decide +kernel) (by decide +kernel)) (gw_mem 1343 (by decide +kernel) (by decide +kernel)) (gw_mem 81 (by decide +kernel) (by decide +kernel)) cw_X9_coin
theorem ml_L_73 : Cond.methodLink RL 73 yX8_harm ∈ gw_t := gw_mem 819 (by decide +kernel) (by decide +kernel)
theorem gd_L_73 : GoodIn gw_t (wsV RL 73 RX8 yX8_harm (.code yX8_harm cX8_harm 3 (some .int) :: gw_t)) := gw_wsV ml_L_73 (gw_mem 820 (by decide +kernel) (by decide +kernel)) (gw_mem 821 (by decide +kernel) (by decide +kernel)) (gw_mem 64 (by decide +kernel) (by decide +kernel)) cw_X8_harm
theorem ml_L_76 : Cond.methodLink RL 76 yX9_harm ∈ gw_t := gw_mem 1345 (by decide +kernel) (by decide +kernel)
theorem gd_L_76 : GoodIn gw_t (wsV RL 76 RX9 yX9_harm (.code yX9_harm cX9_harm 3 (some .int) :: gw_t)) := gw_wsV ml_L_76 (gw_mem 1346 (by decide +kernel) (by decide +kernel)) (gw_mem 1347 (by decide +kernel) (by decide +kernel)) (gw_mem 81 (by decide +kernel) (by decide +kernel)) cw_X9_harm
theorem ml_L_77 : Cond.methodLink RL 77 yX8_judge ∈ gw_t := gw_mem 823 (by decide +kernel) (by decide +kernel)
theorem gd_L_77 : GoodIn gw_t (wsV RL 77 RX8 yX8_judge (.code yX8_judge cX8_judge 2 (some .int) :: gw_t)) := gw_wsV ml_L_77 (gw_mem 824 (by decide +kernel) (by decide +kernel)) (gw_mem 825 (by decide +kernel) (by decide +kernel)) (gw_mem 64 (by decide +kernel) (by decide +kernel)) cw_X8_judge
theorem ml_L_80 : Cond.methodLink RL 80 yX9_judge ∈ gw_t := gw_mem 1349 (by decide +kernel) (by decide +kernel)
theorem gd_L_80 : GoodIn gw_t (wsV RL 80 RX9 yX9_judge (.code yX9_judge cX9_judge 3 (some .int) :: gw_t)) := gw_wsV ml_L_80 (gw_mem 1350 (by decide +kernel) (by decide +kernel)) (gw_mem 1351 (by decide +kernel) (by decide +kernel)) (gw_mem 81 (by decide +kernel) (by decide +kernel)) cw_X9_judge
theorem ml_L_81 : Cond.methodLink RL 81 yX8_which ∈ gw_t := gw_mem 834 (by decide +kernel) (by decide +kernel)
theorem gd_L_81 : GoodIn gw_t (wsV RL 81 RX8 yX8_which (.code yX8_which cX8_which 4 (some .int) :: gw_t)) := gw_wsV ml_L_81 (gw_mem 835 (by decide +kernel) (by decide +kernel)) (gw_mem 836 (by decide +kernel) (by decide +kernel)) (gw_mem 64 (by decide +kernel) (by decide +kernel)) cw_X8_which
theorem ml_L_84 : Cond.methodLink RL 84 yX9_which ∈ gw_t := gw_mem 1364 (by decide +kernel) (by decide +kernel)
theorem gd_L_84 : GoodIn gw_t (wsV RL 84 RX9 yX9_which (.code yX9_which cX9_which 5 (some .int) :: gw_t)) := gw_wsV ml_L_84 (gw_mem 1365 (by decide +kernel) (by decide +kernel)) (gw_mem 1366 (by decide +kernel) (by decide +kernel)) (gw_mem 81 (by decide +kernel) (by decide +kernel)) cw_X9_which
theorem ml_L_85 : Cond.methodLink RL 85 yX8_behind ∈ gw_t := gw_mem 838 (by decide +kernel) (by decide +kernel)
theorem gd_L_85 : GoodIn gw_t (wsV RL 85 RX8 yX8_behind (.code yX8_behind cX8_behind 5 (some .int) :: gw_t)) := gw_wsV ml_L_85 (gw_mem 839 (by decide +kernel) (by decide +kernel)) (gw_mem 840 (by decide +kernel) (by decide +kernel)) (gw_mem 64 (by decide +kernel) (by decide +kernel)) cw_X8_behind
theorem ml_L_88 : Cond.methodLink RL 88 yX9_behind ∈ gw_t := gw_mem 1368 (by decide +kernel) (by decide +kernel)
theorem gd_L_88 : GoodIn gw_t (wsV RL 88 RX9 yX9_behind (.code yX9_behind cX9_behind 4 (some .int) :: gw_t)) := gw_wsV ml_L_88 (gw_mem 1369 (by decide +kernel) (by decide +kernel)) (gw_mem 1370 (by decide +kernel) (by decide +kernel)) (gw_mem 81 (by decide +kernel) (by decide +kernel)) cw_X9_behind
theorem ml_L_89 : Cond.methodLink RL 89 yX8_drawn ∈ gw_t := gw_mem 842 (by decide +kernel) (by decide +kernel)
theorem gd_L_89 : GoodIn gw_t (wsV RL 89 RX8 yX8_drawn (.code yX8_drawn cX8_drawn 2 (some .int) :: gw_t)) := gw_wsV ml_L_89 (gw_mem 843 (by decide +kernel) (by decide +kernel)) (gw_mem 844 (by decide +kernel) (by decide +kernel)) (gw_mem 64 (by decide +kernel) (by decide +kernel)) cw_X8_drawn
theorem ml_L_92 : Cond.methodLink RL 92 yX9_drawn ∈ gw_t := gw_mem 1372 (by decide +kernel) (by decide +kernel)
theorem gd_L_92 : GoodIn gw_t (wsV RL 92 RX9 yX9_drawn (.code yX9_drawn cX9_drawn 2 (some .int) :: gw_t)) := gw_wsV ml_L_92 (gw_mem 1373 (by decide +kernel) (by decide +kernel)) (gw_mem 1374 (by decide +kernel) (by decide +kernel)) (gw_mem 81 (by decide +kernel) (by decide +kernel)) cw_X9_drawn
theorem ml_L_93 : Cond.methodLink RL 93 yX8_chance ∈ gw_t := gw_mem 855 (by decide +kernel) (by decide +kernel)
theorem gd_L_93 : GoodIn gw_t (wsV RL 93 RX8 yX8_chance (.code yX8_chance cX8_chance 6 (some .long) :: gw_t)) := gw_wsV ml_L_93 (gw_mem 856 (by decide +kernel) (by decide +kernel)) (gw_mem 857 (by decide +kernel) (by decide +kernel)) (gw_mem 64 (by decide +kernel) (by decide +kernel)) cw_X8_chance
theorem ml_L_97 : Cond.methodLink RL 97 yX9_chance ∈ gw_t := gw_mem 1381 (by decide +kernel) (by decide +kernel)
theorem gd_L_97 : GoodIn gw_t (wsV RL 97 RX9 yX9_chance (.code yX9_chance cX9_chance 12 (some .long) :: gw_t)) := gw_wsV ml_L_97 (gw_mem 1382 (by decide +kernel) (by decide +kernel)) (gw_mem 1383 (by decide +kernel) (by decide +kernel)) (gw_mem 81 (by decide +kernel) (by decide +kernel)) cw_X9_chance
theorem ml_L_98 : Cond.methodLink RL 98 yX8_image ∈ gw_t := gw_mem 863 (by decide +kernel) (by decide +kernel)
theorem gd_L_98 : GoodIn gw_t (wsV RL 98 RX8 yX8_image (.code yX8_image cX8_image 1 (some .int) :: gw_t)) := gw_wsV ml_L_98 (gw_mem 864 (by decide +kernel) (by decide +kernel)) (gw_mem 865 (by decide +kernel) (by decide +kernel)) (gw_mem 64 (by decide +kernel) (by decide +kernel)) cw_X8_image
theorem ml_L_101 : Cond.methodLink RL 101 yX9_image ∈ gw_t := gw_mem 1387 (by decide +kernel) (by decide +kernel)
theorem gd_L_101 : GoodIn gw_t (wsV RL 101 RX9 yX9_image (.code yX9_image cX9_image 2 (some .int) :: gw_t)) := gw_wsV ml_L_101 (gw_mem 1388 (by decide +kernel) (by decide +kernel)) (gw_mem 1389 (by decide +kernel) (by decide +kernel)) (gw_mem 81 (by decide +kernel) (by decide +kernel)) cw_X9_image
theorem ml_L_102 : Cond.methodLink RL 102 yX8_back ∈ gw_t := gw_mem 879 (by decide +kernel) (by decide +kernel)
theorem gd_L_102 : GoodIn gw_t (wsV RL 102 RX8 yX8_back (.code yX8_back cX8_back 1 (some .int) :: gw_t)) := gw_wsV ml_L_102 (gw_mem 880 (by decide +kernel) (by decide +kernel)) (gw_mem 881 (by decide +kernel) (by decide +kernel)) (gw_mem 64 (by decide +kernel) (by decide +kernel)) cw_X8_back
theorem ml_L_105 : Cond.methodLink RL 105 yX9_back ∈ gw_t := gw_mem 1391 (by decide +kernel) (by decide +kernel)
theorem gd_L_105 : GoodIn gw_t (wsV RL 105 RX9 yX9_back (.code yX9_back cX9_back 2 (some .int) :: gw_t)) := gw_wsV ml_L_105 (gw_mem 1392 (by decide +kernel) (by decide +kernel)) (gw_mem 1393 (by decide +kernel) (by decide +kernel)) (gw_mem 81 (by decide +kernel) (by decide +kernel)) cw_X9_back
theorem ml_L_106 : Cond.methodLink RL 106 yX8_count ∈ gw_t := gw_mem 883 (by decide +kernel) (by decide +kernel)
theorem gd_L_106 : GoodIn gw_t (wsV RL 106 RX8 yX8_count (.code yX8_count cX8_count 2 (some .int) :: gw_t)) := gw_wsV ml_L_106 (gw_mem 884 (by decide +kernel) (by decide +kernel)) (gw_mem 885 (by decide +kernel) (by decide +kernel)) (gw_mem 64 (by decide +kernel) (by decide +kernel)) cw_X8_count
theorem ml_L_109 : Cond.methodLink RL 109 yX9_count ∈ gw_t := gw_mem 1395 (by decide +kernel) (by decide +kernel)
theorem gd_L_109 : GoodIn gw_t (wsV RL 109 RX9 yX9_count (.code yX9_count cX9_count 2 (some .int) :: gw_t)) := gw_wsV ml_L_109 (gw_mem 1396 (by decide +kernel) (by decide +kernel)) (gw_mem 1397 (by decide +kernel) (by decide +kernel)) (gw_mem 81 (by decide +kernel) (by decide +kernel)) cw_X9_count
theorem ml_L_110 : Cond.methodLink RL 110 yX8_sheet ∈ gw_t := gw_mem 887 (by decide +kernel) (by decide +kernel)
theorem gd_L_110 : GoodIn gw_t (wsV RL 110 RX8 yX8_sheet (.code yX8_sheet cX8_sheet 4 (some .int) :: gw_t)) := gw_wsV ml_L_110 (gw_mem 888 (by decide +kernel) (by decide +kernel)) (gw_mem 889 (by decide +kernel) (by decide +kernel)) (gw_mem 64 (by decide +kernel) (by decide +kernel)) cw_X8_sheet
theorem ml_L_113 : Cond.methodLink RL 113 yX9_sheet ∈ gw_t := gw_mem 1399 (by decide +kernel) (by decide +kernel)
theorem gd_L_113 : GoodIn gw_t (wsV RL 113 RX9 yX9_sheet (.code yX9_sheet cX9_sheet 5 (some .int) :: gw_t)) := gw_wsV ml_L_113 (gw_mem 1400 (by decide +kernel) (by decide +kernel)) (gw_mem 1401 (by decide +kernel) (by decide +kernel)) (gw_mem 81 (by decide +kernel) (by decide +kernel)) cw_X9_sheet
theorem ml_L_114 : Cond.methodLink RL 114 yX8_cell ∈ gw_t := gw_mem 896 (by decide +kernel) (by decide +kernel)
theorem gd_L_114 : GoodIn gw_t (wsV RL 114 RX8 yX8_cell (.code yX8_cell cX8_cell 5 (some .int) :: gw_t)) := gw_wsV ml_L_114 (gw_mem 897 (by decide +kernel) (by decide +kernel)) (gw_mem 898 (by decide +kernel) (by decide +kernel)) (gw_mem 64 (by decide +kernel) (by decide +kernel)) cw_X8_cell
theorem ml_L_117 : Cond.methodLink RL 117 yX9_cell ∈ gw_t := gw_mem 1404 (by decide +kernel) (by decide +kernel)
theorem gd_L_117 : GoodIn gw_t (wsV RL 117 RX9 yX9_cell (.code yX9_cell cX9_cell 4 (some .int) :: gw_t)) := gw_wsV ml_L_117 (gw_mem 1405 (by decide +kernel) (by decide +kernel)) (gw_mem 1406 (by decide +kernel) (by decide +kernel)) (gw_mem 81 (by decide +kernel) (by decide +kernel)) cw_X9_cell
theorem ml_L_118 : Cond.methodLink RL 118 yX8_copy ∈ gw_t := gw_mem 908 (by decide +kernel) (by decide +kernel)
theorem gd_L_118 : GoodIn gw_t (wsV RL 118 RX8 yX8_copy (.code yX8_copy cX8_copy 8 (some .int) :: gw_t)) := gw_wsV ml_L_118 (gw_mem 909 (by decide +kernel) (by decide +kernel)) (gw_mem 910 (by decide +kernel) (by decide +kernel)) (gw_mem 64 (by decide +kernel) (by decide +kernel)) cw_X8_copy
theorem ml_L_122 : Cond.methodLink RL 122 yX9_copy ∈ gw_t := gw_mem 1408 (by decide +kernel) (by decide +kernel)
theorem gd_L_122 : GoodIn gw_t (wsV RL 122 RX9 yX9_copy (.code yX9_copy cX9_copy 9 (some .int) :: gw_t)) := gw_wsV ml_L_122 (gw_mem 1409 (by decide +kernel) (by decide +kernel)) (gw_mem 1410 (by decide +kernel) (by decide +kernel)) (gw_mem 81 (by decide +kernel) (by decide +kernel)) cw_X9_copy
theorem ml_L_123 : Cond.methodLink RL 123 yX8_slips ∈ gw_t := gw_mem 913 (by decide +kernel) (by decide +kernel)
theorem gd_L_123 : GoodIn gw_t (wsV RL 123 RX8 yX8_slips (.code yX8_slips cX8_slips 9 (some .int) :: gw_t)) := gw_wsV ml_L_123 (gw_mem 914 (by decide +kernel) (by decide +kernel)) (gw_mem 915 (by decide +kernel) (by decide +kernel)) (gw_mem 64 (by decide +kernel) (by decide +kernel)) cw_X8_slips
theorem ml_L_127 : Cond.methodLink RL 127 yX9_slips ∈ gw_t := gw_mem 1412 (by decide +kernel) (by decide +kernel)
theorem gd_L_127 : GoodIn gw_t (wsV RL 127 RX9 yX9_slips (.code yX9_slips cX9_slips 8 (some .int) :: gw_t)) := gw_wsV ml_L_127 (gw_mem 1413 (by decide +kernel) (by decide +kernel)) (gw_mem 1414 (by decide +kernel) (by decide +kernel)) (gw_mem 81 (by decide +kernel) (by decide +kernel)) cw_X9_slips
theorem ml_L_128 : Cond.methodLink RL 128 yX8_taken ∈ gw_t := gw_mem 917 (by decide +kernel) (by decide +kernel)
theorem gd_L_128 : GoodIn gw_t (wsV RL 128 RX8 yX8_taken (.code yX8_taken cX8_taken 3 (some .int) :: gw_t)) := gw_wsV ml_L_128 (gw_mem 918 (by decide +kernel) (by decide +kernel)) (gw_mem 919 (by decide +kernel) (by decide +kernel)) (gw_mem 64 (by decide +kernel) (by decide +kernel)) cw_X8_taken
theorem ml_L_131 : Cond.methodLink RL 131 yX9_taken ∈ gw_t := gw_mem 1417 (by decide +kernel) (by decide +kernel)
theorem gd_L_131 : GoodIn gw_t (wsV RL 131 RX9 yX9_taken (.code yX9_taken cX9_taken 4 (some .int) :: gw_t)) := gw_wsV ml_L_131 (gw_mem 1418 (by decide +kernel) (by decide +kernel)) (gw_mem 1419 (by decide +kernel) (by decide +kernel)) (gw_mem 81 (by decide +kernel) (by decide +kernel)) cw_X9_taken
theorem ml_X0_81 : Cond.methodLink RX0 81 yX0_rowAsDigits ∈ gw_t := gw_mem 746 (by decide +kernel) (by decide +kernel)
theorem gd_X0_81 : GoodIn gw_t (wsV RX0 81 RX0 yX0_rowAsDigits (.code yX0_rowAsDigits cX0_rowAsDigits 3 (some .int) :: gw_t)) := gw_wsV ml_X0_81 (gw_mem 748 (by decide +kernel) (by decide +kernel)) (gw_mem 16 (by decide +kernel) (by decide +kernel)) (gw_mem 69 (by decide +kernel) (by decide +kernel)) cw_X0_rowAsDigits
theorem ml_X0_38 : Cond.methodLink RX0 38 yJ7_fill_53178 ∈ gw_t := gw_mem 682 (by decide +kernel) (by decide +kernel)
theorem gd_X0_38 : GoodIn gw_t (va_wsS RX0 38 yJ7_fill_53178 (.code yJ7_fill_53178 cJ7_fill_53178 4 none :: gw_t)) := gw_wsS ml_X0_38 (gw_mem 683 (by decide +kernel) (by decide +kernel)) (gw_mem 78 (by decide +kernel) (by decide +kernel)) cw_J7_fill_53178
theorem ml_X0_176 : Cond.methodLink RX0 176 yX0_uncalled ∈ gw_t := gw_mem 851 (by decide +kernel) (by decide +kernel)
theorem gd_X0_176 : GoodIn gw_t (wsV RX0 176 RX0 yX0_uncalled (.code yX0_uncalled cX0_uncalled 4 (some .int) :: gw_t)) := gw_wsV ml_X0_176 (gw_mem 853 (by decide +kernel) (by decide +kernel)) (gw_mem 23 (by decide +kernel) (by decide +kernel)) (gw_mem 69 (by decide +kernel) (by decide +kernel)) cw_X0_uncalled
theorem ml_X0_165 : Cond.methodLink RX0 165 yX0_callSlip ∈ gw_t := gw_mem 690 (by decide +kernel) (by decide +kernel)
theorem gd_X0_165 : GoodIn gw_t (wsV RX0 165 RX0 yX0_callSlip (.code yX0_callSlip cX0_callSlip 5 none :: gw_t)) := gw_wsV ml_X0_165 (gw_mem 691 (by decide +kernel) (by decide +kernel)) (gw_mem 692 (by decide +kernel) (by decide +kernel)) (gw_mem 69 (by decide +kernel) (by decide +kernel)) cw_X0_callSlip
theorem ml_X0_169 : Cond.methodLink RX0 169 yX0_firstByDesk ∈ gw_t := gw_mem 798 (by decide +kernel) (by decide +kernel)
theorem gd_X0_169 : GoodIn gw_t (wsV RX0 169 RX0 yX0_firstByDesk (.code yX0_firstByDesk cX0_firstByDesk 7 (some .int) :: gw_t)) := gw_wsV ml_X0_169 (gw_mem 800 (by decide +kernel) (by decide +kernel)) (gw_mem 21 (by decide +kernel) (by decide +kernel)) (gw_mem 69 (by decide +kernel) (by decide +kernel)) cw_X0_firstByDesk
theorem ml_X0_85 : Cond.methodLink RX0 85 yX1_hasSlip ∈ gw_t := gw_mem 694 (by decide +kernel) (by decide +kernel)
theorem gd_X0_85 : GoodIn gw_t (wsV RX0 85 RX1 yX1_hasSlip (.code yX1_hasSlip cX1_hasSlip 2 (some .boolean) :: gw_t)) := gw_wsV ml_X0_85 (gw_mem 631 (by decide +kernel) (by decide +kernel)) (gw_mem 632 (by decide +kernel) (by decide +kernel)) (gw_mem 65 (by decide +kernel) (by decide +kernel)) cw_X1_hasSlip
theorem ml_X0_104 : Cond.methodLink RX0 104 yX0_wasCalled ∈ gw_t := gw_mem 695 (by decide +kernel) (by decide +kernel)
theorem gd_X0_104 : GoodIn gw_t (wsV RX0 104 RX0 yX0_wasCalled (.code yX0_wasCalled cX0_wasCalled 2 (some .boolean) :: gw_t)) := gw_wsV ml_X0_104 (gw_mem 696 (by decide +kernel) (by decide +kernel)) (gw_mem 697 (by decide +kernel) (by decide +kernel)) (gw_mem 69 (by decide +kernel) (by decide +kernel)) cw_X0_wasCalled
theorem ml_X0_107 : Cond.methodLink RX0 107 yX0_wouldBeSung ∈ gw_t := gw_mem 699 (by decide +kernel) (by decide +kernel)
theorem gd_X0_107 : GoodIn gw_t (wsV RX0 107 RX0 yX0_wouldBeSung (.code yX0_wouldBeSung cX0_wouldBeSung 3 (some .boolean) :: gw_t)) := gw_wsV ml_X0_107 (gw_mem 701 (by decide +kernel) (by decide +kernel)) (gw_mem 13 (by decide +kernel) (by decide +kernel)) (gw_mem 69 (by decide +kernel) (by decide +kernel)) cw_X0_wouldBeSung
theorem ml_X0_110 : Cond.methodLink RX0 110 yX1_groupOf ∈ gw_t := gw_mem 703 (by decide +kernel) (by decide +kernel)
theorem gd_X0_110 : GoodIn gw_t (wsV RX0 110 RX1 yX1_groupOf (.code yX1_groupOf cX1_groupOf 2 (some .int) :: gw_t)) := gw_wsV ml_X0_110 (gw_mem 704 (by decide +kernel) (by decide +kernel)) (gw_mem 705 (by decide +kernel) (by decide +kernel)) (gw_mem 65 (by decide +kernel) (by decide +kernel)) cw_X1_groupOf
theorem ml_X0_114 : Cond.methodLink RX0 114 yX6_moves ∈ gw_t := gw_mem 707 (by decide +kernel) (by decide +kernel)
theorem gd_X0_114 : GoodIn gw_t (wsV RX0 114 RX6 yX6_moves (.code yX6_moves cX6_moves 2 (some .int) :: gw_t)) := gw_wsV ml_X0_114 (gw_mem 708 (by decide +kernel) (by decide +kernel)) (gw_mem 709 (by decide +kernel) (by decide +kernel)) (gw_mem 67 (by decide +kernel) (by decide +kernel)) cw_X6_moves
theorem ml_X0_118 : Cond.methodLinkNest RX0 118 yX8_within "WhoSingsNext" ∈ nw_t := nw_mem 711 (by decide +kernel) (by decide +kernel)
theorem gs_X0_118 : Cond.static yX8_within ∈ gw_t ∧ Cond.initialized yX8_within.cls ∈ gw_t := ⟨gw_mem 712 (by decide +kernel) (by decide +kernel), gw_mem 64 (by decide +kernel) (by decide +kernel)⟩
theorem ml_X0_125 : Cond.methodLink RX0 125 yX0_nameAll ∈ gw_t := gw_mem 716 (by decide +kernel) (by decide +kernel)
theorem gd_X0_125 : GoodIn gw_t (wsV RX0 125 RX0 yX0_nameAll (.code yX0_nameAll cX0_nameAll 4 none :: gw_t)) := gw_wsV ml_X0_125 (gw_mem 718 (by decide +kernel) (by decide +kernel)) (gw_mem 14 (by decide +kernel) (by decide +kernel)) (gw_mem 69 (by decide +kernel) (by decide +kernel)) cw_X0_nameAll
theorem ml_X0_131 : Cond.methodLink RX0 131 yX7_worth ∈ gw_t := gw_mem 720 (by decide +kernel) (by decide +kernel)
theorem gd_X0_131 : GoodIn gw_t (wsV RX0 131 RX7 yX7_worth (.code yX7_worth cX7_worth 9 (some .int) :: gw_t)) := gw_wsV ml_X0_131 (gw_mem 721 (by decide +kernel) (by decide +kernel)) (gw_mem 722 (by decide +kernel) (by decide +kernel)) (gw_mem 77 (by decide +kernel) (by decide +kernel)) cw_X7_worth
theorem ml_X0_135 : Cond.methodLink RX0 135 yJ6_bitCount_0f7a4 ∈ gw_t := gw_mem 727 (by decide +kernel) (by decide +kernel)
theorem gd_X0_135 : GoodIn gw_t (va_wsS RX0 135 yJ6_bitCount_0f7a4 (.code yJ6_bitCount_0f7a4 cJ6_bitCount_0f7a4 1 (some .int) :: gw_t)) := gw_wsS ml_X0_135 (gw_mem 728 (by decide +kernel) (by decide +kernel)) (gw_mem 82 (by decide +kernel) (by decide +kernel)) cw_J6_bitCount_0f7a4
theorem ml_X0_140 : Cond.methodLink RX0 140 yX6_thirst ∈ gw_t := gw_mem 733 (by decide +kernel) (by decide +kernel)
theorem gd_X0_140 : GoodIn gw_t (wsV RX0 140 RX6 yX6_thirst (.code yX6_thirst cX6_thirst 2 (some .int) :: gw_t)) := gw_wsV ml_X0_140 (gw_mem 734 (by decide +kernel) (by decide +kernel)) (gw_mem 735 (by decide +kernel) (by decide +kernel)) (gw_mem 67 (by decide +kernel) (by decide +kernel)) cw_X6_thirst
theorem ml_X0_143 : Cond.methodLink RX0 143 yJ9_max_7cf53 ∈ gw_t := gw_mem 737 (by decide +kernel) (by decide +kernel)
theorem gd_X0_143 : GoodIn gw_t (va_wsS RX0 143 yJ9_max_7cf53 (.code yJ9_max_7cf53 cJ9_max_7cf53 2 (some .int) :: gw_t)) := gw_wsS ml_X0_143 (gw_mem 436 (by decide +kernel) (by decide +kernel)) (gw_mem 75 (by decide +kernel) (by decide +kernel)) cw_J9_max_7cf53
theorem ml_X0_149 : Cond.methodLink RX0 149 yX0_letLeave ∈ gw_t := gw_mem 738 (by decide +kernel) (by decide +kernel)
theorem gd_X0_149 : GoodIn gw_t (wsV RX0 149 RX0 yX0_letLeave (.code yX0_letLeave cX0_letLeave 5 none :: gw_t)) := gw_wsV ml_X0_149 (gw_mem 740 (by decide +kernel) (by decide +kernel)) (gw_mem 15 (by decide +kernel) (by decide +kernel)) (gw_mem 69 (by decide +kernel) (by decide +kernel)) cw_X0_letLeave
theorem ml_X1_47 : Cond.methodLink RX1 47 yX1_hasPerson ∈ gw_t := gw_mem 606 (by decide +kernel) (by decide +kernel)
theorem gd_X1_47 : GoodIn gw_t (wsV RX1 47 RX1 yX1_hasPerson (.code yX1_hasPerson cX1_hasPerson 2 (some .boolean) :: gw_t)) := gw_wsV ml_X1_47 (gw_mem 607 (by decide +kernel) (by decide +kernel)) (gw_mem 608 (by decide +kernel) (by decide +kernel)) (gw_mem 65 (by decide +kernel) (by decide +kernel)) cw_X1_hasPerson
theorem ml_X1_76 : Cond.methodLink RX1 76 yX2_become ∈ gw_t := gw_mem 871 (by decide +kernel) (by decide +kernel)
theorem gd_X1_76 : GoodIn gw_t (wsV RX1 76 RX2 yX2_become (.code yX2_become cX2_become 2 none :: gw_t)) := gw_wsV ml_X1_76 (gw_mem 872 (by decide +kernel) (by decide +kernel)) (gw_mem 873 (by decide +kernel) (by decide +kernel)) (gw_mem 66 (by decide +kernel) (by decide +kernel)) cw_X2_become
theorem ml_X1_80 : Cond.methodLink RX1 80 yX6_become ∈ gw_t := gw_mem 875 (by decide +kernel) (by decide +kernel)
theorem gd_X1_80 : GoodIn gw_t (wsV RX1 80 RX6 yX6_become (.code yX6_become cX6_become 2 none :: gw_t)) := gw_wsV ml_X1_80 (gw_mem 876 (by decide +kernel) (by decide +kernel)) (gw_mem 877 (by decide +kernel) (by decide +kernel)) (gw_mem 67 (by decide +kernel) (by decide +kernel)) cw_X6_become
theorem ml_X1_63 : Cond.methodLink RX1 63 yX1_hasValue ∈ gw_t := gw_mem 639 (by decide +kernel) (by decide +kernel)
theorem gd_X1_63 : GoodIn gw_t (wsV RX1 63 RX1 yX1_hasValue (.code yX1_hasValue cX1_hasValue 3 (some .boolean) :: gw_t)) := gw_wsV ml_X1_63 (gw_mem 627 (by decide +kernel) (by decide +kernel)) (gw_mem 628 (by decide +kernel) (by decide +kernel)) (gw_mem 65 (by decide +kernel) (by decide +kernel)) cw_X1_hasValue
theorem ml_X1_70 : Cond.methodLink RX1 70 yX1_allows ∈ gw_t := gw_mem 644 (by decide +kernel) (by decide +kernel)
theorem gd_X1_70 : GoodIn gw_t (wsV RX1 70 RX1 yX1_allows (.code yX1_allows cX1_allows 3 (some .boolean) :: gw_t)) := gw_wsV ml_X1_70 (gw_mem 603 (by decide +kernel) (by decide +kernel)) (gw_mem 604 (by decide +kernel) (by decide +kernel)) (gw_mem 65 (by decide +kernel) (by decide +kernel)) cw_X1_allows
theorem ml_X1_60 : Cond.methodLink RX1 60 yX1_hasSlip ∈ gw_t := gw_mem 630 (by decide +kernel) (by decide +kernel)
theorem gd_X1_60 : GoodIn gw_t (wsV RX1 60 RX1 yX1_hasSlip (.code yX1_hasSlip cX1_hasSlip 2 (some .boolean) :: gw_t)) := gw_wsV ml_X1_60 (gw_mem 631 (by decide +kernel) (by decide +kernel)) (gw_mem 632 (by decide +kernel) (by decide +kernel)) (gw_mem 65 (by decide +kernel) (by decide +kernel)) cw_X1_hasSlip
theorem ml_X3_52 : Cond.methodLink RX3 52 yJ7_copyOf_59c91 ∈ gw_t := gw_mem 520 (by decide +kernel) (by decide +kernel)
theorem gd_X3_52 : GoodIn gw_t (va_wsS RX3 52 yJ7_copyOf_59c91 (.code yJ7_copyOf_59c91 cJ7_copyOf_59c91 3 (some (.array .int)) :: gw_t)) := gw_wsS ml_X3_52 (gw_mem 521 (by decide +kernel) (by decide +kernel)) (gw_mem 78 (by decide +kernel) (by decide +kernel)) cw_J7_copyOf_59c91
theorem ml_X3_31 : Cond.methodLink RX3 31 yX3_readToken ∈ gw_t := gw_mem 383 (by decide +kernel) (by decide +kernel)
theorem gd_X3_31 : GoodIn gw_t (wsV RX3 31 RX3 yX3_readToken (.code yX3_readToken cX3_readToken 1 none :: gw_t)) := gw_wsV ml_X3_31 (gw_mem 385 (by decide +kernel) (by decide +kernel)) (gw_mem 0 (by decide +kernel) (by decide +kernel)) (gw_mem 68 (by decide +kernel) (by decide +kernel)) cw_X3_readToken
theorem ml_X3_47 : Cond.methodLink RX3 47 yX3_fail ∈ gw_t := gw_mem 487 (by decide +kernel) (by decide +kernel)
theorem gd_X3_47 : GoodIn gw_t (wsV RX3 47 RX3 yX3_fail (.code yX3_fail cX3_fail 1 none :: gw_t)) := gw_wsV ml_X3_47 (gw_mem 489 (by decide +kernel) (by decide +kernel)) (gw_mem 6 (by decide +kernel) (by decide +kernel)) (gw_mem 68 (by decide +kernel) (by decide +kernel)) cw_X3_fail
theorem ml_X3_71 : Cond.methodLink RX3 71 yX3_readOne ∈ gw_t := gw_mem 495 (by decide +kernel) (by decide +kernel)
theorem gd_X3_71 : GoodIn gw_t (wsV RX3 71 RX3 yX3_readOne (.code yX3_readOne cX3_readOne 2 none :: gw_t)) := gw_wsV ml_X3_71 (gw_mem 497 (by decide +kernel) (by decide +kernel)) (gw_mem 8 (by decide +kernel) (by decide +kernel)) (gw_mem 68 (by decide +kernel) (by decide +kernel)) cw_X3_readOne
theorem ml_X3_74 : Cond.methodLink RX3 74 yX3_readNot ∈ gw_t := gw_mem 506 (by decide +kernel) (by decide +kernel)
theorem gd_X3_74 : GoodIn gw_t (wsV RX3 74 RX3 yX3_readNot (.code yX3_readNot cX3_readNot 2 none :: gw_t)) := gw_wsV ml_X3_74 (gw_mem 508 (by decide +kernel) (by decide +kernel)) (gw_mem 10 (by decide +kernel) (by decide +kernel)) (gw_mem 68 (by decide +kernel) (by decide +kernel)) cw_X3_readNot
theorem ml_X3_64 : Cond.methodLink RX3 64 yX3_readLevel ∈ gw_t := gw_mem 491 (by decide +kernel) (by decide +kernel)
theorem gd_X3_64 : GoodIn gw_t (wsV RX3 64 RX3 yX3_readLevel (.code yX3_readLevel cX3_readLevel 6 none :: gw_t)) := gw_wsV ml_X3_64 (gw_mem 493 (by decide +kernel) (by decide +kernel)) (gw_mem 7 (by decide +kernel) (by decide +kernel)) (gw_mem 68 (by decide +kernel) (by decide +kernel)) cw_X3_readLevel
theorem ml_X3_77 : Cond.methodLink RX3 77 yX3_joins ∈ gw_t := gw_mem 510 (by decide +kernel) (by decide +kernel)
theorem gd_X3_77 : GoodIn gw_t (wsV RX3 77 RX3 yX3_joins (.code yX3_joins cX3_joins 2 (some .boolean) :: gw_t)) := gw_wsV ml_X3_77 (gw_mem 512 (by decide +kernel) (by decide +kernel)) (gw_mem 11 (by decide +kernel) (by decide +kernel)) (gw_mem 68 (by decide +kernel) (by decide +kernel)) cw_X3_joins
theorem ml_X3_81 : Cond.methodLink RX3 81 yX3_emit ∈ gw_t := gw_mem 499 (by decide +kernel) (by decide +kernel)
theorem gd_X3_81 : GoodIn gw_t (wsV RX3 81 RX3 yX3_emit (.code yX3_emit cX3_emit 2 none :: gw_t)) := gw_wsV ml_X3_81 (gw_mem 501 (by decide +kernel) (by decide +kernel)) (gw_mem 9 (by decide +kernel) (by decide +kernel)) (gw_mem 68 (by decide +kernel) (by decide +kernel)) cw_X3_emit
theorem ml_X3_96 : Cond.methodLink RX3 96 yX3_isDigit ∈ gw_t := gw_mem 412 (by decide +kernel) (by decide +kernel)
theorem gd_X3_96 : GoodIn gw_t (va_wsS RX3 96 yX3_isDigit (.code yX3_isDigit cX3_isDigit 1 (some .boolean) :: gw_t)) := gw_wsS ml_X3_96 (gw_mem 413 (by decide +kernel) (by decide +kernel)) (gw_mem 68 (by decide +kernel) (by decide +kernel)) cw_X3_isDigit
theorem ml_X3_87 : Cond.methodLink RX3 87 yX3_isName ∈ gw_t := gw_mem 503 (by decide +kernel) (by decide +kernel)
theorem gd_X3_87 : GoodIn gw_t (va_wsS RX3 87 yX3_isName (.code yX3_isName cX3_isName 1 (some .boolean) :: gw_t)) := gw_wsS ml_X3_87 (gw_mem 504 (by decide +kernel) (by decide +kernel)) (gw_mem 68 (by decide +kernel) (by decide +kernel)) cw_X3_isName
theorem ml_X3_61 : Cond.methodLink RX3 61 yX3_pass ∈ gw_t := gw_mem 483 (by decide +kernel) (by decide +kernel)
theorem gd_X3_61 : GoodIn gw_t (wsV RX3 61 RX3 yX3_pass (.code yX3_pass cX3_pass 2 none :: gw_t)) := gw_wsV ml_X3_61 (gw_mem 485 (by decide +kernel) (by decide +kernel)) (gw_mem 5 (by decide +kernel) (by decide +kernel)) (gw_mem 68 (by decide +kernel) (by decide +kernel)) cw_X3_pass
theorem ml_X3_34 : Cond.methodLink RX3 34 yX3_readPart ∈ gw_t := gw_mem 479 (by decide +kernel) (by decide +kernel)
theorem gd_X3_34 : GoodIn gw_t (wsV RX3 34 RX3 yX3_readPart (.code yX3_readPart cX3_readPart 2 none :: gw_t)) := gw_wsV ml_X3_34 (gw_mem 481 (by decide +kernel) (by decide +kernel)) (gw_mem 4 (by decide +kernel) (by decide +kernel)) (gw_mem 68 (by decide +kernel) (by decide +kernel)) cw_X3_readPart
theorem ml_X3_90 : Cond.methodLink RX3 90 yX3_isLetter ∈ gw_t := gw_mem 387 (by decide +kernel) (by decide +kernel)
theorem gd_X3_90 : GoodIn gw_t (va_wsS RX3 90 yX3_isLetter (.code yX3_isLetter cX3_isLetter 1 (some .boolean) :: gw_t)) := gw_wsS ml_X3_90 (gw_mem 388 (by decide +kernel) (by decide +kernel)) (gw_mem 68 (by decide +kernel) (by decide +kernel)) cw_X3_isLetter
theorem ml_X3_93 : Cond.methodLink RX3 93 yX3_readWord ∈ gw_t := gw_mem 390 (by decide +kernel) (by decide +kernel)
theorem gd_X3_93 : GoodIn gw_t (wsV RX3 93 RX3 yX3_readWord (.code yX3_readWord cX3_readWord 1 none :: gw_t)) := gw_wsV ml_X3_93 (gw_mem 392 (by decide +kernel) (by decide +kernel)) (gw_mem 1 (by decide +kernel) (by decide +kernel)) (gw_mem 68 (by decide +kernel) (by decide +kernel)) cw_X3_readWord
theorem ml_X3_99 : Cond.methodLink RX3 99 yX3_readNumber ∈ gw_t := gw_mem 415 (by decide +kernel) (by decide +kernel)
theorem gd_X3_99 : GoodIn gw_t (wsV RX3 99 RX3 yX3_readNumber (.code yX3_readNumber cX3_readNumber 1 none :: gw_t)) := gw_wsV ml_X3_99 (gw_mem 417 (by decide +kernel) (by decide +kernel)) (gw_mem 3 (by decide +kernel) (by decide +kernel)) (gw_mem 68 (by decide +kernel) (by decide +kernel)) cw_X3_readNumber
theorem ml_X3_104 : Cond.methodLink RX3 104 yJ0_indexOf_0f7a4 ∈ gw_t := gw_mem 420 (by decide +kernel) (by decide +kernel)
theorem gd_X3_104 : GoodIn gw_t (wsV RX3 104 RJ0 yJ0_indexOf_0f7a4 (.code yJ0_indexOf_0f7a4 cJ0_indexOf_0f7a4 2 (some .int) :: gw_t)) := gw_wsV ml_X3_104 (gw_mem 421 (by decide +kernel) (by decide +kernel)) (gw_mem 422 (by decide +kernel) (by decide +kernel)) (gw_mem 71 (by decide +kernel) (by decide +kernel)) cw_J0_indexOf_0f7a4
theorem ml_X3_112 : Cond.methodLink RX3 112 yX3_spells ∈ gw_t := gw_mem 395 (by decide +kernel) (by decide +kernel)
theorem gd_X3_112 : GoodIn gw_t (wsV RX3 112 RX3 yX3_spells (.code yX3_spells cX3_spells 3 (some .boolean) :: gw_t)) := gw_wsV ml_X3_112 (gw_mem 397 (by decide +kernel) (by decide +kernel)) (gw_mem 2 (by decide +kernel) (by decide +kernel)) (gw_mem 68 (by decide +kernel) (by decide +kernel)) cw_X3_spells
theorem ml_X3_138 : Cond.methodLink RX3 138 yJ0_length_8abf5 ∈ gw_t := gw_mem 399 (by decide +kernel) (by decide +kernel)
theorem gd_X3_138 : GoodIn gw_t (wsV RX3 138 RJ0 yJ0_length_8abf5 (.code yJ0_length_8abf5 cJ0_length_8abf5 1 (some .int) :: gw_t)) := gw_wsV ml_X3_138 (gw_mem 328 (by decide +kernel) (by decide +kernel)) (gw_mem 329 (by decide +kernel) (by decide +kernel)) (gw_mem 71 (by decide +kernel) (by decide +kernel)) cw_J0_length_8abf5
theorem ml_X3_142 : Cond.methodLink RX3 142 yJ0_charAt_5068e ∈ gw_t := gw_mem 400 (by decide +kernel) (by decide +kernel)
theorem gd_X3_142 : GoodIn gw_t (wsV RX3 142 RJ0 yJ0_charAt_5068e (.code yJ0_charAt_5068e cJ0_charAt_5068e 2 (some .char) :: gw_t)) := gw_wsV ml_X3_142 (gw_mem 338 (by decide +kernel) (by decide +kernel)) (gw_mem 339 (by decide +kernel) (by decide +kernel)) (gw_mem 71 (by decide +kernel) (by decide +kernel)) cw_J0_charAt_5068e
theorem ml_X4_68 : Cond.methodLink RX4 68 yX0_wasCalled ∈ gw_t := gw_mem 767 (by decide +kernel) (by decide +kernel)
theorem gd_X4_68 : GoodIn gw_t (wsV RX4 68 RX0 yX0_wasCalled (.code yX0_wasCalled cX0_wasCalled 2 (some .boolean) :: gw_t)) := gw_wsV ml_X4_68 (gw_mem 696 (by decide +kernel) (by decide +kernel)) (gw_mem 697 (by decide +kernel) (by decide +kernel)) (gw_mem 69 (by decide +kernel) (by decide +kernel)) cw_X0_wasCalled
theorem ml_X4_72 : Cond.methodLink RX4 72 yX0_goOnFrom ∈ gw_t := gw_mem 768 (by decide +kernel) (by decide +kernel)
theorem gd_X4_72 : GoodIn gw_t (wsV RX4 72 RX0 yX0_goOnFrom (.code yX0_goOnFrom cX0_goOnFrom 2 none :: gw_t)) := gw_wsV ml_X4_72 (gw_mem 769 (by decide +kernel) (by decide +kernel)) (gw_mem 770 (by decide +kernel) (by decide +kernel)) (gw_mem 69 (by decide +kernel) (by decide +kernel)) cw_X0_goOnFrom
theorem ml_X4_76 : Cond.methodLink RX4 76 yX0_callSlip ∈ gw_t := gw_mem 773 (by decide +kernel) (by decide +kernel)
theorem gd_X4_76 : GoodIn gw_t (wsV RX4 76 RX0 yX0_callSlip (.code yX0_callSlip cX0_callSlip 5 none :: gw_t)) := gw_wsV ml_X4_76 (gw_mem 691 (by decide +kernel) (by decide +kernel)) (gw_mem 692 (by decide +kernel) (by decide +kernel)) (gw_mem 69 (by decide +kernel) (by decide +kernel)) cw_X0_callSlip
theorem ml_X4_50 : Cond.methodLink RX4 50 yX4_note ∈ gw_t := gw_mem 759 (by decide +kernel) (by decide +kernel)
theorem gd_X4_50 : GoodIn gw_t (wsV RX4 50 RX4 yX4_note (.code yX4_note cX4_note 4 none :: gw_t)) := gw_wsV ml_X4_50 (gw_mem 761 (by decide +kernel) (by decide +kernel)) (gw_mem 17 (by decide +kernel) (by decide +kernel)) (gw_mem 70 (by decide +kernel) (by decide +kernel)) cw_X4_note
theorem ml_X4_80 : Cond.methodLink RX4 80 yX4_losesFewer ∈ gw_t := gw_mem 774 (by decide +kernel) (by decide +kernel)
theorem gd_X4_80 : GoodIn gw_t (wsV RX4 80 RX4 yX4_losesFewer (.code yX4_losesFewer cX4_losesFewer 2 (some .boolean) :: gw_t)) := gw_wsV ml_X4_80 (gw_mem 776 (by decide +kernel) (by decide +kernel)) (gw_mem 19 (by decide +kernel) (by decide +kernel)) (gw_mem 70 (by decide +kernel) (by decide +kernel)) cw_X4_losesFewer
theorem ml_X4_54 : Cond.methodLink RX4 54 yX4_goOn ∈ gw_t := gw_mem 763 (by decide +kernel) (by decide +kernel)
theorem gd_X4_54 : GoodIn gw_t (wsV RX4 54 RX4 yX4_goOn (.code yX4_goOn cX4_goOn 6 none :: gw_t)) := gw_wsV ml_X4_54 (gw_mem 765 (by decide +kernel) (by decide +kernel)) (gw_mem 18 (by decide +kernel) (by decide +kernel)) (gw_mem 70 (by decide +kernel) (by decide +kernel)) cw_X4_goOn
theorem ml_X4_46 : Cond.methodLink RX4 46 yX0_begin ∈ gw_t := gw_mem 758 (by decide +kernel) (by decide +kernel)
theorem gd_X4_46 : GoodIn gw_t (wsV RX4 46 RX0 yX0_begin (.code yX0_begin cX0_begin 2 none :: gw_t)) := gw_wsV ml_X4_46 (gw_mem 679 (by decide +kernel) (by decide +kernel)) (gw_mem 680 (by decide +kernel) (by decide +kernel)) (gw_mem 69 (by decide +kernel) (by decide +kernel)) cw_X0_begin
theorem ml_X5_22 : Cond.methodLink RX5 22 yJ7_fill_53178 ∈ gw_t := gw_mem 895 (by decide +kernel) (by decide +kernel)
theorem gd_X5_22 : GoodIn gw_t (va_wsS RX5 22 yJ7_fill_53178 (.code yJ7_fill_53178 cJ7_fill_53178 4 none :: gw_t)) := gw_wsS ml_X5_22 (gw_mem 683 (by decide +kernel) (by decide +kernel)) (gw_mem 78 (by decide +kernel) (by decide +kernel)) cw_J7_fill_53178
theorem ml_X7_25 : Cond.methodLink RX7 25 yX7_joined ∈ gw_t := gw_mem 724 (by decide +kernel) (by decide +kernel)
theorem gd_X7_25 : GoodIn gw_t (va_wsS RX7 25 yX7_joined (.code yX7_joined cX7_joined 3 (some .int) :: gw_t)) := gw_wsS ml_X7_25 (gw_mem 725 (by decide +kernel) (by decide +kernel)) (gw_mem 77 (by decide +kernel) (by decide +kernel)) cw_X7_joined
theorem ml_X8_199 : Cond.methodLink RX8 199 yX1_become ∈ gw_t := gw_mem 867 (by decide +kernel) (by decide +kernel)
theorem gd_X8_199 : GoodIn gw_t (wsV RX8 199 RX1 yX1_become (.code yX1_become cX1_become 3 none :: gw_t)) := gw_wsV ml_X8_199 (gw_mem 868 (by decide +kernel) (by decide +kernel)) (gw_mem 869 (by decide +kernel) (by decide +kernel)) (gw_mem 65 (by decide +kernel) (by decide +kernel)) cw_X1_become
theorem ml_X8_134 : Cond.methodLink RX8 134 yX8_rule ∈ gw_t := gw_mem 674 (by decide +kernel) (by decide +kernel)
theorem gd_X8_134 : GoodIn gw_t (wsV RX8 134 RX8 yX8_rule (.code yX8_rule cX8_rule 1 (some (.object "WhoSingsNext$Text")) :: gw_t)) := gw_wsV ml_X8_134 (gw_mem 676 (by decide +kernel) (by decide +kernel)) (gw_mem 12 (by decide +kernel) (by decide +kernel)) (gw_mem 64 (by decide +kernel) (by decide +kernel)) cw_X8_rule
theorem ml_X8_152 : Cond.methodLink RX8 152 yX8_runDesk ∈ gw_t := gw_mem 786 (by decide +kernel) (by decide +kernel)
theorem gd_X8_152 : GoodIn gw_t (wsV RX8 152 RX8 yX8_runDesk (.code yX8_runDesk cX8_runDesk 3 none :: gw_t)) := gw_wsV ml_X8_152 (gw_mem 788 (by decide +kernel) (by decide +kernel)) (gw_mem 20 (by decide +kernel) (by decide +kernel)) (gw_mem 64 (by decide +kernel) (by decide +kernel)) cw_X8_runDesk
theorem ml_X8_147 : Cond.methodLink RX8 147 yX4_look ∈ gw_t := gw_mem 754 (by decide +kernel) (by decide +kernel)
theorem gd_X8_147 : GoodIn gw_t (wsV RX8 147 RX4 yX4_look (.code yX4_look cX4_look 2 none :: gw_t)) := gw_wsV ml_X8_147 (gw_mem 755 (by decide +kernel) (by decide +kernel)) (gw_mem 756 (by decide +kernel) (by decide +kernel)) (gw_mem 70 (by decide +kernel) (by decide +kernel)) cw_X4_look
theorem ml_X8_150 : Cond.methodLink RX8 150 yX4_answer ∈ gw_t := gw_mem 778 (by decide +kernel) (by decide +kernel)
theorem gd_X8_150 : GoodIn gw_t (wsV RX8 150 RX4 yX4_answer (.code yX4_answer cX4_answer 3 (some .int) :: gw_t)) := gw_wsV ml_X8_150 (gw_mem 779 (by decide +kernel) (by decide +kernel)) (gw_mem 780 (by decide +kernel) (by decide +kernel)) (gw_mem 70 (by decide +kernel) (by decide +kernel)) cw_X4_answer
theorem ml_X8_178 : Cond.methodLink RX8 178 yX8_isSheet ∈ gw_t := gw_mem 827 (by decide +kernel) (by decide +kernel)
theorem gd_X8_178 : GoodIn gw_t (va_wsS RX8 178 yX8_isSheet (.code yX8_isSheet cX8_isSheet 1 (some .boolean) :: gw_t)) := gw_wsS ml_X8_178 (gw_mem 828 (by decide +kernel) (by decide +kernel)) (gw_mem 64 (by decide +kernel) (by decide +kernel)) cw_X8_isSheet
theorem ml_X8_217 : Cond.methodLink RX8 217 yX5_holds ∈ gw_t := gw_mem 900 (by decide +kernel) (by decide +kernel)
theorem gd_X8_217 : GoodIn gw_t (wsV RX8 217 RX5 yX5_holds (.code yX5_holds cX5_holds 3 (some .boolean) :: gw_t)) := gw_wsV ml_X8_217 (gw_mem 901 (by decide +kernel) (by decide +kernel)) (gw_mem 902 (by decide +kernel) (by decide +kernel)) (gw_mem 80 (by decide +kernel) (by decide +kernel)) cw_X5_holds
theorem ml_X8_220 : Cond.methodLink RX8 220 yX5_put ∈ gw_t := gw_mem 904 (by decide +kernel) (by decide +kernel)
theorem gd_X8_220 : GoodIn gw_t (wsV RX8 220 RX5 yX5_put (.code yX5_put cX5_put 3 none :: gw_t)) := gw_wsV ml_X8_220 (gw_mem 905 (by decide +kernel) (by decide +kernel)) (gw_mem 906 (by decide +kernel) (by decide +kernel)) (gw_mem 80 (by decide +kernel) (by decide +kernel)) cw_X5_put
theorem ml_X8_136 : Cond.methodLink RX8 136 yX0_begin ∈ gw_t := gw_mem 678 (by decide +kernel) (by decide +kernel)
theorem gd_X8_136 : GoodIn gw_t (wsV RX8 136 RX0 yX0_begin (.code yX0_begin cX0_begin 2 none :: gw_t)) := gw_wsV ml_X8_136 (gw_mem 679 (by decide +kernel) (by decide +kernel)) (gw_mem 680 (by decide +kernel) (by decide +kernel)) (gw_mem 69 (by decide +kernel) (by decide +kernel)) cw_X0_begin
theorem ml_X8_191 : Cond.methodLink RX8 191 yX0_callByChance ∈ gw_t := gw_mem 846 (by decide +kernel) (by decide +kernel)
theorem gd_X8_191 : GoodIn gw_t (wsV RX8 191 RX0 yX0_callByChance (.code yX0_callByChance cX0_callByChance 4 none :: gw_t)) := gw_wsV ml_X8_191 (gw_mem 847 (by decide +kernel) (by decide +kernel)) (gw_mem 848 (by decide +kernel) (by decide +kernel)) (gw_mem 69 (by decide +kernel) (by decide +kernel)) cw_X0_callByChance
theorem ml_X8_196 : Cond.methodLink RX8 196 yX8_commonDivisor ∈ gw_t := gw_mem 860 (by decide +kernel) (by decide +kernel)
theorem gd_X8_196 : GoodIn gw_t (va_wsS RX8 196 yX8_commonDivisor (.code yX8_commonDivisor cX8_commonDivisor 3 (some .int) :: gw_t)) := gw_wsS ml_X8_196 (gw_mem 861 (by decide +kernel) (by decide +kernel)) (gw_mem 64 (by decide +kernel) (by decide +kernel)) cw_X8_commonDivisor
theorem ml_X8_106 : Cond.methodLink RX8 106 yX1_hasSlip ∈ gw_t := gw_mem 649 (by decide +kernel) (by decide +kernel)
theorem gd_X8_106 : GoodIn gw_t (wsV RX8 106 RX1 yX1_hasSlip (.code yX1_hasSlip cX1_hasSlip 2 (some .boolean) :: gw_t)) := gw_wsV ml_X8_106 (gw_mem 631 (by decide +kernel) (by decide +kernel)) (gw_mem 632 (by decide +kernel) (by decide +kernel)) (gw_mem 65 (by decide +kernel) (by decide +kernel)) cw_X1_hasSlip
theorem ml_X8_169 : Cond.methodLink RX8 169 yX0_callSlip ∈ gw_t := gw_mem 818 (by decide +kernel) (by decide +kernel)
theorem gd_X8_169 : GoodIn gw_t (wsV RX8 169 RX0 yX0_callSlip (.code yX0_callSlip cX0_callSlip 5 none :: gw_t)) := gw_wsV ml_X8_169 (gw_mem 691 (by decide +kernel) (by decide +kernel)) (gw_mem 692 (by decide +kernel) (by decide +kernel)) (gw_mem 69 (by decide +kernel) (by decide +kernel)) cw_X0_callSlip
theorem ml_X8_172 : Cond.methodLink RX8 172 yX0_callByDesk ∈ gw_t := gw_mem 794 (by decide +kernel) (by decide +kernel)
theorem gd_X8_172 : GoodIn gw_t (wsV RX8 172 RX0 yX0_callByDesk (.code yX0_callByDesk cX0_callByDesk 2 none :: gw_t)) := gw_wsV ml_X8_172 (gw_mem 795 (by decide +kernel) (by decide +kernel)) (gw_mem 796 (by decide +kernel) (by decide +kernel)) (gw_mem 69 (by decide +kernel) (by decide +kernel)) cw_X0_callByDesk
theorem ml_X8_83 : Cond.methodLink RX8 83 yX1_allows ∈ gw_t := gw_mem 602 (by decide +kernel) (by decide +kernel)
theorem gd_X8_83 : GoodIn gw_t (wsV RX8 83 RX1 yX1_allows (.code yX1_allows cX1_allows 3 (some .boolean) :: gw_t)) := gw_wsV ml_X8_83 (gw_mem 603 (by decide +kernel) (by decide +kernel)) (gw_mem 604 (by decide +kernel) (by decide +kernel)) (gw_mem 65 (by decide +kernel) (by decide +kernel)) cw_X1_allows
theorem ml_X8_87 : Cond.methodLink RX8 87 yX1_addPerson ∈ gw_t := gw_mem 610 (by decide +kernel) (by decide +kernel)
theorem gd_X8_87 : GoodIn gw_t (wsV RX8 87 RX1 yX1_addPerson (.code yX1_addPerson cX1_addPerson 3 (some .int) :: gw_t)) := gw_wsV ml_X8_87 (gw_mem 611 (by decide +kernel) (by decide +kernel)) (gw_mem 612 (by decide +kernel) (by decide +kernel)) (gw_mem 65 (by decide +kernel) (by decide +kernel)) cw_X1_addPerson
theorem ml_X8_143 : Cond.methodLink RX8 143 yX0_answer ∈ gw_t := gw_mem 742 (by decide +kernel) (by decide +kernel)
theorem gd_X8_143 : GoodIn gw_t (wsV RX8 143 RX0 yX0_answer (.code yX0_answer cX0_answer 2 (some .int) :: gw_t)) := gw_wsV ml_X8_143 (gw_mem 743 (by decide +kernel) (by decide +kernel)) (gw_mem 744 (by decide +kernel) (by decide +kernel)) (gw_mem 69 (by decide +kernel) (by decide +kernel)) cw_X0_answer
theorem ml_X8_131 : Cond.methodLink RX8 131 yX1_isRow ∈ gw_t := gw_mem 670 (by decide +kernel) (by decide +kernel)
theorem gd_X8_131 : GoodIn gw_t (wsV RX8 131 RX1 yX1_isRow (.code yX1_isRow cX1_isRow 5 (some .boolean) :: gw_t)) := gw_wsV ml_X8_131 (gw_mem 671 (by decide +kernel) (by decide +kernel)) (gw_mem 672 (by decide +kernel) (by decide +kernel)) (gw_mem 65 (by decide +kernel) (by decide +kernel)) cw_X1_isRow
theorem ml_X8_140 : Cond.methodLink RX8 140 yX0_callRow ∈ gw_t := gw_mem 685 (by decide +kernel) (by decide +kernel)
theorem gd_X8_140 : GoodIn gw_t (wsV RX8 140 RX0 yX0_callRow (.code yX0_callRow cX0_callRow 3 none :: gw_t)) := gw_wsV ml_X8_140 (gw_mem 686 (by decide +kernel) (by decide +kernel)) (gw_mem 687 (by decide +kernel) (by decide +kernel)) (gw_mem 69 (by decide +kernel) (by decide +kernel)) cw_X0_callRow
theorem ml_X8_66 : Cond.methodLink RX8 66 yX3_add ∈ gw_t := gw_mem 375 (by decide +kernel) (by decide +kernel)
theorem gd_X8_66 : GoodIn gw_t (wsV RX8 66 RX3 yX3_add (.code yX3_add cX3_add 2 (some .boolean) :: gw_t)) := gw_wsV ml_X8_66 (gw_mem 376 (by decide +kernel) (by decide +kernel)) (gw_mem 377 (by decide +kernel) (by decide +kernel)) (gw_mem 68 (by decide +kernel) (by decide +kernel)) cw_X3_add
theorem ml_X8_127 : Cond.methodLink RX8 127 yX1_follow ∈ gw_t := gw_mem 662 (by decide +kernel) (by decide +kernel)
theorem gd_X8_127 : GoodIn gw_t (wsV RX8 127 RX1 yX1_follow (.code yX1_follow cX1_follow 2 none :: gw_t)) := gw_wsV ml_X8_127 (gw_mem 663 (by decide +kernel) (by decide +kernel)) (gw_mem 664 (by decide +kernel) (by decide +kernel)) (gw_mem 65 (by decide +kernel) (by decide +kernel)) cw_X1_follow
theorem ml_X8_102 : Cond.methodLink RX8 102 yX1_change ∈ gw_t := gw_mem 640 (by decide +kernel) (by decide +kernel)
theorem gd_X8_102 : GoodIn gw_t (wsV RX8 102 RX1 yX1_change (.code yX1_change cX1_change 4 none :: gw_t)) := gw_wsV ml_X8_102 (gw_mem 641 (by decide +kernel) (by decide +kernel)) (gw_mem 642 (by decide +kernel) (by decide +kernel)) (gw_mem 65 (by decide +kernel) (by decide +kernel)) cw_X1_change
theorem ml_X8_56 : Cond.methodLink RX8 56 yJ0_length_8abf5 ∈ gw_t := gw_mem 327 (by decide +kernel) (by decide +kernel)
theorem gd_X8_56 : GoodIn gw_t (wsV RX8 56 RJ0 yJ0_length_8abf5 (.code yJ0_length_8abf5 cJ0_length_8abf5 1 (some .int) :: gw_t)) := gw_wsV ml_X8_56 (gw_mem 328 (by decide +kernel) (by decide +kernel)) (gw_mem 329 (by decide +kernel) (by decide +kernel)) (gw_mem 71 (by decide +kernel) (by decide +kernel)) cw_J0_length_8abf5
theorem ml_X8_62 : Cond.methodLink RX8 62 yJ0_charAt_5068e ∈ gw_t := gw_mem 337 (by decide +kernel) (by decide +kernel)
theorem gd_X8_62 : GoodIn gw_t (wsV RX8 62 RJ0 yJ0_charAt_5068e (.code yJ0_charAt_5068e cJ0_charAt_5068e 2 (some .char) :: gw_t)) := gw_wsV ml_X8_62 (gw_mem 338 (by decide +kernel) (by decide +kernel)) (gw_mem 339 (by decide +kernel) (by decide +kernel)) (gw_mem 71 (by decide +kernel) (by decide +kernel)) cw_J0_charAt_5068e
theorem ml_X8_70 : Cond.methodLink RX8 70 yX3_readTape ∈ gw_t := gw_mem 379 (by decide +kernel) (by decide +kernel)
theorem gd_X8_70 : GoodIn gw_t (wsV RX8 70 RX3 yX3_readTape (.code yX3_readTape cX3_readTape 1 (some .boolean) :: gw_t)) := gw_wsV ml_X8_70 (gw_mem 380 (by decide +kernel) (by decide +kernel)) (gw_mem 381 (by decide +kernel) (by decide +kernel)) (gw_mem 68 (by decide +kernel) (by decide +kernel)) cw_X3_readTape
theorem ml_X8_74 : Cond.methodLink RX8 74 yX3_made ∈ gw_t := gw_mem 514 (by decide +kernel) (by decide +kernel)
theorem gd_X8_74 : GoodIn gw_t (wsV RX8 74 RX3 yX3_made (.code yX3_made cX3_made 1 (some (.object "WhoSingsNext$Text")) :: gw_t)) := gw_wsV ml_X8_74 (gw_mem 515 (by decide +kernel) (by decide +kernel)) (gw_mem 516 (by decide +kernel) (by decide +kernel)) (gw_mem 68 (by decide +kernel) (by decide +kernel)) cw_X3_made
theorem ml_X8_184 : Cond.methodLink RX8 184 yX8_judged ∈ gw_t := gw_mem 830 (by decide +kernel) (by decide +kernel)
theorem gd_X8_184 : GoodIn gw_t (wsV RX8 184 RX8 yX8_judged (.code yX8_judged cX8_judged 4 (some .int) :: gw_t)) := gw_wsV ml_X8_184 (gw_mem 832 (by decide +kernel) (by decide +kernel)) (gw_mem 22 (by decide +kernel) (by decide +kernel)) (gw_mem 64 (by decide +kernel) (by decide +kernel)) cw_X8_judged
theorem ml_X8_238 : Cond.methodLink RX8 238 yX0_leaveOut ∈ gw_t := gw_mem 790 (by decide +kernel) (by decide +kernel)
theorem gd_X8_238 : GoodIn gw_t (wsV RX8 238 RX0 yX0_leaveOut (.code yX0_leaveOut cX0_leaveOut 2 none :: gw_t)) := gw_wsV ml_X8_238 (gw_mem 791 (by decide +kernel) (by decide +kernel)) (gw_mem 792 (by decide +kernel) (by decide +kernel)) (gw_mem 69 (by decide +kernel) (by decide +kernel)) cw_X0_leaveOut
theorem ml_X8_95 : Cond.methodLink RX8 95 yX1_hasValue ∈ gw_t := gw_mem 626 (by decide +kernel) (by decide +kernel)
theorem gd_X8_95 : GoodIn gw_t (wsV RX8 95 RX1 yX1_hasValue (.code yX1_hasValue cX1_hasValue 3 (some .boolean) :: gw_t)) := gw_wsV ml_X8_95 (gw_mem 627 (by decide +kernel) (by decide +kernel)) (gw_mem 628 (by decide +kernel) (by decide +kernel)) (gw_mem 65 (by decide +kernel) (by decide +kernel)) cw_X1_hasValue
theorem ml_X8_99 : Cond.methodLink RX8 99 yX1_valueOf ∈ gw_t := gw_mem 635 (by decide +kernel) (by decide +kernel)
theorem gd_X8_99 : GoodIn gw_t (wsV RX8 99 RX1 yX1_valueOf (.code yX1_valueOf cX1_valueOf 3 (some .int) :: gw_t)) := gw_wsV ml_X8_99 (gw_mem 636 (by decide +kernel) (by decide +kernel)) (gw_mem 637 (by decide +kernel) (by decide +kernel)) (gw_mem 65 (by decide +kernel) (by decide +kernel)) cw_X1_valueOf
theorem ml_X8_213 : Cond.methodLink RX8 213 yX5_remake ∈ gw_t := gw_mem 891 (by decide +kernel) (by decide +kernel)
theorem gd_X8_213 : GoodIn gw_t (wsV RX8 213 RX5 yX5_remake (.code yX5_remake cX5_remake 3 none :: gw_t)) := gw_wsV ml_X8_213 (gw_mem 892 (by decide +kernel) (by decide +kernel)) (gw_mem 893 (by decide +kernel) (by decide +kernel)) (gw_mem 80 (by decide +kernel) (by decide +kernel)) cw_X5_remake
theorem ml_X8_91 : Cond.methodLink RX8 91 yX1_addSlip ∈ gw_t := gw_mem 618 (by decide +kernel) (by decide +kernel)
theorem gd_X8_91 : GoodIn gw_t (wsV RX8 91 RX1 yX1_addSlip (.code yX1_addSlip cX1_addSlip 5 (some .int) :: gw_t)) := gw_wsV ml_X8_91 (gw_mem 619 (by decide +kernel) (by decide +kernel)) (gw_mem 620 (by decide +kernel) (by decide +kernel)) (gw_mem 65 (by decide +kernel) (by decide +kernel)) cw_X1_addSlip
theorem ml_X8_232 : Cond.methodLink RX8 232 yX6_isOf ∈ gw_t := gw_mem 921 (by decide +kernel) (by decide +kernel)
theorem gd_X8_232 : GoodIn gw_t (wsV RX8 232 RX6 yX6_isOf (.code yX6_isOf cX6_isOf 2 (some .boolean) :: gw_t)) := gw_wsV ml_X8_232 (gw_mem 922 (by decide +kernel) (by decide +kernel)) (gw_mem 923 (by decide +kernel) (by decide +kernel)) (gw_mem 67 (by decide +kernel) (by decide +kernel)) cw_X6_isOf
theorem ml_X8_250 : Cond.methodLink RX8 250 yJ9_min_7cf53 ∈ gw_t := gw_mem 714 (by decide +kernel) (by decide +kernel)
theorem gd_X8_250 : GoodIn gw_t (va_wsS RX8 250 yJ9_min_7cf53 (.code yJ9_min_7cf53 cJ9_min_7cf53 2 (some .int) :: gw_t)) := gw_wsS ml_X8_250 (gw_mem 439 (by decide +kernel) (by decide +kernel)) (gw_mem 75 (by decide +kernel) (by decide +kernel)) cw_J9_min_7cf53
theorem ml_X8_255 : Cond.methodLink RX8 255 yJ9_max_7cf53 ∈ gw_t := gw_mem 715 (by decide +kernel) (by decide +kernel)
theorem gd_X8_255 : GoodIn gw_t (va_wsS RX8 255 yJ9_max_7cf53 (.code yJ9_max_7cf53 cJ9_max_7cf53 2 (some .int) :: gw_t)) := gw_wsS ml_X8_255 (gw_mem 436 (by decide +kernel) (by decide +kernel)) (gw_mem 75 (by decide +kernel) (by decide +kernel)) cw_J9_max_7cf53
theorem ml_X9_225 : Cond.methodLink RX9 225 yX9_term ∈ gw_t := gw_mem 1217 (by decide +kernel) (by decide +kernel)
theorem gd_X9_225 : GoodIn gw_t (wsV RX9 225 RX9 yX9_term (.code yX9_term cX9_term 2 (some .int) :: gw_t)) := gw_wsV ml_X9_225 (gw_mem 1219 (by decide +kernel) (by decide +kernel)) (gw_mem 39 (by decide +kernel) (by decide +kernel)) (gw_mem 81 (by decide +kernel) (by decide +kernel)) cw_X9_term
theorem ml_X9_208 : Cond.methodLink RX9 208 yX9_isSign ∈ gw_t := gw_mem 1225 (by decide +kernel) (by decide +kernel)
theorem gd_X9_208 : GoodIn gw_t (wsV RX9 208 RX9 yX9_isSign (.code yX9_isSign cX9_isSign 2 (some .boolean) :: gw_t)) := gw_wsV ml_X9_208 (gw_mem 1227 (by decide +kernel) (by decide +kernel)) (gw_mem 41 (by decide +kernel) (by decide +kernel)) (gw_mem 81 (by decide +kernel) (by decide +kernel)) cw_X9_isSign
theorem ml_X9_183 : Cond.methodLink RX9 183 yX9_next ∈ gw_t := gw_mem 1169 (by decide +kernel) (by decide +kernel)
theorem gd_X9_183 : GoodIn gw_t (wsV RX9 183 RX9 yX9_next (.code yX9_next cX9_next 3 none :: gw_t)) := gw_wsV ml_X9_183 (gw_mem 1171 (by decide +kernel) (by decide +kernel)) (gw_mem 28 (by decide +kernel) (by decide +kernel)) (gw_mem 81 (by decide +kernel) (by decide +kernel)) cw_X9_next
theorem ml_X9_211 : Cond.methodLink RX9 211 yX9_opens ∈ gw_t := gw_mem 1209 (by decide +kernel) (by decide +kernel)
theorem gd_X9_211 : GoodIn gw_t (wsV RX9 211 RX9 yX9_opens (.code yX9_opens cX9_opens 1 (some .boolean) :: gw_t)) := gw_wsV ml_X9_211 (gw_mem 1211 (by decide +kernel) (by decide +kernel)) (gw_mem 37 (by decide +kernel) (by decide +kernel)) (gw_mem 81 (by decide +kernel) (by decide +kernel)) cw_X9_opens
theorem ml_X9_215 : Cond.methodLink RX9 215 yX9_atom ∈ gw_t := gw_mem 1221 (by decide +kernel) (by decide +kernel)
theorem gd_X9_215 : GoodIn gw_t (wsV RX9 215 RX9 yX9_atom (.code yX9_atom cX9_atom 2 (some .int) :: gw_t)) := gw_wsV ml_X9_215 (gw_mem 1223 (by decide +kernel) (by decide +kernel)) (gw_mem 40 (by decide +kernel) (by decide +kernel)) (gw_mem 81 (by decide +kernel) (by decide +kernel)) cw_X9_atom
theorem ml_X9_219 : Cond.methodLink RX9 219 yX9_either ∈ gw_t := gw_mem 1197 (by decide +kernel) (by decide +kernel)
theorem gd_X9_219 : GoodIn gw_t (wsV RX9 219 RX9 yX9_either (.code yX9_either cX9_either 3 (some .int) :: gw_t)) := gw_wsV ml_X9_219 (gw_mem 1199 (by decide +kernel) (by decide +kernel)) (gw_mem 34 (by decide +kernel) (by decide +kernel)) (gw_mem 81 (by decide +kernel) (by decide +kernel)) cw_X9_either
theorem ml_X9_180 : Cond.methodLink RX9 180 yX9_fail ∈ gw_t := gw_mem 1193 (by decide +kernel) (by decide +kernel)
theorem gd_X9_180 : GoodIn gw_t (wsV RX9 180 RX9 yX9_fail (.code yX9_fail cX9_fail 1 none :: gw_t)) := gw_wsV ml_X9_180 (gw_mem 1195 (by decide +kernel) (by decide +kernel)) (gw_mem 33 (by decide +kernel) (by decide +kernel)) (gw_mem 81 (by decide +kernel) (by decide +kernel)) cw_X9_fail
theorem ml_X9_222 : Cond.methodLink RX9 222 yX9_name ∈ gw_t := gw_mem 1229 (by decide +kernel) (by decide +kernel)
theorem gd_X9_222 : GoodIn gw_t (wsV RX9 222 RX9 yX9_name (.code yX9_name cX9_name 1 (some .int) :: gw_t)) := gw_wsV ml_X9_222 (gw_mem 1231 (by decide +kernel) (by decide +kernel)) (gw_mem 42 (by decide +kernel) (by decide +kernel)) (gw_mem 81 (by decide +kernel) (by decide +kernel)) cw_X9_name
theorem ml_X9_351 : Cond.methodLink RX9 351 yX9_desks ∈ gw_t := gw_mem 1321 (by decide +kernel) (by decide +kernel)
theorem gd_X9_351 : GoodIn gw_t (wsV RX9 351 RX9 yX9_desks (.code yX9_desks cX9_desks 2 none :: gw_t)) := gw_wsV ml_X9_351 (gw_mem 1323 (by decide +kernel) (by decide +kernel)) (gw_mem 57 (by decide +kernel) (by decide +kernel)) (gw_mem 81 (by decide +kernel) (by decide +kernel)) cw_X9_desks
theorem ml_X9_94 : Cond.methodLink RX9 94 yX9_in ∈ gw_t := gw_mem 1124 (by decide +kernel) (by decide +kernel)
theorem gd_X9_94 : GoodIn gw_t (va_wsS RX9 94 yX9_in (.code yX9_in cX9_in 6 (some .boolean) :: gw_t)) := gw_wsS ml_X9_94 (gw_mem 1125 (by decide +kernel) (by decide +kernel)) (gw_mem 81 (by decide +kernel) (by decide +kernel)) cw_X9_in
theorem ml_X9_296 : Cond.methodLink RX9 296 yX9_begins ∈ gw_t := gw_mem 1251 (by decide +kernel) (by decide +kernel)
theorem gd_X9_296 : GoodIn gw_t (wsV RX9 296 RX9 yX9_begins (.code yX9_begins cX9_begins 2 none :: gw_t)) := gw_wsV ml_X9_296 (gw_mem 1253 (by decide +kernel) (by decide +kernel)) (gw_mem 45 (by decide +kernel) (by decide +kernel)) (gw_mem 81 (by decide +kernel) (by decide +kernel)) cw_X9_begins
theorem ml_X9_333 : Cond.methodLink RX9 333 yX9_rows ∈ gw_t := gw_mem 1301 (by decide +kernel) (by decide +kernel)
theorem gd_X9_333 : GoodIn gw_t (wsV RX9 333 RX9 yX9_rows (.code yX9_rows cX9_rows 5 none :: gw_t)) := gw_wsV ml_X9_333 (gw_mem 1303 (by decide +kernel) (by decide +kernel)) (gw_mem 53 (by decide +kernel) (by decide +kernel)) (gw_mem 81 (by decide +kernel) (by decide +kernel)) cw_X9_rows
theorem ml_X9_230 : Cond.methodLink RX9 230 yX9_not ∈ gw_t := gw_mem 1205 (by decide +kernel) (by decide +kernel)
theorem gd_X9_230 : GoodIn gw_t (wsV RX9 230 RX9 yX9_not (.code yX9_not cX9_not 4 (some .int) :: gw_t)) := gw_wsV ml_X9_230 (gw_mem 1207 (by decide +kernel) (by decide +kernel)) (gw_mem 36 (by decide +kernel) (by decide +kernel)) (gw_mem 81 (by decide +kernel) (by decide +kernel)) cw_X9_not
theorem ml_X9_186 : Cond.methodLink RX9 186 yX9_isWord ∈ gw_t := gw_mem 1181 (by decide +kernel) (by decide +kernel)
theorem gd_X9_186 : GoodIn gw_t (wsV RX9 186 RX9 yX9_isWord (.code yX9_isWord cX9_isWord 9 (some .boolean) :: gw_t)) := gw_wsV ml_X9_186 (gw_mem 1183 (by decide +kernel) (by decide +kernel)) (gw_mem 30 (by decide +kernel) (by decide +kernel)) (gw_mem 81 (by decide +kernel) (by decide +kernel)) cw_X9_isWord
theorem ml_X9_277 : Cond.methodLink RX9 277 yX9_canSing ∈ gw_t := gw_mem 1262 (by decide +kernel) (by decide +kernel)
theorem gd_X9_277 : GoodIn gw_t (wsV RX9 277 RX9 yX9_canSing (.code yX9_canSing cX9_canSing 2 (some .boolean) :: gw_t)) := gw_wsV ml_X9_277 (gw_mem 1264 (by decide +kernel) (by decide +kernel)) (gw_mem 47 (by decide +kernel) (by decide +kernel)) (gw_mem 81 (by decide +kernel) (by decide +kernel)) cw_X9_canSing
theorem ml_X9_280 : Cond.methodLink RX9 280 yX9_moves ∈ gw_t := gw_mem 1266 (by decide +kernel) (by decide +kernel)
theorem gd_X9_280 : GoodIn gw_t (wsV RX9 280 RX9 yX9_moves (.code yX9_moves cX9_moves 6 (some .int) :: gw_t)) := gw_wsV ml_X9_280 (gw_mem 1268 (by decide +kernel) (by decide +kernel)) (gw_mem 48 (by decide +kernel) (by decide +kernel)) (gw_mem 81 (by decide +kernel) (by decide +kernel)) cw_X9_moves
theorem ml_X9_261 : Cond.methodLink RX9 261 yX9_within ∈ gw_t := gw_mem 1270 (by decide +kernel) (by decide +kernel)
theorem gd_X9_261 : GoodIn gw_t (va_wsS RX9 261 yX9_within (.code yX9_within cX9_within 3 (some .int) :: gw_t)) := gw_wsS ml_X9_261 (gw_mem 1271 (by decide +kernel) (by decide +kernel)) (gw_mem 81 (by decide +kernel) (by decide +kernel)) cw_X9_within
theorem ml_X9_283 : Cond.methodLink RX9 283 yX9_bitsOf ∈ gw_t := gw_mem 1273 (by decide +kernel) (by decide +kernel)
theorem gd_X9_283 : GoodIn gw_t (va_wsS RX9 283 yX9_bitsOf (.code yX9_bitsOf cX9_bitsOf 3 (some .int) :: gw_t)) := gw_wsS ml_X9_283 (gw_mem 1274 (by decide +kernel) (by decide +kernel)) (gw_mem 81 (by decide +kernel) (by decide +kernel)) cw_X9_bitsOf
theorem ml_X9_286 : Cond.methodLink RX9 286 yX9_thirst ∈ gw_t := gw_mem 1276 (by decide +kernel) (by decide +kernel)
theorem gd_X9_286 : GoodIn gw_t (wsV RX9 286 RX9 yX9_thirst (.code yX9_thirst cX9_thirst 5 (some .int) :: gw_t)) := gw_wsV ml_X9_286 (gw_mem 1278 (by decide +kernel) (by decide +kernel)) (gw_mem 49 (by decide +kernel) (by decide +kernel)) (gw_mem 81 (by decide +kernel) (by decide +kernel)) cw_X9_thirst
theorem ml_X9_289 : Cond.methodLink RX9 289 yX9_says ∈ gw_t := gw_mem 1280 (by decide +kernel) (by decide +kernel)
theorem gd_X9_289 : GoodIn gw_t (wsV RX9 289 RX9 yX9_says (.code yX9_says cX9_says 6 (some .int) :: gw_t)) := gw_wsV ml_X9_289 (gw_mem 1282 (by decide +kernel) (by decide +kernel)) (gw_mem 50 (by decide +kernel) (by decide +kernel)) (gw_mem 81 (by decide +kernel) (by decide +kernel)) cw_X9_says
theorem ml_X9_354 : Cond.methodLink RX9 354 yX9_isSheet ∈ gw_t := gw_mem 1357 (by decide +kernel) (by decide +kernel)
theorem gd_X9_354 : GoodIn gw_t (va_wsS RX9 354 yX9_isSheet (.code yX9_isSheet cX9_isSheet 1 (some .boolean) :: gw_t)) := gw_wsS ml_X9_354 (gw_mem 1358 (by decide +kernel) (by decide +kernel)) (gw_mem 81 (by decide +kernel) (by decide +kernel)) cw_X9_isSheet
theorem ml_X9_364 : Cond.methodLink RX9 364 yX9_draws ∈ gw_t := gw_mem 1376 (by decide +kernel) (by decide +kernel)
theorem gd_X9_364 : GoodIn gw_t (wsV RX9 364 RX9 yX9_draws (.code yX9_draws cX9_draws 6 none :: gw_t)) := gw_wsV ml_X9_364 (gw_mem 1378 (by decide +kernel) (by decide +kernel)) (gw_mem 62 (by decide +kernel) (by decide +kernel)) (gw_mem 81 (by decide +kernel) (by decide +kernel)) cw_X9_draws
theorem ml_X9_293 : Cond.methodLink RX9 293 yX9_leftMany ∈ gw_t := gw_mem 1288 (by decide +kernel) (by decide +kernel)
theorem gd_X9_293 : GoodIn gw_t (wsV RX9 293 RX9 yX9_leftMany (.code yX9_leftMany cX9_leftMany 1 (some .int) :: gw_t)) := gw_wsV ml_X9_293 (gw_mem 1290 (by decide +kernel) (by decide +kernel)) (gw_mem 52 (by decide +kernel) (by decide +kernel)) (gw_mem 81 (by decide +kernel) (by decide +kernel)) cw_X9_leftMany
theorem ml_X9_119 : Cond.methodLink RX9 119 yX9_isSlip ∈ gw_t := gw_mem 1145 (by decide +kernel) (by decide +kernel)
theorem gd_X9_119 : GoodIn gw_t (wsV RX9 119 RX9 yX9_isSlip (.code yX9_isSlip cX9_isSlip 2 (some .boolean) :: gw_t)) := gw_wsV ml_X9_119 (gw_mem 1147 (by decide +kernel) (by decide +kernel)) (gw_mem 26 (by decide +kernel) (by decide +kernel)) (gw_mem 81 (by decide +kernel) (by decide +kernel)) cw_X9_isSlip
theorem ml_X9_302 : Cond.methodLink RX9 302 yX9_calls ∈ gw_t := gw_mem 1258 (by decide +kernel) (by decide +kernel)
theorem gd_X9_302 : GoodIn gw_t (wsV RX9 302 RX9 yX9_calls (.code yX9_calls cX9_calls 6 none :: gw_t)) := gw_wsV ml_X9_302 (gw_mem 1260 (by decide +kernel) (by decide +kernel)) (gw_mem 46 (by decide +kernel) (by decide +kernel)) (gw_mem 81 (by decide +kernel) (by decide +kernel)) cw_X9_calls
theorem ml_X9_348 : Cond.methodLink RX9 348 yX9_goesOn ∈ gw_t := gw_mem 1325 (by decide +kernel) (by decide +kernel)
theorem gd_X9_348 : GoodIn gw_t (wsV RX9 348 RX9 yX9_goesOn (.code yX9_goesOn cX9_goesOn 3 none :: gw_t)) := gw_wsV ml_X9_348 (gw_mem 1327 (by decide +kernel) (by decide +kernel)) (gw_mem 58 (by decide +kernel) (by decide +kernel)) (gw_mem 81 (by decide +kernel) (by decide +kernel)) cw_X9_goesOn
theorem ml_X9_312 : Cond.methodLink RX9 312 yX9_tells ∈ gw_t := gw_mem 1284 (by decide +kernel) (by decide +kernel)
theorem gd_X9_312 : GoodIn gw_t (wsV RX9 312 RX9 yX9_tells (.code yX9_tells cX9_tells 2 (some .int) :: gw_t)) := gw_wsV ml_X9_312 (gw_mem 1286 (by decide +kernel) (by decide +kernel)) (gw_mem 51 (by decide +kernel) (by decide +kernel)) (gw_mem 81 (by decide +kernel) (by decide +kernel)) cw_X9_tells
theorem ml_X9_238 : Cond.methodLink RX9 238 yX9_both ∈ gw_t := gw_mem 1201 (by decide +kernel) (by decide +kernel)
theorem gd_X9_238 : GoodIn gw_t (wsV RX9 238 RX9 yX9_both (.code yX9_both cX9_both 3 (some .int) :: gw_t)) := gw_wsV ml_X9_238 (gw_mem 1203 (by decide +kernel) (by decide +kernel)) (gw_mem 35 (by decide +kernel) (by decide +kernel)) (gw_mem 81 (by decide +kernel) (by decide +kernel)) cw_X9_both
theorem ml_X9_306 : Cond.methodLink RX9 306 yX9_isRow ∈ gw_t := gw_mem 1243 (by decide +kernel) (by decide +kernel)
theorem gd_X9_306 : GoodIn gw_t (wsV RX9 306 RX9 yX9_isRow (.code yX9_isRow cX9_isRow 5 (some .boolean) :: gw_t)) := gw_wsV ml_X9_306 (gw_mem 1245 (by decide +kernel) (by decide +kernel)) (gw_mem 43 (by decide +kernel) (by decide +kernel)) (gw_mem 81 (by decide +kernel) (by decide +kernel)) cw_X9_isRow
theorem ml_X9_309 : Cond.methodLink RX9 309 yX9_goes ∈ gw_t := gw_mem 1247 (by decide +kernel) (by decide +kernel)
theorem gd_X9_309 : GoodIn gw_t (wsV RX9 309 RX9 yX9_goes (.code yX9_goes cX9_goes 4 none :: gw_t)) := gw_wsV ml_X9_309 (gw_mem 1249 (by decide +kernel) (by decide +kernel)) (gw_mem 44 (by decide +kernel) (by decide +kernel)) (gw_mem 81 (by decide +kernel) (by decide +kernel)) cw_X9_goes
theorem ml_X9_299 : Cond.methodLink RX9 299 yX9_sizeOf ∈ gw_t := gw_mem 1255 (by decide +kernel) (by decide +kernel)
theorem gd_X9_299 : GoodIn gw_t (va_wsS RX9 299 yX9_sizeOf (.code yX9_sizeOf cX9_sizeOf 3 (some .int) :: gw_t)) := gw_wsS ml_X9_299 (gw_mem 1256 (by decide +kernel) (by decide +kernel)) (gw_mem 81 (by decide +kernel) (by decide +kernel)) cw_X9_sizeOf
theorem ml_X9_345 : Cond.methodLink RX9 345 yX9_deskCalls ∈ gw_t := gw_mem 1329 (by decide +kernel) (by decide +kernel)
theorem gd_X9_345 : GoodIn gw_t (wsV RX9 345 RX9 yX9_deskCalls (.code yX9_deskCalls cX9_deskCalls 7 (some .int) :: gw_t)) := gw_wsV ml_X9_345 (gw_mem 1331 (by decide +kernel) (by decide +kernel)) (gw_mem 59 (by decide +kernel) (by decide +kernel)) (gw_mem 81 (by decide +kernel) (by decide +kernel)) cw_X9_deskCalls
theorem ml_X9_84 : Cond.methodLink RX9 84 yX9_spell ∈ gw_t := gw_mem 931 (by decide +kernel) (by decide +kernel)
theorem gd_X9_84 : GoodIn gw_t (wsV RX9 84 RX9 yX9_spell (.code yX9_spell cX9_spell 10 none :: gw_t)) := gw_wsV ml_X9_84 (gw_mem 933 (by decide +kernel) (by decide +kernel)) (gw_mem 24 (by decide +kernel) (by decide +kernel)) (gw_mem 81 (by decide +kernel) (by decide +kernel)) cw_X9_spell
theorem ml_X9_144 : Cond.methodLink RX9 144 yX9_byteAt ∈ gw_t := gw_mem 1173 (by decide +kernel) (by decide +kernel)
theorem gd_X9_144 : GoodIn gw_t (wsV RX9 144 RX9 yX9_byteAt (.code yX9_byteAt cX9_byteAt 2 (some .int) :: gw_t)) := gw_wsV ml_X9_144 (gw_mem 1175 (by decide +kernel) (by decide +kernel)) (gw_mem 29 (by decide +kernel) (by decide +kernel)) (gw_mem 81 (by decide +kernel) (by decide +kernel)) cw_X9_byteAt
theorem ml_X9_173 : Cond.methodLink RX9 173 yX9_isLetter ∈ gw_t := gw_mem 1185 (by decide +kernel) (by decide +kernel)
theorem gd_X9_173 : GoodIn gw_t (wsV RX9 173 RX9 yX9_isLetter (.code yX9_isLetter cX9_isLetter 3 (some .boolean) :: gw_t)) := gw_wsV ml_X9_173 (gw_mem 1187 (by decide +kernel) (by decide +kernel)) (gw_mem 31 (by decide +kernel) (by decide +kernel)) (gw_mem 81 (by decide +kernel) (by decide +kernel)) cw_X9_isLetter
theorem ml_X9_357 : Cond.methodLink RX9 357 yX9_tellBad ∈ gw_t := gw_mem 1353 (by decide +kernel) (by decide +kernel)
theorem gd_X9_357 : GoodIn gw_t (wsV RX9 357 RX9 yX9_tellBad (.code yX9_tellBad cX9_tellBad 2 (some .int) :: gw_t)) := gw_wsV ml_X9_357 (gw_mem 1355 (by decide +kernel) (by decide +kernel)) (gw_mem 60 (by decide +kernel) (by decide +kernel)) (gw_mem 81 (by decide +kernel) (by decide +kernel)) cw_X9_tellBad
theorem ml_X9_360 : Cond.methodLink RX9 360 yX9_wrongAt ∈ gw_t := gw_mem 1360 (by decide +kernel) (by decide +kernel)
theorem gd_X9_360 : GoodIn gw_t (wsV RX9 360 RX9 yX9_wrongAt (.code yX9_wrongAt cX9_wrongAt 4 (some .int) :: gw_t)) := gw_wsV ml_X9_360 (gw_mem 1362 (by decide +kernel) (by decide +kernel)) (gw_mem 61 (by decide +kernel) (by decide +kernel)) (gw_mem 81 (by decide +kernel) (by decide +kernel)) cw_X9_wrongAt
theorem ml_X9_233 : Cond.methodLink RX9 233 yX9_added ∈ gw_t := gw_mem 1213 (by decide +kernel) (by decide +kernel)
theorem gd_X9_233 : GoodIn gw_t (wsV RX9 233 RX9 yX9_added (.code yX9_added cX9_added 4 (some .int) :: gw_t)) := gw_wsV ml_X9_233 (gw_mem 1215 (by decide +kernel) (by decide +kernel)) (gw_mem 38 (by decide +kernel) (by decide +kernel)) (gw_mem 81 (by decide +kernel) (by decide +kernel)) cw_X9_added
theorem ml_X9_241 : Cond.methodLink RX9 241 yX9_part ∈ gw_t := gw_mem 1189 (by decide +kernel) (by decide +kernel)
theorem gd_X9_241 : GoodIn gw_t (wsV RX9 241 RX9 yX9_part (.code yX9_part cX9_part 3 (some .int) :: gw_t)) := gw_wsV ml_X9_241 (gw_mem 1191 (by decide +kernel) (by decide +kernel)) (gw_mem 32 (by decide +kernel) (by decide +kernel)) (gw_mem 81 (by decide +kernel) (by decide +kernel)) cw_X9_part
theorem ml_X9_324 : Cond.methodLink RX9 324 yX9_isBetter ∈ gw_t := gw_mem 1305 (by decide +kernel) (by decide +kernel)
theorem gd_X9_324 : GoodIn gw_t (wsV RX9 324 RX9 yX9_isBetter (.code yX9_isBetter cX9_isBetter 2 (some .boolean) :: gw_t)) := gw_wsV ml_X9_324 (gw_mem 1307 (by decide +kernel) (by decide +kernel)) (gw_mem 54 (by decide +kernel) (by decide +kernel)) (gw_mem 81 (by decide +kernel) (by decide +kernel)) cw_X9_isBetter
theorem ml_X9_330 : Cond.methodLink RX9 330 yX9_lays ∈ gw_t := gw_mem 1309 (by decide +kernel) (by decide +kernel)
theorem gd_X9_330 : GoodIn gw_t (wsV RX9 330 RX9 yX9_lays (.code yX9_lays cX9_lays 4 none :: gw_t)) := gw_wsV ml_X9_330 (gw_mem 1311 (by decide +kernel) (by decide +kernel)) (gw_mem 55 (by decide +kernel) (by decide +kernel)) (gw_mem 81 (by decide +kernel) (by decide +kernel)) cw_X9_lays
theorem ml_X9_337 : Cond.methodLink RX9 337 yX9_laysBack ∈ gw_t := gw_mem 1313 (by decide +kernel) (by decide +kernel)
theorem gd_X9_337 : GoodIn gw_t (wsV RX9 337 RX9 yX9_laysBack (.code yX9_laysBack cX9_laysBack 4 none :: gw_t)) := gw_wsV ml_X9_337 (gw_mem 1315 (by decide +kernel) (by decide +kernel)) (gw_mem 56 (by decide +kernel) (by decide +kernel)) (gw_mem 81 (by decide +kernel) (by decide +kernel)) cw_X9_laysBack
theorem ml_X9_245 : Cond.methodLink RX9 245 yX9_read ∈ gw_t := gw_mem 1165 (by decide +kernel) (by decide +kernel)
theorem gd_X9_245 : GoodIn gw_t (wsV RX9 245 RX9 yX9_read (.code yX9_read cX9_read 6 (some .int) :: gw_t)) := gw_wsV ml_X9_245 (gw_mem 1167 (by decide +kernel) (by decide +kernel)) (gw_mem 27 (by decide +kernel) (by decide +kernel)) (gw_mem 81 (by decide +kernel) (by decide +kernel)) cw_X9_read
theorem ml_X9_109 : Cond.methodLink RX9 109 yX9_isOne ∈ gw_t := gw_mem 1134 (by decide +kernel) (by decide +kernel)
theorem gd_X9_109 : GoodIn gw_t (wsV RX9 109 RX9 yX9_isOne (.code yX9_isOne cX9_isOne 2 (some .boolean) :: gw_t)) := gw_wsV ml_X9_109 (gw_mem 1136 (by decide +kernel) (by decide +kernel)) (gw_mem 25 (by decide +kernel) (by decide +kernel)) (gw_mem 81 (by decide +kernel) (by decide +kernel)) cw_X9_isOne
theorem ml_X9_385 : Cond.methodLink RX9 385 yX9_slip ∈ gw_t := gw_mem 1416 (by decide +kernel) (by decide +kernel)
theorem gd_X9_385 : GoodIn gw_t (wsV RX9 385 RX9 yX9_slip (.code yX9_slip cX9_slip 4 (some .int) :: gw_t)) := gw_wsV ml_X9_385 (gw_mem 1129 (by decide +kernel) (by decide +kernel)) (gw_mem 1130 (by decide +kernel) (by decide +kernel)) (gw_mem 81 (by decide +kernel) (by decide +kernel)) cw_X9_slip
theorem ml_X9_388 : Cond.methodLink RX9 388 yX9_over ∈ gw_t := gw_mem 1421 (by decide +kernel) (by decide +kernel)
theorem gd_X9_388 : GoodIn gw_t (va_wsS RX9 388 yX9_over (.code yX9_over cX9_over 1 (some .int) :: gw_t)) := gw_wsS ml_X9_388 (gw_mem 1422 (by decide +kernel) (by decide +kernel)) (gw_mem 81 (by decide +kernel) (by decide +kernel)) cw_X9_over
theorem kw_J11_76 : Cond.constant RJ11 76 (56320) ∈ gw_t := gw_mem 478 (by decide +kernel) (by decide +kernel)
theorem kw_J11_110 : Cond.constant RJ11 110 (55232) ∈ gw_t := gw_mem 474 (by decide +kernel) (by decide +kernel)
theorem kw_J2_227 : Cond.constant RJ2 227 (65536) ∈ gw_t := gw_mem 449 (by decide +kernel) (by decide +kernel)
theorem kw_J6_265 : Cond.constant RJ6 265 (1431655765) ∈ gw_t := gw_mem 730 (by decide +kernel) (by decide +kernel)
theorem kw_J6_266 : Cond.constant RJ6 266 (858993459) ∈ gw_t := gw_mem 731 (by decide +kernel) (by decide +kernel)
theorem kw_J6_267 : Cond.constant RJ6 267 (252645135) ∈ gw_t := gw_mem 732 (by decide +kernel) (by decide +kernel)
theorem kw_X0_164 : Cond.constant RX0 164 (1000000) ∈ gw_t := gw_mem 689 (by decide +kernel) (by decide +kernel)
theorem kw_X0_175 : Cond.constant RX0 175 (1103515245) ∈ gw_t := gw_mem 850 (by decide +kernel) (by decide +kernel)
theorem kw_X8_98 : Cond.constant RX8 98 (-100000) ∈ gw_t := gw_mem 634 (by decide +kernel) (by decide +kernel)
theorem kw_X8_194 : Cond.constantLong RX8 194 (-4611686018427387904) ∈ gw_t := gw_mem 859 (by decide +kernel) (by decide +kernel)
theorem kw_X9_101 : Cond.constantLong RX9 101 (99) ∈ gw_t := gw_mem 1123 (by decide +kernel) (by decide +kernel)
theorem kw_X9_103 : Cond.constantLong RX9 103 (7) ∈ gw_t := gw_mem 1127 (by decide +kernel) (by decide +kernel)
theorem kw_X9_105 : Cond.constantLong RX9 105 (5) ∈ gw_t := gw_mem 1132 (by decide +kernel) (by decide +kernel)
theorem kw_X9_107 : Cond.constantLong RX9 107 (10) ∈ gw_t := gw_mem 1133 (by decide +kernel) (by decide +kernel)
theorem kw_X9_113 : Cond.constantLong RX9 113 (6) ∈ gw_t := gw_mem 1142 (by decide +kernel) (by decide +kernel)
theorem kw_X9_115 : Cond.constantLong RX9 115 (2) ∈ gw_t := gw_mem 1143 (by decide +kernel) (by decide +kernel)
theorem kw_X9_117 : Cond.constantLong RX9 117 (4) ∈ gw_t := gw_mem 1144 (by decide +kernel) (by decide +kernel)
theorem kw_X9_122 : Cond.constant RX9 122 (-100000) ∈ gw_t := gw_mem 1149 (by decide +kernel) (by decide +kernel)
theorem kw_X9_123 : Cond.constantLong RX9 123 (-99) ∈ gw_t := gw_mem 1150 (by decide +kernel) (by decide +kernel)
theorem kw_X9_125 : Cond.constantLong RX9 125 (9) ∈ gw_t := gw_mem 1151 (by decide +kernel) (by decide +kernel)
theorem kw_X9_130 : Cond.constantLong RX9 130 (255) ∈ gw_t := gw_mem 1160 (by decide +kernel) (by decide +kernel)
theorem kw_X9_154 : Cond.constantLong RX9 154 (97) ∈ gw_t := gw_mem 1177 (by decide +kernel) (by decide +kernel)
theorem kw_X9_156 : Cond.constantLong RX9 156 (122) ∈ gw_t := gw_mem 1178 (by decide +kernel) (by decide +kernel)
theorem kw_X9_158 : Cond.constantLong RX9 158 (48) ∈ gw_t := gw_mem 1179 (by decide +kernel) (by decide +kernel)
theorem kw_X9_160 : Cond.constantLong RX9 160 (57) ∈ gw_t := gw_mem 1180 (by decide +kernel) (by decide +kernel)
theorem kw_X9_228 : Cond.constantLong RX9 228 (43) ∈ gw_t := gw_mem 1233 (by decide +kernel) (by decide +kernel)
theorem kw_X9_236 : Cond.constantLong RX9 236 (60) ∈ gw_t := gw_mem 1234 (by decide +kernel) (by decide +kernel)
theorem kw_X9_340 : Cond.constantLong RX9 340 (3) ∈ gw_t := gw_mem 1300 (by decide +kernel) (by decide +kernel)
theorem kw_X9_363 : Cond.constant RX9 363 (1103515245) ∈ gw_t := gw_mem 1380 (by decide +kernel) (by decide +kernel)
theorem kw_X9_367 : Cond.constantLong RX9 367 (20) ∈ gw_t := gw_mem 1385 (by decide +kernel) (by decide +kernel)
theorem kw_X9_369 : Cond.constantLong RX9 369 (-4611686018427387904) ∈ gw_t := gw_mem 1386 (by decide +kernel) (by decide +kernel)
theorem kw_X9_383 : Cond.constantLong RX9 383 (-1) ∈ gw_t := gw_mem 1403 (by decide +kernel) (by decide +kernel)
end
section
/-! ===== words of pure code ===== -/
def pz_lt {α β : Type} (a : α) (f : α → β) : β := f a
def pz_gd {α : Type} (c : Bool) (x : Option α) : Option α := if c = true then x else none
def pz_bd {α β : Type} (x : Option α) (f : α → Option β) : Option β := match x with
  | none => none
  | some y => f y
theorem pz_lt_e {α β : Type} {a x : α} {f : α → β} {z : β} (h : pz_lt a f = z) (e : x = a) : f x = z := by subst e; exact h
theorem pz_gd_e {α : Type} {c : Bool} {x : Option α} {z : α} (h : pz_gd c x = some z) : c = true ∧ x = some z := by
  unfold pz_gd at h
  by_cases hc : c = true
  · rw [if_pos hc] at h; exact ⟨hc, h⟩
  · rw [if_neg hc] at h; cases h
theorem pz_bd_e {α β : Type} {x : Option α} {f : α → Option β} {z : β} (h : pz_bd x f = some z) : ∃ y, x = some y ∧ f y = some z := by
  cases x with
  | none => cases h
  | some y => exact ⟨y, rfl, h⟩
theorem pz_t {α : Type} {c : Prop} [Decidable c] {a b z : α} (hc : c) (h : (if c then a else b) = z) : a = z := by rw [if_pos hc] at h; exact h
theorem pz_f {α : Type} {c : Prop} [Decidable c] {a b z : α} (hc : ¬ c) (h : (if c then a else b) = z) : b = z := by rw [if_neg hc] at h; exact h
def pz_z (v : Int32) : Bool := decide (v &&& 1 = v)
theorem pz_zn {v : Int32} (h : pz_z v = true) : narrow .boolean (.int v) = .int v := by
  unfold pz_z at h
  have h := of_decide_eq_true h
  simp only [narrow, h]
theorem ix_lt {x : Int32} {n : Nat} (h : ix_in x n = true) : x.toNatClampNeg < n := by
  unfold ix_in at h
  have h := of_decide_eq_true h
  exact Nat.not_le.mp fun q => h (Or.inr q)
theorem el_16 {i : Nat} {x : Int32} (h : i < 2) (g : ix_in x 8 = true) : 8 * i + x.toNatClampNeg < 16 := by have := ix_lt g; omega
theorem el_17 {i : Nat} {x : Int32} (h : i < 2) (g : ix_in x 7 = true) : 7 * i + x.toNatClampNeg < 14 := by have := ix_lt g; omega
theorem el_21 {x : Int32} (g : ix_in x 8 = true) : x.toNatClampNeg + 1 < 9 := by have := ix_lt g; omega
theorem ly_tx_ne {G : cx_T} {v : Int32} (h : ¬ v = -1) : ly_tx G v = .ref (cx_b G + ly_loc 7 v.toNatClampNeg) := if_neg h
theorem pz_neT {x k : Int32} (h : ¬ x = k) : x.toInt ≠ k.toInt := fun e => h (Int32.toInt_inj.mp e)
/-- outside a table: the value is none of those that stand in it -/
theorem pz_out {x : Int32} (lo hi : Int) (ks : List Int32) (hk : (List.range (hi - lo + 1).toNat).all (fun j => ks.any (fun k => k.toInt == lo + (j : Int))) = true) (h : ∀ k ∈ ks, ¬ x = k) : x.toInt < lo ∨ hi < x.toInt := by
  rcases Int.lt_or_le x.toInt lo with h1 | h1
  · exact Or.inl h1
  · rcases Int.lt_or_le hi x.toInt with h2 | h2
    · exact Or.inr h2
    · exfalso
      have hj : (x.toInt - lo).toNat < (hi - lo + 1).toNat := by omega
      have h3 := List.all_eq_true.mp hk (x.toInt - lo).toNat (List.mem_range.mpr hj)
      obtain ⟨k, hm, he⟩ := List.any_eq_true.mp h3
      have he := eq_of_beq he
      exact pz_neT (h k hm) (by omega)
section RM
variable {p : Program} {l : Launch} {e : Env} {R : Room} {s : State} {m : MethodId} {args : Array Value} {below : List Frame} {meth : Method} {c : Code} {H : Heap} {locs : List Loc} {cells slots : Nat} {Q : State → Prop}
variable {cc : ByteArray} {pc : Nat} {ls : Array Slot} {rest : List Value} {G : cx_T} {n nL : Nat} {I J : mm_T} {own : String} {ret : Option FieldType}
theorem mq_max : Cond.static Lib.Math.max.name ∈ gw_t ∧ Cond.initialized "java/lang/Math" ∈ gw_t ∧ Cond.code Lib.Math.max.name Lib.Math.max.code 2 (some .int) ∈ gw_t := ⟨gw_mem 436 (by decide +kernel) (by decide +kernel), gw_mem 75 (by decide +kernel) (by decide +kernel), gw_mem 437 (by decide +kernel) (by decide +kernel)⟩
theorem r_max (X : cx_ok G p s m args meth c cc nL own ret) (S : st_ok G n I J s H locs) (hls : ls.size = nL) {idx : Nat} (hk : Cond.methodLink own idx Lib.Math.max.name ∈ gw_t) (hf : 1 ≤ R.frames) (hlo : (rest.map fun v => v.category).sum + 13 ≤ R.locals) {x y : Int32} (hd : decode cc pc = .ok (.invokestatic idx, 3))
    (kk : W p l e R s m args below meth c H locs 0 0 Q (F0 m (pc + 3) ls (.int (if x < y then y else x) :: rest))) : W p l e R s m args below meth c H locs 0 0 Q (F0 m pc ls (.int y :: .int x :: rest)) :=
  va_mmax X.1 X.2.1 (X.2.2.1.trans hls.symm) X.2.2.2.1 (X.2.2.2.2.1 _ hk) (X.2.2.2.2.1 _ mq_max.1) (X.2.2.2.2.1 _ mq_max.2.1) (X.2.2.2.2.1 _ mq_max.2.2) hf hlo (Nat.zero_le _) (Nat.zero_le _) hd kk
theorem mq_min : Cond.static Lib.Math.min.name ∈ gw_t ∧ Cond.initialized "java/lang/Math" ∈ gw_t ∧ Cond.code Lib.Math.min.name Lib.Math.min.code 2 (some .int) ∈ gw_t := ⟨gw_mem 439 (by decide +kernel) (by decide +kernel), gw_mem 75 (by decide +kernel) (by decide +kernel), gw_mem 440 (by decide +kernel) (by decide +kernel)⟩
theorem r_min (X : cx_ok G p s m args meth c cc nL own ret) (S : st_ok G n I J s H locs) (hls : ls.size = nL) {idx : Nat} (hk : Cond.methodLink own idx Lib.Math.min.name ∈ gw_t) (hf : 1 ≤ R.frames) (hlo : (rest.map fun v => v.category).sum + 13 ≤ R.locals) {x y : Int32} (hd : decode cc pc = .ok (.invokestatic idx, 3))
    (kk : W p l e R s m args below meth c H locs 0 0 Q (F0 m (pc + 3) ls (.int (if y < x then y else x) :: rest))) : W p l e R s m args below meth c H locs 0 0 Q (F0 m pc ls (.int y :: .int x :: rest)) :=
  va_mmin X.1 X.2.1 (X.2.2.1.trans hls.symm) X.2.2.2.1 (X.2.2.2.2.1 _ hk) (X.2.2.2.2.1 _ mq_min.1) (X.2.2.2.2.1 _ mq_min.2.1) (X.2.2.2.2.1 _ mq_min.2.2) hf hlo (Nat.zero_le _) (Nat.zero_le _) hd kk
end RM
theorem mk_J1_38 : Cond.methodLink RJ1 38 Lib.Math.min.name ∈ gw_t := gw_mem 438 (by decide +kernel) (by decide +kernel)
theorem mk_J1_92 : Cond.methodLink RJ1 92 Lib.Math.max.name ∈ gw_t := gw_mem 435 (by decide +kernel) (by decide +kernel)
theorem mk_J2_183 : Cond.methodLink RJ2 183 Lib.Math.min.name ∈ gw_t := gw_mem 448 (by decide +kernel) (by decide +kernel)
theorem mk_J2_224 : Cond.methodLink RJ2 224 Lib.Math.max.name ∈ gw_t := gw_mem 447 (by decide +kernel) (by decide +kernel)
theorem mk_J7_304 : Cond.methodLink RJ7 304 Lib.Math.min.name ∈ gw_t := gw_mem 530 (by decide +kernel) (by decide +kernel)
theorem mk_X0_143 : Cond.methodLink RX0 143 Lib.Math.max.name ∈ gw_t := gw_mem 737 (by decide +kernel) (by decide +kernel)
theorem mk_X8_250 : Cond.methodLink RX8 250 Lib.Math.min.name ∈ gw_t := gw_mem 714 (by decide +kernel) (by decide +kernel)
theorem mk_X8_255 : Cond.methodLink RX8 255 Lib.Math.max.name ∈ gw_t := gw_mem 715 (by decide +kernel) (by decide +kernel)
end
section
theorem dX1_init_0 : decode cX1_init 0 = .ok (.aload_n 0, 1) := by decide +kernel
theorem dX1_init_1 : decode cX1_init 1 = .ok (.invokespecial 3, 3) := by decide +kernel
theorem dX1_init_4 : decode cX1_init 4 = .ok (.aload_n 0, 1) := by decide +kernel
theorem dX1_init_5 : decode cX1_init 5 = .ok (.bipush 8, 2) := by decide +kernel
theorem dX1_init_7 : decode cX1_init 7 = .ok (.anewarray 9, 3) := by decide +kernel
theorem dX1_init_10 : decode cX1_init 10 = .ok (.putfield 11, 3) := by decide +kernel
theorem dX1_init_13 : decode cX1_init 13 = .ok (.aload_n 0, 1) := by decide +kernel
theorem dX1_init_14 : decode cX1_init 14 = .ok (.bipush 7, 2) := by decide +kernel
theorem dX1_init_16 : decode cX1_init 16 = .ok (.anewarray 17, 3) := by decide +kernel
theorem dX1_init_19 : decode cX1_init 19 = .ok (.putfield 19, 3) := by decide +kernel
theorem dX1_init_22 : decode cX1_init 22 = .ok (.aload_n 0, 1) := by decide +kernel
theorem dX1_init_23 : decode cX1_init 23 = .ok (.bipush 60, 2) := by decide +kernel
theorem dX1_init_25 : decode cX1_init 25 = .ok (.putfield 23, 3) := by decide +kernel
theorem dX1_init_28 : decode cX1_init 28 = .ok (.iconst 0, 1) := by decide +kernel
theorem dX1_init_29 : decode cX1_init 29 = .ok (.istore_n 1, 1) := by decide +kernel
theorem dX1_init_30 : decode cX1_init 30 = .ok (.iload_n 1, 1) := by decide +kernel
theorem dX1_init_31 : decode cX1_init 31 = .ok (.bipush 8, 2) := by decide +kernel
theorem dX1_init_33 : decode cX1_init 33 = .ok (.if_icmp .ge 22, 3) := by decide +kernel
theorem dX1_init_36 : decode cX1_init 36 = .ok (.aload_n 0, 1) := by decide +kernel
theorem dX1_init_37 : decode cX1_init 37 = .ok (.getfield 11, 3) := by decide +kernel
theorem dX1_init_40 : decode cX1_init 40 = .ok (.iload_n 1, 1) := by decide +kernel
theorem dX1_init_41 : decode cX1_init 41 = .ok (.new 9, 3) := by decide +kernel
theorem dX1_init_44 : decode cX1_init 44 = .ok (.dup, 1) := by decide +kernel
theorem dX1_init_45 : decode cX1_init 45 = .ok (.invokespecial 27, 3) := by decide +kernel
theorem dX1_init_48 : decode cX1_init 48 = .ok (.aastore, 1) := by decide +kernel
theorem dX1_init_49 : decode cX1_init 49 = .ok (.iinc 1 1, 3) := by decide +kernel
theorem dX1_init_52 : decode cX1_init 52 = .ok (.goto (-22), 3) := by decide +kernel
theorem dX1_init_55 : decode cX1_init 55 = .ok (.iconst 0, 1) := by decide +kernel
theorem dX1_init_56 : decode cX1_init 56 = .ok (.istore_n 1, 1) := by decide +kernel
theorem dX1_init_57 : decode cX1_init 57 = .ok (.iload_n 1, 1) := by decide +kernel
theorem dX1_init_58 : decode cX1_init 58 = .ok (.bipush 7, 2) := by decide +kernel
theorem dX1_init_60 : decode cX1_init 60 = .ok (.if_icmp .ge 22, 3) := by decide +kernel
theorem dX1_init_63 : decode cX1_init 63 = .ok (.aload_n 0, 1) := by decide +kernel
theorem dX1_init_64 : decode cX1_init 64 = .ok (.getfield 19, 3) := by decide +kernel
theorem dX1_init_67 : decode cX1_init 67 = .ok (.iload_n 1, 1) := by decide +kernel
theorem dX1_init_68 : decode cX1_init 68 = .ok (.new 17, 3) := by decide +kernel
theorem dX1_init_71 : decode cX1_init 71 = .ok (.dup, 1) := by decide +kernel
theorem dX1_init_72 : decode cX1_init 72 = .ok (.invokespecial 28, 3) := by decide +kernel
theorem dX1_init_75 : decode cX1_init 75 = .ok (.aastore, 1) := by decide +kernel
theorem dX1_init_76 : decode cX1_init 76 = .ok (.iinc 1 1, 3) := by decide +kernel
theorem dX1_init_79 : decode cX1_init 79 = .ok (.goto (-22), 3) := by decide +kernel
theorem dX1_init_82 : decode cX1_init 82 = .ok (.return_, 1) := by decide +kernel
theorem dX1_hasPerson_0 : decode cX1_hasPerson 0 = .ok (.iload_n 1, 1) := by decide +kernel
theorem dX1_hasPerson_1 : decode cX1_hasPerson 1 = .ok (.ifCond .lt 15, 3) := by decide +kernel
theorem dX1_hasPerson_4 : decode cX1_hasPerson 4 = .ok (.iload_n 1, 1) := by decide +kernel
theorem dX1_hasPerson_5 : decode cX1_hasPerson 5 = .ok (.aload_n 0, 1) := by decide +kernel
theorem dX1_hasPerson_6 : decode cX1_hasPerson 6 = .ok (.getfield 29, 3) := by decide +kernel
theorem dX1_hasPerson_9 : decode cX1_hasPerson 9 = .ok (.if_icmp .ge 7, 3) := by decide +kernel
theorem dX1_hasPerson_12 : decode cX1_hasPerson 12 = .ok (.iconst 1, 1) := by decide +kernel
theorem dX1_hasPerson_13 : decode cX1_hasPerson 13 = .ok (.goto 4, 3) := by decide +kernel
theorem dX1_hasPerson_16 : decode cX1_hasPerson 16 = .ok (.iconst 0, 1) := by decide +kernel
theorem dX1_hasPerson_17 : decode cX1_hasPerson 17 = .ok (.ireturn, 1) := by decide +kernel
theorem dX1_hasSlip_0 : decode cX1_hasSlip 0 = .ok (.iload_n 1, 1) := by decide +kernel
theorem dX1_hasSlip_1 : decode cX1_hasSlip 1 = .ok (.ifCond .lt 15, 3) := by decide +kernel
theorem dX1_hasSlip_4 : decode cX1_hasSlip 4 = .ok (.iload_n 1, 1) := by decide +kernel
theorem dX1_hasSlip_5 : decode cX1_hasSlip 5 = .ok (.aload_n 0, 1) := by decide +kernel
theorem dX1_hasSlip_6 : decode cX1_hasSlip 6 = .ok (.getfield 32, 3) := by decide +kernel
theorem dX1_hasSlip_9 : decode cX1_hasSlip 9 = .ok (.if_icmp .ge 7, 3) := by decide +kernel
theorem dX1_hasSlip_12 : decode cX1_hasSlip 12 = .ok (.iconst 1, 1) := by decide +kernel
theorem dX1_hasSlip_13 : decode cX1_hasSlip 13 = .ok (.goto 4, 3) := by decide +kernel
theorem dX1_hasSlip_16 : decode cX1_hasSlip 16 = .ok (.iconst 0, 1) := by decide +kernel
theorem dX1_hasSlip_17 : decode cX1_hasSlip 17 = .ok (.ireturn, 1) := by decide +kernel
theorem dX1_groupOf_0 : decode cX1_groupOf 0 = .ok (.aload_n 0, 1) := by decide +kernel
theorem dX1_groupOf_1 : decode cX1_groupOf 1 = .ok (.getfield 11, 3) := by decide +kernel
theorem dX1_groupOf_4 : decode cX1_groupOf 4 = .ok (.aload_n 1, 1) := by decide +kernel
theorem dX1_groupOf_5 : decode cX1_groupOf 5 = .ok (.getfield 35, 3) := by decide +kernel
theorem dX1_groupOf_8 : decode cX1_groupOf 8 = .ok (.aaload, 1) := by decide +kernel
theorem dX1_groupOf_9 : decode cX1_groupOf 9 = .ok (.getfield 38, 3) := by decide +kernel
theorem dX1_groupOf_12 : decode cX1_groupOf 12 = .ok (.ireturn, 1) := by decide +kernel
theorem dX1_addPerson_0 : decode cX1_addPerson 0 = .ok (.aload_n 0, 1) := by decide +kernel
theorem dX1_addPerson_1 : decode cX1_addPerson 1 = .ok (.getfield 29, 3) := by decide +kernel
theorem dX1_addPerson_4 : decode cX1_addPerson 4 = .ok (.bipush 8, 2) := by decide +kernel
theorem dX1_addPerson_6 : decode cX1_addPerson 6 = .ok (.if_icmp .lt 6, 3) := by decide +kernel
theorem dX1_addPerson_9 : decode cX1_addPerson 9 = .ok (.bipush (-4), 2) := by decide +kernel
theorem dX1_addPerson_11 : decode cX1_addPerson 11 = .ok (.ireturn, 1) := by decide +kernel
theorem dX1_addPerson_12 : decode cX1_addPerson 12 = .ok (.aload_n 0, 1) := by decide +kernel
theorem dX1_addPerson_13 : decode cX1_addPerson 13 = .ok (.getfield 11, 3) := by decide +kernel
theorem dX1_addPerson_16 : decode cX1_addPerson 16 = .ok (.aload_n 0, 1) := by decide +kernel
theorem dX1_addPerson_17 : decode cX1_addPerson 17 = .ok (.getfield 29, 3) := by decide +kernel
theorem dX1_addPerson_20 : decode cX1_addPerson 20 = .ok (.aaload, 1) := by decide +kernel
theorem dX1_addPerson_21 : decode cX1_addPerson 21 = .ok (.iload_n 1, 1) := by decide +kernel
theorem dX1_addPerson_22 : decode cX1_addPerson 22 = .ok (.putfield 41, 3) := by decide +kernel
theorem dX1_addPerson_25 : decode cX1_addPerson 25 = .ok (.aload_n 0, 1) := by decide +kernel
theorem dX1_addPerson_26 : decode cX1_addPerson 26 = .ok (.getfield 11, 3) := by decide +kernel
theorem dX1_addPerson_29 : decode cX1_addPerson 29 = .ok (.aload_n 0, 1) := by decide +kernel
theorem dX1_addPerson_30 : decode cX1_addPerson 30 = .ok (.getfield 29, 3) := by decide +kernel
theorem dX1_addPerson_33 : decode cX1_addPerson 33 = .ok (.aaload, 1) := by decide +kernel
theorem dX1_addPerson_34 : decode cX1_addPerson 34 = .ok (.iload_n 2, 1) := by decide +kernel
theorem dX1_addPerson_35 : decode cX1_addPerson 35 = .ok (.putfield 38, 3) := by decide +kernel
theorem dX1_addPerson_38 : decode cX1_addPerson 38 = .ok (.aload_n 0, 1) := by decide +kernel
theorem dX1_addPerson_39 : decode cX1_addPerson 39 = .ok (.dup, 1) := by decide +kernel
theorem dX1_addPerson_40 : decode cX1_addPerson 40 = .ok (.getfield 29, 3) := by decide +kernel
theorem dX1_addPerson_43 : decode cX1_addPerson 43 = .ok (.iconst 1, 1) := by decide +kernel
theorem dX1_addPerson_44 : decode cX1_addPerson 44 = .ok (.iadd, 1) := by decide +kernel
theorem dX1_addPerson_45 : decode cX1_addPerson 45 = .ok (.putfield 29, 3) := by decide +kernel
theorem dX1_addPerson_48 : decode cX1_addPerson 48 = .ok (.aload_n 0, 1) := by decide +kernel
theorem dX1_addPerson_49 : decode cX1_addPerson 49 = .ok (.dup, 1) := by decide +kernel
theorem dX1_addPerson_50 : decode cX1_addPerson 50 = .ok (.getfield 44, 3) := by decide +kernel
theorem dX1_addPerson_53 : decode cX1_addPerson 53 = .ok (.iconst 1, 1) := by decide +kernel
theorem dX1_addPerson_54 : decode cX1_addPerson 54 = .ok (.iadd, 1) := by decide +kernel
theorem dX1_addPerson_55 : decode cX1_addPerson 55 = .ok (.putfield 44, 3) := by decide +kernel
theorem dX1_addPerson_58 : decode cX1_addPerson 58 = .ok (.aload_n 0, 1) := by decide +kernel
theorem dX1_addPerson_59 : decode cX1_addPerson 59 = .ok (.getfield 29, 3) := by decide +kernel
theorem dX1_addPerson_62 : decode cX1_addPerson 62 = .ok (.iconst 1, 1) := by decide +kernel
theorem dX1_addPerson_63 : decode cX1_addPerson 63 = .ok (.isub, 1) := by decide +kernel
theorem dX1_addPerson_64 : decode cX1_addPerson 64 = .ok (.ireturn, 1) := by decide +kernel
theorem dX1_addSlip_0 : decode cX1_addSlip 0 = .ok (.iload_n 1, 1) := by decide +kernel
theorem dX1_addSlip_1 : decode cX1_addSlip 1 = .ok (.ifCond .lt 28, 3) := by decide +kernel
theorem dX1_addSlip_4 : decode cX1_addSlip 4 = .ok (.iload_n 1, 1) := by decide +kernel
theorem dX1_addSlip_5 : decode cX1_addSlip 5 = .ok (.iconst 5, 1) := by decide +kernel
theorem dX1_addSlip_6 : decode cX1_addSlip 6 = .ok (.if_icmp .gt 23, 3) := by decide +kernel
theorem dX1_addSlip_9 : decode cX1_addSlip 9 = .ok (.iload_n 2, 1) := by decide +kernel
theorem dX1_addSlip_10 : decode cX1_addSlip 10 = .ok (.bipush 10, 2) := by decide +kernel
theorem dX1_addSlip_12 : decode cX1_addSlip 12 = .ok (.if_icmp .lt 17, 3) := by decide +kernel
theorem dX1_addSlip_15 : decode cX1_addSlip 15 = .ok (.iload_n 2, 1) := by decide +kernel
theorem dX1_addSlip_16 : decode cX1_addSlip 16 = .ok (.bipush 99, 2) := by decide +kernel
theorem dX1_addSlip_18 : decode cX1_addSlip 18 = .ok (.if_icmp .gt 11, 3) := by decide +kernel
theorem dX1_addSlip_21 : decode cX1_addSlip 21 = .ok (.aload_n 0, 1) := by decide +kernel
theorem dX1_addSlip_22 : decode cX1_addSlip 22 = .ok (.iload_n 3, 1) := by decide +kernel
theorem dX1_addSlip_23 : decode cX1_addSlip 23 = .ok (.invokevirtual 47, 3) := by decide +kernel
theorem dX1_addSlip_26 : decode cX1_addSlip 26 = .ok (.ifCond .ne 6, 3) := by decide +kernel
theorem dX1_addSlip_29 : decode cX1_addSlip 29 = .ok (.bipush (-2), 2) := by decide +kernel
theorem dX1_addSlip_31 : decode cX1_addSlip 31 = .ok (.ireturn, 1) := by decide +kernel
theorem dX1_addSlip_32 : decode cX1_addSlip 32 = .ok (.aload_n 0, 1) := by decide +kernel
theorem dX1_addSlip_33 : decode cX1_addSlip 33 = .ok (.getfield 32, 3) := by decide +kernel
theorem dX1_addSlip_36 : decode cX1_addSlip 36 = .ok (.bipush 7, 2) := by decide +kernel
theorem dX1_addSlip_38 : decode cX1_addSlip 38 = .ok (.if_icmp .lt 6, 3) := by decide +kernel
theorem dX1_addSlip_41 : decode cX1_addSlip 41 = .ok (.bipush (-4), 2) := by decide +kernel
theorem dX1_addSlip_43 : decode cX1_addSlip 43 = .ok (.ireturn, 1) := by decide +kernel
theorem dX1_addSlip_44 : decode cX1_addSlip 44 = .ok (.aload_n 0, 1) := by decide +kernel
theorem dX1_addSlip_45 : decode cX1_addSlip 45 = .ok (.getfield 19, 3) := by decide +kernel
theorem dX1_addSlip_48 : decode cX1_addSlip 48 = .ok (.aload_n 0, 1) := by decide +kernel
theorem dX1_addSlip_49 : decode cX1_addSlip 49 = .ok (.getfield 32, 3) := by decide +kernel
theorem dX1_addSlip_52 : decode cX1_addSlip 52 = .ok (.aaload, 1) := by decide +kernel
theorem dX1_addSlip_53 : decode cX1_addSlip 53 = .ok (.astore 4, 2) := by decide +kernel
theorem dX1_addSlip_55 : decode cX1_addSlip 55 = .ok (.aload 4, 2) := by decide +kernel
theorem dX1_addSlip_57 : decode cX1_addSlip 57 = .ok (.iload_n 1, 1) := by decide +kernel
theorem dX1_addSlip_58 : decode cX1_addSlip 58 = .ok (.putfield 51, 3) := by decide +kernel
theorem dX1_addSlip_61 : decode cX1_addSlip 61 = .ok (.aload 4, 2) := by decide +kernel
theorem dX1_addSlip_63 : decode cX1_addSlip 63 = .ok (.iload_n 2, 1) := by decide +kernel
theorem dX1_addSlip_64 : decode cX1_addSlip 64 = .ok (.bipush 10, 2) := by decide +kernel
theorem dX1_addSlip_66 : decode cX1_addSlip 66 = .ok (.irem, 1) := by decide +kernel
theorem dX1_addSlip_67 : decode cX1_addSlip 67 = .ok (.putfield 54, 3) := by decide +kernel
theorem dX1_addSlip_70 : decode cX1_addSlip 70 = .ok (.aload 4, 2) := by decide +kernel
theorem dX1_addSlip_72 : decode cX1_addSlip 72 = .ok (.iload_n 2, 1) := by decide +kernel
theorem dX1_addSlip_73 : decode cX1_addSlip 73 = .ok (.bipush 10, 2) := by decide +kernel
theorem dX1_addSlip_75 : decode cX1_addSlip 75 = .ok (.idiv, 1) := by decide +kernel
theorem dX1_addSlip_76 : decode cX1_addSlip 76 = .ok (.putfield 57, 3) := by decide +kernel
theorem dX1_addSlip_79 : decode cX1_addSlip 79 = .ok (.aload 4, 2) := by decide +kernel
theorem dX1_addSlip_81 : decode cX1_addSlip 81 = .ok (.iload_n 3, 1) := by decide +kernel
theorem dX1_addSlip_82 : decode cX1_addSlip 82 = .ok (.putfield 35, 3) := by decide +kernel
theorem dX1_addSlip_85 : decode cX1_addSlip 85 = .ok (.aload_n 0, 1) := by decide +kernel
theorem dX1_addSlip_86 : decode cX1_addSlip 86 = .ok (.dup, 1) := by decide +kernel
theorem dX1_addSlip_87 : decode cX1_addSlip 87 = .ok (.getfield 32, 3) := by decide +kernel
theorem dX1_addSlip_90 : decode cX1_addSlip 90 = .ok (.iconst 1, 1) := by decide +kernel
theorem dX1_addSlip_91 : decode cX1_addSlip 91 = .ok (.iadd, 1) := by decide +kernel
theorem dX1_addSlip_92 : decode cX1_addSlip 92 = .ok (.putfield 32, 3) := by decide +kernel
theorem dX1_addSlip_95 : decode cX1_addSlip 95 = .ok (.aload_n 0, 1) := by decide +kernel
theorem dX1_addSlip_96 : decode cX1_addSlip 96 = .ok (.dup, 1) := by decide +kernel
theorem dX1_addSlip_97 : decode cX1_addSlip 97 = .ok (.getfield 44, 3) := by decide +kernel
theorem dX1_addSlip_100 : decode cX1_addSlip 100 = .ok (.iconst 1, 1) := by decide +kernel
theorem dX1_addSlip_101 : decode cX1_addSlip 101 = .ok (.iadd, 1) := by decide +kernel
theorem dX1_addSlip_102 : decode cX1_addSlip 102 = .ok (.putfield 44, 3) := by decide +kernel
theorem dX1_addSlip_105 : decode cX1_addSlip 105 = .ok (.aload_n 0, 1) := by decide +kernel
theorem dX1_addSlip_106 : decode cX1_addSlip 106 = .ok (.getfield 32, 3) := by decide +kernel
theorem dX1_addSlip_109 : decode cX1_addSlip 109 = .ok (.iconst 1, 1) := by decide +kernel
theorem dX1_addSlip_110 : decode cX1_addSlip 110 = .ok (.isub, 1) := by decide +kernel
theorem dX1_addSlip_111 : decode cX1_addSlip 111 = .ok (.ireturn, 1) := by decide +kernel
theorem dX1_hasValue_0 : decode cX1_hasValue 0 = .ok (.iload_n 1, 1) := by decide +kernel
theorem dX1_hasValue_1 : decode cX1_hasValue 1 = .ok (.tableswitch 57 0 6 #[43, 43, 49, 49, 49, 55, 55], 43) := by decide +kernel
theorem dX1_hasValue_44 : decode cX1_hasValue 44 = .ok (.aload_n 0, 1) := by decide +kernel
theorem dX1_hasValue_45 : decode cX1_hasValue 45 = .ok (.iload_n 2, 1) := by decide +kernel
theorem dX1_hasValue_46 : decode cX1_hasValue 46 = .ok (.invokevirtual 47, 3) := by decide +kernel
theorem dX1_hasValue_49 : decode cX1_hasValue 49 = .ok (.ireturn, 1) := by decide +kernel
theorem dX1_hasValue_50 : decode cX1_hasValue 50 = .ok (.aload_n 0, 1) := by decide +kernel
theorem dX1_hasValue_51 : decode cX1_hasValue 51 = .ok (.iload_n 2, 1) := by decide +kernel
theorem dX1_hasValue_52 : decode cX1_hasValue 52 = .ok (.invokevirtual 60, 3) := by decide +kernel
theorem dX1_hasValue_55 : decode cX1_hasValue 55 = .ok (.ireturn, 1) := by decide +kernel
theorem dX1_hasValue_56 : decode cX1_hasValue 56 = .ok (.iconst 1, 1) := by decide +kernel
theorem dX1_hasValue_57 : decode cX1_hasValue 57 = .ok (.ireturn, 1) := by decide +kernel
theorem dX1_hasValue_58 : decode cX1_hasValue 58 = .ok (.iconst 0, 1) := by decide +kernel
theorem dX1_hasValue_59 : decode cX1_hasValue 59 = .ok (.ireturn, 1) := by decide +kernel
theorem dX1_allows_0 : decode cX1_allows 0 = .ok (.iload_n 1, 1) := by decide +kernel
theorem dX1_allows_1 : decode cX1_allows 1 = .ok (.tableswitch 149 0 6 #[43, 59, 75, 91, 108, 114, 132], 43) := by decide +kernel
theorem dX1_allows_44 : decode cX1_allows 44 = .ok (.iload_n 2, 1) := by decide +kernel
theorem dX1_allows_45 : decode cX1_allows 45 = .ok (.ifCond .lt 13, 3) := by decide +kernel
theorem dX1_allows_48 : decode cX1_allows 48 = .ok (.iload_n 2, 1) := by decide +kernel
theorem dX1_allows_49 : decode cX1_allows 49 = .ok (.bipush 99, 2) := by decide +kernel
theorem dX1_allows_51 : decode cX1_allows 51 = .ok (.if_icmp .gt 7, 3) := by decide +kernel
theorem dX1_allows_54 : decode cX1_allows 54 = .ok (.iconst 1, 1) := by decide +kernel
theorem dX1_allows_55 : decode cX1_allows 55 = .ok (.goto 4, 3) := by decide +kernel
theorem dX1_allows_58 : decode cX1_allows 58 = .ok (.iconst 0, 1) := by decide +kernel
theorem dX1_allows_59 : decode cX1_allows 59 = .ok (.ireturn, 1) := by decide +kernel
theorem dX1_allows_60 : decode cX1_allows 60 = .ok (.iload_n 2, 1) := by decide +kernel
theorem dX1_allows_61 : decode cX1_allows 61 = .ok (.ifCond .lt 13, 3) := by decide +kernel
theorem dX1_allows_64 : decode cX1_allows 64 = .ok (.iload_n 2, 1) := by decide +kernel
theorem dX1_allows_65 : decode cX1_allows 65 = .ok (.bipush 8, 2) := by decide +kernel
theorem dX1_allows_67 : decode cX1_allows 67 = .ok (.if_icmp .ge 7, 3) := by decide +kernel
theorem dX1_allows_70 : decode cX1_allows 70 = .ok (.iconst 1, 1) := by decide +kernel
theorem dX1_allows_71 : decode cX1_allows 71 = .ok (.goto 4, 3) := by decide +kernel
theorem dX1_allows_74 : decode cX1_allows 74 = .ok (.iconst 0, 1) := by decide +kernel
theorem dX1_allows_75 : decode cX1_allows 75 = .ok (.ireturn, 1) := by decide +kernel
theorem dX1_allows_76 : decode cX1_allows 76 = .ok (.iload_n 2, 1) := by decide +kernel
theorem dX1_allows_77 : decode cX1_allows 77 = .ok (.ifCond .lt 13, 3) := by decide +kernel
theorem dX1_allows_80 : decode cX1_allows 80 = .ok (.iload_n 2, 1) := by decide +kernel
theorem dX1_allows_81 : decode cX1_allows 81 = .ok (.bipush 9, 2) := by decide +kernel
theorem dX1_allows_83 : decode cX1_allows 83 = .ok (.if_icmp .gt 7, 3) := by decide +kernel
theorem dX1_allows_86 : decode cX1_allows 86 = .ok (.iconst 1, 1) := by decide +kernel
theorem dX1_allows_87 : decode cX1_allows 87 = .ok (.goto 4, 3) := by decide +kernel
theorem dX1_allows_90 : decode cX1_allows 90 = .ok (.iconst 0, 1) := by decide +kernel
theorem dX1_allows_91 : decode cX1_allows 91 = .ok (.ireturn, 1) := by decide +kernel
theorem dX1_allows_92 : decode cX1_allows 92 = .ok (.iload_n 2, 1) := by decide +kernel
theorem dX1_allows_93 : decode cX1_allows 93 = .ok (.iconst 1, 1) := by decide +kernel
theorem dX1_allows_94 : decode cX1_allows 94 = .ok (.if_icmp .lt 13, 3) := by decide +kernel
theorem dX1_allows_97 : decode cX1_allows 97 = .ok (.iload_n 2, 1) := by decide +kernel
theorem dX1_allows_98 : decode cX1_allows 98 = .ok (.bipush 9, 2) := by decide +kernel
theorem dX1_allows_100 : decode cX1_allows 100 = .ok (.if_icmp .gt 7, 3) := by decide +kernel
theorem dX1_allows_103 : decode cX1_allows 103 = .ok (.iconst 1, 1) := by decide +kernel
theorem dX1_allows_104 : decode cX1_allows 104 = .ok (.goto 4, 3) := by decide +kernel
theorem dX1_allows_107 : decode cX1_allows 107 = .ok (.iconst 0, 1) := by decide +kernel
theorem dX1_allows_108 : decode cX1_allows 108 = .ok (.ireturn, 1) := by decide +kernel
theorem dX1_allows_109 : decode cX1_allows 109 = .ok (.aload_n 0, 1) := by decide +kernel
theorem dX1_allows_110 : decode cX1_allows 110 = .ok (.iload_n 2, 1) := by decide +kernel
theorem dX1_allows_111 : decode cX1_allows 111 = .ok (.invokevirtual 47, 3) := by decide +kernel
theorem dX1_allows_114 : decode cX1_allows 114 = .ok (.ireturn, 1) := by decide +kernel
theorem dX1_allows_115 : decode cX1_allows 115 = .ok (.iload_n 2, 1) := by decide +kernel
theorem dX1_allows_116 : decode cX1_allows 116 = .ok (.bipush (-99), 2) := by decide +kernel
theorem dX1_allows_118 : decode cX1_allows 118 = .ok (.if_icmp .lt 13, 3) := by decide +kernel
theorem dX1_allows_121 : decode cX1_allows 121 = .ok (.iload_n 2, 1) := by decide +kernel
theorem dX1_allows_122 : decode cX1_allows 122 = .ok (.bipush 99, 2) := by decide +kernel
theorem dX1_allows_124 : decode cX1_allows 124 = .ok (.if_icmp .gt 7, 3) := by decide +kernel
theorem dX1_allows_127 : decode cX1_allows 127 = .ok (.iconst 1, 1) := by decide +kernel
theorem dX1_allows_128 : decode cX1_allows 128 = .ok (.goto 4, 3) := by decide +kernel
theorem dX1_allows_131 : decode cX1_allows 131 = .ok (.iconst 0, 1) := by decide +kernel
theorem dX1_allows_132 : decode cX1_allows 132 = .ok (.ireturn, 1) := by decide +kernel
theorem dX1_allows_133 : decode cX1_allows 133 = .ok (.iload_n 2, 1) := by decide +kernel
theorem dX1_allows_134 : decode cX1_allows 134 = .ok (.iconst 1, 1) := by decide +kernel
theorem dX1_allows_135 : decode cX1_allows 135 = .ok (.if_icmp .lt 13, 3) := by decide +kernel
theorem dX1_allows_138 : decode cX1_allows 138 = .ok (.iload_n 2, 1) := by decide +kernel
theorem dX1_allows_139 : decode cX1_allows 139 = .ok (.bipush 99, 2) := by decide +kernel
theorem dX1_allows_141 : decode cX1_allows 141 = .ok (.if_icmp .gt 7, 3) := by decide +kernel
theorem dX1_allows_144 : decode cX1_allows 144 = .ok (.iconst 1, 1) := by decide +kernel
theorem dX1_allows_145 : decode cX1_allows 145 = .ok (.goto 4, 3) := by decide +kernel
theorem dX1_allows_148 : decode cX1_allows 148 = .ok (.iconst 0, 1) := by decide +kernel
theorem dX1_allows_149 : decode cX1_allows 149 = .ok (.ireturn, 1) := by decide +kernel
theorem dX1_allows_150 : decode cX1_allows 150 = .ok (.iconst 0, 1) := by decide +kernel
theorem dX1_allows_151 : decode cX1_allows 151 = .ok (.ireturn, 1) := by decide +kernel
theorem dX1_valueOf_0 : decode cX1_valueOf 0 = .ok (.aload_n 0, 1) := by decide +kernel
theorem dX1_valueOf_1 : decode cX1_valueOf 1 = .ok (.iload_n 1, 1) := by decide +kernel
theorem dX1_valueOf_2 : decode cX1_valueOf 2 = .ok (.iload_n 2, 1) := by decide +kernel
theorem dX1_valueOf_3 : decode cX1_valueOf 3 = .ok (.invokevirtual 63, 3) := by decide +kernel
theorem dX1_valueOf_6 : decode cX1_valueOf 6 = .ok (.ifCond .ne 6, 3) := by decide +kernel
theorem dX1_valueOf_9 : decode cX1_valueOf 9 = .ok (.bipush (-2), 2) := by decide +kernel
theorem dX1_valueOf_11 : decode cX1_valueOf 11 = .ok (.ireturn, 1) := by decide +kernel
theorem dX1_valueOf_12 : decode cX1_valueOf 12 = .ok (.iload_n 1, 1) := by decide +kernel
theorem dX1_valueOf_13 : decode cX1_valueOf 13 = .ok (.tableswitch 94 0 5 #[39, 49, 59, 69, 79, 89], 39) := by decide +kernel
theorem dX1_valueOf_52 : decode cX1_valueOf 52 = .ok (.aload_n 0, 1) := by decide +kernel
theorem dX1_valueOf_53 : decode cX1_valueOf 53 = .ok (.getfield 11, 3) := by decide +kernel
theorem dX1_valueOf_56 : decode cX1_valueOf 56 = .ok (.iload_n 2, 1) := by decide +kernel
theorem dX1_valueOf_57 : decode cX1_valueOf 57 = .ok (.aaload, 1) := by decide +kernel
theorem dX1_valueOf_58 : decode cX1_valueOf 58 = .ok (.getfield 41, 3) := by decide +kernel
theorem dX1_valueOf_61 : decode cX1_valueOf 61 = .ok (.ireturn, 1) := by decide +kernel
theorem dX1_valueOf_62 : decode cX1_valueOf 62 = .ok (.aload_n 0, 1) := by decide +kernel
theorem dX1_valueOf_63 : decode cX1_valueOf 63 = .ok (.getfield 11, 3) := by decide +kernel
theorem dX1_valueOf_66 : decode cX1_valueOf 66 = .ok (.iload_n 2, 1) := by decide +kernel
theorem dX1_valueOf_67 : decode cX1_valueOf 67 = .ok (.aaload, 1) := by decide +kernel
theorem dX1_valueOf_68 : decode cX1_valueOf 68 = .ok (.getfield 38, 3) := by decide +kernel
theorem dX1_valueOf_71 : decode cX1_valueOf 71 = .ok (.ireturn, 1) := by decide +kernel
theorem dX1_valueOf_72 : decode cX1_valueOf 72 = .ok (.aload_n 0, 1) := by decide +kernel
theorem dX1_valueOf_73 : decode cX1_valueOf 73 = .ok (.getfield 19, 3) := by decide +kernel
theorem dX1_valueOf_76 : decode cX1_valueOf 76 = .ok (.iload_n 2, 1) := by decide +kernel
theorem dX1_valueOf_77 : decode cX1_valueOf 77 = .ok (.aaload, 1) := by decide +kernel
theorem dX1_valueOf_78 : decode cX1_valueOf 78 = .ok (.getfield 54, 3) := by decide +kernel
theorem dX1_valueOf_81 : decode cX1_valueOf 81 = .ok (.ireturn, 1) := by decide +kernel
theorem dX1_valueOf_82 : decode cX1_valueOf 82 = .ok (.aload_n 0, 1) := by decide +kernel
theorem dX1_valueOf_83 : decode cX1_valueOf 83 = .ok (.getfield 19, 3) := by decide +kernel
theorem dX1_valueOf_86 : decode cX1_valueOf 86 = .ok (.iload_n 2, 1) := by decide +kernel
theorem dX1_valueOf_87 : decode cX1_valueOf 87 = .ok (.aaload, 1) := by decide +kernel
theorem dX1_valueOf_88 : decode cX1_valueOf 88 = .ok (.getfield 57, 3) := by decide +kernel
theorem dX1_valueOf_91 : decode cX1_valueOf 91 = .ok (.ireturn, 1) := by decide +kernel
theorem dX1_valueOf_92 : decode cX1_valueOf 92 = .ok (.aload_n 0, 1) := by decide +kernel
theorem dX1_valueOf_93 : decode cX1_valueOf 93 = .ok (.getfield 19, 3) := by decide +kernel
theorem dX1_valueOf_96 : decode cX1_valueOf 96 = .ok (.iload_n 2, 1) := by decide +kernel
theorem dX1_valueOf_97 : decode cX1_valueOf 97 = .ok (.aaload, 1) := by decide +kernel
theorem dX1_valueOf_98 : decode cX1_valueOf 98 = .ok (.getfield 35, 3) := by decide +kernel
theorem dX1_valueOf_101 : decode cX1_valueOf 101 = .ok (.ireturn, 1) := by decide +kernel
theorem dX1_valueOf_102 : decode cX1_valueOf 102 = .ok (.aload_n 0, 1) := by decide +kernel
theorem dX1_valueOf_103 : decode cX1_valueOf 103 = .ok (.getfield 67, 3) := by decide +kernel
theorem dX1_valueOf_106 : decode cX1_valueOf 106 = .ok (.ireturn, 1) := by decide +kernel
theorem dX1_valueOf_107 : decode cX1_valueOf 107 = .ok (.aload_n 0, 1) := by decide +kernel
theorem dX1_valueOf_108 : decode cX1_valueOf 108 = .ok (.getfield 23, 3) := by decide +kernel
theorem dX1_valueOf_111 : decode cX1_valueOf 111 = .ok (.ireturn, 1) := by decide +kernel
theorem dX1_change_0 : decode cX1_change 0 = .ok (.aload_n 0, 1) := by decide +kernel
theorem dX1_change_1 : decode cX1_change 1 = .ok (.iload_n 1, 1) := by decide +kernel
theorem dX1_change_2 : decode cX1_change 2 = .ok (.iload_n 2, 1) := by decide +kernel
theorem dX1_change_3 : decode cX1_change 3 = .ok (.invokevirtual 63, 3) := by decide +kernel
theorem dX1_change_6 : decode cX1_change 6 = .ok (.ifCond .eq 12, 3) := by decide +kernel
theorem dX1_change_9 : decode cX1_change 9 = .ok (.aload_n 0, 1) := by decide +kernel
theorem dX1_change_10 : decode cX1_change 10 = .ok (.iload_n 1, 1) := by decide +kernel
theorem dX1_change_11 : decode cX1_change 11 = .ok (.iload_n 3, 1) := by decide +kernel
theorem dX1_change_12 : decode cX1_change 12 = .ok (.invokevirtual 70, 3) := by decide +kernel
theorem dX1_change_15 : decode cX1_change 15 = .ok (.ifCond .ne 4, 3) := by decide +kernel
theorem dX1_change_18 : decode cX1_change 18 = .ok (.return_, 1) := by decide +kernel
theorem dX1_change_19 : decode cX1_change 19 = .ok (.iload_n 1, 1) := by decide +kernel
theorem dX1_change_20 : decode cX1_change 20 = .ok (.tableswitch 113 0 5 #[40, 53, 66, 79, 92, 105], 40) := by decide +kernel
theorem dX1_change_60 : decode cX1_change 60 = .ok (.aload_n 0, 1) := by decide +kernel
theorem dX1_change_61 : decode cX1_change 61 = .ok (.getfield 11, 3) := by decide +kernel
theorem dX1_change_64 : decode cX1_change 64 = .ok (.iload_n 2, 1) := by decide +kernel
theorem dX1_change_65 : decode cX1_change 65 = .ok (.aaload, 1) := by decide +kernel
theorem dX1_change_66 : decode cX1_change 66 = .ok (.iload_n 3, 1) := by decide +kernel
theorem dX1_change_67 : decode cX1_change 67 = .ok (.putfield 41, 3) := by decide +kernel
theorem dX1_change_70 : decode cX1_change 70 = .ok (.goto 68, 3) := by decide +kernel
theorem dX1_change_73 : decode cX1_change 73 = .ok (.aload_n 0, 1) := by decide +kernel
theorem dX1_change_74 : decode cX1_change 74 = .ok (.getfield 11, 3) := by decide +kernel
theorem dX1_change_77 : decode cX1_change 77 = .ok (.iload_n 2, 1) := by decide +kernel
theorem dX1_change_78 : decode cX1_change 78 = .ok (.aaload, 1) := by decide +kernel
theorem dX1_change_79 : decode cX1_change 79 = .ok (.iload_n 3, 1) := by decide +kernel
theorem dX1_change_80 : decode cX1_change 80 = .ok (.putfield 38, 3) := by decide +kernel
theorem dX1_change_83 : decode cX1_change 83 = .ok (.goto 55, 3) := by decide +kernel
theorem dX1_change_86 : decode cX1_change 86 = .ok (.aload_n 0, 1) := by decide +kernel
theorem dX1_change_87 : decode cX1_change 87 = .ok (.getfield 19, 3) := by decide +kernel
theorem dX1_change_90 : decode cX1_change 90 = .ok (.iload_n 2, 1) := by decide +kernel
theorem dX1_change_91 : decode cX1_change 91 = .ok (.aaload, 1) := by decide +kernel
theorem dX1_change_92 : decode cX1_change 92 = .ok (.iload_n 3, 1) := by decide +kernel
theorem dX1_change_93 : decode cX1_change 93 = .ok (.putfield 54, 3) := by decide +kernel
theorem dX1_change_96 : decode cX1_change 96 = .ok (.goto 42, 3) := by decide +kernel
theorem dX1_change_99 : decode cX1_change 99 = .ok (.aload_n 0, 1) := by decide +kernel
theorem dX1_change_100 : decode cX1_change 100 = .ok (.getfield 19, 3) := by decide +kernel
theorem dX1_change_103 : decode cX1_change 103 = .ok (.iload_n 2, 1) := by decide +kernel
theorem dX1_change_104 : decode cX1_change 104 = .ok (.aaload, 1) := by decide +kernel
theorem dX1_change_105 : decode cX1_change 105 = .ok (.iload_n 3, 1) := by decide +kernel
theorem dX1_change_106 : decode cX1_change 106 = .ok (.putfield 57, 3) := by decide +kernel
theorem dX1_change_109 : decode cX1_change 109 = .ok (.goto 29, 3) := by decide +kernel
theorem dX1_change_112 : decode cX1_change 112 = .ok (.aload_n 0, 1) := by decide +kernel
theorem dX1_change_113 : decode cX1_change 113 = .ok (.getfield 19, 3) := by decide +kernel
theorem dX1_change_116 : decode cX1_change 116 = .ok (.iload_n 2, 1) := by decide +kernel
theorem dX1_change_117 : decode cX1_change 117 = .ok (.aaload, 1) := by decide +kernel
theorem dX1_change_118 : decode cX1_change 118 = .ok (.iload_n 3, 1) := by decide +kernel
theorem dX1_change_119 : decode cX1_change 119 = .ok (.putfield 35, 3) := by decide +kernel
theorem dX1_change_122 : decode cX1_change 122 = .ok (.goto 16, 3) := by decide +kernel
theorem dX1_change_125 : decode cX1_change 125 = .ok (.aload_n 0, 1) := by decide +kernel
theorem dX1_change_126 : decode cX1_change 126 = .ok (.iload_n 3, 1) := by decide +kernel
theorem dX1_change_127 : decode cX1_change 127 = .ok (.putfield 67, 3) := by decide +kernel
theorem dX1_change_130 : decode cX1_change 130 = .ok (.goto 8, 3) := by decide +kernel
theorem dX1_change_133 : decode cX1_change 133 = .ok (.aload_n 0, 1) := by decide +kernel
theorem dX1_change_134 : decode cX1_change 134 = .ok (.iload_n 3, 1) := by decide +kernel
theorem dX1_change_135 : decode cX1_change 135 = .ok (.putfield 23, 3) := by decide +kernel
theorem dX1_change_138 : decode cX1_change 138 = .ok (.aload_n 0, 1) := by decide +kernel
theorem dX1_change_139 : decode cX1_change 139 = .ok (.dup, 1) := by decide +kernel
theorem dX1_change_140 : decode cX1_change 140 = .ok (.getfield 44, 3) := by decide +kernel
theorem dX1_change_143 : decode cX1_change 143 = .ok (.iconst 1, 1) := by decide +kernel
theorem dX1_change_144 : decode cX1_change 144 = .ok (.iadd, 1) := by decide +kernel
theorem dX1_change_145 : decode cX1_change 145 = .ok (.putfield 44, 3) := by decide +kernel
theorem dX1_change_148 : decode cX1_change 148 = .ok (.return_, 1) := by decide +kernel
theorem dX1_follow_0 : decode cX1_follow 0 = .ok (.aload_n 0, 1) := by decide +kernel
theorem dX1_follow_1 : decode cX1_follow 1 = .ok (.iload_n 1, 1) := by decide +kernel
theorem dX1_follow_2 : decode cX1_follow 2 = .ok (.putfield 73, 3) := by decide +kernel
theorem dX1_follow_5 : decode cX1_follow 5 = .ok (.aload_n 0, 1) := by decide +kernel
theorem dX1_follow_6 : decode cX1_follow 6 = .ok (.dup, 1) := by decide +kernel
theorem dX1_follow_7 : decode cX1_follow 7 = .ok (.getfield 44, 3) := by decide +kernel
theorem dX1_follow_10 : decode cX1_follow 10 = .ok (.iconst 1, 1) := by decide +kernel
theorem dX1_follow_11 : decode cX1_follow 11 = .ok (.iadd, 1) := by decide +kernel
theorem dX1_follow_12 : decode cX1_follow 12 = .ok (.putfield 44, 3) := by decide +kernel
theorem dX1_follow_15 : decode cX1_follow 15 = .ok (.return_, 1) := by decide +kernel
theorem dX1_become_0 : decode cX1_become 0 = .ok (.iconst 0, 1) := by decide +kernel
theorem dX1_become_1 : decode cX1_become 1 = .ok (.istore_n 2, 1) := by decide +kernel
theorem dX1_become_2 : decode cX1_become 2 = .ok (.iload_n 2, 1) := by decide +kernel
theorem dX1_become_3 : decode cX1_become 3 = .ok (.bipush 8, 2) := by decide +kernel
theorem dX1_become_5 : decode cX1_become 5 = .ok (.if_icmp .ge 24, 3) := by decide +kernel
theorem dX1_become_8 : decode cX1_become 8 = .ok (.aload_n 0, 1) := by decide +kernel
theorem dX1_become_9 : decode cX1_become 9 = .ok (.getfield 11, 3) := by decide +kernel
theorem dX1_become_12 : decode cX1_become 12 = .ok (.iload_n 2, 1) := by decide +kernel
theorem dX1_become_13 : decode cX1_become 13 = .ok (.aaload, 1) := by decide +kernel
theorem dX1_become_14 : decode cX1_become 14 = .ok (.aload_n 1, 1) := by decide +kernel
theorem dX1_become_15 : decode cX1_become 15 = .ok (.getfield 11, 3) := by decide +kernel
theorem dX1_become_18 : decode cX1_become 18 = .ok (.iload_n 2, 1) := by decide +kernel
theorem dX1_become_19 : decode cX1_become 19 = .ok (.aaload, 1) := by decide +kernel
theorem dX1_become_20 : decode cX1_become 20 = .ok (.invokevirtual 76, 3) := by decide +kernel
theorem dX1_become_23 : decode cX1_become 23 = .ok (.iinc 2 1, 3) := by decide +kernel
theorem dX1_become_26 : decode cX1_become 26 = .ok (.goto (-24), 3) := by decide +kernel
theorem dX1_become_29 : decode cX1_become 29 = .ok (.iconst 0, 1) := by decide +kernel
theorem dX1_become_30 : decode cX1_become 30 = .ok (.istore_n 2, 1) := by decide +kernel
theorem dX1_become_31 : decode cX1_become 31 = .ok (.iload_n 2, 1) := by decide +kernel
theorem dX1_become_32 : decode cX1_become 32 = .ok (.bipush 7, 2) := by decide +kernel
theorem dX1_become_34 : decode cX1_become 34 = .ok (.if_icmp .ge 24, 3) := by decide +kernel
theorem dX1_become_37 : decode cX1_become 37 = .ok (.aload_n 0, 1) := by decide +kernel
theorem dX1_become_38 : decode cX1_become 38 = .ok (.getfield 19, 3) := by decide +kernel
theorem dX1_become_41 : decode cX1_become 41 = .ok (.iload_n 2, 1) := by decide +kernel
theorem dX1_become_42 : decode cX1_become 42 = .ok (.aaload, 1) := by decide +kernel
theorem dX1_become_43 : decode cX1_become 43 = .ok (.aload_n 1, 1) := by decide +kernel
theorem dX1_become_44 : decode cX1_become 44 = .ok (.getfield 19, 3) := by decide +kernel
theorem dX1_become_47 : decode cX1_become 47 = .ok (.iload_n 2, 1) := by decide +kernel
theorem dX1_become_48 : decode cX1_become 48 = .ok (.aaload, 1) := by decide +kernel
theorem dX1_become_49 : decode cX1_become 49 = .ok (.invokevirtual 80, 3) := by decide +kernel
theorem dX1_become_52 : decode cX1_become 52 = .ok (.iinc 2 1, 3) := by decide +kernel
theorem dX1_become_55 : decode cX1_become 55 = .ok (.goto (-24), 3) := by decide +kernel
theorem dX1_become_58 : decode cX1_become 58 = .ok (.aload_n 0, 1) := by decide +kernel
theorem dX1_become_59 : decode cX1_become 59 = .ok (.aload_n 1, 1) := by decide +kernel
theorem dX1_become_60 : decode cX1_become 60 = .ok (.getfield 29, 3) := by decide +kernel
theorem dX1_become_63 : decode cX1_become 63 = .ok (.putfield 29, 3) := by decide +kernel
theorem dX1_become_66 : decode cX1_become 66 = .ok (.aload_n 0, 1) := by decide +kernel
theorem dX1_become_67 : decode cX1_become 67 = .ok (.aload_n 1, 1) := by decide +kernel
theorem dX1_become_68 : decode cX1_become 68 = .ok (.getfield 32, 3) := by decide +kernel
theorem dX1_become_71 : decode cX1_become 71 = .ok (.putfield 32, 3) := by decide +kernel
theorem dX1_become_74 : decode cX1_become 74 = .ok (.aload_n 0, 1) := by decide +kernel
theorem dX1_become_75 : decode cX1_become 75 = .ok (.aload_n 1, 1) := by decide +kernel
theorem dX1_become_76 : decode cX1_become 76 = .ok (.getfield 67, 3) := by decide +kernel
theorem dX1_become_79 : decode cX1_become 79 = .ok (.putfield 67, 3) := by decide +kernel
theorem dX1_become_82 : decode cX1_become 82 = .ok (.aload_n 0, 1) := by decide +kernel
theorem dX1_become_83 : decode cX1_become 83 = .ok (.aload_n 1, 1) := by decide +kernel
theorem dX1_become_84 : decode cX1_become 84 = .ok (.getfield 23, 3) := by decide +kernel
theorem dX1_become_87 : decode cX1_become 87 = .ok (.putfield 23, 3) := by decide +kernel
theorem dX1_become_90 : decode cX1_become 90 = .ok (.aload_n 0, 1) := by decide +kernel
theorem dX1_become_91 : decode cX1_become 91 = .ok (.aload_n 1, 1) := by decide +kernel
theorem dX1_become_92 : decode cX1_become 92 = .ok (.getfield 73, 3) := by decide +kernel
theorem dX1_become_95 : decode cX1_become 95 = .ok (.putfield 73, 3) := by decide +kernel
theorem dX1_become_98 : decode cX1_become 98 = .ok (.aload_n 0, 1) := by decide +kernel
theorem dX1_become_99 : decode cX1_become 99 = .ok (.dup, 1) := by decide +kernel
theorem dX1_become_100 : decode cX1_become 100 = .ok (.getfield 44, 3) := by decide +kernel
theorem dX1_become_103 : decode cX1_become 103 = .ok (.iconst 1, 1) := by decide +kernel
theorem dX1_become_104 : decode cX1_become 104 = .ok (.iadd, 1) := by decide +kernel
theorem dX1_become_105 : decode cX1_become 105 = .ok (.putfield 44, 3) := by decide +kernel
theorem dX1_become_108 : decode cX1_become 108 = .ok (.return_, 1) := by decide +kernel
theorem dX1_isRow_0 : decode cX1_isRow 0 = .ok (.iload_n 1, 1) := by decide +kernel
theorem dX1_isRow_1 : decode cX1_isRow 1 = .ok (.ifCond .ge 5, 3) := by decide +kernel
theorem dX1_isRow_4 : decode cX1_isRow 4 = .ok (.iconst 0, 1) := by decide +kernel
theorem dX1_isRow_5 : decode cX1_isRow 5 = .ok (.ireturn, 1) := by decide +kernel
theorem dX1_isRow_6 : decode cX1_isRow 6 = .ok (.iconst 0, 1) := by decide +kernel
theorem dX1_isRow_7 : decode cX1_isRow 7 = .ok (.istore_n 2, 1) := by decide +kernel
theorem dX1_isRow_8 : decode cX1_isRow 8 = .ok (.iload_n 1, 1) := by decide +kernel
theorem dX1_isRow_9 : decode cX1_isRow 9 = .ok (.istore_n 3, 1) := by decide +kernel
theorem dX1_isRow_10 : decode cX1_isRow 10 = .ok (.iload_n 3, 1) := by decide +kernel
theorem dX1_isRow_11 : decode cX1_isRow 11 = .ok (.ifCond .le 47, 3) := by decide +kernel
theorem dX1_isRow_14 : decode cX1_isRow 14 = .ok (.iload_n 3, 1) := by decide +kernel
theorem dX1_isRow_15 : decode cX1_isRow 15 = .ok (.bipush 10, 2) := by decide +kernel
theorem dX1_isRow_17 : decode cX1_isRow 17 = .ok (.irem, 1) := by decide +kernel
theorem dX1_isRow_18 : decode cX1_isRow 18 = .ok (.iconst 1, 1) := by decide +kernel
theorem dX1_isRow_19 : decode cX1_isRow 19 = .ok (.isub, 1) := by decide +kernel
theorem dX1_isRow_20 : decode cX1_isRow 20 = .ok (.istore 4, 2) := by decide +kernel
theorem dX1_isRow_22 : decode cX1_isRow 22 = .ok (.aload_n 0, 1) := by decide +kernel
theorem dX1_isRow_23 : decode cX1_isRow 23 = .ok (.iload 4, 2) := by decide +kernel
theorem dX1_isRow_25 : decode cX1_isRow 25 = .ok (.invokevirtual 60, 3) := by decide +kernel
theorem dX1_isRow_28 : decode cX1_isRow 28 = .ok (.ifCond .eq 13, 3) := by decide +kernel
theorem dX1_isRow_31 : decode cX1_isRow 31 = .ok (.iload_n 2, 1) := by decide +kernel
theorem dX1_isRow_32 : decode cX1_isRow 32 = .ok (.iload 4, 2) := by decide +kernel
theorem dX1_isRow_34 : decode cX1_isRow 34 = .ok (.ishr, 1) := by decide +kernel
theorem dX1_isRow_35 : decode cX1_isRow 35 = .ok (.iconst 1, 1) := by decide +kernel
theorem dX1_isRow_36 : decode cX1_isRow 36 = .ok (.iand, 1) := by decide +kernel
theorem dX1_isRow_37 : decode cX1_isRow 37 = .ok (.iconst 1, 1) := by decide +kernel
theorem dX1_isRow_38 : decode cX1_isRow 38 = .ok (.if_icmp .ne 5, 3) := by decide +kernel
theorem dX1_isRow_41 : decode cX1_isRow 41 = .ok (.iconst 0, 1) := by decide +kernel
theorem dX1_isRow_42 : decode cX1_isRow 42 = .ok (.ireturn, 1) := by decide +kernel
theorem dX1_isRow_43 : decode cX1_isRow 43 = .ok (.iload_n 2, 1) := by decide +kernel
theorem dX1_isRow_44 : decode cX1_isRow 44 = .ok (.iconst 1, 1) := by decide +kernel
theorem dX1_isRow_45 : decode cX1_isRow 45 = .ok (.iload 4, 2) := by decide +kernel
theorem dX1_isRow_47 : decode cX1_isRow 47 = .ok (.ishl, 1) := by decide +kernel
theorem dX1_isRow_48 : decode cX1_isRow 48 = .ok (.ior, 1) := by decide +kernel
theorem dX1_isRow_49 : decode cX1_isRow 49 = .ok (.istore_n 2, 1) := by decide +kernel
theorem dX1_isRow_50 : decode cX1_isRow 50 = .ok (.iload_n 3, 1) := by decide +kernel
theorem dX1_isRow_51 : decode cX1_isRow 51 = .ok (.bipush 10, 2) := by decide +kernel
theorem dX1_isRow_53 : decode cX1_isRow 53 = .ok (.idiv, 1) := by decide +kernel
theorem dX1_isRow_54 : decode cX1_isRow 54 = .ok (.istore_n 3, 1) := by decide +kernel
theorem dX1_isRow_55 : decode cX1_isRow 55 = .ok (.goto (-45), 3) := by decide +kernel
theorem dX1_isRow_58 : decode cX1_isRow 58 = .ok (.iconst 1, 1) := by decide +kernel
theorem dX1_isRow_59 : decode cX1_isRow 59 = .ok (.ireturn, 1) := by decide +kernel
end
section
theorem dX2_init_0 : decode cX2_init 0 = .ok (.aload_n 0, 1) := by decide +kernel
theorem dX2_init_1 : decode cX2_init 1 = .ok (.invokespecial 1, 3) := by decide +kernel
theorem dX2_init_4 : decode cX2_init 4 = .ok (.return_, 1) := by decide +kernel
theorem dX2_become_0 : decode cX2_become 0 = .ok (.aload_n 0, 1) := by decide +kernel
theorem dX2_become_1 : decode cX2_become 1 = .ok (.aload_n 1, 1) := by decide +kernel
theorem dX2_become_2 : decode cX2_become 2 = .ok (.getfield 7, 3) := by decide +kernel
theorem dX2_become_5 : decode cX2_become 5 = .ok (.putfield 7, 3) := by decide +kernel
theorem dX2_become_8 : decode cX2_become 8 = .ok (.aload_n 0, 1) := by decide +kernel
theorem dX2_become_9 : decode cX2_become 9 = .ok (.aload_n 1, 1) := by decide +kernel
theorem dX2_become_10 : decode cX2_become 10 = .ok (.getfield 13, 3) := by decide +kernel
theorem dX2_become_13 : decode cX2_become 13 = .ok (.putfield 13, 3) := by decide +kernel
theorem dX2_become_16 : decode cX2_become 16 = .ok (.return_, 1) := by decide +kernel
end
section
theorem dX6_init_0 : decode cX6_init 0 = .ok (.aload_n 0, 1) := by decide +kernel
theorem dX6_init_1 : decode cX6_init 1 = .ok (.invokespecial 3, 3) := by decide +kernel
theorem dX6_init_4 : decode cX6_init 4 = .ok (.return_, 1) := by decide +kernel
theorem dX6_become_0 : decode cX6_become 0 = .ok (.aload_n 0, 1) := by decide +kernel
theorem dX6_become_1 : decode cX6_become 1 = .ok (.aload_n 1, 1) := by decide +kernel
theorem dX6_become_2 : decode cX6_become 2 = .ok (.getfield 9, 3) := by decide +kernel
theorem dX6_become_5 : decode cX6_become 5 = .ok (.putfield 9, 3) := by decide +kernel
theorem dX6_become_8 : decode cX6_become 8 = .ok (.aload_n 0, 1) := by decide +kernel
theorem dX6_become_9 : decode cX6_become 9 = .ok (.aload_n 1, 1) := by decide +kernel
theorem dX6_become_10 : decode cX6_become 10 = .ok (.getfield 15, 3) := by decide +kernel
theorem dX6_become_13 : decode cX6_become 13 = .ok (.putfield 15, 3) := by decide +kernel
theorem dX6_become_16 : decode cX6_become 16 = .ok (.aload_n 0, 1) := by decide +kernel
theorem dX6_become_17 : decode cX6_become 17 = .ok (.aload_n 1, 1) := by decide +kernel
theorem dX6_become_18 : decode cX6_become 18 = .ok (.getfield 18, 3) := by decide +kernel
theorem dX6_become_21 : decode cX6_become 21 = .ok (.putfield 18, 3) := by decide +kernel
theorem dX6_become_24 : decode cX6_become 24 = .ok (.aload_n 0, 1) := by decide +kernel
theorem dX6_become_25 : decode cX6_become 25 = .ok (.aload_n 1, 1) := by decide +kernel
theorem dX6_become_26 : decode cX6_become 26 = .ok (.getfield 21, 3) := by decide +kernel
theorem dX6_become_29 : decode cX6_become 29 = .ok (.putfield 21, 3) := by decide +kernel
theorem dX6_become_32 : decode cX6_become 32 = .ok (.return_, 1) := by decide +kernel
theorem dX6_moves_0 : decode cX6_moves 0 = .ok (.aload_n 0, 1) := by decide +kernel
theorem dX6_moves_1 : decode cX6_moves 1 = .ok (.getfield 9, 3) := by decide +kernel
theorem dX6_moves_4 : decode cX6_moves 4 = .ok (.tableswitch 96 1 5 #[36, 43, 50, 65, 87], 36) := by decide +kernel
theorem dX6_moves_40 : decode cX6_moves 40 = .ok (.iconst 1, 1) := by decide +kernel
theorem dX6_moves_41 : decode cX6_moves 41 = .ok (.aload_n 0, 1) := by decide +kernel
theorem dX6_moves_42 : decode cX6_moves 42 = .ok (.getfield 15, 3) := by decide +kernel
theorem dX6_moves_45 : decode cX6_moves 45 = .ok (.isub, 1) := by decide +kernel
theorem dX6_moves_46 : decode cX6_moves 46 = .ok (.ireturn, 1) := by decide +kernel
theorem dX6_moves_47 : decode cX6_moves 47 = .ok (.iconst 1, 1) := by decide +kernel
theorem dX6_moves_48 : decode cX6_moves 48 = .ok (.aload_n 0, 1) := by decide +kernel
theorem dX6_moves_49 : decode cX6_moves 49 = .ok (.getfield 15, 3) := by decide +kernel
theorem dX6_moves_52 : decode cX6_moves 52 = .ok (.iadd, 1) := by decide +kernel
theorem dX6_moves_53 : decode cX6_moves 53 = .ok (.ireturn, 1) := by decide +kernel
theorem dX6_moves_54 : decode cX6_moves 54 = .ok (.iload_n 1, 1) := by decide +kernel
theorem dX6_moves_55 : decode cX6_moves 55 = .ok (.ifCond .ge 7, 3) := by decide +kernel
theorem dX6_moves_58 : decode cX6_moves 58 = .ok (.iconst 0, 1) := by decide +kernel
theorem dX6_moves_59 : decode cX6_moves 59 = .ok (.goto 9, 3) := by decide +kernel
theorem dX6_moves_62 : decode cX6_moves 62 = .ok (.iconst 1, 1) := by decide +kernel
theorem dX6_moves_63 : decode cX6_moves 63 = .ok (.aload_n 0, 1) := by decide +kernel
theorem dX6_moves_64 : decode cX6_moves 64 = .ok (.getfield 15, 3) := by decide +kernel
theorem dX6_moves_67 : decode cX6_moves 67 = .ok (.isub, 1) := by decide +kernel
theorem dX6_moves_68 : decode cX6_moves 68 = .ok (.ireturn, 1) := by decide +kernel
theorem dX6_moves_69 : decode cX6_moves 69 = .ok (.iload_n 1, 1) := by decide +kernel
theorem dX6_moves_70 : decode cX6_moves 70 = .ok (.ifCond .ge 14, 3) := by decide +kernel
theorem dX6_moves_73 : decode cX6_moves 73 = .ok (.iconst 2, 1) := by decide +kernel
theorem dX6_moves_74 : decode cX6_moves 74 = .ok (.iconst 1, 1) := by decide +kernel
theorem dX6_moves_75 : decode cX6_moves 75 = .ok (.aload_n 0, 1) := by decide +kernel
theorem dX6_moves_76 : decode cX6_moves 76 = .ok (.getfield 15, 3) := by decide +kernel
theorem dX6_moves_79 : decode cX6_moves 79 = .ok (.iadd, 1) := by decide +kernel
theorem dX6_moves_80 : decode cX6_moves 80 = .ok (.imul, 1) := by decide +kernel
theorem dX6_moves_81 : decode cX6_moves 81 = .ok (.goto 9, 3) := by decide +kernel
theorem dX6_moves_84 : decode cX6_moves 84 = .ok (.iconst 1, 1) := by decide +kernel
theorem dX6_moves_85 : decode cX6_moves 85 = .ok (.aload_n 0, 1) := by decide +kernel
theorem dX6_moves_86 : decode cX6_moves 86 = .ok (.getfield 15, 3) := by decide +kernel
theorem dX6_moves_89 : decode cX6_moves 89 = .ok (.iadd, 1) := by decide +kernel
theorem dX6_moves_90 : decode cX6_moves 90 = .ok (.ireturn, 1) := by decide +kernel
theorem dX6_moves_91 : decode cX6_moves 91 = .ok (.iconst 1, 1) := by decide +kernel
theorem dX6_moves_92 : decode cX6_moves 92 = .ok (.aload_n 0, 1) := by decide +kernel
theorem dX6_moves_93 : decode cX6_moves 93 = .ok (.getfield 15, 3) := by decide +kernel
theorem dX6_moves_96 : decode cX6_moves 96 = .ok (.iadd, 1) := by decide +kernel
theorem dX6_moves_97 : decode cX6_moves 97 = .ok (.iconst 2, 1) := by decide +kernel
theorem dX6_moves_98 : decode cX6_moves 98 = .ok (.idiv, 1) := by decide +kernel
theorem dX6_moves_99 : decode cX6_moves 99 = .ok (.ireturn, 1) := by decide +kernel
theorem dX6_moves_100 : decode cX6_moves 100 = .ok (.iconst 1, 1) := by decide +kernel
theorem dX6_moves_101 : decode cX6_moves 101 = .ok (.ireturn, 1) := by decide +kernel
theorem dX6_thirst_0 : decode cX6_thirst 0 = .ok (.aload_n 0, 1) := by decide +kernel
theorem dX6_thirst_1 : decode cX6_thirst 1 = .ok (.getfield 9, 3) := by decide +kernel
theorem dX6_thirst_4 : decode cX6_thirst 4 = .ok (.tableswitch 57 1 5 #[36, 57, 40, 49, 53], 36) := by decide +kernel
theorem dX6_thirst_40 : decode cX6_thirst 40 = .ok (.iload_n 1, 1) := by decide +kernel
theorem dX6_thirst_41 : decode cX6_thirst 41 = .ok (.iconst 2, 1) := by decide +kernel
theorem dX6_thirst_42 : decode cX6_thirst 42 = .ok (.idiv, 1) := by decide +kernel
theorem dX6_thirst_43 : decode cX6_thirst 43 = .ok (.ireturn, 1) := by decide +kernel
theorem dX6_thirst_44 : decode cX6_thirst 44 = .ok (.iload_n 1, 1) := by decide +kernel
theorem dX6_thirst_45 : decode cX6_thirst 45 = .ok (.iconst 2, 1) := by decide +kernel
theorem dX6_thirst_46 : decode cX6_thirst 46 = .ok (.idiv, 1) := by decide +kernel
theorem dX6_thirst_47 : decode cX6_thirst 47 = .ok (.aload_n 0, 1) := by decide +kernel
theorem dX6_thirst_48 : decode cX6_thirst 48 = .ok (.getfield 15, 3) := by decide +kernel
theorem dX6_thirst_51 : decode cX6_thirst 51 = .ok (.iadd, 1) := by decide +kernel
theorem dX6_thirst_52 : decode cX6_thirst 52 = .ok (.ireturn, 1) := by decide +kernel
theorem dX6_thirst_53 : decode cX6_thirst 53 = .ok (.iload_n 1, 1) := by decide +kernel
theorem dX6_thirst_54 : decode cX6_thirst 54 = .ok (.iconst 1, 1) := by decide +kernel
theorem dX6_thirst_55 : decode cX6_thirst 55 = .ok (.iadd, 1) := by decide +kernel
theorem dX6_thirst_56 : decode cX6_thirst 56 = .ok (.ireturn, 1) := by decide +kernel
theorem dX6_thirst_57 : decode cX6_thirst 57 = .ok (.iload_n 1, 1) := by decide +kernel
theorem dX6_thirst_58 : decode cX6_thirst 58 = .ok (.iconst 3, 1) := by decide +kernel
theorem dX6_thirst_59 : decode cX6_thirst 59 = .ok (.iadd, 1) := by decide +kernel
theorem dX6_thirst_60 : decode cX6_thirst 60 = .ok (.ireturn, 1) := by decide +kernel
theorem dX6_thirst_61 : decode cX6_thirst 61 = .ok (.iload_n 1, 1) := by decide +kernel
theorem dX6_thirst_62 : decode cX6_thirst 62 = .ok (.ireturn, 1) := by decide +kernel
theorem dX6_isOf_0 : decode cX6_isOf 0 = .ok (.iload_n 1, 1) := by decide +kernel
theorem dX6_isOf_1 : decode cX6_isOf 1 = .ok (.tableswitch 81 0 2 #[27, 29, 51], 27) := by decide +kernel
theorem dX6_isOf_28 : decode cX6_isOf 28 = .ok (.iconst 1, 1) := by decide +kernel
theorem dX6_isOf_29 : decode cX6_isOf 29 = .ok (.ireturn, 1) := by decide +kernel
theorem dX6_isOf_30 : decode cX6_isOf 30 = .ok (.aload_n 0, 1) := by decide +kernel
theorem dX6_isOf_31 : decode cX6_isOf 31 = .ok (.getfield 9, 3) := by decide +kernel
theorem dX6_isOf_34 : decode cX6_isOf 34 = .ok (.iconst 1, 1) := by decide +kernel
theorem dX6_isOf_35 : decode cX6_isOf 35 = .ok (.if_icmp .eq 11, 3) := by decide +kernel
theorem dX6_isOf_38 : decode cX6_isOf 38 = .ok (.aload_n 0, 1) := by decide +kernel
theorem dX6_isOf_39 : decode cX6_isOf 39 = .ok (.getfield 9, 3) := by decide +kernel
theorem dX6_isOf_42 : decode cX6_isOf 42 = .ok (.iconst 3, 1) := by decide +kernel
theorem dX6_isOf_43 : decode cX6_isOf 43 = .ok (.if_icmp .ne 7, 3) := by decide +kernel
theorem dX6_isOf_46 : decode cX6_isOf 46 = .ok (.iconst 1, 1) := by decide +kernel
theorem dX6_isOf_47 : decode cX6_isOf 47 = .ok (.goto 4, 3) := by decide +kernel
theorem dX6_isOf_50 : decode cX6_isOf 50 = .ok (.iconst 0, 1) := by decide +kernel
theorem dX6_isOf_51 : decode cX6_isOf 51 = .ok (.ireturn, 1) := by decide +kernel
theorem dX6_isOf_52 : decode cX6_isOf 52 = .ok (.aload_n 0, 1) := by decide +kernel
theorem dX6_isOf_53 : decode cX6_isOf 53 = .ok (.getfield 9, 3) := by decide +kernel
theorem dX6_isOf_56 : decode cX6_isOf 56 = .ok (.iconst 2, 1) := by decide +kernel
theorem dX6_isOf_57 : decode cX6_isOf 57 = .ok (.if_icmp .eq 19, 3) := by decide +kernel
theorem dX6_isOf_60 : decode cX6_isOf 60 = .ok (.aload_n 0, 1) := by decide +kernel
theorem dX6_isOf_61 : decode cX6_isOf 61 = .ok (.getfield 9, 3) := by decide +kernel
theorem dX6_isOf_64 : decode cX6_isOf 64 = .ok (.iconst 4, 1) := by decide +kernel
theorem dX6_isOf_65 : decode cX6_isOf 65 = .ok (.if_icmp .eq 11, 3) := by decide +kernel
theorem dX6_isOf_68 : decode cX6_isOf 68 = .ok (.aload_n 0, 1) := by decide +kernel
theorem dX6_isOf_69 : decode cX6_isOf 69 = .ok (.getfield 9, 3) := by decide +kernel
theorem dX6_isOf_72 : decode cX6_isOf 72 = .ok (.iconst 5, 1) := by decide +kernel
theorem dX6_isOf_73 : decode cX6_isOf 73 = .ok (.if_icmp .ne 7, 3) := by decide +kernel
theorem dX6_isOf_76 : decode cX6_isOf 76 = .ok (.iconst 1, 1) := by decide +kernel
theorem dX6_isOf_77 : decode cX6_isOf 77 = .ok (.goto 4, 3) := by decide +kernel
theorem dX6_isOf_80 : decode cX6_isOf 80 = .ok (.iconst 0, 1) := by decide +kernel
theorem dX6_isOf_81 : decode cX6_isOf 81 = .ok (.ireturn, 1) := by decide +kernel
theorem dX6_isOf_82 : decode cX6_isOf 82 = .ok (.aload_n 0, 1) := by decide +kernel
theorem dX6_isOf_83 : decode cX6_isOf 83 = .ok (.getfield 9, 3) := by decide +kernel
theorem dX6_isOf_86 : decode cX6_isOf 86 = .ok (.iload_n 1, 1) := by decide +kernel
theorem dX6_isOf_87 : decode cX6_isOf 87 = .ok (.if_icmp .ne 7, 3) := by decide +kernel
theorem dX6_isOf_90 : decode cX6_isOf 90 = .ok (.iconst 1, 1) := by decide +kernel
theorem dX6_isOf_91 : decode cX6_isOf 91 = .ok (.goto 4, 3) := by decide +kernel
theorem dX6_isOf_94 : decode cX6_isOf 94 = .ok (.iconst 0, 1) := by decide +kernel
theorem dX6_isOf_95 : decode cX6_isOf 95 = .ok (.ireturn, 1) := by decide +kernel
end
section
def f_X6_moves (N n : Nat) (I : mm_T) (i0 : Nat) (p1 : Int32) : Option (Int32) := pz_lt (I 6 i0 0) fun x_1 => if x_1 = (1 : Int32) then (some ((1 : Int32) - (I 6 i0 1))) else if x_1 = (2 : Int32) then (some ((1 : Int32) + (I 6 i0 1))) else if x_1 = (3 : Int32) then (if 0 ≤ p1 then (some ((1 : Int32) - (I 6 i0 1))) else (some (0 : Int32))) else if x_1 = (4 : Int32) then (if 0 ≤ p1 then (some ((1 : Int32) + (I 6 i0 1))) else (some ((2 : Int32) * ((1 : Int32) + (I 6 i0 1))))) else if x_1 = (5 : Int32) then (some (((1 : Int32) + (I 6 i0 1)) / (2 : Int32))) else (some (1 : Int32))
set_option maxRecDepth 100000 in
set_option maxHeartbeats 4000000 in
theorem c_X6_moves {l : Launch} {G : cx_T} {N n : Nat} {I J : mm_T} {i0 : Nat} {p1 : Int32} (hi0 : i0 < 14) {z : Int32} (h : f_X6_moves N n I i0 p1 = some z) : ct_m l G n yX6_moves cX6_moves 2 (some .int) ({ frames := 0, cells := 0, slots := 0, locals := 0 }) [.ref (cx_b G + ly_loc 6 i0), .int p1] I J (ct_qi G n I J z) := by
  refine ct_en (by decide) (Nat.le_of_ble_eq_true rfl) ?_
  intro p e s m args below meth c ls X S hl
  have X : cx_ok G p s m args meth c cX6_moves 2 RX6 (some .int) := X
  have hl : lv_has ls 2 [(0, .ref (cx_b G + ly_loc 6 i0)), (1, .int p1)] := hl
  have hn := S.2.2.2
  unfold f_X6_moves at h
  refine lv_aload_n X.1 X.2.1 dX6_moves_0 rfl (lv_at hl 0 rfl) ?_
  refine gf_X6_9 X S hi0 dX6_moves_1 ?_
  refine lv_topi (fun x_1 ex_1 => ?_)
  have h := pz_lt_e h ex_1
  rcases Decidable.em (x_1 = (1 : Int32)) with c_2 | c_2
  · have h := pz_t c_2 h
    refine lv_tableIn (off := 36) (tgt := 40) X.1 X.2.1 dX6_moves_4 (by rw [c_2]; decide +kernel) (by rw [c_2]; decide +kernel) (by rw [c_2]; decide +kernel) (by decide) ?_
    refine lv_iconst (v := 1) X.1 X.2.1 dX6_moves_40 (by decide) ?_
    refine lv_aload_n X.1 X.2.1 dX6_moves_41 rfl (lv_at hl 0 rfl) ?_
    refine gf_X6_15 X S hi0 dX6_moves_42 ?_
    refine lv_isub X.1 X.2.1 dX6_moves_45 ?_
    cases h
    exact r_iret X S dX6_moves_46
  have h := pz_f c_2 h
  rcases Decidable.em (x_1 = (2 : Int32)) with c_3 | c_3
  · have h := pz_t c_3 h
    refine lv_tableIn (off := 43) (tgt := 47) X.1 X.2.1 dX6_moves_4 (by rw [c_3]; decide +kernel) (by rw [c_3]; decide +kernel) (by rw [c_3]; decide +kernel) (by decide) ?_
    refine lv_iconst (v := 1) X.1 X.2.1 dX6_moves_47 (by decide) ?_
    refine lv_aload_n X.1 X.2.1 dX6_moves_48 rfl (lv_at hl 0 rfl) ?_
    refine gf_X6_15 X S hi0 dX6_moves_49 ?_
    refine lv_iadd X.1 X.2.1 dX6_moves_52 ?_
    cases h
    exact r_iret X S dX6_moves_53
  have h := pz_f c_3 h
  rcases Decidable.em (x_1 = (3 : Int32)) with c_4 | c_4
  · have h := pz_t c_4 h
    refine lv_tableIn (off := 50) (tgt := 54) X.1 X.2.1 dX6_moves_4 (by rw [c_4]; decide +kernel) (by rw [c_4]; decide +kernel) (by rw [c_4]; decide +kernel) (by decide) ?_
    refine lv_iload_n X.1 X.2.1 dX6_moves_54 rfl (lv_at hl 1 rfl) ?_
    refine lv_if_ge (tgt := 62) X.1 X.2.1 dX6_moves_55 (by decide) (fun c_5 => ?_) (fun c_5 => ?_)
    · have h := pz_t c_5 h
      refine lv_iconst (v := 1) X.1 X.2.1 dX6_moves_62 (by decide) ?_
      refine lv_aload_n X.1 X.2.1 dX6_moves_63 rfl (lv_at hl 0 rfl) ?_
      refine gf_X6_15 X S hi0 dX6_moves_64 ?_
      refine lv_isub X.1 X.2.1 dX6_moves_67 ?_
      cases h
      exact r_iret X S dX6_moves_68
    have h := pz_f c_5 h
    refine lv_iconst (v := 0) X.1 X.2.1 dX6_moves_58 (by decide) ?_
    refine lv_goto (tgt := 68) X.1 X.2.1 dX6_moves_59 (by decide) ?_
    cases h
    exact r_iret X S dX6_moves_68
  have h := pz_f c_4 h
  rcases Decidable.em (x_1 = (4 : Int32)) with c_6 | c_6
  · have h := pz_t c_6 h
    refine lv_tableIn (off := 65) (tgt := 69) X.1 X.2.1 dX6_moves_4 (by rw [c_6]; decide +kernel) (by rw [c_6]; decide +kernel) (by rw [c_6]; decide +kernel) (by decide) ?_
    refine lv_iload_n X.1 X.2.1 dX6_moves_69 rfl (lv_at hl 1 rfl) ?_
    refine lv_if_ge (tgt := 84) X.1 X.2.1 dX6_moves_70 (by decide) (fun c_7 => ?_) (fun c_7 => ?_)
    · have h := pz_t c_7 h
      refine lv_iconst (v := 1) X.1 X.2.1 dX6_moves_84 (by decide) ?_
      refine lv_aload_n X.1 X.2.1 dX6_moves_85 rfl (lv_at hl 0 rfl) ?_
      refine gf_X6_15 X S hi0 dX6_moves_86 ?_
      refine lv_iadd X.1 X.2.1 dX6_moves_89 ?_
      cases h
      exact r_iret X S dX6_moves_90
    have h := pz_f c_7 h
    refine lv_iconst (v := 2) X.1 X.2.1 dX6_moves_73 (by decide) ?_
    refine lv_iconst (v := 1) X.1 X.2.1 dX6_moves_74 (by decide) ?_
    refine lv_aload_n X.1 X.2.1 dX6_moves_75 rfl (lv_at hl 0 rfl) ?_
    refine gf_X6_15 X S hi0 dX6_moves_76 ?_
    refine lv_iadd X.1 X.2.1 dX6_moves_79 ?_
    refine lv_imul X.1 X.2.1 dX6_moves_80 ?_
    refine lv_goto (tgt := 90) X.1 X.2.1 dX6_moves_81 (by decide) ?_
    cases h
    exact r_iret X S dX6_moves_90
  have h := pz_f c_6 h
  rcases Decidable.em (x_1 = (5 : Int32)) with c_8 | c_8
  · have h := pz_t c_8 h
    refine lv_tableIn (off := 87) (tgt := 91) X.1 X.2.1 dX6_moves_4 (by rw [c_8]; decide +kernel) (by rw [c_8]; decide +kernel) (by rw [c_8]; decide +kernel) (by decide) ?_
    refine lv_iconst (v := 1) X.1 X.2.1 dX6_moves_91 (by decide) ?_
    refine lv_aload_n X.1 X.2.1 dX6_moves_92 rfl (lv_at hl 0 rfl) ?_
    refine gf_X6_15 X S hi0 dX6_moves_93 ?_
    refine lv_iadd X.1 X.2.1 dX6_moves_96 ?_
    refine lv_iconst (v := 2) X.1 X.2.1 dX6_moves_97 (by decide) ?_
    refine lv_idiv X.1 X.2.1 dX6_moves_98 (by decide) ?_
    cases h
    exact r_iret X S dX6_moves_99
  have h := pz_f c_8 h
  refine lv_tableOut (tgt := 100) X.1 X.2.1 dX6_moves_4 (pz_out 1 5 [(1 : Int32), (2 : Int32), (3 : Int32), (4 : Int32), (5 : Int32)] (by decide +kernel) (by simp only [List.forall_mem_cons, List.not_mem_nil, false_imp_iff, implies_true, and_true]; exact ⟨c_2, c_3, c_4, c_6, c_8⟩)) (by decide) ?_
  refine lv_iconst (v := 1) X.1 X.2.1 dX6_moves_100 (by decide) ?_
  cases h
  exact r_iret X S dX6_moves_101
def f_X6_thirst (N n : Nat) (I : mm_T) (i0 : Nat) (p1 : Int32) : Option (Int32) := pz_lt (I 6 i0 0) fun x_1 => if x_1 = (1 : Int32) then (some (p1 / (2 : Int32))) else if x_1 = (2 : Int32) then (some p1) else if x_1 = (3 : Int32) then (some ((p1 / (2 : Int32)) + (I 6 i0 1))) else if x_1 = (4 : Int32) then (some (p1 + (1 : Int32))) else if x_1 = (5 : Int32) then (some (p1 + (3 : Int32))) else (some p1)
set_option maxRecDepth 100000 in
set_option maxHeartbeats 4000000 in
theorem c_X6_thirst {l : Launch} {G : cx_T} {N n : Nat} {I J : mm_T} {i0 : Nat} {p1 : Int32} (hi0 : i0 < 14) {z : Int32} (h : f_X6_thirst N n I i0 p1 = some z) : ct_m l G n yX6_thirst cX6_thirst 2 (some .int) ({ frames := 0, cells := 0, slots := 0, locals := 0 }) [.ref (cx_b G + ly_loc 6 i0), .int p1] I J (ct_qi G n I J z) := by
  refine ct_en (by decide) (Nat.le_of_ble_eq_true rfl) ?_
  intro p e s m args below meth c ls X S hl
  have X : cx_ok G p s m args meth c cX6_thirst 2 RX6 (some .int) := X
  have hl : lv_has ls 2 [(0, .ref (cx_b G + ly_loc 6 i0)), (1, .int p1)] := hl
  have hn := S.2.2.2
  unfold f_X6_thirst at h
  refine lv_aload_n X.1 X.2.1 dX6_thirst_0 rfl (lv_at hl 0 rfl) ?_
  refine gf_X6_9 X S hi0 dX6_thirst_1 ?_
  refine lv_topi (fun x_1 ex_1 => ?_)
  have h := pz_lt_e h ex_1
  rcases Decidable.em (x_1 = (1 : Int32)) with c_2 | c_2
  · have h := pz_t c_2 h
    refine lv_tableIn (off := 36) (tgt := 40) X.1 X.2.1 dX6_thirst_4 (by rw [c_2]; decide +kernel) (by rw [c_2]; decide +kernel) (by rw [c_2]; decide +kernel) (by decide) ?_
    refine lv_iload_n X.1 X.2.1 dX6_thirst_40 rfl (lv_at hl 1 rfl) ?_
    refine lv_iconst (v := 2) X.1 X.2.1 dX6_thirst_41 (by decide) ?_
    refine lv_idiv X.1 X.2.1 dX6_thirst_42 (by decide) ?_
    cases h
    exact r_iret X S dX6_thirst_43
  have h := pz_f c_2 h
  rcases Decidable.em (x_1 = (2 : Int32)) with c_3 | c_3
  · have h := pz_t c_3 h
    refine lv_tableIn (off := 57) (tgt := 61) X.1 X.2.1 dX6_thirst_4 (by rw [c_3]; decide +kernel) (by rw [c_3]; decide +kernel) (by rw [c_3]; decide +kernel) (by decide) ?_
    refine lv_iload_n X.1 X.2.1 dX6_thirst_61 rfl (lv_at hl 1 rfl) ?_
    cases h
    exact r_iret X S dX6_thirst_62
  have h := pz_f c_3 h
  rcases Decidable.em (x_1 = (3 : Int32)) with c_4 | c_4
  · have h := pz_t c_4 h
    refine lv_tableIn (off := 40) (tgt := 44) X.1 X.2.1 dX6_thirst_4 (by rw [c_4]; decide +kernel) (by rw [c_4]; decide +kernel) (by rw [c_4]; decide +kernel) (by decide) ?_
    refine lv_iload_n X.1 X.2.1 dX6_thirst_44 rfl (lv_at hl 1 rfl) ?_
    refine lv_iconst (v := 2) X.1 X.2.1 dX6_thirst_45 (by decide) ?_
    refine lv_idiv X.1 X.2.1 dX6_thirst_46 (by decide) ?_
    refine lv_aload_n X.1 X.2.1 dX6_thirst_47 rfl (lv_at hl 0 rfl) ?_
    refine gf_X6_15 X S hi0 dX6_thirst_48 ?_
    refine lv_iadd X.1 X.2.1 dX6_thirst_51 ?_
    cases h
    exact r_iret X S dX6_thirst_52
  have h := pz_f c_4 h
  rcases Decidable.em (x_1 = (4 : Int32)) with c_5 | c_5
  · have h := pz_t c_5 h
    refine lv_tableIn (off := 49) (tgt := 53) X.1 X.2.1 dX6_thirst_4 (by rw [c_5]; decide +kernel) (by rw [c_5]; decide +kernel) (by rw [c_5]; decide +kernel) (by decide) ?_
    refine lv_iload_n X.1 X.2.1 dX6_thirst_53 rfl (lv_at hl 1 rfl) ?_
    refine lv_iconst (v := 1) X.1 X.2.1 dX6_thirst_54 (by decide) ?_
    refine lv_iadd X.1 X.2.1 dX6_thirst_55 ?_
    cases h
    exact r_iret X S dX6_thirst_56
  have h := pz_f c_5 h
  rcases Decidable.em (x_1 = (5 : Int32)) with c_6 | c_6
  · have h := pz_t c_6 h
    refine lv_tableIn (off := 53) (tgt := 57) X.1 X.2.1 dX6_thirst_4 (by rw [c_6]; decide +kernel) (by rw [c_6]; decide +kernel) (by rw [c_6]; decide +kernel) (by decide) ?_
    refine lv_iload_n X.1 X.2.1 dX6_thirst_57 rfl (lv_at hl 1 rfl) ?_
    refine lv_iconst (v := 3) X.1 X.2.1 dX6_thirst_58 (by decide) ?_
    refine lv_iadd X.1 X.2.1 dX6_thirst_59 ?_
    cases h
    exact r_iret X S dX6_thirst_60
  have h := pz_f c_6 h
  refine lv_tableOut (tgt := 61) X.1 X.2.1 dX6_thirst_4 (pz_out 1 5 [(1 : Int32), (2 : Int32), (3 : Int32), (4 : Int32), (5 : Int32)] (by decide +kernel) (by simp only [List.forall_mem_cons, List.not_mem_nil, false_imp_iff, implies_true, and_true]; exact ⟨c_2, c_3, c_4, c_5, c_6⟩)) (by decide) ?_
  refine lv_iload_n X.1 X.2.1 dX6_thirst_61 rfl (lv_at hl 1 rfl) ?_
  cases h
  exact r_iret X S dX6_thirst_62
def f_X6_isOf (N n : Nat) (I : mm_T) (i0 : Nat) (p1 : Int32) : Option (Int32) := pz_lt p1 fun x_1 => if x_1 = (0 : Int32) then (some (1 : Int32)) else if x_1 = (1 : Int32) then (if (I 6 i0 0) = (1 : Int32) then (some (1 : Int32)) else (if (I 6 i0 0) = (3 : Int32) then (some (1 : Int32)) else (some (0 : Int32)))) else if x_1 = (2 : Int32) then (if (I 6 i0 0) = (2 : Int32) then (some (1 : Int32)) else (if (I 6 i0 0) = (4 : Int32) then (some (1 : Int32)) else (if (I 6 i0 0) = (5 : Int32) then (some (1 : Int32)) else (some (0 : Int32))))) else (if (I 6 i0 0) = p1 then (some (1 : Int32)) else (some (0 : Int32)))
set_option maxRecDepth 100000 in
set_option maxHeartbeats 4000000 in
theorem c_X6_isOf {l : Launch} {G : cx_T} {N n : Nat} {I J : mm_T} {i0 : Nat} {p1 : Int32} (hi0 : i0 < 14) {z : Int32} (h : f_X6_isOf N n I i0 p1 = some z) : ct_m l G n yX6_isOf cX6_isOf 2 (some .boolean) ({ frames := 0, cells := 0, slots := 0, locals := 0 }) [.ref (cx_b G + ly_loc 6 i0), .int p1] I J (ct_qi G n I J z) := by
  refine ct_en (by decide) (Nat.le_of_ble_eq_true rfl) ?_
  intro p e s m args below meth c ls X S hl
  have X : cx_ok G p s m args meth c cX6_isOf 2 RX6 (some .boolean) := X
  have hl : lv_has ls 2 [(0, .ref (cx_b G + ly_loc 6 i0)), (1, .int p1)] := hl
  have hn := S.2.2.2
  unfold f_X6_isOf at h
  refine lv_iload_n X.1 X.2.1 dX6_isOf_0 rfl (lv_at hl 1 rfl) ?_
  refine lv_topi (fun x_1 ex_1 => ?_)
  have h := pz_lt_e h ex_1
  rcases Decidable.em (x_1 = (0 : Int32)) with c_2 | c_2
  · have h := pz_t c_2 h
    refine lv_tableIn (off := 27) (tgt := 28) X.1 X.2.1 dX6_isOf_1 (by rw [c_2]; decide +kernel) (by rw [c_2]; decide +kernel) (by rw [c_2]; decide +kernel) (by decide) ?_
    refine lv_iconst (v := 1) X.1 X.2.1 dX6_isOf_28 (by decide) ?_
    cases h
    exact r_zret X S rfl dX6_isOf_29
  have h := pz_f c_2 h
  rcases Decidable.em (x_1 = (1 : Int32)) with c_3 | c_3
  · have h := pz_t c_3 h
    refine lv_tableIn (off := 29) (tgt := 30) X.1 X.2.1 dX6_isOf_1 (by rw [c_3]; decide +kernel) (by rw [c_3]; decide +kernel) (by rw [c_3]; decide +kernel) (by decide) ?_
    refine lv_aload_n X.1 X.2.1 dX6_isOf_30 rfl (lv_at hl 0 rfl) ?_
    refine gf_X6_9 X S hi0 dX6_isOf_31 ?_
    refine lv_iconst (v := 1) X.1 X.2.1 dX6_isOf_34 (by decide) ?_
    refine lv_icmp_eq (tgt := 46) X.1 X.2.1 dX6_isOf_35 (by decide) (fun c_4 => ?_) (fun c_4 => ?_)
    · have h := pz_t c_4 h
      refine lv_iconst (v := 1) X.1 X.2.1 dX6_isOf_46 (by decide) ?_
      refine lv_goto (tgt := 51) X.1 X.2.1 dX6_isOf_47 (by decide) ?_
      cases h
      exact r_zret X S rfl dX6_isOf_51
    have h := pz_f c_4 h
    refine lv_aload_n X.1 X.2.1 dX6_isOf_38 rfl (lv_at hl 0 rfl) ?_
    refine gf_X6_9 X S hi0 dX6_isOf_39 ?_
    refine lv_iconst (v := 3) X.1 X.2.1 dX6_isOf_42 (by decide) ?_
    refine lv_icmp_ne (tgt := 50) X.1 X.2.1 dX6_isOf_43 (by decide) (fun c_5 => ?_) (fun c_5 => ?_)
    · have h := pz_f c_5 h
      refine lv_iconst (v := 0) X.1 X.2.1 dX6_isOf_50 (by decide) ?_
      cases h
      exact r_zret X S rfl dX6_isOf_51
    have h := pz_t c_5 h
    refine lv_iconst (v := 1) X.1 X.2.1 dX6_isOf_46 (by decide) ?_
    refine lv_goto (tgt := 51) X.1 X.2.1 dX6_isOf_47 (by decide) ?_
    cases h
    exact r_zret X S rfl dX6_isOf_51
  have h := pz_f c_3 h
  rcases Decidable.em (x_1 = (2 : Int32)) with c_6 | c_6
  · have h := pz_t c_6 h
    refine lv_tableIn (off := 51) (tgt := 52) X.1 X.2.1 dX6_isOf_1 (by rw [c_6]; decide +kernel) (by rw [c_6]; decide +kernel) (by rw [c_6]; decide +kernel) (by decide) ?_
    refine lv_aload_n X.1 X.2.1 dX6_isOf_52 rfl (lv_at hl 0 rfl) ?_
    refine gf_X6_9 X S hi0 dX6_isOf_53 ?_
    refine lv_iconst (v := 2) X.1 X.2.1 dX6_isOf_56 (by decide) ?_
    refine lv_icmp_eq (tgt := 76) X.1 X.2.1 dX6_isOf_57 (by decide) (fun c_7 => ?_) (fun c_7 => ?_)
    · have h := pz_t c_7 h
      refine lv_iconst (v := 1) X.1 X.2.1 dX6_isOf_76 (by decide) ?_
      refine lv_goto (tgt := 81) X.1 X.2.1 dX6_isOf_77 (by decide) ?_
      cases h
      exact r_zret X S rfl dX6_isOf_81
    have h := pz_f c_7 h
    refine lv_aload_n X.1 X.2.1 dX6_isOf_60 rfl (lv_at hl 0 rfl) ?_
    refine gf_X6_9 X S hi0 dX6_isOf_61 ?_
    refine lv_iconst (v := 4) X.1 X.2.1 dX6_isOf_64 (by decide) ?_
    refine lv_icmp_eq (tgt := 76) X.1 X.2.1 dX6_isOf_65 (by decide) (fun c_8 => ?_) (fun c_8 => ?_)
    · have h := pz_t c_8 h
      refine lv_iconst (v := 1) X.1 X.2.1 dX6_isOf_76 (by decide) ?_
      refine lv_goto (tgt := 81) X.1 X.2.1 dX6_isOf_77 (by decide) ?_
      cases h
      exact r_zret X S rfl dX6_isOf_81
    have h := pz_f c_8 h
    refine lv_aload_n X.1 X.2.1 dX6_isOf_68 rfl (lv_at hl 0 rfl) ?_
    refine gf_X6_9 X S hi0 dX6_isOf_69 ?_
    refine lv_iconst (v := 5) X.1 X.2.1 dX6_isOf_72 (by decide) ?_
    refine lv_icmp_ne (tgt := 80) X.1 X.2.1 dX6_isOf_73 (by decide) (fun c_9 => ?_) (fun c_9 => ?_)
    · have h := pz_f c_9 h
      refine lv_iconst (v := 0) X.1 X.2.1 dX6_isOf_80 (by decide) ?_
      cases h
      exact r_zret X S rfl dX6_isOf_81
    have h := pz_t c_9 h
    refine lv_iconst (v := 1) X.1 X.2.1 dX6_isOf_76 (by decide) ?_
    refine lv_goto (tgt := 81) X.1 X.2.1 dX6_isOf_77 (by decide) ?_
    cases h
    exact r_zret X S rfl dX6_isOf_81
  have h := pz_f c_6 h
  refine lv_tableOut (tgt := 82) X.1 X.2.1 dX6_isOf_1 (pz_out 0 2 [(0 : Int32), (1 : Int32), (2 : Int32)] (by decide +kernel) (by simp only [List.forall_mem_cons, List.not_mem_nil, false_imp_iff, implies_true, and_true]; exact ⟨c_2, c_3, c_6⟩)) (by decide) ?_
  refine lv_aload_n X.1 X.2.1 dX6_isOf_82 rfl (lv_at hl 0 rfl) ?_
  refine gf_X6_9 X S hi0 dX6_isOf_83 ?_
  refine lv_iload_n X.1 X.2.1 dX6_isOf_86 rfl (lv_at hl 1 rfl) ?_
  refine lv_icmp_ne (tgt := 94) X.1 X.2.1 dX6_isOf_87 (by decide) (fun c_10 => ?_) (fun c_10 => ?_)
  · have h := pz_f c_10 h
    refine lv_iconst (v := 0) X.1 X.2.1 dX6_isOf_94 (by decide) ?_
    cases h
    exact r_zret X S rfl dX6_isOf_95
  have h := pz_t c_10 h
  refine lv_iconst (v := 1) X.1 X.2.1 dX6_isOf_90 (by decide) ?_
  refine lv_goto (tgt := 95) X.1 X.2.1 dX6_isOf_91 (by decide) ?_
  cases h
  exact r_zret X S rfl dX6_isOf_95
def f_X1_hasPerson (N n : Nat) (I : mm_T) (i0 : Nat) (p1 : Int32) : Option (Int32) := if p1 < 0 then (some (0 : Int32)) else (if (I 1 i0 2) ≤ p1 then (some (0 : Int32)) else (some (1 : Int32)))
set_option maxRecDepth 100000 in
set_option maxHeartbeats 4000000 in
theorem c_X1_hasPerson {l : Launch} {G : cx_T} {N n : Nat} {I J : mm_T} {i0 : Nat} {p1 : Int32} (hi0 : i0 < 2) {z : Int32} (h : f_X1_hasPerson N n I i0 p1 = some z) : ct_m l G n yX1_hasPerson cX1_hasPerson 2 (some .boolean) ({ frames := 0, cells := 0, slots := 0, locals := 0 }) [.ref (cx_b G + ly_loc 1 i0), .int p1] I J (ct_qi G n I J z) := by
  refine ct_en (by decide) (Nat.le_of_ble_eq_true rfl) ?_
  intro p e s m args below meth c ls X S hl
  have X : cx_ok G p s m args meth c cX1_hasPerson 2 RX1 (some .boolean) := X
  have hl : lv_has ls 2 [(0, .ref (cx_b G + ly_loc 1 i0)), (1, .int p1)] := hl
  have hn := S.2.2.2
  unfold f_X1_hasPerson at h
  refine lv_iload_n X.1 X.2.1 dX1_hasPerson_0 rfl (lv_at hl 1 rfl) ?_
  refine lv_if_lt (tgt := 16) X.1 X.2.1 dX1_hasPerson_1 (by decide) (fun c_1 => ?_) (fun c_1 => ?_)
  · have h := pz_t c_1 h
    refine lv_iconst (v := 0) X.1 X.2.1 dX1_hasPerson_16 (by decide) ?_
    cases h
    exact r_zret X S rfl dX1_hasPerson_17
  have h := pz_f c_1 h
  refine lv_iload_n X.1 X.2.1 dX1_hasPerson_4 rfl (lv_at hl 1 rfl) ?_
  refine lv_aload_n X.1 X.2.1 dX1_hasPerson_5 rfl (lv_at hl 0 rfl) ?_
  refine gf_X1_29 X S hi0 dX1_hasPerson_6 ?_
  refine lv_icmp_ge (tgt := 16) X.1 X.2.1 dX1_hasPerson_9 (by decide) (fun c_2 => ?_) (fun c_2 => ?_)
  · have h := pz_t c_2 h
    refine lv_iconst (v := 0) X.1 X.2.1 dX1_hasPerson_16 (by decide) ?_
    cases h
    exact r_zret X S rfl dX1_hasPerson_17
  have h := pz_f c_2 h
  refine lv_iconst (v := 1) X.1 X.2.1 dX1_hasPerson_12 (by decide) ?_
  refine lv_goto (tgt := 17) X.1 X.2.1 dX1_hasPerson_13 (by decide) ?_
  cases h
  exact r_zret X S rfl dX1_hasPerson_17
def f_X1_hasSlip (N n : Nat) (I : mm_T) (i0 : Nat) (p1 : Int32) : Option (Int32) := if p1 < 0 then (some (0 : Int32)) else (if (I 1 i0 3) ≤ p1 then (some (0 : Int32)) else (some (1 : Int32)))
set_option maxRecDepth 100000 in
set_option maxHeartbeats 4000000 in
theorem c_X1_hasSlip {l : Launch} {G : cx_T} {N n : Nat} {I J : mm_T} {i0 : Nat} {p1 : Int32} (hi0 : i0 < 2) {z : Int32} (h : f_X1_hasSlip N n I i0 p1 = some z) : ct_m l G n yX1_hasSlip cX1_hasSlip 2 (some .boolean) ({ frames := 0, cells := 0, slots := 0, locals := 0 }) [.ref (cx_b G + ly_loc 1 i0), .int p1] I J (ct_qi G n I J z) := by
  refine ct_en (by decide) (Nat.le_of_ble_eq_true rfl) ?_
  intro p e s m args below meth c ls X S hl
  have X : cx_ok G p s m args meth c cX1_hasSlip 2 RX1 (some .boolean) := X
  have hl : lv_has ls 2 [(0, .ref (cx_b G + ly_loc 1 i0)), (1, .int p1)] := hl
  have hn := S.2.2.2
  unfold f_X1_hasSlip at h
  refine lv_iload_n X.1 X.2.1 dX1_hasSlip_0 rfl (lv_at hl 1 rfl) ?_
  refine lv_if_lt (tgt := 16) X.1 X.2.1 dX1_hasSlip_1 (by decide) (fun c_1 => ?_) (fun c_1 => ?_)
  · have h := pz_t c_1 h
    refine lv_iconst (v := 0) X.1 X.2.1 dX1_hasSlip_16 (by decide) ?_
    cases h
    exact r_zret X S rfl dX1_hasSlip_17
  have h := pz_f c_1 h
  refine lv_iload_n X.1 X.2.1 dX1_hasSlip_4 rfl (lv_at hl 1 rfl) ?_
  refine lv_aload_n X.1 X.2.1 dX1_hasSlip_5 rfl (lv_at hl 0 rfl) ?_
  refine gf_X1_32 X S hi0 dX1_hasSlip_6 ?_
  refine lv_icmp_ge (tgt := 16) X.1 X.2.1 dX1_hasSlip_9 (by decide) (fun c_2 => ?_) (fun c_2 => ?_)
  · have h := pz_t c_2 h
    refine lv_iconst (v := 0) X.1 X.2.1 dX1_hasSlip_16 (by decide) ?_
    cases h
    exact r_zret X S rfl dX1_hasSlip_17
  have h := pz_f c_2 h
  refine lv_iconst (v := 1) X.1 X.2.1 dX1_hasSlip_12 (by decide) ?_
  refine lv_goto (tgt := 17) X.1 X.2.1 dX1_hasSlip_13 (by decide) ?_
  cases h
  exact r_zret X S rfl dX1_hasSlip_17
def f_X1_groupOf (N n : Nat) (I : mm_T) (i0 : Nat) (i1 : Nat) : Option (Int32) := pz_gd (ix_in (I 6 i1 3) 8) <| some (I 2 (8 * i0 + (I 6 i1 3).toNatClampNeg) 1)
set_option maxRecDepth 100000 in
set_option maxHeartbeats 4000000 in
theorem c_X1_groupOf {l : Launch} {G : cx_T} {N n : Nat} {I J : mm_T} {i0 : Nat} {i1 : Nat} (hi0 : i0 < 2) (hi1 : i1 < 14) {z : Int32} (h : f_X1_groupOf N n I i0 i1 = some z) : ct_m l G n yX1_groupOf cX1_groupOf 2 (some .int) ({ frames := 0, cells := 0, slots := 0, locals := 0 }) [.ref (cx_b G + ly_loc 1 i0), .ref (cx_b G + ly_loc 6 i1)] I J (ct_qi G n I J z) := by
  refine ct_en (by decide) (Nat.le_of_ble_eq_true rfl) ?_
  intro p e s m args below meth c ls X S hl
  have X : cx_ok G p s m args meth c cX1_groupOf 2 RX1 (some .int) := X
  have hl : lv_has ls 2 [(0, .ref (cx_b G + ly_loc 1 i0)), (1, .ref (cx_b G + ly_loc 6 i1))] := hl
  have hn := S.2.2.2
  unfold f_X1_groupOf at h
  refine lv_aload_n X.1 X.2.1 dX1_groupOf_0 rfl (lv_at hl 0 rfl) ?_
  refine gf_X1_11 X S hi0 dX1_groupOf_1 ?_
  refine lv_aload_n X.1 X.2.1 dX1_groupOf_4 rfl (lv_at hl 1 rfl) ?_
  refine gf_X1_35 X S hi1 dX1_groupOf_5 ?_
  obtain ⟨g_1, h⟩ := pz_gd_e h
  refine aa_16 X S hi0 g_1 dX1_groupOf_8 ?_
  refine gf_X1_38 X S (el_16 hi0 g_1) dX1_groupOf_9 ?_
  cases h
  exact r_iret X S dX1_groupOf_12
def f_X1_addPerson (N n : Nat) (I : mm_T) (i0 : Nat) (p1 : Int32) (p2 : Int32) : Option (mm_T × Int32) := if (I 1 i0 2) < (8 : Int32) then (pz_gd (ix_in (I 1 i0 2) 8) <| pz_lt (mm_up I 2 (8 * i0 + (I 1 i0 2).toNatClampNeg) 0 p1) fun I_3 => pz_gd (ix_in (I_3 1 i0 2) 8) <| pz_lt (mm_up I_3 2 (8 * i0 + (I_3 1 i0 2).toNatClampNeg) 1 p2) fun I_5 => pz_lt (mm_up I_5 1 i0 2 ((I_5 1 i0 2) + (1 : Int32))) fun I_6 => pz_lt (mm_up I_6 1 i0 7 ((I_6 1 i0 7) + (1 : Int32))) fun I_7 => some (I_7, ((I_7 1 i0 2) - (1 : Int32)))) else (some (I, (-4 : Int32)))
set_option maxRecDepth 100000 in
set_option maxHeartbeats 4000000 in
theorem c_X1_addPerson {l : Launch} {G : cx_T} {N n : Nat} {I J : mm_T} {i0 : Nat} {p1 : Int32} {p2 : Int32} (hi0 : i0 < 2) {z : mm_T × Int32} (h : f_X1_addPerson N n I i0 p1 p2 = some z) : ct_m l G n yX1_addPerson cX1_addPerson 3 (some .int) ({ frames := 0, cells := 0, slots := 0, locals := 0 }) [.ref (cx_b G + ly_loc 1 i0), .int p1, .int p2] I J (ct_qi G n z.1 J z.2) := by
  refine ct_en (by decide) (Nat.le_of_ble_eq_true rfl) ?_
  intro p e s m args below meth c ls X S hl
  have X : cx_ok G p s m args meth c cX1_addPerson 3 RX1 (some .int) := X
  have hl : lv_has ls 3 [(0, .ref (cx_b G + ly_loc 1 i0)), (1, .int p1), (2, .int p2)] := hl
  have hn := S.2.2.2
  unfold f_X1_addPerson at h
  refine lv_aload_n X.1 X.2.1 dX1_addPerson_0 rfl (lv_at hl 0 rfl) ?_
  refine gf_X1_29 X S hi0 dX1_addPerson_1 ?_
  refine lv_bipush (v := 8) X.1 X.2.1 dX1_addPerson_4 (by decide) ?_
  refine lv_icmp_lt (tgt := 12) X.1 X.2.1 dX1_addPerson_6 (by decide) (fun c_1 => ?_) (fun c_1 => ?_)
  · have h := pz_t c_1 h
    refine lv_aload_n X.1 X.2.1 dX1_addPerson_12 rfl (lv_at hl 0 rfl) ?_
    refine gf_X1_11 X S hi0 dX1_addPerson_13 ?_
    refine lv_aload_n X.1 X.2.1 dX1_addPerson_16 rfl (lv_at hl 0 rfl) ?_
    refine gf_X1_29 X S hi0 dX1_addPerson_17 ?_
    obtain ⟨g_2, h⟩ := pz_gd_e h
    refine aa_16 X S hi0 g_2 dX1_addPerson_20 ?_
    refine lv_iload_n X.1 X.2.1 dX1_addPerson_21 rfl (lv_at hl 1 rfl) ?_
    refine pf_X1_41 X S (el_16 hi0 g_2) dX1_addPerson_22 (fun I_3 H locs eI_3 S => ?_)
    have h := pz_lt_e h eI_3
    refine lv_aload_n X.1 X.2.1 dX1_addPerson_25 rfl (lv_at hl 0 rfl) ?_
    refine gf_X1_11 X S hi0 dX1_addPerson_26 ?_
    refine lv_aload_n X.1 X.2.1 dX1_addPerson_29 rfl (lv_at hl 0 rfl) ?_
    refine gf_X1_29 X S hi0 dX1_addPerson_30 ?_
    obtain ⟨g_4, h⟩ := pz_gd_e h
    refine aa_16 X S hi0 g_4 dX1_addPerson_33 ?_
    refine lv_iload_n X.1 X.2.1 dX1_addPerson_34 rfl (lv_at hl 2 rfl) ?_
    refine pf_X1_38 X S (el_16 hi0 g_4) dX1_addPerson_35 (fun I_5 H locs eI_5 S => ?_)
    have h := pz_lt_e h eI_5
    refine lv_aload_n X.1 X.2.1 dX1_addPerson_38 rfl (lv_at hl 0 rfl) ?_
    refine lv_dup X.1 X.2.1 dX1_addPerson_39 rfl ?_
    refine gf_X1_29 X S hi0 dX1_addPerson_40 ?_
    refine lv_iconst (v := 1) X.1 X.2.1 dX1_addPerson_43 (by decide) ?_
    refine lv_iadd X.1 X.2.1 dX1_addPerson_44 ?_
    refine pf_X1_29 X S hi0 dX1_addPerson_45 (fun I_6 H locs eI_6 S => ?_)
    have h := pz_lt_e h eI_6
    refine lv_aload_n X.1 X.2.1 dX1_addPerson_48 rfl (lv_at hl 0 rfl) ?_
    refine lv_dup X.1 X.2.1 dX1_addPerson_49 rfl ?_
    refine gf_X1_44 X S hi0 dX1_addPerson_50 ?_
    refine lv_iconst (v := 1) X.1 X.2.1 dX1_addPerson_53 (by decide) ?_
    refine lv_iadd X.1 X.2.1 dX1_addPerson_54 ?_
    refine pf_X1_44 X S hi0 dX1_addPerson_55 (fun I_7 H locs eI_7 S => ?_)
    have h := pz_lt_e h eI_7
    refine lv_aload_n X.1 X.2.1 dX1_addPerson_58 rfl (lv_at hl 0 rfl) ?_
    refine gf_X1_29 X S hi0 dX1_addPerson_59 ?_
    refine lv_iconst (v := 1) X.1 X.2.1 dX1_addPerson_62 (by decide) ?_
    refine lv_isub X.1 X.2.1 dX1_addPerson_63 ?_
    cases h
    exact r_iret X S dX1_addPerson_64
  have h := pz_f c_1 h
  refine lv_bipush (v := -4) X.1 X.2.1 dX1_addPerson_9 (by decide) ?_
  cases h
  exact r_iret X S dX1_addPerson_11
def f_X1_addSlip (N n : Nat) (I : mm_T) (i0 : Nat) (p1 : Int32) (p2 : Int32) (p3 : Int32) : Option (mm_T × Int32) := if p1 < 0 then (some (I, (-2 : Int32))) else (if (5 : Int32) < p1 then (some (I, (-2 : Int32))) else (if p2 < (10 : Int32) then (some (I, (-2 : Int32))) else (if (99 : Int32) < p2 then (some (I, (-2 : Int32))) else (pz_bd (f_X1_hasPerson N n I i0 p3) fun q_5 => if q_5 = 0 then (some (I, (-2 : Int32))) else (if (I 1 i0 3) < (7 : Int32) then (pz_gd (ix_in (I 1 i0 3) 7) <| pz_lt (mm_up I 6 (7 * i0 + (I 1 i0 3).toNatClampNeg) 0 p1) fun I_9 => pz_lt (mm_up I_9 6 (7 * i0 + (I 1 i0 3).toNatClampNeg) 1 (p2 - p2 / (10 : Int32) * (10 : Int32))) fun I_10 => pz_lt (mm_up I_10 6 (7 * i0 + (I 1 i0 3).toNatClampNeg) 2 (p2 / (10 : Int32))) fun I_11 => pz_lt (mm_up I_11 6 (7 * i0 + (I 1 i0 3).toNatClampNeg) 3 p3) fun I_12 => pz_lt (mm_up I_12 1 i0 3 ((I_12 1 i0 3) + (1 : Int32))) fun I_13 => pz_lt (mm_up I_13 1 i0 7 ((I_13 1 i0 7) + (1 : Int32))) fun I_14 => some (I_14, ((I_14 1 i0 3) - (1 : Int32)))) else (some (I, (-4 : Int32))))))))
set_option maxRecDepth 100000 in
set_option maxHeartbeats 4000000 in
theorem c_X1_addSlip {l : Launch} {G : cx_T} {N n : Nat} {I J : mm_T} {i0 : Nat} {p1 : Int32} {p2 : Int32} {p3 : Int32} (hi0 : i0 < 2) {z : mm_T × Int32} (h : f_X1_addSlip N n I i0 p1 p2 p3 = some z) : ct_m l G n yX1_addSlip cX1_addSlip 5 (some .int) ({ frames := 1, cells := 0, slots := 0, locals := 21 }) [.ref (cx_b G + ly_loc 1 i0), .int p1, .int p2, .int p3] I J (ct_qi G n z.1 J z.2) := by
  refine ct_en (by decide) (Nat.le_of_ble_eq_true rfl) ?_
  intro p e s m args below meth c ls X S hl
  have X : cx_ok G p s m args meth c cX1_addSlip 5 RX1 (some .int) := X
  have hl : lv_has ls 5 [(0, .ref (cx_b G + ly_loc 1 i0)), (1, .int p1), (2, .int p2), (3, .int p3)] := hl
  have hn := S.2.2.2
  unfold f_X1_addSlip at h
  refine lv_iload_n X.1 X.2.1 dX1_addSlip_0 rfl (lv_at hl 1 rfl) ?_
  refine lv_if_lt (tgt := 29) X.1 X.2.1 dX1_addSlip_1 (by decide) (fun c_1 => ?_) (fun c_1 => ?_)
  · have h := pz_t c_1 h
    refine lv_bipush (v := -2) X.1 X.2.1 dX1_addSlip_29 (by decide) ?_
    cases h
    exact r_iret X S dX1_addSlip_31
  have h := pz_f c_1 h
  refine lv_iload_n X.1 X.2.1 dX1_addSlip_4 rfl (lv_at hl 1 rfl) ?_
  refine lv_iconst (v := 5) X.1 X.2.1 dX1_addSlip_5 (by decide) ?_
  refine lv_icmp_gt (tgt := 29) X.1 X.2.1 dX1_addSlip_6 (by decide) (fun c_2 => ?_) (fun c_2 => ?_)
  · have h := pz_t c_2 h
    refine lv_bipush (v := -2) X.1 X.2.1 dX1_addSlip_29 (by decide) ?_
    cases h
    exact r_iret X S dX1_addSlip_31
  have h := pz_f c_2 h
  refine lv_iload_n X.1 X.2.1 dX1_addSlip_9 rfl (lv_at hl 2 rfl) ?_
  refine lv_bipush (v := 10) X.1 X.2.1 dX1_addSlip_10 (by decide) ?_
  refine lv_icmp_lt (tgt := 29) X.1 X.2.1 dX1_addSlip_12 (by decide) (fun c_3 => ?_) (fun c_3 => ?_)
  · have h := pz_t c_3 h
    refine lv_bipush (v := -2) X.1 X.2.1 dX1_addSlip_29 (by decide) ?_
    cases h
    exact r_iret X S dX1_addSlip_31
  have h := pz_f c_3 h
  refine lv_iload_n X.1 X.2.1 dX1_addSlip_15 rfl (lv_at hl 2 rfl) ?_
  refine lv_bipush (v := 99) X.1 X.2.1 dX1_addSlip_16 (by decide) ?_
  refine lv_icmp_gt (tgt := 29) X.1 X.2.1 dX1_addSlip_18 (by decide) (fun c_4 => ?_) (fun c_4 => ?_)
  · have h := pz_t c_4 h
    refine lv_bipush (v := -2) X.1 X.2.1 dX1_addSlip_29 (by decide) ?_
    cases h
    exact r_iret X S dX1_addSlip_31
  have h := pz_f c_4 h
  refine lv_aload_n X.1 X.2.1 dX1_addSlip_21 rfl (lv_at hl 0 rfl) ?_
  refine lv_iload_n X.1 X.2.1 dX1_addSlip_22 rfl (lv_at hl 3 rfl) ?_
  obtain ⟨q_5, eq_5, h⟩ := pz_bd_e h
  refine r_Vi X S (c_X1_hasPerson hi0 eq_5) gd_X1_47 ⟨rfl, ny_X1_hasPerson⟩ ⟨rfl, rfl⟩ ⟨Nat.le_of_ble_eq_true rfl, Nat.le_of_ble_eq_true rfl⟩ (r_recv X S (ly_ok_1 hi0 hn) rfl rfl) rfl rfl hl.1 (Nat.le_of_ble_eq_true rfl) dX1_addSlip_23 (fun H locs S => ?_)
  refine lv_if_ne (tgt := 32) X.1 X.2.1 dX1_addSlip_26 (by decide) (fun c_6 => ?_) (fun c_6 => ?_)
  · have h := pz_f c_6 h
    refine lv_aload_n X.1 X.2.1 dX1_addSlip_32 rfl (lv_at hl 0 rfl) ?_
    refine gf_X1_32 X S hi0 dX1_addSlip_33 ?_
    refine lv_bipush (v := 7) X.1 X.2.1 dX1_addSlip_36 (by decide) ?_
    refine lv_icmp_lt (tgt := 44) X.1 X.2.1 dX1_addSlip_38 (by decide) (fun c_7 => ?_) (fun c_7 => ?_)
    · have h := pz_t c_7 h
      refine lv_aload_n X.1 X.2.1 dX1_addSlip_44 rfl (lv_at hl 0 rfl) ?_
      refine gf_X1_19 X S hi0 dX1_addSlip_45 ?_
      refine lv_aload_n X.1 X.2.1 dX1_addSlip_48 rfl (lv_at hl 0 rfl) ?_
      refine gf_X1_32 X S hi0 dX1_addSlip_49 ?_
      obtain ⟨g_8, h⟩ := pz_gd_e h
      refine aa_17 X S hi0 g_8 dX1_addSlip_52 ?_
      refine lv_astore (lv' := [(4, .ref (cx_b G + ly_loc 6 (7 * i0 + (I 1 i0 3).toNatClampNeg))), (0, .ref (cx_b G + ly_loc 1 i0)), (1, .int p1), (2, .int p2), (3, .int p3)]) X.1 X.2.1 dX1_addSlip_53 hl (by decide) rfl (fun ls hl => ?_)
      refine lv_aload X.1 X.2.1 dX1_addSlip_55 (lv_at hl 0 rfl) ?_
      refine lv_iload_n X.1 X.2.1 dX1_addSlip_57 rfl (lv_at hl 2 rfl) ?_
      refine pf_X1_51 X S (el_17 hi0 g_8) dX1_addSlip_58 (fun I_9 H locs eI_9 S => ?_)
      have h := pz_lt_e h eI_9
      refine lv_aload X.1 X.2.1 dX1_addSlip_61 (lv_at hl 0 rfl) ?_
      refine lv_iload_n X.1 X.2.1 dX1_addSlip_63 rfl (lv_at hl 3 rfl) ?_
      refine lv_bipush (v := 10) X.1 X.2.1 dX1_addSlip_64 (by decide) ?_
      refine lv_irem X.1 X.2.1 dX1_addSlip_66 (by decide) ?_
      refine pf_X1_54 X S (el_17 hi0 g_8) dX1_addSlip_67 (fun I_10 H locs eI_10 S => ?_)
      have h := pz_lt_e h eI_10
      refine lv_aload X.1 X.2.1 dX1_addSlip_70 (lv_at hl 0 rfl) ?_
      refine lv_iload_n X.1 X.2.1 dX1_addSlip_72 rfl (lv_at hl 3 rfl) ?_
      refine lv_bipush (v := 10) X.1 X.2.1 dX1_addSlip_73 (by decide) ?_
      refine lv_idiv X.1 X.2.1 dX1_addSlip_75 (by decide) ?_
      refine pf_X1_57 X S (el_17 hi0 g_8) dX1_addSlip_76 (fun I_11 H locs eI_11 S => ?_)
      have h := pz_lt_e h eI_11
      refine lv_aload X.1 X.2.1 dX1_addSlip_79 (lv_at hl 0 rfl) ?_
      refine lv_iload_n X.1 X.2.1 dX1_addSlip_81 rfl (lv_at hl 4 rfl) ?_
      refine pf_X1_35 X S (el_17 hi0 g_8) dX1_addSlip_82 (fun I_12 H locs eI_12 S => ?_)
      have h := pz_lt_e h eI_12
      refine lv_aload_n X.1 X.2.1 dX1_addSlip_85 rfl (lv_at hl 1 rfl) ?_
      refine lv_dup X.1 X.2.1 dX1_addSlip_86 rfl ?_
      refine gf_X1_32 X S hi0 dX1_addSlip_87 ?_
      refine lv_iconst (v := 1) X.1 X.2.1 dX1_addSlip_90 (by decide) ?_
      refine lv_iadd X.1 X.2.1 dX1_addSlip_91 ?_
      refine pf_X1_32 X S hi0 dX1_addSlip_92 (fun I_13 H locs eI_13 S => ?_)
      have h := pz_lt_e h eI_13
      refine lv_aload_n X.1 X.2.1 dX1_addSlip_95 rfl (lv_at hl 1 rfl) ?_
      refine lv_dup X.1 X.2.1 dX1_addSlip_96 rfl ?_
      refine gf_X1_44 X S hi0 dX1_addSlip_97 ?_
      refine lv_iconst (v := 1) X.1 X.2.1 dX1_addSlip_100 (by decide) ?_
      refine lv_iadd X.1 X.2.1 dX1_addSlip_101 ?_
      refine pf_X1_44 X S hi0 dX1_addSlip_102 (fun I_14 H locs eI_14 S => ?_)
      have h := pz_lt_e h eI_14
      refine lv_aload_n X.1 X.2.1 dX1_addSlip_105 rfl (lv_at hl 1 rfl) ?_
      refine gf_X1_32 X S hi0 dX1_addSlip_106 ?_
      refine lv_iconst (v := 1) X.1 X.2.1 dX1_addSlip_109 (by decide) ?_
      refine lv_isub X.1 X.2.1 dX1_addSlip_110 ?_
      cases h
      exact r_iret X S dX1_addSlip_111
    have h := pz_f c_7 h
    refine lv_bipush (v := -4) X.1 X.2.1 dX1_addSlip_41 (by decide) ?_
    cases h
    exact r_iret X S dX1_addSlip_43
  have h := pz_t c_6 h
  refine lv_bipush (v := -2) X.1 X.2.1 dX1_addSlip_29 (by decide) ?_
  cases h
  exact r_iret X S dX1_addSlip_31
def f_X1_hasValue (N n : Nat) (I : mm_T) (i0 : Nat) (p1 : Int32) (p2 : Int32) : Option (Int32) := pz_lt p1 fun x_1 => if x_1 = (0 : Int32) then (pz_bd (f_X1_hasPerson N n I i0 p2) fun q_3 => pz_gd (pz_z q_3) <| some q_3) else if x_1 = (1 : Int32) then (pz_bd (f_X1_hasPerson N n I i0 p2) fun q_6 => pz_gd (pz_z q_6) <| some q_6) else if x_1 = (2 : Int32) then (pz_bd (f_X1_hasSlip N n I i0 p2) fun q_9 => pz_gd (pz_z q_9) <| some q_9) else if x_1 = (3 : Int32) then (pz_bd (f_X1_hasSlip N n I i0 p2) fun q_12 => pz_gd (pz_z q_12) <| some q_12) else if x_1 = (4 : Int32) then (pz_bd (f_X1_hasSlip N n I i0 p2) fun q_15 => pz_gd (pz_z q_15) <| some q_15) else if x_1 = (5 : Int32) then (some (1 : Int32)) else if x_1 = (6 : Int32) then (some (1 : Int32)) else (some (0 : Int32))
set_option maxRecDepth 100000 in
set_option maxHeartbeats 4000000 in
theorem c_X1_hasValue {l : Launch} {G : cx_T} {N n : Nat} {I J : mm_T} {i0 : Nat} {p1 : Int32} {p2 : Int32} (hi0 : i0 < 2) {z : Int32} (h : f_X1_hasValue N n I i0 p1 p2 = some z) : ct_m l G n yX1_hasValue cX1_hasValue 3 (some .boolean) ({ frames := 1, cells := 0, slots := 0, locals := 21 }) [.ref (cx_b G + ly_loc 1 i0), .int p1, .int p2] I J (ct_qi G n I J z) := by
  refine ct_en (by decide) (Nat.le_of_ble_eq_true rfl) ?_
  intro p e s m args below meth c ls X S hl
  have X : cx_ok G p s m args meth c cX1_hasValue 3 RX1 (some .boolean) := X
  have hl : lv_has ls 3 [(0, .ref (cx_b G + ly_loc 1 i0)), (1, .int p1), (2, .int p2)] := hl
  have hn := S.2.2.2
  unfold f_X1_hasValue at h
  refine lv_iload_n X.1 X.2.1 dX1_hasValue_0 rfl (lv_at hl 1 rfl) ?_
  refine lv_topi (fun x_1 ex_1 => ?_)
  have h := pz_lt_e h ex_1
  rcases Decidable.em (x_1 = (0 : Int32)) with c_2 | c_2
  · have h := pz_t c_2 h
    refine lv_tableIn (off := 43) (tgt := 44) X.1 X.2.1 dX1_hasValue_1 (by rw [c_2]; decide +kernel) (by rw [c_2]; decide +kernel) (by rw [c_2]; decide +kernel) (by decide) ?_
    refine lv_aload_n X.1 X.2.1 dX1_hasValue_44 rfl (lv_at hl 0 rfl) ?_
    refine lv_iload_n X.1 X.2.1 dX1_hasValue_45 rfl (lv_at hl 2 rfl) ?_
    obtain ⟨q_3, eq_3, h⟩ := pz_bd_e h
    refine r_Vi X S (c_X1_hasPerson hi0 eq_3) gd_X1_47 ⟨rfl, ny_X1_hasPerson⟩ ⟨rfl, rfl⟩ ⟨Nat.le_of_ble_eq_true rfl, Nat.le_of_ble_eq_true rfl⟩ (r_recv X S (ly_ok_1 hi0 hn) rfl rfl) rfl rfl hl.1 (Nat.le_of_ble_eq_true rfl) dX1_hasValue_46 (fun H locs S => ?_)
    obtain ⟨g_4, h⟩ := pz_gd_e h
    cases h
    exact r_zret X S (pz_zn g_4) dX1_hasValue_49
  have h := pz_f c_2 h
  rcases Decidable.em (x_1 = (1 : Int32)) with c_5 | c_5
  · have h := pz_t c_5 h
    refine lv_tableIn (off := 43) (tgt := 44) X.1 X.2.1 dX1_hasValue_1 (by rw [c_5]; decide +kernel) (by rw [c_5]; decide +kernel) (by rw [c_5]; decide +kernel) (by decide) ?_
    refine lv_aload_n X.1 X.2.1 dX1_hasValue_44 rfl (lv_at hl 0 rfl) ?_
    refine lv_iload_n X.1 X.2.1 dX1_hasValue_45 rfl (lv_at hl 2 rfl) ?_
    obtain ⟨q_6, eq_6, h⟩ := pz_bd_e h
    refine r_Vi X S (c_X1_hasPerson hi0 eq_6) gd_X1_47 ⟨rfl, ny_X1_hasPerson⟩ ⟨rfl, rfl⟩ ⟨Nat.le_of_ble_eq_true rfl, Nat.le_of_ble_eq_true rfl⟩ (r_recv X S (ly_ok_1 hi0 hn) rfl rfl) rfl rfl hl.1 (Nat.le_of_ble_eq_true rfl) dX1_hasValue_46 (fun H locs S => ?_)
    obtain ⟨g_7, h⟩ := pz_gd_e h
    cases h
    exact r_zret X S (pz_zn g_7) dX1_hasValue_49
  have h := pz_f c_5 h
  rcases Decidable.em (x_1 = (2 : Int32)) with c_8 | c_8
  · have h := pz_t c_8 h
    refine lv_tableIn (off := 49) (tgt := 50) X.1 X.2.1 dX1_hasValue_1 (by rw [c_8]; decide +kernel) (by rw [c_8]; decide +kernel) (by rw [c_8]; decide +kernel) (by decide) ?_
    refine lv_aload_n X.1 X.2.1 dX1_hasValue_50 rfl (lv_at hl 0 rfl) ?_
    refine lv_iload_n X.1 X.2.1 dX1_hasValue_51 rfl (lv_at hl 2 rfl) ?_
    obtain ⟨q_9, eq_9, h⟩ := pz_bd_e h
    refine r_Vi X S (c_X1_hasSlip hi0 eq_9) gd_X1_60 ⟨rfl, ny_X1_hasSlip⟩ ⟨rfl, rfl⟩ ⟨Nat.le_of_ble_eq_true rfl, Nat.le_of_ble_eq_true rfl⟩ (r_recv X S (ly_ok_1 hi0 hn) rfl rfl) rfl rfl hl.1 (Nat.le_of_ble_eq_true rfl) dX1_hasValue_52 (fun H locs S => ?_)
    obtain ⟨g_10, h⟩ := pz_gd_e h
    cases h
    exact r_zret X S (pz_zn g_10) dX1_hasValue_55
  have h := pz_f c_8 h
  rcases Decidable.em (x_1 = (3 : Int32)) with c_11 | c_11
  · have h := pz_t c_11 h
    refine lv_tableIn (off := 49) (tgt := 50) X.1 X.2.1 dX1_hasValue_1 (by rw [c_11]; decide +kernel) (by rw [c_11]; decide +kernel) (by rw [c_11]; decide +kernel) (by decide) ?_
    refine lv_aload_n X.1 X.2.1 dX1_hasValue_50 rfl (lv_at hl 0 rfl) ?_
    refine lv_iload_n X.1 X.2.1 dX1_hasValue_51 rfl (lv_at hl 2 rfl) ?_
    obtain ⟨q_12, eq_12, h⟩ := pz_bd_e h
    refine r_Vi X S (c_X1_hasSlip hi0 eq_12) gd_X1_60 ⟨rfl, ny_X1_hasSlip⟩ ⟨rfl, rfl⟩ ⟨Nat.le_of_ble_eq_true rfl, Nat.le_of_ble_eq_true rfl⟩ (r_recv X S (ly_ok_1 hi0 hn) rfl rfl) rfl rfl hl.1 (Nat.le_of_ble_eq_true rfl) dX1_hasValue_52 (fun H locs S => ?_)
    obtain ⟨g_13, h⟩ := pz_gd_e h
    cases h
    exact r_zret X S (pz_zn g_13) dX1_hasValue_55
  have h := pz_f c_11 h
  rcases Decidable.em (x_1 = (4 : Int32)) with c_14 | c_14
  · have h := pz_t c_14 h
    refine lv_tableIn (off := 49) (tgt := 50) X.1 X.2.1 dX1_hasValue_1 (by rw [c_14]; decide +kernel) (by rw [c_14]; decide +kernel) (by rw [c_14]; decide +kernel) (by decide) ?_
    refine lv_aload_n X.1 X.2.1 dX1_hasValue_50 rfl (lv_at hl 0 rfl) ?_
    refine lv_iload_n X.1 X.2.1 dX1_hasValue_51 rfl (lv_at hl 2 rfl) ?_
    obtain ⟨q_15, eq_15, h⟩ := pz_bd_e h
    refine r_Vi X S (c_X1_hasSlip hi0 eq_15) gd_X1_60 ⟨rfl, ny_X1_hasSlip⟩ ⟨rfl, rfl⟩ ⟨Nat.le_of_ble_eq_true rfl, Nat.le_of_ble_eq_true rfl⟩ (r_recv X S (ly_ok_1 hi0 hn) rfl rfl) rfl rfl hl.1 (Nat.le_of_ble_eq_true rfl) dX1_hasValue_52 (fun H locs S => ?_)
    obtain ⟨g_16, h⟩ := pz_gd_e h
    cases h
    exact r_zret X S (pz_zn g_16) dX1_hasValue_55
  have h := pz_f c_14 h
  rcases Decidable.em (x_1 = (5 : Int32)) with c_17 | c_17
  · have h := pz_t c_17 h
    refine lv_tableIn (off := 55) (tgt := 56) X.1 X.2.1 dX1_hasValue_1 (by rw [c_17]; decide +kernel) (by rw [c_17]; decide +kernel) (by rw [c_17]; decide +kernel) (by decide) ?_
    refine lv_iconst (v := 1) X.1 X.2.1 dX1_hasValue_56 (by decide) ?_
    cases h
    exact r_zret X S rfl dX1_hasValue_57
  have h := pz_f c_17 h
  rcases Decidable.em (x_1 = (6 : Int32)) with c_18 | c_18
  · have h := pz_t c_18 h
    refine lv_tableIn (off := 55) (tgt := 56) X.1 X.2.1 dX1_hasValue_1 (by rw [c_18]; decide +kernel) (by rw [c_18]; decide +kernel) (by rw [c_18]; decide +kernel) (by decide) ?_
    refine lv_iconst (v := 1) X.1 X.2.1 dX1_hasValue_56 (by decide) ?_
    cases h
    exact r_zret X S rfl dX1_hasValue_57
  have h := pz_f c_18 h
  refine lv_tableOut (tgt := 58) X.1 X.2.1 dX1_hasValue_1 (pz_out 0 6 [(0 : Int32), (1 : Int32), (2 : Int32), (3 : Int32), (4 : Int32), (5 : Int32), (6 : Int32)] (by decide +kernel) (by simp only [List.forall_mem_cons, List.not_mem_nil, false_imp_iff, implies_true, and_true]; exact ⟨c_2, c_5, c_8, c_11, c_14, c_17, c_18⟩)) (by decide) ?_
  refine lv_iconst (v := 0) X.1 X.2.1 dX1_hasValue_58 (by decide) ?_
  cases h
  exact r_zret X S rfl dX1_hasValue_59
def f_X1_allows (N n : Nat) (I : mm_T) (i0 : Nat) (p1 : Int32) (p2 : Int32) : Option (Int32) := pz_lt p1 fun x_1 => if x_1 = (0 : Int32) then (if p2 < 0 then (some (0 : Int32)) else (if (99 : Int32) < p2 then (some (0 : Int32)) else (some (1 : Int32)))) else if x_1 = (1 : Int32) then (if p2 < 0 then (some (0 : Int32)) else (if (8 : Int32) ≤ p2 then (some (0 : Int32)) else (some (1 : Int32)))) else if x_1 = (2 : Int32) then (if p2 < 0 then (some (0 : Int32)) else (if (9 : Int32) < p2 then (some (0 : Int32)) else (some (1 : Int32)))) else if x_1 = (3 : Int32) then (if p2 < (1 : Int32) then (some (0 : Int32)) else (if (9 : Int32) < p2 then (some (0 : Int32)) else (some (1 : Int32)))) else if x_1 = (4 : Int32) then (pz_bd (f_X1_hasPerson N n I i0 p2) fun q_15 => pz_gd (pz_z q_15) <| some q_15) else if x_1 = (5 : Int32) then (if p2 < (-99 : Int32) then (some (0 : Int32)) else (if (99 : Int32) < p2 then (some (0 : Int32)) else (some (1 : Int32)))) else if x_1 = (6 : Int32) then (if p2 < (1 : Int32) then (some (0 : Int32)) else (if (99 : Int32) < p2 then (some (0 : Int32)) else (some (1 : Int32)))) else (some (0 : Int32))
set_option maxRecDepth 100000 in
set_option maxHeartbeats 4000000 in
theorem c_X1_allows {l : Launch} {G : cx_T} {N n : Nat} {I J : mm_T} {i0 : Nat} {p1 : Int32} {p2 : Int32} (hi0 : i0 < 2) {z : Int32} (h : f_X1_allows N n I i0 p1 p2 = some z) : ct_m l G n yX1_allows cX1_allows 3 (some .boolean) ({ frames := 1, cells := 0, slots := 0, locals := 21 }) [.ref (cx_b G + ly_loc 1 i0), .int p1, .int p2] I J (ct_qi G n I J z) := by
  refine ct_en (by decide) (Nat.le_of_ble_eq_true rfl) ?_
  intro p e s m args below meth c ls X S hl
  have X : cx_ok G p s m args meth c cX1_allows 3 RX1 (some .boolean) := X
  have hl : lv_has ls 3 [(0, .ref (cx_b G + ly_loc 1 i0)), (1, .int p1), (2, .int p2)] := hl
  have hn := S.2.2.2
  unfold f_X1_allows at h
  refine lv_iload_n X.1 X.2.1 dX1_allows_0 rfl (lv_at hl 1 rfl) ?_
  refine lv_topi (fun x_1 ex_1 => ?_)
  have h := pz_lt_e h ex_1
  rcases Decidable.em (x_1 = (0 : Int32)) with c_2 | c_2
  · have h := pz_t c_2 h
    refine lv_tableIn (off := 43) (tgt := 44) X.1 X.2.1 dX1_allows_1 (by rw [c_2]; decide +kernel) (by rw [c_2]; decide +kernel) (by rw [c_2]; decide +kernel) (by decide) ?_
    refine lv_iload_n X.1 X.2.1 dX1_allows_44 rfl (lv_at hl 2 rfl) ?_
    refine lv_if_lt (tgt := 58) X.1 X.2.1 dX1_allows_45 (by decide) (fun c_3 => ?_) (fun c_3 => ?_)
    · have h := pz_t c_3 h
      refine lv_iconst (v := 0) X.1 X.2.1 dX1_allows_58 (by decide) ?_
      cases h
      exact r_zret X S rfl dX1_allows_59
    have h := pz_f c_3 h
    refine lv_iload_n X.1 X.2.1 dX1_allows_48 rfl (lv_at hl 2 rfl) ?_
    refine lv_bipush (v := 99) X.1 X.2.1 dX1_allows_49 (by decide) ?_
    refine lv_icmp_gt (tgt := 58) X.1 X.2.1 dX1_allows_51 (by decide) (fun c_4 => ?_) (fun c_4 => ?_)
    · have h := pz_t c_4 h
      refine lv_iconst (v := 0) X.1 X.2.1 dX1_allows_58 (by decide) ?_
      cases h
      exact r_zret X S rfl dX1_allows_59
    have h := pz_f c_4 h
    refine lv_iconst (v := 1) X.1 X.2.1 dX1_allows_54 (by decide) ?_
    refine lv_goto (tgt := 59) X.1 X.2.1 dX1_allows_55 (by decide) ?_
    cases h
    exact r_zret X S rfl dX1_allows_59
  have h := pz_f c_2 h
  rcases Decidable.em (x_1 = (1 : Int32)) with c_5 | c_5
  · have h := pz_t c_5 h
    refine lv_tableIn (off := 59) (tgt := 60) X.1 X.2.1 dX1_allows_1 (by rw [c_5]; decide +kernel) (by rw [c_5]; decide +kernel) (by rw [c_5]; decide +kernel) (by decide) ?_
    refine lv_iload_n X.1 X.2.1 dX1_allows_60 rfl (lv_at hl 2 rfl) ?_
    refine lv_if_lt (tgt := 74) X.1 X.2.1 dX1_allows_61 (by decide) (fun c_6 => ?_) (fun c_6 => ?_)
    · have h := pz_t c_6 h
      refine lv_iconst (v := 0) X.1 X.2.1 dX1_allows_74 (by decide) ?_
      cases h
      exact r_zret X S rfl dX1_allows_75
    have h := pz_f c_6 h
    refine lv_iload_n X.1 X.2.1 dX1_allows_64 rfl (lv_at hl 2 rfl) ?_
    refine lv_bipush (v := 8) X.1 X.2.1 dX1_allows_65 (by decide) ?_
    refine lv_icmp_ge (tgt := 74) X.1 X.2.1 dX1_allows_67 (by decide) (fun c_7 => ?_) (fun c_7 => ?_)
    · have h := pz_t c_7 h
      refine lv_iconst (v := 0) X.1 X.2.1 dX1_allows_74 (by decide) ?_
      cases h
      exact r_zret X S rfl dX1_allows_75
    have h := pz_f c_7 h
    refine lv_iconst (v := 1) X.1 X.2.1 dX1_allows_70 (by decide) ?_
    refine lv_goto (tgt := 75) X.1 X.2.1 dX1_allows_71 (by decide) ?_
    cases h
    exact r_zret X S rfl dX1_allows_75
  have h := pz_f c_5 h
  rcases Decidable.em (x_1 = (2 : Int32)) with c_8 | c_8
  · have h := pz_t c_8 h
    refine lv_tableIn (off := 75) (tgt := 76) X.1 X.2.1 dX1_allows_1 (by rw [c_8]; decide +kernel) (by rw [c_8]; decide +kernel) (by rw [c_8]; decide +kernel) (by decide) ?_
    refine lv_iload_n X.1 X.2.1 dX1_allows_76 rfl (lv_at hl 2 rfl) ?_
    refine lv_if_lt (tgt := 90) X.1 X.2.1 dX1_allows_77 (by decide) (fun c_9 => ?_) (fun c_9 => ?_)
    · have h := pz_t c_9 h
      refine lv_iconst (v := 0) X.1 X.2.1 dX1_allows_90 (by decide) ?_
      cases h
      exact r_zret X S rfl dX1_allows_91
    have h := pz_f c_9 h
    refine lv_iload_n X.1 X.2.1 dX1_allows_80 rfl (lv_at hl 2 rfl) ?_
    refine lv_bipush (v := 9) X.1 X.2.1 dX1_allows_81 (by decide) ?_
    refine lv_icmp_gt (tgt := 90) X.1 X.2.1 dX1_allows_83 (by decide) (fun c_10 => ?_) (fun c_10 => ?_)
    · have h := pz_t c_10 h
      refine lv_iconst (v := 0) X.1 X.2.1 dX1_allows_90 (by decide) ?_
      cases h
      exact r_zret X S rfl dX1_allows_91
    have h := pz_f c_10 h
    refine lv_iconst (v := 1) X.1 X.2.1 dX1_allows_86 (by decide) ?_
    refine lv_goto (tgt := 91) X.1 X.2.1 dX1_allows_87 (by decide) ?_
    cases h
    exact r_zret X S rfl dX1_allows_91
  have h := pz_f c_8 h
  rcases Decidable.em (x_1 = (3 : Int32)) with c_11 | c_11
  · have h := pz_t c_11 h
    refine lv_tableIn (off := 91) (tgt := 92) X.1 X.2.1 dX1_allows_1 (by rw [c_11]; decide +kernel) (by rw [c_11]; decide +kernel) (by rw [c_11]; decide +kernel) (by decide) ?_
    refine lv_iload_n X.1 X.2.1 dX1_allows_92 rfl (lv_at hl 2 rfl) ?_
    refine lv_iconst (v := 1) X.1 X.2.1 dX1_allows_93 (by decide) ?_
    refine lv_icmp_lt (tgt := 107) X.1 X.2.1 dX1_allows_94 (by decide) (fun c_12 => ?_) (fun c_12 => ?_)
    · have h := pz_t c_12 h
      refine lv_iconst (v := 0) X.1 X.2.1 dX1_allows_107 (by decide) ?_
      cases h
      exact r_zret X S rfl dX1_allows_108
    have h := pz_f c_12 h
    refine lv_iload_n X.1 X.2.1 dX1_allows_97 rfl (lv_at hl 2 rfl) ?_
    refine lv_bipush (v := 9) X.1 X.2.1 dX1_allows_98 (by decide) ?_
    refine lv_icmp_gt (tgt := 107) X.1 X.2.1 dX1_allows_100 (by decide) (fun c_13 => ?_) (fun c_13 => ?_)
    · have h := pz_t c_13 h
      refine lv_iconst (v := 0) X.1 X.2.1 dX1_allows_107 (by decide) ?_
      cases h
      exact r_zret X S rfl dX1_allows_108
    have h := pz_f c_13 h
    refine lv_iconst (v := 1) X.1 X.2.1 dX1_allows_103 (by decide) ?_
    refine lv_goto (tgt := 108) X.1 X.2.1 dX1_allows_104 (by decide) ?_
    cases h
    exact r_zret X S rfl dX1_allows_108
  have h := pz_f c_11 h
  rcases Decidable.em (x_1 = (4 : Int32)) with c_14 | c_14
  · have h := pz_t c_14 h
    refine lv_tableIn (off := 108) (tgt := 109) X.1 X.2.1 dX1_allows_1 (by rw [c_14]; decide +kernel) (by rw [c_14]; decide +kernel) (by rw [c_14]; decide +kernel) (by decide) ?_
    refine lv_aload_n X.1 X.2.1 dX1_allows_109 rfl (lv_at hl 0 rfl) ?_
    refine lv_iload_n X.1 X.2.1 dX1_allows_110 rfl (lv_at hl 2 rfl) ?_
    obtain ⟨q_15, eq_15, h⟩ := pz_bd_e h
    refine r_Vi X S (c_X1_hasPerson hi0 eq_15) gd_X1_47 ⟨rfl, ny_X1_hasPerson⟩ ⟨rfl, rfl⟩ ⟨Nat.le_of_ble_eq_true rfl, Nat.le_of_ble_eq_true rfl⟩ (r_recv X S (ly_ok_1 hi0 hn) rfl rfl) rfl rfl hl.1 (Nat.le_of_ble_eq_true rfl) dX1_allows_111 (fun H locs S => ?_)
    obtain ⟨g_16, h⟩ := pz_gd_e h
    cases h
    exact r_zret X S (pz_zn g_16) dX1_allows_114
  have h := pz_f c_14 h
  rcases Decidable.em (x_1 = (5 : Int32)) with c_17 | c_17
  · have h := pz_t c_17 h
    refine lv_tableIn (off := 114) (tgt := 115) X.1 X.2.1 dX1_allows_1 (by rw [c_17]; decide +kernel) (by rw [c_17]; decide +kernel) (by rw [c_17]; decide +kernel) (by decide) ?_
    refine lv_iload_n X.1 X.2.1 dX1_allows_115 rfl (lv_at hl 2 rfl) ?_
    refine lv_bipush (v := -99) X.1 X.2.1 dX1_allows_116 (by decide) ?_
    refine lv_icmp_lt (tgt := 131) X.1 X.2.1 dX1_allows_118 (by decide) (fun c_18 => ?_) (fun c_18 => ?_)
    · have h := pz_t c_18 h
      refine lv_iconst (v := 0) X.1 X.2.1 dX1_allows_131 (by decide) ?_
      cases h
      exact r_zret X S rfl dX1_allows_132
    have h := pz_f c_18 h
    refine lv_iload_n X.1 X.2.1 dX1_allows_121 rfl (lv_at hl 2 rfl) ?_
    refine lv_bipush (v := 99) X.1 X.2.1 dX1_allows_122 (by decide) ?_
    refine lv_icmp_gt (tgt := 131) X.1 X.2.1 dX1_allows_124 (by decide) (fun c_19 => ?_) (fun c_19 => ?_)
    · have h := pz_t c_19 h
      refine lv_iconst (v := 0) X.1 X.2.1 dX1_allows_131 (by decide) ?_
      cases h
      exact r_zret X S rfl dX1_allows_132
    have h := pz_f c_19 h
    refine lv_iconst (v := 1) X.1 X.2.1 dX1_allows_127 (by decide) ?_
    refine lv_goto (tgt := 132) X.1 X.2.1 dX1_allows_128 (by decide) ?_
    cases h
    exact r_zret X S rfl dX1_allows_132
  have h := pz_f c_17 h
  rcases Decidable.em (x_1 = (6 : Int32)) with c_20 | c_20
  · have h := pz_t c_20 h
    refine lv_tableIn (off := 132) (tgt := 133) X.1 X.2.1 dX1_allows_1 (by rw [c_20]; decide +kernel) (by rw [c_20]; decide +kernel) (by rw [c_20]; decide +kernel) (by decide) ?_
    refine lv_iload_n X.1 X.2.1 dX1_allows_133 rfl (lv_at hl 2 rfl) ?_
    refine lv_iconst (v := 1) X.1 X.2.1 dX1_allows_134 (by decide) ?_
    refine lv_icmp_lt (tgt := 148) X.1 X.2.1 dX1_allows_135 (by decide) (fun c_21 => ?_) (fun c_21 => ?_)
    · have h := pz_t c_21 h
      refine lv_iconst (v := 0) X.1 X.2.1 dX1_allows_148 (by decide) ?_
      cases h
      exact r_zret X S rfl dX1_allows_149
    have h := pz_f c_21 h
    refine lv_iload_n X.1 X.2.1 dX1_allows_138 rfl (lv_at hl 2 rfl) ?_
    refine lv_bipush (v := 99) X.1 X.2.1 dX1_allows_139 (by decide) ?_
    refine lv_icmp_gt (tgt := 148) X.1 X.2.1 dX1_allows_141 (by decide) (fun c_22 => ?_) (fun c_22 => ?_)
    · have h := pz_t c_22 h
      refine lv_iconst (v := 0) X.1 X.2.1 dX1_allows_148 (by decide) ?_
      cases h
      exact r_zret X S rfl dX1_allows_149
    have h := pz_f c_22 h
    refine lv_iconst (v := 1) X.1 X.2.1 dX1_allows_144 (by decide) ?_
    refine lv_goto (tgt := 149) X.1 X.2.1 dX1_allows_145 (by decide) ?_
    cases h
    exact r_zret X S rfl dX1_allows_149
  have h := pz_f c_20 h
  refine lv_tableOut (tgt := 150) X.1 X.2.1 dX1_allows_1 (pz_out 0 6 [(0 : Int32), (1 : Int32), (2 : Int32), (3 : Int32), (4 : Int32), (5 : Int32), (6 : Int32)] (by decide +kernel) (by simp only [List.forall_mem_cons, List.not_mem_nil, false_imp_iff, implies_true, and_true]; exact ⟨c_2, c_5, c_8, c_11, c_14, c_17, c_20⟩)) (by decide) ?_
  refine lv_iconst (v := 0) X.1 X.2.1 dX1_allows_150 (by decide) ?_
  cases h
  exact r_zret X S rfl dX1_allows_151
def f_X1_valueOf (N n : Nat) (I : mm_T) (i0 : Nat) (p1 : Int32) (p2 : Int32) : Option (Int32) := pz_bd (f_X1_hasValue N n I i0 p1 p2) fun q_1 => if q_1 = 0 then (some (-2 : Int32)) else (pz_lt p1 fun x_3 => if x_3 = (0 : Int32) then (pz_gd (ix_in p2 8) <| some (I 2 (8 * i0 + p2.toNatClampNeg) 0)) else if x_3 = (1 : Int32) then (pz_gd (ix_in p2 8) <| some (I 2 (8 * i0 + p2.toNatClampNeg) 1)) else if x_3 = (2 : Int32) then (pz_gd (ix_in p2 7) <| some (I 6 (7 * i0 + p2.toNatClampNeg) 1)) else if x_3 = (3 : Int32) then (pz_gd (ix_in p2 7) <| some (I 6 (7 * i0 + p2.toNatClampNeg) 2)) else if x_3 = (4 : Int32) then (pz_gd (ix_in p2 7) <| some (I 6 (7 * i0 + p2.toNatClampNeg) 3)) else if x_3 = (5 : Int32) then (some (I 1 i0 4)) else (some (I 1 i0 5)))
set_option maxRecDepth 100000 in
set_option maxHeartbeats 4000000 in
theorem c_X1_valueOf {l : Launch} {G : cx_T} {N n : Nat} {I J : mm_T} {i0 : Nat} {p1 : Int32} {p2 : Int32} (hi0 : i0 < 2) {z : Int32} (h : f_X1_valueOf N n I i0 p1 p2 = some z) : ct_m l G n yX1_valueOf cX1_valueOf 3 (some .int) ({ frames := 2, cells := 0, slots := 0, locals := 43 }) [.ref (cx_b G + ly_loc 1 i0), .int p1, .int p2] I J (ct_qi G n I J z) := by
  refine ct_en (by decide) (Nat.le_of_ble_eq_true rfl) ?_
  intro p e s m args below meth c ls X S hl
  have X : cx_ok G p s m args meth c cX1_valueOf 3 RX1 (some .int) := X
  have hl : lv_has ls 3 [(0, .ref (cx_b G + ly_loc 1 i0)), (1, .int p1), (2, .int p2)] := hl
  have hn := S.2.2.2
  unfold f_X1_valueOf at h
  refine lv_aload_n X.1 X.2.1 dX1_valueOf_0 rfl (lv_at hl 0 rfl) ?_
  refine lv_iload_n X.1 X.2.1 dX1_valueOf_1 rfl (lv_at hl 1 rfl) ?_
  refine lv_iload_n X.1 X.2.1 dX1_valueOf_2 rfl (lv_at hl 2 rfl) ?_
  obtain ⟨q_1, eq_1, h⟩ := pz_bd_e h
  refine r_Vi X S (c_X1_hasValue hi0 eq_1) gd_X1_63 ⟨rfl, ny_X1_hasValue⟩ ⟨rfl, rfl⟩ ⟨Nat.le_of_ble_eq_true rfl, Nat.le_of_ble_eq_true rfl⟩ (r_recv X S (ly_ok_1 hi0 hn) rfl rfl) rfl rfl hl.1 (Nat.le_of_ble_eq_true rfl) dX1_valueOf_3 (fun H locs S => ?_)
  refine lv_if_ne (tgt := 12) X.1 X.2.1 dX1_valueOf_6 (by decide) (fun c_2 => ?_) (fun c_2 => ?_)
  · have h := pz_f c_2 h
    refine lv_iload_n X.1 X.2.1 dX1_valueOf_12 rfl (lv_at hl 1 rfl) ?_
    refine lv_topi (fun x_3 ex_3 => ?_)
    have h := pz_lt_e h ex_3
    rcases Decidable.em (x_3 = (0 : Int32)) with c_4 | c_4
    · have h := pz_t c_4 h
      refine lv_tableIn (off := 39) (tgt := 52) X.1 X.2.1 dX1_valueOf_13 (by rw [c_4]; decide +kernel) (by rw [c_4]; decide +kernel) (by rw [c_4]; decide +kernel) (by decide) ?_
      refine lv_aload_n X.1 X.2.1 dX1_valueOf_52 rfl (lv_at hl 0 rfl) ?_
      refine gf_X1_11 X S hi0 dX1_valueOf_53 ?_
      refine lv_iload_n X.1 X.2.1 dX1_valueOf_56 rfl (lv_at hl 2 rfl) ?_
      obtain ⟨g_5, h⟩ := pz_gd_e h
      refine aa_16 X S hi0 g_5 dX1_valueOf_57 ?_
      refine gf_X1_41 X S (el_16 hi0 g_5) dX1_valueOf_58 ?_
      cases h
      exact r_iret X S dX1_valueOf_61
    have h := pz_f c_4 h
    rcases Decidable.em (x_3 = (1 : Int32)) with c_6 | c_6
    · have h := pz_t c_6 h
      refine lv_tableIn (off := 49) (tgt := 62) X.1 X.2.1 dX1_valueOf_13 (by rw [c_6]; decide +kernel) (by rw [c_6]; decide +kernel) (by rw [c_6]; decide +kernel) (by decide) ?_
      refine lv_aload_n X.1 X.2.1 dX1_valueOf_62 rfl (lv_at hl 0 rfl) ?_
      refine gf_X1_11 X S hi0 dX1_valueOf_63 ?_
      refine lv_iload_n X.1 X.2.1 dX1_valueOf_66 rfl (lv_at hl 2 rfl) ?_
      obtain ⟨g_7, h⟩ := pz_gd_e h
      refine aa_16 X S hi0 g_7 dX1_valueOf_67 ?_
      refine gf_X1_38 X S (el_16 hi0 g_7) dX1_valueOf_68 ?_
      cases h
      exact r_iret X S dX1_valueOf_71
    have h := pz_f c_6 h
    rcases Decidable.em (x_3 = (2 : Int32)) with c_8 | c_8
    · have h := pz_t c_8 h
      refine lv_tableIn (off := 59) (tgt := 72) X.1 X.2.1 dX1_valueOf_13 (by rw [c_8]; decide +kernel) (by rw [c_8]; decide +kernel) (by rw [c_8]; decide +kernel) (by decide) ?_
      refine lv_aload_n X.1 X.2.1 dX1_valueOf_72 rfl (lv_at hl 0 rfl) ?_
      refine gf_X1_19 X S hi0 dX1_valueOf_73 ?_
      refine lv_iload_n X.1 X.2.1 dX1_valueOf_76 rfl (lv_at hl 2 rfl) ?_
      obtain ⟨g_9, h⟩ := pz_gd_e h
      refine aa_17 X S hi0 g_9 dX1_valueOf_77 ?_
      refine gf_X1_54 X S (el_17 hi0 g_9) dX1_valueOf_78 ?_
      cases h
      exact r_iret X S dX1_valueOf_81
    have h := pz_f c_8 h
    rcases Decidable.em (x_3 = (3 : Int32)) with c_10 | c_10
    · have h := pz_t c_10 h
      refine lv_tableIn (off := 69) (tgt := 82) X.1 X.2.1 dX1_valueOf_13 (by rw [c_10]; decide +kernel) (by rw [c_10]; decide +kernel) (by rw [c_10]; decide +kernel) (by decide) ?_
      refine lv_aload_n X.1 X.2.1 dX1_valueOf_82 rfl (lv_at hl 0 rfl) ?_
      refine gf_X1_19 X S hi0 dX1_valueOf_83 ?_
      refine lv_iload_n X.1 X.2.1 dX1_valueOf_86 rfl (lv_at hl 2 rfl) ?_
      obtain ⟨g_11, h⟩ := pz_gd_e h
      refine aa_17 X S hi0 g_11 dX1_valueOf_87 ?_
      refine gf_X1_57 X S (el_17 hi0 g_11) dX1_valueOf_88 ?_
      cases h
      exact r_iret X S dX1_valueOf_91
    have h := pz_f c_10 h
    rcases Decidable.em (x_3 = (4 : Int32)) with c_12 | c_12
    · have h := pz_t c_12 h
      refine lv_tableIn (off := 79) (tgt := 92) X.1 X.2.1 dX1_valueOf_13 (by rw [c_12]; decide +kernel) (by rw [c_12]; decide +kernel) (by rw [c_12]; decide +kernel) (by decide) ?_
      refine lv_aload_n X.1 X.2.1 dX1_valueOf_92 rfl (lv_at hl 0 rfl) ?_
      refine gf_X1_19 X S hi0 dX1_valueOf_93 ?_
      refine lv_iload_n X.1 X.2.1 dX1_valueOf_96 rfl (lv_at hl 2 rfl) ?_
      obtain ⟨g_13, h⟩ := pz_gd_e h
      refine aa_17 X S hi0 g_13 dX1_valueOf_97 ?_
      refine gf_X1_35 X S (el_17 hi0 g_13) dX1_valueOf_98 ?_
      cases h
      exact r_iret X S dX1_valueOf_101
    have h := pz_f c_12 h
    rcases Decidable.em (x_3 = (5 : Int32)) with c_14 | c_14
    · have h := pz_t c_14 h
      refine lv_tableIn (off := 89) (tgt := 102) X.1 X.2.1 dX1_valueOf_13 (by rw [c_14]; decide +kernel) (by rw [c_14]; decide +kernel) (by rw [c_14]; decide +kernel) (by decide) ?_
      refine lv_aload_n X.1 X.2.1 dX1_valueOf_102 rfl (lv_at hl 0 rfl) ?_
      refine gf_X1_67 X S hi0 dX1_valueOf_103 ?_
      cases h
      exact r_iret X S dX1_valueOf_106
    have h := pz_f c_14 h
    refine lv_tableOut (tgt := 107) X.1 X.2.1 dX1_valueOf_13 (pz_out 0 5 [(0 : Int32), (1 : Int32), (2 : Int32), (3 : Int32), (4 : Int32), (5 : Int32)] (by decide +kernel) (by simp only [List.forall_mem_cons, List.not_mem_nil, false_imp_iff, implies_true, and_true]; exact ⟨c_4, c_6, c_8, c_10, c_12, c_14⟩)) (by decide) ?_
    refine lv_aload_n X.1 X.2.1 dX1_valueOf_107 rfl (lv_at hl 0 rfl) ?_
    refine gf_X1_23 X S hi0 dX1_valueOf_108 ?_
    cases h
    exact r_iret X S dX1_valueOf_111
  have h := pz_t c_2 h
  refine lv_bipush (v := -2) X.1 X.2.1 dX1_valueOf_9 (by decide) ?_
  cases h
  exact r_iret X S dX1_valueOf_11
def f_X1_change (N n : Nat) (I : mm_T) (i0 : Nat) (p1 : Int32) (p2 : Int32) (p3 : Int32) : Option (mm_T) := pz_bd (f_X1_hasValue N n I i0 p1 p2) fun q_1 => if q_1 = 0 then (some I) else (pz_bd (f_X1_allows N n I i0 p1 p3) fun q_3 => if q_3 = 0 then (some I) else (pz_lt p1 fun x_5 => if x_5 = (0 : Int32) then (pz_gd (ix_in p2 8) <| pz_lt (mm_up I 2 (8 * i0 + p2.toNatClampNeg) 0 p3) fun I_8 => pz_lt (mm_up I_8 1 i0 7 ((I_8 1 i0 7) + (1 : Int32))) fun I_9 => some I_9) else if x_5 = (1 : Int32) then (pz_gd (ix_in p2 8) <| pz_lt (mm_up I 2 (8 * i0 + p2.toNatClampNeg) 1 p3) fun I_12 => pz_lt (mm_up I_12 1 i0 7 ((I_12 1 i0 7) + (1 : Int32))) fun I_13 => some I_13) else if x_5 = (2 : Int32) then (pz_gd (ix_in p2 7) <| pz_lt (mm_up I 6 (7 * i0 + p2.toNatClampNeg) 1 p3) fun I_16 => pz_lt (mm_up I_16 1 i0 7 ((I_16 1 i0 7) + (1 : Int32))) fun I_17 => some I_17) else if x_5 = (3 : Int32) then (pz_gd (ix_in p2 7) <| pz_lt (mm_up I 6 (7 * i0 + p2.toNatClampNeg) 2 p3) fun I_20 => pz_lt (mm_up I_20 1 i0 7 ((I_20 1 i0 7) + (1 : Int32))) fun I_21 => some I_21) else if x_5 = (4 : Int32) then (pz_gd (ix_in p2 7) <| pz_lt (mm_up I 6 (7 * i0 + p2.toNatClampNeg) 3 p3) fun I_24 => pz_lt (mm_up I_24 1 i0 7 ((I_24 1 i0 7) + (1 : Int32))) fun I_25 => some I_25) else if x_5 = (5 : Int32) then (pz_lt (mm_up I 1 i0 4 p3) fun I_27 => pz_lt (mm_up I_27 1 i0 7 ((I_27 1 i0 7) + (1 : Int32))) fun I_28 => some I_28) else (pz_lt (mm_up I 1 i0 5 p3) fun I_29 => pz_lt (mm_up I_29 1 i0 7 ((I_29 1 i0 7) + (1 : Int32))) fun I_30 => some I_30)))
set_option maxRecDepth 100000 in
set_option maxHeartbeats 4000000 in
theorem c_X1_change {l : Launch} {G : cx_T} {N n : Nat} {I J : mm_T} {i0 : Nat} {p1 : Int32} {p2 : Int32} {p3 : Int32} (hi0 : i0 < 2) {z : mm_T} (h : f_X1_change N n I i0 p1 p2 p3 = some z) : ct_m l G n yX1_change cX1_change 4 none ({ frames := 2, cells := 0, slots := 0, locals := 43 }) [.ref (cx_b G + ly_loc 1 i0), .int p1, .int p2, .int p3] I J (ct_qv G n z J) := by
  refine ct_en (by decide) (Nat.le_of_ble_eq_true rfl) ?_
  intro p e s m args below meth c ls X S hl
  have X : cx_ok G p s m args meth c cX1_change 4 RX1 none := X
  have hl : lv_has ls 4 [(0, .ref (cx_b G + ly_loc 1 i0)), (1, .int p1), (2, .int p2), (3, .int p3)] := hl
  have hn := S.2.2.2
  unfold f_X1_change at h
  refine lv_aload_n X.1 X.2.1 dX1_change_0 rfl (lv_at hl 0 rfl) ?_
  refine lv_iload_n X.1 X.2.1 dX1_change_1 rfl (lv_at hl 1 rfl) ?_
  refine lv_iload_n X.1 X.2.1 dX1_change_2 rfl (lv_at hl 2 rfl) ?_
  obtain ⟨q_1, eq_1, h⟩ := pz_bd_e h
  refine r_Vi X S (c_X1_hasValue hi0 eq_1) gd_X1_63 ⟨rfl, ny_X1_hasValue⟩ ⟨rfl, rfl⟩ ⟨Nat.le_of_ble_eq_true rfl, Nat.le_of_ble_eq_true rfl⟩ (r_recv X S (ly_ok_1 hi0 hn) rfl rfl) rfl rfl hl.1 (Nat.le_of_ble_eq_true rfl) dX1_change_3 (fun H locs S => ?_)
  refine lv_if_eq (tgt := 18) X.1 X.2.1 dX1_change_6 (by decide) (fun c_2 => ?_) (fun c_2 => ?_)
  · have h := pz_t c_2 h
    cases h
    exact r_vret X S dX1_change_18
  have h := pz_f c_2 h
  refine lv_aload_n X.1 X.2.1 dX1_change_9 rfl (lv_at hl 0 rfl) ?_
  refine lv_iload_n X.1 X.2.1 dX1_change_10 rfl (lv_at hl 1 rfl) ?_
  refine lv_iload_n X.1 X.2.1 dX1_change_11 rfl (lv_at hl 3 rfl) ?_
  obtain ⟨q_3, eq_3, h⟩ := pz_bd_e h
  refine r_Vi X S (c_X1_allows hi0 eq_3) gd_X1_70 ⟨rfl, ny_X1_allows⟩ ⟨rfl, rfl⟩ ⟨Nat.le_of_ble_eq_true rfl, Nat.le_of_ble_eq_true rfl⟩ (r_recv X S (ly_ok_1 hi0 hn) rfl rfl) rfl rfl hl.1 (Nat.le_of_ble_eq_true rfl) dX1_change_12 (fun H locs S => ?_)
  refine lv_if_ne (tgt := 19) X.1 X.2.1 dX1_change_15 (by decide) (fun c_4 => ?_) (fun c_4 => ?_)
  · have h := pz_f c_4 h
    refine lv_iload_n X.1 X.2.1 dX1_change_19 rfl (lv_at hl 1 rfl) ?_
    refine lv_topi (fun x_5 ex_5 => ?_)
    have h := pz_lt_e h ex_5
    rcases Decidable.em (x_5 = (0 : Int32)) with c_6 | c_6
    · have h := pz_t c_6 h
      refine lv_tableIn (off := 40) (tgt := 60) X.1 X.2.1 dX1_change_20 (by rw [c_6]; decide +kernel) (by rw [c_6]; decide +kernel) (by rw [c_6]; decide +kernel) (by decide) ?_
      refine lv_aload_n X.1 X.2.1 dX1_change_60 rfl (lv_at hl 0 rfl) ?_
      refine gf_X1_11 X S hi0 dX1_change_61 ?_
      refine lv_iload_n X.1 X.2.1 dX1_change_64 rfl (lv_at hl 2 rfl) ?_
      obtain ⟨g_7, h⟩ := pz_gd_e h
      refine aa_16 X S hi0 g_7 dX1_change_65 ?_
      refine lv_iload_n X.1 X.2.1 dX1_change_66 rfl (lv_at hl 3 rfl) ?_
      refine pf_X1_41 X S (el_16 hi0 g_7) dX1_change_67 (fun I_8 H locs eI_8 S => ?_)
      have h := pz_lt_e h eI_8
      refine lv_goto (tgt := 138) X.1 X.2.1 dX1_change_70 (by decide) ?_
      refine lv_aload_n X.1 X.2.1 dX1_change_138 rfl (lv_at hl 0 rfl) ?_
      refine lv_dup X.1 X.2.1 dX1_change_139 rfl ?_
      refine gf_X1_44 X S hi0 dX1_change_140 ?_
      refine lv_iconst (v := 1) X.1 X.2.1 dX1_change_143 (by decide) ?_
      refine lv_iadd X.1 X.2.1 dX1_change_144 ?_
      refine pf_X1_44 X S hi0 dX1_change_145 (fun I_9 H locs eI_9 S => ?_)
      have h := pz_lt_e h eI_9
      cases h
      exact r_vret X S dX1_change_148
    have h := pz_f c_6 h
    rcases Decidable.em (x_5 = (1 : Int32)) with c_10 | c_10
    · have h := pz_t c_10 h
      refine lv_tableIn (off := 53) (tgt := 73) X.1 X.2.1 dX1_change_20 (by rw [c_10]; decide +kernel) (by rw [c_10]; decide +kernel) (by rw [c_10]; decide +kernel) (by decide) ?_
      refine lv_aload_n X.1 X.2.1 dX1_change_73 rfl (lv_at hl 0 rfl) ?_
      refine gf_X1_11 X S hi0 dX1_change_74 ?_
      refine lv_iload_n X.1 X.2.1 dX1_change_77 rfl (lv_at hl 2 rfl) ?_
      obtain ⟨g_11, h⟩ := pz_gd_e h
      refine aa_16 X S hi0 g_11 dX1_change_78 ?_
      refine lv_iload_n X.1 X.2.1 dX1_change_79 rfl (lv_at hl 3 rfl) ?_
      refine pf_X1_38 X S (el_16 hi0 g_11) dX1_change_80 (fun I_12 H locs eI_12 S => ?_)
      have h := pz_lt_e h eI_12
      refine lv_goto (tgt := 138) X.1 X.2.1 dX1_change_83 (by decide) ?_
      refine lv_aload_n X.1 X.2.1 dX1_change_138 rfl (lv_at hl 0 rfl) ?_
      refine lv_dup X.1 X.2.1 dX1_change_139 rfl ?_
      refine gf_X1_44 X S hi0 dX1_change_140 ?_
      refine lv_iconst (v := 1) X.1 X.2.1 dX1_change_143 (by decide) ?_
      refine lv_iadd X.1 X.2.1 dX1_change_144 ?_
      refine pf_X1_44 X S hi0 dX1_change_145 (fun I_13 H locs eI_13 S => ?_)
      have h := pz_lt_e h eI_13
      cases h
      exact r_vret X S dX1_change_148
    have h := pz_f c_10 h
    rcases Decidable.em (x_5 = (2 : Int32)) with c_14 | c_14
    · have h := pz_t c_14 h
      refine lv_tableIn (off := 66) (tgt := 86) X.1 X.2.1 dX1_change_20 (by rw [c_14]; decide +kernel) (by rw [c_14]; decide +kernel) (by rw [c_14]; decide +kernel) (by decide) ?_
      refine lv_aload_n X.1 X.2.1 dX1_change_86 rfl (lv_at hl 0 rfl) ?_
      refine gf_X1_19 X S hi0 dX1_change_87 ?_
      refine lv_iload_n X.1 X.2.1 dX1_change_90 rfl (lv_at hl 2 rfl) ?_
      obtain ⟨g_15, h⟩ := pz_gd_e h
      refine aa_17 X S hi0 g_15 dX1_change_91 ?_
      refine lv_iload_n X.1 X.2.1 dX1_change_92 rfl (lv_at hl 3 rfl) ?_
      refine pf_X1_54 X S (el_17 hi0 g_15) dX1_change_93 (fun I_16 H locs eI_16 S => ?_)
      have h := pz_lt_e h eI_16
      refine lv_goto (tgt := 138) X.1 X.2.1 dX1_change_96 (by decide) ?_
      refine lv_aload_n X.1 X.2.1 dX1_change_138 rfl (lv_at hl 0 rfl) ?_
      refine lv_dup X.1 X.2.1 dX1_change_139 rfl ?_
      refine gf_X1_44 X S hi0 dX1_change_140 ?_
      refine lv_iconst (v := 1) X.1 X.2.1 dX1_change_143 (by decide) ?_
      refine lv_iadd X.1 X.2.1 dX1_change_144 ?_
      refine pf_X1_44 X S hi0 dX1_change_145 (fun I_17 H locs eI_17 S => ?_)
      have h := pz_lt_e h eI_17
      cases h
      exact r_vret X S dX1_change_148
    have h := pz_f c_14 h
    rcases Decidable.em (x_5 = (3 : Int32)) with c_18 | c_18
    · have h := pz_t c_18 h
      refine lv_tableIn (off := 79) (tgt := 99) X.1 X.2.1 dX1_change_20 (by rw [c_18]; decide +kernel) (by rw [c_18]; decide +kernel) (by rw [c_18]; decide +kernel) (by decide) ?_
      refine lv_aload_n X.1 X.2.1 dX1_change_99 rfl (lv_at hl 0 rfl) ?_
      refine gf_X1_19 X S hi0 dX1_change_100 ?_
      refine lv_iload_n X.1 X.2.1 dX1_change_103 rfl (lv_at hl 2 rfl) ?_
      obtain ⟨g_19, h⟩ := pz_gd_e h
      refine aa_17 X S hi0 g_19 dX1_change_104 ?_
      refine lv_iload_n X.1 X.2.1 dX1_change_105 rfl (lv_at hl 3 rfl) ?_
      refine pf_X1_57 X S (el_17 hi0 g_19) dX1_change_106 (fun I_20 H locs eI_20 S => ?_)
      have h := pz_lt_e h eI_20
      refine lv_goto (tgt := 138) X.1 X.2.1 dX1_change_109 (by decide) ?_
      refine lv_aload_n X.1 X.2.1 dX1_change_138 rfl (lv_at hl 0 rfl) ?_
      refine lv_dup X.1 X.2.1 dX1_change_139 rfl ?_
      refine gf_X1_44 X S hi0 dX1_change_140 ?_
      refine lv_iconst (v := 1) X.1 X.2.1 dX1_change_143 (by decide) ?_
      refine lv_iadd X.1 X.2.1 dX1_change_144 ?_
      refine pf_X1_44 X S hi0 dX1_change_145 (fun I_21 H locs eI_21 S => ?_)
      have h := pz_lt_e h eI_21
      cases h
      exact r_vret X S dX1_change_148
    have h := pz_f c_18 h
    rcases Decidable.em (x_5 = (4 : Int32)) with c_22 | c_22
    · have h := pz_t c_22 h
      refine lv_tableIn (off := 92) (tgt := 112) X.1 X.2.1 dX1_change_20 (by rw [c_22]; decide +kernel) (by rw [c_22]; decide +kernel) (by rw [c_22]; decide +kernel) (by decide) ?_
      refine lv_aload_n X.1 X.2.1 dX1_change_112 rfl (lv_at hl 0 rfl) ?_
      refine gf_X1_19 X S hi0 dX1_change_113 ?_
      refine lv_iload_n X.1 X.2.1 dX1_change_116 rfl (lv_at hl 2 rfl) ?_
      obtain ⟨g_23, h⟩ := pz_gd_e h
      refine aa_17 X S hi0 g_23 dX1_change_117 ?_
      refine lv_iload_n X.1 X.2.1 dX1_change_118 rfl (lv_at hl 3 rfl) ?_
      refine pf_X1_35 X S (el_17 hi0 g_23) dX1_change_119 (fun I_24 H locs eI_24 S => ?_)
      have h := pz_lt_e h eI_24
      refine lv_goto (tgt := 138) X.1 X.2.1 dX1_change_122 (by decide) ?_
      refine lv_aload_n X.1 X.2.1 dX1_change_138 rfl (lv_at hl 0 rfl) ?_
      refine lv_dup X.1 X.2.1 dX1_change_139 rfl ?_
      refine gf_X1_44 X S hi0 dX1_change_140 ?_
      refine lv_iconst (v := 1) X.1 X.2.1 dX1_change_143 (by decide) ?_
      refine lv_iadd X.1 X.2.1 dX1_change_144 ?_
      refine pf_X1_44 X S hi0 dX1_change_145 (fun I_25 H locs eI_25 S => ?_)
      have h := pz_lt_e h eI_25
      cases h
      exact r_vret X S dX1_change_148
    have h := pz_f c_22 h
    rcases Decidable.em (x_5 = (5 : Int32)) with c_26 | c_26
    · have h := pz_t c_26 h
      refine lv_tableIn (off := 105) (tgt := 125) X.1 X.2.1 dX1_change_20 (by rw [c_26]; decide +kernel) (by rw [c_26]; decide +kernel) (by rw [c_26]; decide +kernel) (by decide) ?_
      refine lv_aload_n X.1 X.2.1 dX1_change_125 rfl (lv_at hl 0 rfl) ?_
      refine lv_iload_n X.1 X.2.1 dX1_change_126 rfl (lv_at hl 3 rfl) ?_
      refine pf_X1_67 X S hi0 dX1_change_127 (fun I_27 H locs eI_27 S => ?_)
      have h := pz_lt_e h eI_27
      refine lv_goto (tgt := 138) X.1 X.2.1 dX1_change_130 (by decide) ?_
      refine lv_aload_n X.1 X.2.1 dX1_change_138 rfl (lv_at hl 0 rfl) ?_
      refine lv_dup X.1 X.2.1 dX1_change_139 rfl ?_
      refine gf_X1_44 X S hi0 dX1_change_140 ?_
      refine lv_iconst (v := 1) X.1 X.2.1 dX1_change_143 (by decide) ?_
      refine lv_iadd X.1 X.2.1 dX1_change_144 ?_
      refine pf_X1_44 X S hi0 dX1_change_145 (fun I_28 H locs eI_28 S => ?_)
      have h := pz_lt_e h eI_28
      cases h
      exact r_vret X S dX1_change_148
    have h := pz_f c_26 h
    refine lv_tableOut (tgt := 133) X.1 X.2.1 dX1_change_20 (pz_out 0 5 [(0 : Int32), (1 : Int32), (2 : Int32), (3 : Int32), (4 : Int32), (5 : Int32)] (by decide +kernel) (by simp only [List.forall_mem_cons, List.not_mem_nil, false_imp_iff, implies_true, and_true]; exact ⟨c_6, c_10, c_14, c_18, c_22, c_26⟩)) (by decide) ?_
    refine lv_aload_n X.1 X.2.1 dX1_change_133 rfl (lv_at hl 0 rfl) ?_
    refine lv_iload_n X.1 X.2.1 dX1_change_134 rfl (lv_at hl 3 rfl) ?_
    refine pf_X1_23 X S hi0 dX1_change_135 (fun I_29 H locs eI_29 S => ?_)
    have h := pz_lt_e h eI_29
    refine lv_aload_n X.1 X.2.1 dX1_change_138 rfl (lv_at hl 0 rfl) ?_
    refine lv_dup X.1 X.2.1 dX1_change_139 rfl ?_
    refine gf_X1_44 X S hi0 dX1_change_140 ?_
    refine lv_iconst (v := 1) X.1 X.2.1 dX1_change_143 (by decide) ?_
    refine lv_iadd X.1 X.2.1 dX1_change_144 ?_
    refine pf_X1_44 X S hi0 dX1_change_145 (fun I_30 H locs eI_30 S => ?_)
    have h := pz_lt_e h eI_30
    cases h
    exact r_vret X S dX1_change_148
  have h := pz_t c_4 h
  cases h
  exact r_vret X S dX1_change_18
def f_X1_follow (N n : Nat) (I : mm_T) (i0 : Nat) (p1 : Int32) : Option (mm_T) := pz_lt (mm_up I 1 i0 6 p1) fun I_1 => pz_lt (mm_up I_1 1 i0 7 ((I_1 1 i0 7) + (1 : Int32))) fun I_2 => some I_2
set_option maxRecDepth 100000 in
set_option maxHeartbeats 4000000 in
theorem c_X1_follow {l : Launch} {G : cx_T} {N n : Nat} {I J : mm_T} {i0 : Nat} {p1 : Int32} (hi0 : i0 < 2) {z : mm_T} (h : f_X1_follow N n I i0 p1 = some z) : ct_m l G n yX1_follow cX1_follow 2 none ({ frames := 0, cells := 0, slots := 0, locals := 0 }) [.ref (cx_b G + ly_loc 1 i0), .int p1] I J (ct_qv G n z J) := by
  refine ct_en (by decide) (Nat.le_of_ble_eq_true rfl) ?_
  intro p e s m args below meth c ls X S hl
  have X : cx_ok G p s m args meth c cX1_follow 2 RX1 none := X
  have hl : lv_has ls 2 [(0, .ref (cx_b G + ly_loc 1 i0)), (1, .int p1)] := hl
  have hn := S.2.2.2
  unfold f_X1_follow at h
  refine lv_aload_n X.1 X.2.1 dX1_follow_0 rfl (lv_at hl 0 rfl) ?_
  refine lv_iload_n X.1 X.2.1 dX1_follow_1 rfl (lv_at hl 1 rfl) ?_
  refine pf_X1_73 X S hi0 dX1_follow_2 (fun I_1 H locs eI_1 S => ?_)
  have h := pz_lt_e h eI_1
  refine lv_aload_n X.1 X.2.1 dX1_follow_5 rfl (lv_at hl 0 rfl) ?_
  refine lv_dup X.1 X.2.1 dX1_follow_6 rfl ?_
  refine gf_X1_44 X S hi0 dX1_follow_7 ?_
  refine lv_iconst (v := 1) X.1 X.2.1 dX1_follow_10 (by decide) ?_
  refine lv_iadd X.1 X.2.1 dX1_follow_11 ?_
  refine pf_X1_44 X S hi0 dX1_follow_12 (fun I_2 H locs eI_2 S => ?_)
  have h := pz_lt_e h eI_2
  cases h
  exact r_vret X S dX1_follow_15
def f_X1_isRow_L10 (N n : Nat) (I : mm_T) (i0 : Nat) (p1 : Int32) : Nat → Int32 → Int32 → Option (Int32)
  | 0, _, _ => none
  | cnt + 1, a2, a3 => if a3 ≤ 0 then (some (1 : Int32)) else (pz_lt ((a3 - a3 / (10 : Int32) * (10 : Int32)) - (1 : Int32)) fun x_3 => pz_bd (f_X1_hasSlip N n I i0 x_3) fun q_4 => if q_4 = 0 then (some (0 : Int32)) else (if ((a2 >>> (x_3 &&& 31)) &&& (1 : Int32)) = (1 : Int32) then (some (0 : Int32)) else (pz_lt (a2 ||| ((1 : Int32) <<< (x_3 &&& 31))) fun x_7 => pz_lt (a3 / (10 : Int32)) fun x_8 => f_X1_isRow_L10 N n I i0 p1 cnt x_7 x_8)))
set_option maxRecDepth 100000 in
set_option maxHeartbeats 4000000 in
theorem w_X1_isRow_L10 {l : Launch} {G : cx_T} {p : Program} {e : Env} {s : State} {m : MethodId} {args : Array Value} {below : List Frame} {meth : Method} {c : Code} {N n : Nat} {I J : mm_T} {i0 : Nat} {p1 : Int32} (X : cx_ok G p s m args meth c cX1_isRow 5 RX1 (some .boolean)) (hn : 144 ≤ n) (hi0 : i0 < 2) {z : Int32} : ∀ (cnt : Nat) {a2 : Int32} {a3 : Int32} {H : Heap} {locs : List Loc} {ls : Array Slot} , f_X1_isRow_L10 N n I i0 p1 cnt a2 a3 = some z → st_ok G n I J s H locs → lv_has ls 5 [(0, .ref (cx_b G + ly_loc 1 i0)), (2, .int a2), (3, .int a3)] → W p l e ({ frames := 1, cells := 0, slots := 0, locals := 21 }) s m args below meth c H locs 0 0 (MQ below (ct_qi G n I J z) args s 0 0 (cx_A G)) (F0 m 10 ls []) := by
  intro cnt
  induction cnt with
  | zero =>
    intro a2 a3 H locs ls h
    rw [f_X1_isRow_L10] at h
    cases h
  | succ cnt ih =>
    intro a2 a3 H locs ls h S hl
    rw [f_X1_isRow_L10] at h
    refine lv_iload_n X.1 X.2.1 dX1_isRow_10 rfl (lv_at hl 2 rfl) ?_
    refine lv_if_le (tgt := 58) X.1 X.2.1 dX1_isRow_11 (by decide) (fun c_2 => ?_) (fun c_2 => ?_)
    · have h := pz_t c_2 h
      refine lv_iconst (v := 1) X.1 X.2.1 dX1_isRow_58 (by decide) ?_
      cases h
      exact r_zret X S rfl dX1_isRow_59
    have h := pz_f c_2 h
    refine lv_iload_n X.1 X.2.1 dX1_isRow_14 rfl (lv_at hl 2 rfl) ?_
    refine lv_bipush (v := 10) X.1 X.2.1 dX1_isRow_15 (by decide) ?_
    refine lv_irem X.1 X.2.1 dX1_isRow_17 (by decide) ?_
    refine lv_iconst (v := 1) X.1 X.2.1 dX1_isRow_18 (by decide) ?_
    refine lv_isub X.1 X.2.1 dX1_isRow_19 ?_
    refine lv_topi (fun x_3 ex_3 => ?_)
    have h := pz_lt_e h ex_3
    refine lv_istore (lv' := [(4, .int x_3), (0, .ref (cx_b G + ly_loc 1 i0)), (2, .int a2), (3, .int a3)]) X.1 X.2.1 dX1_isRow_20 hl (by decide) rfl (fun ls hl => ?_)
    refine lv_aload_n X.1 X.2.1 dX1_isRow_22 rfl (lv_at hl 1 rfl) ?_
    refine lv_iload X.1 X.2.1 dX1_isRow_23 (lv_at hl 0 rfl) ?_
    obtain ⟨q_4, eq_4, h⟩ := pz_bd_e h
    refine r_Vi X S (c_X1_hasSlip hi0 eq_4) gd_X1_60 ⟨rfl, ny_X1_hasSlip⟩ ⟨rfl, rfl⟩ ⟨Nat.le_of_ble_eq_true rfl, Nat.le_of_ble_eq_true rfl⟩ (r_recv X S (ly_ok_1 hi0 hn) rfl rfl) rfl rfl hl.1 (Nat.le_of_ble_eq_true rfl) dX1_isRow_25 (fun H locs S => ?_)
    refine lv_if_eq (tgt := 41) X.1 X.2.1 dX1_isRow_28 (by decide) (fun c_5 => ?_) (fun c_5 => ?_)
    · have h := pz_t c_5 h
      refine lv_iconst (v := 0) X.1 X.2.1 dX1_isRow_41 (by decide) ?_
      cases h
      exact r_zret X S rfl dX1_isRow_42
    have h := pz_f c_5 h
    refine lv_iload_n X.1 X.2.1 dX1_isRow_31 rfl (lv_at hl 2 rfl) ?_
    refine lv_iload X.1 X.2.1 dX1_isRow_32 (lv_at hl 0 rfl) ?_
    refine lv_ishr X.1 X.2.1 dX1_isRow_34 ?_
    refine lv_iconst (v := 1) X.1 X.2.1 dX1_isRow_35 (by decide) ?_
    refine lv_iand X.1 X.2.1 dX1_isRow_36 ?_
    refine lv_iconst (v := 1) X.1 X.2.1 dX1_isRow_37 (by decide) ?_
    refine lv_icmp_ne (tgt := 43) X.1 X.2.1 dX1_isRow_38 (by decide) (fun c_6 => ?_) (fun c_6 => ?_)
    · have h := pz_f c_6 h
      refine lv_iload_n X.1 X.2.1 dX1_isRow_43 rfl (lv_at hl 2 rfl) ?_
      refine lv_iconst (v := 1) X.1 X.2.1 dX1_isRow_44 (by decide) ?_
      refine lv_iload X.1 X.2.1 dX1_isRow_45 (lv_at hl 0 rfl) ?_
      refine lv_ishl X.1 X.2.1 dX1_isRow_47 ?_
      refine lv_ior X.1 X.2.1 dX1_isRow_48 ?_
      refine lv_topi (fun x_7 ex_7 => ?_)
      have h := pz_lt_e h ex_7
      refine lv_istore_n (lv' := [(2, .int x_7), (4, .int x_3), (0, .ref (cx_b G + ly_loc 1 i0)), (3, .int a3)]) X.1 X.2.1 dX1_isRow_49 rfl hl (by decide) rfl (fun ls hl => ?_)
      refine lv_iload_n X.1 X.2.1 dX1_isRow_50 rfl (lv_at hl 3 rfl) ?_
      refine lv_bipush (v := 10) X.1 X.2.1 dX1_isRow_51 (by decide) ?_
      refine lv_idiv X.1 X.2.1 dX1_isRow_53 (by decide) ?_
      refine lv_topi (fun x_8 ex_8 => ?_)
      have h := pz_lt_e h ex_8
      refine lv_istore_n (lv' := [(3, .int x_8), (2, .int x_7), (4, .int x_3), (0, .ref (cx_b G + ly_loc 1 i0))]) X.1 X.2.1 dX1_isRow_54 rfl hl (by decide) rfl (fun ls hl => ?_)
      refine lv_goto (tgt := 10) X.1 X.2.1 dX1_isRow_55 (by decide) ?_
      exact ih h S (lv_sub hl [3, 1, 0] rfl)
    have h := pz_t c_6 h
    refine lv_iconst (v := 0) X.1 X.2.1 dX1_isRow_41 (by decide) ?_
    cases h
    exact r_zret X S rfl dX1_isRow_42
def f_X1_isRow (N n : Nat) (I : mm_T) (i0 : Nat) (p1 : Int32) : Option (Int32) := if 0 ≤ p1 then (f_X1_isRow_L10 N n I i0 p1 N (0 : Int32) p1) else (some (0 : Int32))
set_option maxRecDepth 100000 in
set_option maxHeartbeats 4000000 in
theorem c_X1_isRow {l : Launch} {G : cx_T} {N n : Nat} {I J : mm_T} {i0 : Nat} {p1 : Int32} (hi0 : i0 < 2) {z : Int32} (h : f_X1_isRow N n I i0 p1 = some z) : ct_m l G n yX1_isRow cX1_isRow 5 (some .boolean) ({ frames := 1, cells := 0, slots := 0, locals := 21 }) [.ref (cx_b G + ly_loc 1 i0), .int p1] I J (ct_qi G n I J z) := by
  refine ct_en (by decide) (Nat.le_of_ble_eq_true rfl) ?_
  intro p e s m args below meth c ls X S hl
  have X : cx_ok G p s m args meth c cX1_isRow 5 RX1 (some .boolean) := X
  have hl : lv_has ls 5 [(0, .ref (cx_b G + ly_loc 1 i0)), (1, .int p1)] := hl
  have hn := S.2.2.2
  unfold f_X1_isRow at h
  refine lv_iload_n X.1 X.2.1 dX1_isRow_0 rfl (lv_at hl 1 rfl) ?_
  refine lv_if_ge (tgt := 6) X.1 X.2.1 dX1_isRow_1 (by decide) (fun c_1 => ?_) (fun c_1 => ?_)
  · have h := pz_t c_1 h
    refine lv_iconst (v := 0) X.1 X.2.1 dX1_isRow_6 (by decide) ?_
    refine lv_istore_n (lv' := [(2, .int (0 : Int32)), (0, .ref (cx_b G + ly_loc 1 i0)), (1, .int p1)]) X.1 X.2.1 dX1_isRow_7 rfl hl (by decide) rfl (fun ls hl => ?_)
    refine lv_iload_n X.1 X.2.1 dX1_isRow_8 rfl (lv_at hl 2 rfl) ?_
    refine lv_istore_n (lv' := [(3, .int p1), (2, .int (0 : Int32)), (0, .ref (cx_b G + ly_loc 1 i0)), (1, .int p1)]) X.1 X.2.1 dX1_isRow_9 rfl hl (by decide) rfl (fun ls hl => ?_)
    exact w_X1_isRow_L10 X hn hi0 N h S (lv_sub hl [2, 1, 0] rfl)
  have h := pz_f c_1 h
  refine lv_iconst (v := 0) X.1 X.2.1 dX1_isRow_4 (by decide) ?_
  cases h
  exact r_zret X S rfl dX1_isRow_5
def f_X2_become (N n : Nat) (I : mm_T) (i0 : Nat) (i1 : Nat) : Option (mm_T) := pz_lt (mm_up I 2 i0 0 (I 2 i1 0)) fun I_1 => pz_lt (mm_up I_1 2 i0 1 (I_1 2 i1 1)) fun I_2 => some I_2
set_option maxRecDepth 100000 in
set_option maxHeartbeats 4000000 in
theorem c_X2_become {l : Launch} {G : cx_T} {N n : Nat} {I J : mm_T} {i0 : Nat} {i1 : Nat} (hi0 : i0 < 16) (hi1 : i1 < 16) {z : mm_T} (h : f_X2_become N n I i0 i1 = some z) : ct_m l G n yX2_become cX2_become 2 none ({ frames := 0, cells := 0, slots := 0, locals := 0 }) [.ref (cx_b G + ly_loc 2 i0), .ref (cx_b G + ly_loc 2 i1)] I J (ct_qv G n z J) := by
  refine ct_en (by decide) (Nat.le_of_ble_eq_true rfl) ?_
  intro p e s m args below meth c ls X S hl
  have X : cx_ok G p s m args meth c cX2_become 2 RX2 none := X
  have hl : lv_has ls 2 [(0, .ref (cx_b G + ly_loc 2 i0)), (1, .ref (cx_b G + ly_loc 2 i1))] := hl
  have hn := S.2.2.2
  unfold f_X2_become at h
  refine lv_aload_n X.1 X.2.1 dX2_become_0 rfl (lv_at hl 0 rfl) ?_
  refine lv_aload_n X.1 X.2.1 dX2_become_1 rfl (lv_at hl 1 rfl) ?_
  refine gf_X2_7 X S hi1 dX2_become_2 ?_
  refine pf_X2_7 X S hi0 dX2_become_5 (fun I_1 H locs eI_1 S => ?_)
  have h := pz_lt_e h eI_1
  refine lv_aload_n X.1 X.2.1 dX2_become_8 rfl (lv_at hl 0 rfl) ?_
  refine lv_aload_n X.1 X.2.1 dX2_become_9 rfl (lv_at hl 1 rfl) ?_
  refine gf_X2_13 X S hi1 dX2_become_10 ?_
  refine pf_X2_13 X S hi0 dX2_become_13 (fun I_2 H locs eI_2 S => ?_)
  have h := pz_lt_e h eI_2
  cases h
  exact r_vret X S dX2_become_16
def f_X6_become (N n : Nat) (I : mm_T) (i0 : Nat) (i1 : Nat) : Option (mm_T) := pz_lt (mm_up I 6 i0 0 (I 6 i1 0)) fun I_1 => pz_lt (mm_up I_1 6 i0 1 (I_1 6 i1 1)) fun I_2 => pz_lt (mm_up I_2 6 i0 2 (I_2 6 i1 2)) fun I_3 => pz_lt (mm_up I_3 6 i0 3 (I_3 6 i1 3)) fun I_4 => some I_4
set_option maxRecDepth 100000 in
set_option maxHeartbeats 4000000 in
theorem c_X6_become {l : Launch} {G : cx_T} {N n : Nat} {I J : mm_T} {i0 : Nat} {i1 : Nat} (hi0 : i0 < 14) (hi1 : i1 < 14) {z : mm_T} (h : f_X6_become N n I i0 i1 = some z) : ct_m l G n yX6_become cX6_become 2 none ({ frames := 0, cells := 0, slots := 0, locals := 0 }) [.ref (cx_b G + ly_loc 6 i0), .ref (cx_b G + ly_loc 6 i1)] I J (ct_qv G n z J) := by
  refine ct_en (by decide) (Nat.le_of_ble_eq_true rfl) ?_
  intro p e s m args below meth c ls X S hl
  have X : cx_ok G p s m args meth c cX6_become 2 RX6 none := X
  have hl : lv_has ls 2 [(0, .ref (cx_b G + ly_loc 6 i0)), (1, .ref (cx_b G + ly_loc 6 i1))] := hl
  have hn := S.2.2.2
  unfold f_X6_become at h
  refine lv_aload_n X.1 X.2.1 dX6_become_0 rfl (lv_at hl 0 rfl) ?_
  refine lv_aload_n X.1 X.2.1 dX6_become_1 rfl (lv_at hl 1 rfl) ?_
  refine gf_X6_9 X S hi1 dX6_become_2 ?_
  refine pf_X6_9 X S hi0 dX6_become_5 (fun I_1 H locs eI_1 S => ?_)
  have h := pz_lt_e h eI_1
  refine lv_aload_n X.1 X.2.1 dX6_become_8 rfl (lv_at hl 0 rfl) ?_
  refine lv_aload_n X.1 X.2.1 dX6_become_9 rfl (lv_at hl 1 rfl) ?_
  refine gf_X6_15 X S hi1 dX6_become_10 ?_
  refine pf_X6_15 X S hi0 dX6_become_13 (fun I_2 H locs eI_2 S => ?_)
  have h := pz_lt_e h eI_2
  refine lv_aload_n X.1 X.2.1 dX6_become_16 rfl (lv_at hl 0 rfl) ?_
  refine lv_aload_n X.1 X.2.1 dX6_become_17 rfl (lv_at hl 1 rfl) ?_
  refine gf_X6_18 X S hi1 dX6_become_18 ?_
  refine pf_X6_18 X S hi0 dX6_become_21 (fun I_3 H locs eI_3 S => ?_)
  have h := pz_lt_e h eI_3
  refine lv_aload_n X.1 X.2.1 dX6_become_24 rfl (lv_at hl 0 rfl) ?_
  refine lv_aload_n X.1 X.2.1 dX6_become_25 rfl (lv_at hl 1 rfl) ?_
  refine gf_X6_21 X S hi1 dX6_become_26 ?_
  refine pf_X6_21 X S hi0 dX6_become_29 (fun I_4 H locs eI_4 S => ?_)
  have h := pz_lt_e h eI_4
  cases h
  exact r_vret X S dX6_become_32
def f_X1_become_L31 (N n : Nat) (i0 : Nat) (i1 : Nat) : Nat → mm_T → Int32 → Option (mm_T)
  | 0, _, _ => none
  | cnt + 1, I, a2 => if (7 : Int32) ≤ a2 then (pz_lt (mm_up I 1 i0 2 (I 1 i1 2)) fun I_7 => pz_lt (mm_up I_7 1 i0 3 (I_7 1 i1 3)) fun I_8 => pz_lt (mm_up I_8 1 i0 4 (I_8 1 i1 4)) fun I_9 => pz_lt (mm_up I_9 1 i0 5 (I_9 1 i1 5)) fun I_10 => pz_lt (mm_up I_10 1 i0 6 (I_10 1 i1 6)) fun I_11 => pz_lt (mm_up I_11 1 i0 7 ((I_11 1 i0 7) + (1 : Int32))) fun I_12 => some I_12) else (pz_gd (ix_in a2 7) <| pz_gd (ix_in a2 7) <| pz_bd (f_X6_become N n I (7 * i0 + a2.toNatClampNeg) (7 * i1 + a2.toNatClampNeg)) fun q_15 => pz_lt (a2 + (1 : Int32)) fun x_16 => f_X1_become_L31 N n i0 i1 cnt q_15 x_16)
set_option maxRecDepth 100000 in
set_option maxHeartbeats 4000000 in
theorem w_X1_become_L31 {l : Launch} {G : cx_T} {p : Program} {e : Env} {s : State} {m : MethodId} {args : Array Value} {below : List Frame} {meth : Method} {c : Code} {N n : Nat} {J : mm_T} {i0 : Nat} {i1 : Nat} (X : cx_ok G p s m args meth c cX1_become 3 RX1 none) (hn : 144 ≤ n) (hi0 : i0 < 2) (hi1 : i1 < 2) {z : mm_T} : ∀ (cnt : Nat) {I : mm_T} {a2 : Int32} {H : Heap} {locs : List Loc} {ls : Array Slot} , f_X1_become_L31 N n i0 i1 cnt I a2 = some z → st_ok G n I J s H locs → lv_has ls 3 [(0, .ref (cx_b G + ly_loc 1 i0)), (1, .ref (cx_b G + ly_loc 1 i1)), (2, .int a2)] → W p l e ({ frames := 1, cells := 0, slots := 0, locals := 21 }) s m args below meth c H locs 0 0 (MQ below (ct_qv G n z J) args s 0 0 (cx_A G)) (F0 m 31 ls []) := by
  intro cnt
  induction cnt with
  | zero =>
    intro I a2 H locs ls h
    rw [f_X1_become_L31] at h
    cases h
  | succ cnt ih =>
    intro I a2 H locs ls h S hl
    rw [f_X1_become_L31] at h
    refine lv_iload_n X.1 X.2.1 dX1_become_31 rfl (lv_at hl 2 rfl) ?_
    refine lv_bipush (v := 7) X.1 X.2.1 dX1_become_32 (by decide) ?_
    refine lv_icmp_ge (tgt := 58) X.1 X.2.1 dX1_become_34 (by decide) (fun c_6 => ?_) (fun c_6 => ?_)
    · have h := pz_t c_6 h
      refine lv_aload_n X.1 X.2.1 dX1_become_58 rfl (lv_at hl 0 rfl) ?_
      refine lv_aload_n X.1 X.2.1 dX1_become_59 rfl (lv_at hl 1 rfl) ?_
      refine gf_X1_29 X S hi1 dX1_become_60 ?_
      refine pf_X1_29 X S hi0 dX1_become_63 (fun I_7 H locs eI_7 S => ?_)
      have h := pz_lt_e h eI_7
      refine lv_aload_n X.1 X.2.1 dX1_become_66 rfl (lv_at hl 0 rfl) ?_
      refine lv_aload_n X.1 X.2.1 dX1_become_67 rfl (lv_at hl 1 rfl) ?_
      refine gf_X1_32 X S hi1 dX1_become_68 ?_
      refine pf_X1_32 X S hi0 dX1_become_71 (fun I_8 H locs eI_8 S => ?_)
      have h := pz_lt_e h eI_8
      refine lv_aload_n X.1 X.2.1 dX1_become_74 rfl (lv_at hl 0 rfl) ?_
      refine lv_aload_n X.1 X.2.1 dX1_become_75 rfl (lv_at hl 1 rfl) ?_
      refine gf_X1_67 X S hi1 dX1_become_76 ?_
      refine pf_X1_67 X S hi0 dX1_become_79 (fun I_9 H locs eI_9 S => ?_)
      have h := pz_lt_e h eI_9
      refine lv_aload_n X.1 X.2.1 dX1_become_82 rfl (lv_at hl 0 rfl) ?_
      refine lv_aload_n X.1 X.2.1 dX1_become_83 rfl (lv_at hl 1 rfl) ?_
      refine gf_X1_23 X S hi1 dX1_become_84 ?_
      refine pf_X1_23 X S hi0 dX1_become_87 (fun I_10 H locs eI_10 S => ?_)
      have h := pz_lt_e h eI_10
      refine lv_aload_n X.1 X.2.1 dX1_become_90 rfl (lv_at hl 0 rfl) ?_
      refine lv_aload_n X.1 X.2.1 dX1_become_91 rfl (lv_at hl 1 rfl) ?_
      refine gf_X1_73 X S hi1 dX1_become_92 ?_
      refine pf_X1_73 X S hi0 dX1_become_95 (fun I_11 H locs eI_11 S => ?_)
      have h := pz_lt_e h eI_11
      refine lv_aload_n X.1 X.2.1 dX1_become_98 rfl (lv_at hl 0 rfl) ?_
      refine lv_dup X.1 X.2.1 dX1_become_99 rfl ?_
      refine gf_X1_44 X S hi0 dX1_become_100 ?_
      refine lv_iconst (v := 1) X.1 X.2.1 dX1_become_103 (by decide) ?_
      refine lv_iadd X.1 X.2.1 dX1_become_104 ?_
      refine pf_X1_44 X S hi0 dX1_become_105 (fun I_12 H locs eI_12 S => ?_)
      have h := pz_lt_e h eI_12
      cases h
      exact r_vret X S dX1_become_108
    have h := pz_f c_6 h
    refine lv_aload_n X.1 X.2.1 dX1_become_37 rfl (lv_at hl 0 rfl) ?_
    refine gf_X1_19 X S hi0 dX1_become_38 ?_
    refine lv_iload_n X.1 X.2.1 dX1_become_41 rfl (lv_at hl 2 rfl) ?_
    obtain ⟨g_13, h⟩ := pz_gd_e h
    refine aa_17 X S hi0 g_13 dX1_become_42 ?_
    refine lv_aload_n X.1 X.2.1 dX1_become_43 rfl (lv_at hl 1 rfl) ?_
    refine gf_X1_19 X S hi1 dX1_become_44 ?_
    refine lv_iload_n X.1 X.2.1 dX1_become_47 rfl (lv_at hl 2 rfl) ?_
    obtain ⟨g_14, h⟩ := pz_gd_e h
    refine aa_17 X S hi1 g_14 dX1_become_48 ?_
    obtain ⟨q_15, eq_15, h⟩ := pz_bd_e h
    refine r_Vv X S (c_X6_become (el_17 hi0 g_13) (el_17 hi1 g_14) eq_15) gd_X1_80 ⟨rfl, ny_X6_become⟩ ⟨rfl, rfl⟩ ⟨Nat.le_of_ble_eq_true rfl, Nat.le_of_ble_eq_true rfl⟩ (r_recv X S (ly_ok_6 (el_17 hi0 g_13) hn) rfl rfl) rfl rfl hl.1 (Nat.le_of_ble_eq_true rfl) dX1_become_49 (fun H locs S => ?_)
    obtain ⟨x_16, ex_16⟩ : ∃ y : Int32, y = (a2 + (1 : Int32)) := ⟨_, rfl⟩
    have h := pz_lt_e h ex_16
    refine lv_iinc (v := x_16) (lv' := [(2, .int x_16), (0, .ref (cx_b G + ly_loc 1 i0)), (1, .ref (cx_b G + ly_loc 1 i1))]) X.1 X.2.1 dX1_become_52 hl (k := 2) rfl (by rw [ex_16]; rfl) (by decide) rfl (fun ls hl => ?_)
    refine lv_goto (tgt := 31) X.1 X.2.1 dX1_become_55 (by decide) ?_
    exact ih h S (lv_sub hl [1, 2, 0] rfl)
def f_X1_become_L2 (N n : Nat) (i0 : Nat) (i1 : Nat) : Nat → mm_T → Int32 → Option (mm_T)
  | 0, _, _ => none
  | cnt + 1, I, a2 => if (8 : Int32) ≤ a2 then (f_X1_become_L31 N n i0 i1 N I (0 : Int32)) else (pz_gd (ix_in a2 8) <| pz_gd (ix_in a2 8) <| pz_bd (f_X2_become N n I (8 * i0 + a2.toNatClampNeg) (8 * i1 + a2.toNatClampNeg)) fun q_4 => pz_lt (a2 + (1 : Int32)) fun x_5 => f_X1_become_L2 N n i0 i1 cnt q_4 x_5)
set_option maxRecDepth 100000 in
set_option maxHeartbeats 4000000 in
theorem w_X1_become_L2 {l : Launch} {G : cx_T} {p : Program} {e : Env} {s : State} {m : MethodId} {args : Array Value} {below : List Frame} {meth : Method} {c : Code} {N n : Nat} {J : mm_T} {i0 : Nat} {i1 : Nat} (X : cx_ok G p s m args meth c cX1_become 3 RX1 none) (hn : 144 ≤ n) (hi0 : i0 < 2) (hi1 : i1 < 2) {z : mm_T} : ∀ (cnt : Nat) {I : mm_T} {a2 : Int32} {H : Heap} {locs : List Loc} {ls : Array Slot} , f_X1_become_L2 N n i0 i1 cnt I a2 = some z → st_ok G n I J s H locs → lv_has ls 3 [(0, .ref (cx_b G + ly_loc 1 i0)), (1, .ref (cx_b G + ly_loc 1 i1)), (2, .int a2)] → W p l e ({ frames := 1, cells := 0, slots := 0, locals := 21 }) s m args below meth c H locs 0 0 (MQ below (ct_qv G n z J) args s 0 0 (cx_A G)) (F0 m 2 ls []) := by
  intro cnt
  induction cnt with
  | zero =>
    intro I a2 H locs ls h
    rw [f_X1_become_L2] at h
    cases h
  | succ cnt ih =>
    intro I a2 H locs ls h S hl
    rw [f_X1_become_L2] at h
    refine lv_iload_n X.1 X.2.1 dX1_become_2 rfl (lv_at hl 2 rfl) ?_
    refine lv_bipush (v := 8) X.1 X.2.1 dX1_become_3 (by decide) ?_
    refine lv_icmp_ge (tgt := 29) X.1 X.2.1 dX1_become_5 (by decide) (fun c_1 => ?_) (fun c_1 => ?_)
    · have h := pz_t c_1 h
      refine lv_iconst (v := 0) X.1 X.2.1 dX1_become_29 (by decide) ?_
      refine lv_istore_n (lv' := [(2, .int (0 : Int32)), (0, .ref (cx_b G + ly_loc 1 i0)), (1, .ref (cx_b G + ly_loc 1 i1))]) X.1 X.2.1 dX1_become_30 rfl hl (by decide) rfl (fun ls hl => ?_)
      exact w_X1_become_L31 X hn hi0 hi1 N h S (lv_sub hl [1, 2, 0] rfl)
    have h := pz_f c_1 h
    refine lv_aload_n X.1 X.2.1 dX1_become_8 rfl (lv_at hl 0 rfl) ?_
    refine gf_X1_11 X S hi0 dX1_become_9 ?_
    refine lv_iload_n X.1 X.2.1 dX1_become_12 rfl (lv_at hl 2 rfl) ?_
    obtain ⟨g_2, h⟩ := pz_gd_e h
    refine aa_16 X S hi0 g_2 dX1_become_13 ?_
    refine lv_aload_n X.1 X.2.1 dX1_become_14 rfl (lv_at hl 1 rfl) ?_
    refine gf_X1_11 X S hi1 dX1_become_15 ?_
    refine lv_iload_n X.1 X.2.1 dX1_become_18 rfl (lv_at hl 2 rfl) ?_
    obtain ⟨g_3, h⟩ := pz_gd_e h
    refine aa_16 X S hi1 g_3 dX1_become_19 ?_
    obtain ⟨q_4, eq_4, h⟩ := pz_bd_e h
    refine r_Vv X S (c_X2_become (el_16 hi0 g_2) (el_16 hi1 g_3) eq_4) gd_X1_76 ⟨rfl, ny_X2_become⟩ ⟨rfl, rfl⟩ ⟨Nat.le_of_ble_eq_true rfl, Nat.le_of_ble_eq_true rfl⟩ (r_recv X S (ly_ok_2 (el_16 hi0 g_2) hn) rfl rfl) rfl rfl hl.1 (Nat.le_of_ble_eq_true rfl) dX1_become_20 (fun H locs S => ?_)
    obtain ⟨x_5, ex_5⟩ : ∃ y : Int32, y = (a2 + (1 : Int32)) := ⟨_, rfl⟩
    have h := pz_lt_e h ex_5
    refine lv_iinc (v := x_5) (lv' := [(2, .int x_5), (0, .ref (cx_b G + ly_loc 1 i0)), (1, .ref (cx_b G + ly_loc 1 i1))]) X.1 X.2.1 dX1_become_23 hl (k := 2) rfl (by rw [ex_5]; rfl) (by decide) rfl (fun ls hl => ?_)
    refine lv_goto (tgt := 2) X.1 X.2.1 dX1_become_26 (by decide) ?_
    exact ih h S (lv_sub hl [1, 2, 0] rfl)
def f_X1_become (N n : Nat) (I : mm_T) (i0 : Nat) (i1 : Nat) : Option (mm_T) := f_X1_become_L2 N n i0 i1 N I (0 : Int32)
set_option maxRecDepth 100000 in
set_option maxHeartbeats 4000000 in
theorem c_X1_become {l : Launch} {G : cx_T} {N n : Nat} {I J : mm_T} {i0 : Nat} {i1 : Nat} (hi0 : i0 < 2) (hi1 : i1 < 2) {z : mm_T} (h : f_X1_become N n I i0 i1 = some z) : ct_m l G n yX1_become cX1_become 3 none ({ frames := 1, cells := 0, slots := 0, locals := 21 }) [.ref (cx_b G + ly_loc 1 i0), .ref (cx_b G + ly_loc 1 i1)] I J (ct_qv G n z J) := by
  refine ct_en (by decide) (Nat.le_of_ble_eq_true rfl) ?_
  intro p e s m args below meth c ls X S hl
  have X : cx_ok G p s m args meth c cX1_become 3 RX1 none := X
  have hl : lv_has ls 3 [(0, .ref (cx_b G + ly_loc 1 i0)), (1, .ref (cx_b G + ly_loc 1 i1))] := hl
  have hn := S.2.2.2
  unfold f_X1_become at h
  refine lv_iconst (v := 0) X.1 X.2.1 dX1_become_0 (by decide) ?_
  refine lv_istore_n (lv' := [(2, .int (0 : Int32)), (0, .ref (cx_b G + ly_loc 1 i0)), (1, .ref (cx_b G + ly_loc 1 i1))]) X.1 X.2.1 dX1_become_1 rfl hl (by decide) rfl (fun ls hl => ?_)
  exact w_X1_become_L2 X hn hi0 hi1 N h S (lv_sub hl [1, 2, 0] rfl)
end
