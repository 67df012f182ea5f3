section
-- ===== PART A: goes FIRST, ahead of the names: the tables' words, and 'selects' of the private methods out of them =====
/-- a private method of a class that the tables say can be made, by its rows of tables_1 -/
def lw_okq (q : MethodName × Nat) : Prop := (q.1.cls ≠ "java/lang/invoke/MethodHandle" ∧ q.1.cls ≠ "java/lang/invoke/VarHandle") ∧ Cond.instantiable q.1.cls q.2 ∈ tables_1 ∧ Cond.privateMethod q.1 ∈ tables_1 ∧ Cond.instanceMethod q.1 ∈ tables_1
theorem lw_p0 : lw_okq (⟨"RelayDesk", "casesNotClosed", "()I"⟩, 7) := ⟨⟨by decide +kernel, by decide +kernel⟩, List.mem_of_getElem? (i := 26) (by decide +kernel), List.mem_of_getElem? (i := 326) (by decide +kernel), List.mem_of_getElem? (i := 327) (by decide +kernel)⟩
theorem lw_p1 : lw_okq (⟨"java/lang/Throwable", "fillInStackTrace", "(I)Ljava/lang/Throwable;"⟩, 6) := ⟨⟨by decide +kernel, by decide +kernel⟩, List.mem_of_getElem? (i := 382) (by decide +kernel), List.mem_of_getElem? (i := 380) (by decide +kernel), List.mem_of_getElem? (i := 381) (by decide +kernel)⟩
theorem lw_p2 : lw_okq (⟨"RelayDesk$Intake", "gather", "(C)V"⟩, 5) := ⟨⟨by decide +kernel, by decide +kernel⟩, List.mem_of_getElem? (i := 121) (by decide +kernel), List.mem_of_getElem? (i := 463) (by decide +kernel), List.mem_of_getElem? (i := 464) (by decide +kernel)⟩
theorem lw_p3 : lw_okq (⟨"RelayDesk", "handIn", "(LRelayDesk$Channel;)I"⟩, 7) := ⟨⟨by decide +kernel, by decide +kernel⟩, List.mem_of_getElem? (i := 26) (by decide +kernel), List.mem_of_getElem? (i := 474) (by decide +kernel), List.mem_of_getElem? (i := 475) (by decide +kernel)⟩
theorem lw_p4 : lw_okq (⟨"RelayDesk$Header", "hasNextWord", "(LRelayDesk$Text;)Z"⟩, 7) := ⟨⟨by decide +kernel, by decide +kernel⟩, List.mem_of_getElem? (i := 82) (by decide +kernel), List.mem_of_getElem? (i := 499) (by decide +kernel), List.mem_of_getElem? (i := 500) (by decide +kernel)⟩
theorem lw_p5 : lw_okq (⟨"RelayDesk$Header", "isNumber", "(LRelayDesk$Text;)Z"⟩, 7) := ⟨⟨by decide +kernel, by decide +kernel⟩, List.mem_of_getElem? (i := 82) (by decide +kernel), List.mem_of_getElem? (i := 507) (by decide +kernel), List.mem_of_getElem? (i := 508) (by decide +kernel)⟩
theorem lw_p6 : lw_okq (⟨"RelayDesk$Header", "wordLength", "()I"⟩, 7) := ⟨⟨by decide +kernel, by decide +kernel⟩, List.mem_of_getElem? (i := 82) (by decide +kernel), List.mem_of_getElem? (i := 511) (by decide +kernel), List.mem_of_getElem? (i := 512) (by decide +kernel)⟩
theorem lw_p7 : lw_okq (⟨"RelayDesk$Header", "isPrecedence", "(LRelayDesk$Text;)Z"⟩, 7) := ⟨⟨by decide +kernel, by decide +kernel⟩, List.mem_of_getElem? (i := 82) (by decide +kernel), List.mem_of_getElem? (i := 518) (by decide +kernel), List.mem_of_getElem? (i := 519) (by decide +kernel)⟩
theorem lw_p8 : lw_okq (⟨"RelayDesk$Header", "readsIndicators", "(LRelayDesk$Text;)Z"⟩, 7) := ⟨⟨by decide +kernel, by decide +kernel⟩, List.mem_of_getElem? (i := 82) (by decide +kernel), List.mem_of_getElem? (i := 522) (by decide +kernel), List.mem_of_getElem? (i := 523) (by decide +kernel)⟩
theorem lw_p9 : lw_okq (⟨"RelayDesk$Header", "isIndicator", "(LRelayDesk$Text;)Z"⟩, 7) := ⟨⟨by decide +kernel, by decide +kernel⟩, List.mem_of_getElem? (i := 82) (by decide +kernel), List.mem_of_getElem? (i := 526) (by decide +kernel), List.mem_of_getElem? (i := 527) (by decide +kernel)⟩
theorem lw_p10 : lw_okq (⟨"RelayDesk$Header", "indicatorOf", "(LRelayDesk$Text;)I"⟩, 7) := ⟨⟨by decide +kernel, by decide +kernel⟩, List.mem_of_getElem? (i := 82) (by decide +kernel), List.mem_of_getElem? (i := 533) (by decide +kernel), List.mem_of_getElem? (i := 534) (by decide +kernel)⟩
theorem lw_p11 : lw_okq (⟨"RelayDesk", "makeCase", "(I)V"⟩, 7) := ⟨⟨by decide +kernel, by decide +kernel⟩, List.mem_of_getElem? (i := 26) (by decide +kernel), List.mem_of_getElem? (i := 537) (by decide +kernel), List.mem_of_getElem? (i := 538) (by decide +kernel)⟩
theorem lw_p12 : lw_okq (⟨"RelayDesk$Numbers", "isDue", "(I)Z"⟩, 3) := ⟨⟨by decide +kernel, by decide +kernel⟩, List.mem_of_getElem? (i := 160) (by decide +kernel), List.mem_of_getElem? (i := 545) (by decide +kernel), List.mem_of_getElem? (i := 546) (by decide +kernel)⟩
theorem lw_p13 : lw_okq (⟨"RelayDesk$Numbers", "aheadOfLast", "(I)I"⟩, 3) := ⟨⟨by decide +kernel, by decide +kernel⟩, List.mem_of_getElem? (i := 160) (by decide +kernel), List.mem_of_getElem? (i := 549) (by decide +kernel), List.mem_of_getElem? (i := 550) (by decide +kernel)⟩
theorem lw_p14 : lw_okq (⟨"RelayDesk$Numbers", "placeOf", "(I)I"⟩, 3) := ⟨⟨by decide +kernel, by decide +kernel⟩, List.mem_of_getElem? (i := 160) (by decide +kernel), List.mem_of_getElem? (i := 553) (by decide +kernel), List.mem_of_getElem? (i := 554) (by decide +kernel)⟩
theorem lw_p15 : lw_okq (⟨"RelayDesk$Numbers", "missAllBefore", "(I)V"⟩, 3) := ⟨⟨by decide +kernel, by decide +kernel⟩, List.mem_of_getElem? (i := 160) (by decide +kernel), List.mem_of_getElem? (i := 561) (by decide +kernel), List.mem_of_getElem? (i := 562) (by decide +kernel)⟩
def lw_privs_1 : List (MethodName × Nat) := [(⟨"RelayDesk", "casesNotClosed", "()I"⟩, 7), (⟨"java/lang/Throwable", "fillInStackTrace", "(I)Ljava/lang/Throwable;"⟩, 6), (⟨"RelayDesk$Intake", "gather", "(C)V"⟩, 5), (⟨"RelayDesk", "handIn", "(LRelayDesk$Channel;)I"⟩, 7), (⟨"RelayDesk$Header", "hasNextWord", "(LRelayDesk$Text;)Z"⟩, 7), (⟨"RelayDesk$Header", "isNumber", "(LRelayDesk$Text;)Z"⟩, 7), (⟨"RelayDesk$Header", "wordLength", "()I"⟩, 7), (⟨"RelayDesk$Header", "isPrecedence", "(LRelayDesk$Text;)Z"⟩, 7), (⟨"RelayDesk$Header", "readsIndicators", "(LRelayDesk$Text;)Z"⟩, 7), (⟨"RelayDesk$Header", "isIndicator", "(LRelayDesk$Text;)Z"⟩, 7), (⟨"RelayDesk$Header", "indicatorOf", "(LRelayDesk$Text;)I"⟩, 7), (⟨"RelayDesk", "makeCase", "(I)V"⟩, 7), (⟨"RelayDesk$Numbers", "isDue", "(I)Z"⟩, 3), (⟨"RelayDesk$Numbers", "aheadOfLast", "(I)I"⟩, 3), (⟨"RelayDesk$Numbers", "placeOf", "(I)I"⟩, 3), (⟨"RelayDesk$Numbers", "missAllBefore", "(I)V"⟩, 3)]
theorem lw_r1 : ∀ q ∈ lw_privs_1, lw_okq q := List.forall_mem_cons.mpr ⟨lw_p0, List.forall_mem_cons.mpr ⟨lw_p1, List.forall_mem_cons.mpr ⟨lw_p2, List.forall_mem_cons.mpr ⟨lw_p3, List.forall_mem_cons.mpr ⟨lw_p4, List.forall_mem_cons.mpr ⟨lw_p5, List.forall_mem_cons.mpr ⟨lw_p6, List.forall_mem_cons.mpr ⟨lw_p7, List.forall_mem_cons.mpr ⟨lw_p8, List.forall_mem_cons.mpr ⟨lw_p9, List.forall_mem_cons.mpr ⟨lw_p10, List.forall_mem_cons.mpr ⟨lw_p11, List.forall_mem_cons.mpr ⟨lw_p12, List.forall_mem_cons.mpr ⟨lw_p13, List.forall_mem_cons.mpr ⟨lw_p14, List.forall_mem_cons.mpr ⟨lw_p15, fun _ h => absurd h List.not_mem_nil⟩⟩⟩⟩⟩⟩⟩⟩⟩⟩⟩⟩⟩⟩⟩⟩
theorem lw_p16 : lw_okq (⟨"RelayDesk$Numbers", "dropMissing", "(I)V"⟩, 3) := ⟨⟨by decide +kernel, by decide +kernel⟩, List.mem_of_getElem? (i := 160) (by decide +kernel), List.mem_of_getElem? (i := 568) (by decide +kernel), List.mem_of_getElem? (i := 569) (by decide +kernel)⟩
theorem lw_p17 : lw_okq (⟨"RelayDesk$Routes", "bitOf", "(I)I"⟩, 2) := ⟨⟨by decide +kernel, by decide +kernel⟩, List.mem_of_getElem? (i := 40) (by decide +kernel), List.mem_of_getElem? (i := 576) (by decide +kernel), List.mem_of_getElem? (i := 577) (by decide +kernel)⟩
theorem lw_p18 : lw_okq (⟨"RelayDesk$Routes", "withMembers", "(I)I"⟩, 2) := ⟨⟨by decide +kernel, by decide +kernel⟩, List.mem_of_getElem? (i := 40) (by decide +kernel), List.mem_of_getElem? (i := 584) (by decide +kernel), List.mem_of_getElem? (i := 585) (by decide +kernel)⟩
theorem lw_p19 : lw_okq (⟨"RelayDesk$Routes", "membersOf", "(I)I"⟩, 2) := ⟨⟨by decide +kernel, by decide +kernel⟩, List.mem_of_getElem? (i := 40) (by decide +kernel), List.mem_of_getElem? (i := 588) (by decide +kernel), List.mem_of_getElem? (i := 589) (by decide +kernel)⟩
theorem lw_p20 : lw_okq (⟨"RelayDesk", "fileMessage", "(LRelayDesk$Text;I)V"⟩, 7) := ⟨⟨by decide +kernel, by decide +kernel⟩, List.mem_of_getElem? (i := 26) (by decide +kernel), List.mem_of_getElem? (i := 595) (by decide +kernel), List.mem_of_getElem? (i := 596) (by decide +kernel)⟩
theorem lw_p21 : lw_okq (⟨"RelayDesk", "channelOf", "(LRelayDesk$Route;)I"⟩, 7) := ⟨⟨by decide +kernel, by decide +kernel⟩, List.mem_of_getElem? (i := 26) (by decide +kernel), List.mem_of_getElem? (i := 619) (by decide +kernel), List.mem_of_getElem? (i := 620) (by decide +kernel)⟩
theorem lw_p22 : lw_okq (⟨"RelayDesk$Outlet", "start", "(LRelayDesk$Message;IZ)V"⟩, 11) := ⟨⟨by decide +kernel, by decide +kernel⟩, List.mem_of_getElem? (i := 177) (by decide +kernel), List.mem_of_getElem? (i := 726) (by decide +kernel), List.mem_of_getElem? (i := 727) (by decide +kernel)⟩
theorem lw_p23 : lw_okq (⟨"RelayDesk", "firstWaiting", "(I)LRelayDesk$Message;"⟩, 7) := ⟨⟨by decide +kernel, by decide +kernel⟩, List.mem_of_getElem? (i := 26) (by decide +kernel), List.mem_of_getElem? (i := 749) (by decide +kernel), List.mem_of_getElem? (i := 750) (by decide +kernel)⟩
theorem lw_p24 : lw_okq (⟨"RelayDesk$Outlet", "finish", "()V"⟩, 11) := ⟨⟨by decide +kernel, by decide +kernel⟩, List.mem_of_getElem? (i := 177) (by decide +kernel), List.mem_of_getElem? (i := 771) (by decide +kernel), List.mem_of_getElem? (i := 772) (by decide +kernel)⟩
theorem lw_p25 : lw_okq (⟨"RelayDesk", "fileIfAllLeadSomewhere", "(LRelayDesk$Text;)I"⟩, 7) := ⟨⟨by decide +kernel, by decide +kernel⟩, List.mem_of_getElem? (i := 26) (by decide +kernel), List.mem_of_getElem? (i := 882) (by decide +kernel), List.mem_of_getElem? (i := 883) (by decide +kernel)⟩
theorem lw_p26 : lw_okq (⟨"RelayDeskModel", "refused", "(I)Z"⟩, 55) := ⟨⟨by decide +kernel, by decide +kernel⟩, List.mem_of_getElem? (i := 887) (by decide +kernel), List.mem_of_getElem? (i := 1075) (by decide +kernel), List.mem_of_getElem? (i := 1076) (by decide +kernel)⟩
theorem lw_p27 : lw_okq (⟨"RelayDeskModel", "gather", "(IC)V"⟩, 55) := ⟨⟨by decide +kernel, by decide +kernel⟩, List.mem_of_getElem? (i := 887) (by decide +kernel), List.mem_of_getElem? (i := 1079) (by decide +kernel), List.mem_of_getElem? (i := 1080) (by decide +kernel)⟩
theorem lw_p28 : lw_okq (⟨"RelayDeskModel", "isEnd", "(I)Z"⟩, 55) := ⟨⟨by decide +kernel, by decide +kernel⟩, List.mem_of_getElem? (i := 887) (by decide +kernel), List.mem_of_getElem? (i := 1086) (by decide +kernel), List.mem_of_getElem? (i := 1087) (by decide +kernel)⟩
theorem lw_p29 : lw_okq (⟨"RelayDeskModel", "atEnd", "(II)C"⟩, 55) := ⟨⟨by decide +kernel, by decide +kernel⟩, List.mem_of_getElem? (i := 887) (by decide +kernel), List.mem_of_getElem? (i := 1090) (by decide +kernel), List.mem_of_getElem? (i := 1091) (by decide +kernel)⟩
theorem lw_p30 : lw_okq (⟨"RelayDeskModel", "forget", "(I)V"⟩, 55) := ⟨⟨by decide +kernel, by decide +kernel⟩, List.mem_of_getElem? (i := 887) (by decide +kernel), List.mem_of_getElem? (i := 1094) (by decide +kernel), List.mem_of_getElem? (i := 1095) (by decide +kernel)⟩
theorem lw_p31 : lw_okq (⟨"RelayDeskModel", "finish", "(I)I"⟩, 55) := ⟨⟨by decide +kernel, by decide +kernel⟩, List.mem_of_getElem? (i := 887) (by decide +kernel), List.mem_of_getElem? (i := 1098) (by decide +kernel), List.mem_of_getElem? (i := 1099) (by decide +kernel)⟩
def lw_privs_2 : List (MethodName × Nat) := [(⟨"RelayDesk$Numbers", "dropMissing", "(I)V"⟩, 3), (⟨"RelayDesk$Routes", "bitOf", "(I)I"⟩, 2), (⟨"RelayDesk$Routes", "withMembers", "(I)I"⟩, 2), (⟨"RelayDesk$Routes", "membersOf", "(I)I"⟩, 2), (⟨"RelayDesk", "fileMessage", "(LRelayDesk$Text;I)V"⟩, 7), (⟨"RelayDesk", "channelOf", "(LRelayDesk$Route;)I"⟩, 7), (⟨"RelayDesk$Outlet", "start", "(LRelayDesk$Message;IZ)V"⟩, 11), (⟨"RelayDesk", "firstWaiting", "(I)LRelayDesk$Message;"⟩, 7), (⟨"RelayDesk$Outlet", "finish", "()V"⟩, 11), (⟨"RelayDesk", "fileIfAllLeadSomewhere", "(LRelayDesk$Text;)I"⟩, 7), (⟨"RelayDeskModel", "refused", "(I)Z"⟩, 55), (⟨"RelayDeskModel", "gather", "(IC)V"⟩, 55), (⟨"RelayDeskModel", "isEnd", "(I)Z"⟩, 55), (⟨"RelayDeskModel", "atEnd", "(II)C"⟩, 55), (⟨"RelayDeskModel", "forget", "(I)V"⟩, 55), (⟨"RelayDeskModel", "finish", "(I)I"⟩, 55)]
theorem lw_r2 : ∀ q ∈ lw_privs_2, lw_okq q := List.forall_mem_cons.mpr ⟨lw_p16, List.forall_mem_cons.mpr ⟨lw_p17, List.forall_mem_cons.mpr ⟨lw_p18, List.forall_mem_cons.mpr ⟨lw_p19, List.forall_mem_cons.mpr ⟨lw_p20, List.forall_mem_cons.mpr ⟨lw_p21, List.forall_mem_cons.mpr ⟨lw_p22, List.forall_mem_cons.mpr ⟨lw_p23, List.forall_mem_cons.mpr ⟨lw_p24, List.forall_mem_cons.mpr ⟨lw_p25, List.forall_mem_cons.mpr ⟨lw_p26, List.forall_mem_cons.mpr ⟨lw_p27, List.forall_mem_cons.mpr ⟨lw_p28, List.forall_mem_cons.mpr ⟨lw_p29, List.forall_mem_cons.mpr ⟨lw_p30, List.forall_mem_cons.mpr ⟨lw_p31, fun _ h => absurd h List.not_mem_nil⟩⟩⟩⟩⟩⟩⟩⟩⟩⟩⟩⟩⟩⟩⟩⟩
theorem lw_p32 : lw_okq (⟨"RelayDeskModel", "faultOfText", "()I"⟩, 55) := ⟨⟨by decide +kernel, by decide +kernel⟩, List.mem_of_getElem? (i := 887) (by decide +kernel), List.mem_of_getElem? (i := 1102) (by decide +kernel), List.mem_of_getElem? (i := 1103) (by decide +kernel)⟩
theorem lw_p33 : lw_okq (⟨"RelayDeskModel", "part", "()V"⟩, 55) := ⟨⟨by decide +kernel, by decide +kernel⟩, List.mem_of_getElem? (i := 887) (by decide +kernel), List.mem_of_getElem? (i := 1106) (by decide +kernel), List.mem_of_getElem? (i := 1107) (by decide +kernel)⟩
theorem lw_p34 : lw_okq (⟨"RelayDeskModel", "numberWord", "()I"⟩, 55) := ⟨⟨by decide +kernel, by decide +kernel⟩, List.mem_of_getElem? (i := 887) (by decide +kernel), List.mem_of_getElem? (i := 1110) (by decide +kernel), List.mem_of_getElem? (i := 1111) (by decide +kernel)⟩
theorem lw_p35 : lw_okq (⟨"RelayDeskModel", "letter", "(II)C"⟩, 55) := ⟨⟨by decide +kernel, by decide +kernel⟩, List.mem_of_getElem? (i := 887) (by decide +kernel), List.mem_of_getElem? (i := 1114) (by decide +kernel), List.mem_of_getElem? (i := 1115) (by decide +kernel)⟩
theorem lw_p36 : lw_okq (⟨"RelayDeskModel", "isIndicator", "(I)Z"⟩, 55) := ⟨⟨by decide +kernel, by decide +kernel⟩, List.mem_of_getElem? (i := 887) (by decide +kernel), List.mem_of_getElem? (i := 1121) (by decide +kernel), List.mem_of_getElem? (i := 1122) (by decide +kernel)⟩
theorem lw_p37 : lw_okq (⟨"RelayDeskModel", "addCase", "(I)V"⟩, 55) := ⟨⟨by decide +kernel, by decide +kernel⟩, List.mem_of_getElem? (i := 887) (by decide +kernel), List.mem_of_getElem? (i := 1128) (by decide +kernel), List.mem_of_getElem? (i := 1129) (by decide +kernel)⟩
theorem lw_p38 : lw_okq (⟨"RelayDeskModel", "isDue", "(II)Z"⟩, 55) := ⟨⟨by decide +kernel, by decide +kernel⟩, List.mem_of_getElem? (i := 887) (by decide +kernel), List.mem_of_getElem? (i := 1132) (by decide +kernel), List.mem_of_getElem? (i := 1133) (by decide +kernel)⟩
theorem lw_p39 : lw_okq (⟨"RelayDeskModel", "count", "(III)I"⟩, 55) := ⟨⟨by decide +kernel, by decide +kernel⟩, List.mem_of_getElem? (i := 887) (by decide +kernel), List.mem_of_getElem? (i := 1136) (by decide +kernel), List.mem_of_getElem? (i := 1137) (by decide +kernel)⟩
theorem lw_p40 : lw_okq (⟨"RelayDeskModel", "missingAt", "(II)I"⟩, 55) := ⟨⟨by decide +kernel, by decide +kernel⟩, List.mem_of_getElem? (i := 887) (by decide +kernel), List.mem_of_getElem? (i := 1143) (by decide +kernel), List.mem_of_getElem? (i := 1144) (by decide +kernel)⟩
theorem lw_p41 : lw_okq (⟨"RelayDeskModel", "take", "(II)V"⟩, 55) := ⟨⟨by decide +kernel, by decide +kernel⟩, List.mem_of_getElem? (i := 887) (by decide +kernel), List.mem_of_getElem? (i := 1147) (by decide +kernel), List.mem_of_getElem? (i := 1148) (by decide +kernel)⟩
theorem lw_p42 : lw_okq (⟨"RelayDeskModel", "missingAt2", "(II)I"⟩, 55) := ⟨⟨by decide +kernel, by decide +kernel⟩, List.mem_of_getElem? (i := 887) (by decide +kernel), List.mem_of_getElem? (i := 1151) (by decide +kernel), List.mem_of_getElem? (i := 1152) (by decide +kernel)⟩
theorem lw_p43 : lw_okq (⟨"RelayDeskModel", "look", "()V"⟩, 55) := ⟨⟨by decide +kernel, by decide +kernel⟩, List.mem_of_getElem? (i := 887) (by decide +kernel), List.mem_of_getElem? (i := 1155) (by decide +kernel), List.mem_of_getElem? (i := 1156) (by decide +kernel)⟩
theorem lw_p44 : lw_okq (⟨"RelayDeskModel", "indicatorOf", "(I)I"⟩, 55) := ⟨⟨by decide +kernel, by decide +kernel⟩, List.mem_of_getElem? (i := 887) (by decide +kernel), List.mem_of_getElem? (i := 1159) (by decide +kernel), List.mem_of_getElem? (i := 1160) (by decide +kernel)⟩
theorem lw_p45 : lw_okq (⟨"RelayDeskModel", "lookFrom", "(I)V"⟩, 55) := ⟨⟨by decide +kernel, by decide +kernel⟩, List.mem_of_getElem? (i := 887) (by decide +kernel), List.mem_of_getElem? (i := 1163) (by decide +kernel), List.mem_of_getElem? (i := 1164) (by decide +kernel)⟩
theorem lw_p46 : lw_okq (⟨"RelayDeskModel", "routeAt", "(I)I"⟩, 55) := ⟨⟨by decide +kernel, by decide +kernel⟩, List.mem_of_getElem? (i := 887) (by decide +kernel), List.mem_of_getElem? (i := 1167) (by decide +kernel), List.mem_of_getElem? (i := 1168) (by decide +kernel)⟩
theorem lw_p47 : lw_okq (⟨"RelayDeskModel", "reach", "(II)V"⟩, 55) := ⟨⟨by decide +kernel, by decide +kernel⟩, List.mem_of_getElem? (i := 887) (by decide +kernel), List.mem_of_getElem? (i := 1171) (by decide +kernel), List.mem_of_getElem? (i := 1172) (by decide +kernel)⟩
def lw_privs_3 : List (MethodName × Nat) := [(⟨"RelayDeskModel", "faultOfText", "()I"⟩, 55), (⟨"RelayDeskModel", "part", "()V"⟩, 55), (⟨"RelayDeskModel", "numberWord", "()I"⟩, 55), (⟨"RelayDeskModel", "letter", "(II)C"⟩, 55), (⟨"RelayDeskModel", "isIndicator", "(I)Z"⟩, 55), (⟨"RelayDeskModel", "addCase", "(I)V"⟩, 55), (⟨"RelayDeskModel", "isDue", "(II)Z"⟩, 55), (⟨"RelayDeskModel", "count", "(III)I"⟩, 55), (⟨"RelayDeskModel", "missingAt", "(II)I"⟩, 55), (⟨"RelayDeskModel", "take", "(II)V"⟩, 55), (⟨"RelayDeskModel", "missingAt2", "(II)I"⟩, 55), (⟨"RelayDeskModel", "look", "()V"⟩, 55), (⟨"RelayDeskModel", "indicatorOf", "(I)I"⟩, 55), (⟨"RelayDeskModel", "lookFrom", "(I)V"⟩, 55), (⟨"RelayDeskModel", "routeAt", "(I)I"⟩, 55), (⟨"RelayDeskModel", "reach", "(II)V"⟩, 55)]
theorem lw_r3 : ∀ q ∈ lw_privs_3, lw_okq q := List.forall_mem_cons.mpr ⟨lw_p32, List.forall_mem_cons.mpr ⟨lw_p33, List.forall_mem_cons.mpr ⟨lw_p34, List.forall_mem_cons.mpr ⟨lw_p35, List.forall_mem_cons.mpr ⟨lw_p36, List.forall_mem_cons.mpr ⟨lw_p37, List.forall_mem_cons.mpr ⟨lw_p38, List.forall_mem_cons.mpr ⟨lw_p39, List.forall_mem_cons.mpr ⟨lw_p40, List.forall_mem_cons.mpr ⟨lw_p41, List.forall_mem_cons.mpr ⟨lw_p42, List.forall_mem_cons.mpr ⟨lw_p43, List.forall_mem_cons.mpr ⟨lw_p44, List.forall_mem_cons.mpr ⟨lw_p45, List.forall_mem_cons.mpr ⟨lw_p46, List.forall_mem_cons.mpr ⟨lw_p47, fun _ h => absurd h List.not_mem_nil⟩⟩⟩⟩⟩⟩⟩⟩⟩⟩⟩⟩⟩⟩⟩⟩
theorem lw_p48 : lw_okq (⟨"RelayDeskModel", "addMessage", "()V"⟩, 55) := ⟨⟨by decide +kernel, by decide +kernel⟩, List.mem_of_getElem? (i := 887) (by decide +kernel), List.mem_of_getElem? (i := 1175) (by decide +kernel), List.mem_of_getElem? (i := 1176) (by decide +kernel)⟩
theorem lw_p49 : lw_okq (⟨"RelayDeskModel", "addRoute", "(II)I"⟩, 55) := ⟨⟨by decide +kernel, by decide +kernel⟩, List.mem_of_getElem? (i := 887) (by decide +kernel), List.mem_of_getElem? (i := 1195) (by decide +kernel), List.mem_of_getElem? (i := 1196) (by decide +kernel)⟩
theorem lw_p50 : lw_okq (⟨"RelayDeskModel", "hasMember", "(II)Z"⟩, 55) := ⟨⟨by decide +kernel, by decide +kernel⟩, List.mem_of_getElem? (i := 887) (by decide +kernel), List.mem_of_getElem? (i := 1203) (by decide +kernel), List.mem_of_getElem? (i := 1204) (by decide +kernel)⟩
theorem lw_p51 : lw_okq (⟨"RelayDeskModel", "leads", "(II)Z"⟩, 55) := ⟨⟨by decide +kernel, by decide +kernel⟩, List.mem_of_getElem? (i := 887) (by decide +kernel), List.mem_of_getElem? (i := 1207) (by decide +kernel), List.mem_of_getElem? (i := 1208) (by decide +kernel)⟩
theorem lw_p52 : lw_okq (⟨"RelayDeskModel", "pick", "(I)V"⟩, 55) := ⟨⟨by decide +kernel, by decide +kernel⟩, List.mem_of_getElem? (i := 887) (by decide +kernel), List.mem_of_getElem? (i := 1219) (by decide +kernel), List.mem_of_getElem? (i := 1220) (by decide +kernel)⟩
theorem lw_p53 : lw_okq (⟨"RelayDeskModel", "write", "(I)V"⟩, 55) := ⟨⟨by decide +kernel, by decide +kernel⟩, List.mem_of_getElem? (i := 887) (by decide +kernel), List.mem_of_getElem? (i := 1223) (by decide +kernel), List.mem_of_getElem? (i := 1224) (by decide +kernel)⟩
theorem lw_p54 : lw_okq (⟨"RelayDeskModel", "putDigits", "(I)V"⟩, 55) := ⟨⟨by decide +kernel, by decide +kernel⟩, List.mem_of_getElem? (i := 887) (by decide +kernel), List.mem_of_getElem? (i := 1227) (by decide +kernel), List.mem_of_getElem? (i := 1228) (by decide +kernel)⟩
theorem lw_p55 : lw_okq (⟨"RelayDeskModel", "put", "(C)V"⟩, 55) := ⟨⟨by decide +kernel, by decide +kernel⟩, List.mem_of_getElem? (i := 887) (by decide +kernel), List.mem_of_getElem? (i := 1231) (by decide +kernel), List.mem_of_getElem? (i := 1232) (by decide +kernel)⟩
theorem lw_p56 : lw_okq (⟨"RelayDeskModel", "toSigns", "()V"⟩, 55) := ⟨⟨by decide +kernel, by decide +kernel⟩, List.mem_of_getElem? (i := 887) (by decide +kernel), List.mem_of_getElem? (i := 1235) (by decide +kernel), List.mem_of_getElem? (i := 1236) (by decide +kernel)⟩
theorem lw_p57 : lw_okq (⟨"RelayDeskModel", "addSign", "(I)V"⟩, 55) := ⟨⟨by decide +kernel, by decide +kernel⟩, List.mem_of_getElem? (i := 887) (by decide +kernel), List.mem_of_getElem? (i := 1239) (by decide +kernel), List.mem_of_getElem? (i := 1240) (by decide +kernel)⟩
theorem lw_p58 : lw_okq (⟨"RelayDeskModel", "sent", "(I)V"⟩, 55) := ⟨⟨by decide +kernel, by decide +kernel⟩, List.mem_of_getElem? (i := 887) (by decide +kernel), List.mem_of_getElem? (i := 1246) (by decide +kernel), List.mem_of_getElem? (i := 1247) (by decide +kernel)⟩
theorem lw_p59 : lw_okq (⟨"RelayDeskModel", "isCase", "(I)Z"⟩, 55) := ⟨⟨by decide +kernel, by decide +kernel⟩, List.mem_of_getElem? (i := 887) (by decide +kernel), List.mem_of_getElem? (i := 1266) (by decide +kernel), List.mem_of_getElem? (i := 1267) (by decide +kernel)⟩
def lw_privs_4 : List (MethodName × Nat) := [(⟨"RelayDeskModel", "addMessage", "()V"⟩, 55), (⟨"RelayDeskModel", "addRoute", "(II)I"⟩, 55), (⟨"RelayDeskModel", "hasMember", "(II)Z"⟩, 55), (⟨"RelayDeskModel", "leads", "(II)Z"⟩, 55), (⟨"RelayDeskModel", "pick", "(I)V"⟩, 55), (⟨"RelayDeskModel", "write", "(I)V"⟩, 55), (⟨"RelayDeskModel", "putDigits", "(I)V"⟩, 55), (⟨"RelayDeskModel", "put", "(C)V"⟩, 55), (⟨"RelayDeskModel", "toSigns", "()V"⟩, 55), (⟨"RelayDeskModel", "addSign", "(I)V"⟩, 55), (⟨"RelayDeskModel", "sent", "(I)V"⟩, 55), (⟨"RelayDeskModel", "isCase", "(I)Z"⟩, 55)]
theorem lw_r4 : ∀ q ∈ lw_privs_4, lw_okq q := List.forall_mem_cons.mpr ⟨lw_p48, List.forall_mem_cons.mpr ⟨lw_p49, List.forall_mem_cons.mpr ⟨lw_p50, List.forall_mem_cons.mpr ⟨lw_p51, List.forall_mem_cons.mpr ⟨lw_p52, List.forall_mem_cons.mpr ⟨lw_p53, List.forall_mem_cons.mpr ⟨lw_p54, List.forall_mem_cons.mpr ⟨lw_p55, List.forall_mem_cons.mpr ⟨lw_p56, List.forall_mem_cons.mpr ⟨lw_p57, List.forall_mem_cons.mpr ⟨lw_p58, List.forall_mem_cons.mpr ⟨lw_p59, fun _ h => absurd h List.not_mem_nil⟩⟩⟩⟩⟩⟩⟩⟩⟩⟩⟩⟩
def lw_privs : List (MethodName × Nat) := lw_privs_1 ++ (lw_privs_2 ++ (lw_privs_3 ++ (lw_privs_4)))
def lw_tbl : List Cond := k2_sels lw_privs ++ tables_1
theorem lw_privs_ok : ∀ q ∈ lw_privs, lw_okq q := by
  show ∀ q ∈ lw_privs_1 ++ (lw_privs_2 ++ (lw_privs_3 ++ (lw_privs_4))), lw_okq q
  exact List.forall_mem_append.mpr ⟨lw_r1, List.forall_mem_append.mpr ⟨lw_r2, List.forall_mem_append.mpr ⟨lw_r3, lw_r4⟩⟩⟩
end
section
/-! the classes whose objects own code makes, by numbers: names, field tables (declaring class, name, descriptor, final), types -/
def clN : Nat → String := fun c => match c with
  | 0 => "RelayDesk"
  | 1 => "RelayDesk$Channel"
  | 2 => "RelayDesk$Intake"
  | 3 => "RelayDesk$Text"
  | 4 => "RelayDesk$Numbers"
  | 5 => "RelayDesk$Outlet"
  | 6 => "RelayDesk$Message"
  | 7 => "RelayDesk$Case"
  | 8 => "RelayDesk$Route"
  | 9 => "RelayDesk$Routes"
  | 10 => "RelayDesk$Header"
  | _ => "RelayDeskModel"
def clT0 : u_T := fun k => match k with
  | 0 => ("RelayDesk", "channels", "[LRelayDesk$Channel;", true)
  | 1 => ("RelayDesk", "messages", "[LRelayDesk$Message;", true)
  | 2 => ("RelayDesk", "cases", "[LRelayDesk$Case;", true)
  | 3 => ("RelayDesk", "routes", "LRelayDesk$Routes;", true)
  | 4 => ("RelayDesk", "header", "LRelayDesk$Header;", true)
  | 5 => ("RelayDesk", "messageCount", "I", false)
  | _ => ("RelayDesk", "caseCount", "I", false)
def clY0 : Nat → FieldType := fun k => match k with
  | 0 => (.array (.object "RelayDesk$Channel"))
  | 1 => (.array (.object "RelayDesk$Message"))
  | 2 => (.array (.object "RelayDesk$Case"))
  | 3 => (.object "RelayDesk$Routes")
  | 4 => (.object "RelayDesk$Header")
  | 5 => .int
  | _ => .int
def clT1 : u_T := fun k => match k with
  | 0 => ("RelayDesk$Channel", "isOpen", "Z", false)
  | 1 => ("RelayDesk$Channel", "intake", "LRelayDesk$Intake;", true)
  | 2 => ("RelayDesk$Channel", "numbers", "LRelayDesk$Numbers;", true)
  | _ => ("RelayDesk$Channel", "outlet", "LRelayDesk$Outlet;", true)
def clY1 : Nat → FieldType := fun k => match k with
  | 0 => .boolean
  | 1 => (.object "RelayDesk$Intake")
  | 2 => (.object "RelayDesk$Numbers")
  | _ => (.object "RelayDesk$Outlet")
def clT2 : u_T := fun k => match k with
  | 0 => ("RelayDesk$Intake", "text", "LRelayDesk$Text;", true)
  | 1 => ("RelayDesk$Intake", "inFigures", "Z", false)
  | 2 => ("RelayDesk$Intake", "came", "I", false)
  | 3 => ("RelayDesk$Intake", "cameBeforeLine", "I", false)
  | _ => ("RelayDesk$Intake", "lineNs", "I", false)
def clY2 : Nat → FieldType := fun k => match k with
  | 0 => (.object "RelayDesk$Text")
  | 1 => .boolean
  | 2 => .int
  | 3 => .int
  | _ => .int
def clT3 : u_T := fun k => match k with
  | 0 => ("RelayDesk$Text", "characters", "[C", true)
  | _ => ("RelayDesk$Text", "length", "I", false)
def clY3 : Nat → FieldType := fun k => match k with
  | 0 => (.array .char)
  | _ => .int
def clT4 : u_T := fun k => match k with
  | 0 => ("RelayDesk$Numbers", "last", "I", false)
  | 1 => ("RelayDesk$Numbers", "missing", "[I", true)
  | _ => ("RelayDesk$Numbers", "missingCount", "I", false)
def clY4 : Nat → FieldType := fun k => match k with
  | 0 => .int
  | 1 => (.array .int)
  | _ => .int
def clT5 : u_T := fun k => match k with
  | 0 => ("RelayDesk$Outlet", "channel", "I", true)
  | 1 => ("RelayDesk$Outlet", "tape", "LRelayDesk$Text;", true)
  | 2 => ("RelayDesk$Outlet", "position", "I", false)
  | 3 => ("RelayDesk$Outlet", "inFigures", "Z", false)
  | 4 => ("RelayDesk$Outlet", "current", "LRelayDesk$Message;", false)
  | 5 => ("RelayDesk$Outlet", "currentNumber", "I", false)
  | 6 => ("RelayDesk$Outlet", "isAgain", "Z", false)
  | 7 => ("RelayDesk$Outlet", "lastNumber", "I", false)
  | 8 => ("RelayDesk$Outlet", "asked", "[LRelayDesk$Message;", true)
  | 9 => ("RelayDesk$Outlet", "askedCount", "I", false)
  | _ => ("RelayDesk$Outlet", "kept", "[LRelayDesk$Message;", true)
def clY5 : Nat → FieldType := fun k => match k with
  | 0 => .int
  | 1 => (.object "RelayDesk$Text")
  | 2 => .int
  | 3 => .boolean
  | 4 => (.object "RelayDesk$Message")
  | 5 => .int
  | 6 => .boolean
  | 7 => .int
  | 8 => (.array (.object "RelayDesk$Message"))
  | 9 => .int
  | _ => (.array (.object "RelayDesk$Message"))
def clT6 : u_T := fun k => match k with
  | 0 => ("RelayDesk$Message", "precedence", "I", false)
  | 1 => ("RelayDesk$Message", "indicators", "[I", true)
  | 2 => ("RelayDesk$Message", "indicatorCount", "I", false)
  | 3 => ("RelayDesk$Message", "body", "LRelayDesk$Text;", true)
  | _ => ("RelayDesk$Message", "fates", "[I", true)
def clY6 : Nat → FieldType := fun k => match k with
  | 0 => .int
  | 1 => (.array .int)
  | 2 => .int
  | 3 => (.object "RelayDesk$Text")
  | _ => (.array .int)
def clT7 : u_T := fun k => match k with
  | 0 => ("RelayDesk$Case", "reason", "I", false)
  | _ => ("RelayDesk$Case", "text", "LRelayDesk$Text;", true)
def clY7 : Nat → FieldType := fun k => match k with
  | 0 => .int
  | _ => (.object "RelayDesk$Text")
def clT8 : u_T := fun k => match k with
  | 0 => ("RelayDesk$Route", "indicator", "I", false)
  | 1 => ("RelayDesk$Route", "channel", "I", false)
  | 2 => ("RelayDesk$Route", "alternate", "I", false)
  | 3 => ("RelayDesk$Route", "members", "[I", true)
  | _ => ("RelayDesk$Route", "memberCount", "I", false)
def clY8 : Nat → FieldType := fun k => match k with
  | 0 => .int
  | 1 => .int
  | 2 => .int
  | 3 => (.array .int)
  | _ => .int
def clT9 : u_T := fun k => match k with
  | 0 => ("RelayDesk$Routes", "rows", "[LRelayDesk$Route;", true)
  | _ => ("RelayDesk$Routes", "rowCount", "I", false)
def clY9 : Nat → FieldType := fun k => match k with
  | 0 => (.array (.object "RelayDesk$Route"))
  | _ => .int
def clT10 : u_T := fun k => match k with
  | 0 => ("RelayDesk$Header", "number", "I", false)
  | 1 => ("RelayDesk$Header", "precedence", "I", false)
  | 2 => ("RelayDesk$Header", "indicators", "[I", true)
  | 3 => ("RelayDesk$Header", "indicatorCount", "I", false)
  | 4 => ("RelayDesk$Header", "end", "I", false)
  | 5 => ("RelayDesk$Header", "wordStart", "I", false)
  | _ => ("RelayDesk$Header", "wordEnd", "I", false)
def clY10 : Nat → FieldType := fun k => match k with
  | 0 => .int
  | 1 => .int
  | 2 => (.array .int)
  | 3 => .int
  | 4 => .int
  | 5 => .int
  | _ => .int
def clT11 : u_T := fun k => match k with
  | 0 => ("RelayDeskModel", "fault", "I", false)
  | 1 => ("RelayDeskModel", "closed", "[Z", true)
  | 2 => ("RelayDeskModel", "many", "[I", true)
  | 3 => ("RelayDeskModel", "gathered", "[C", true)
  | 4 => ("RelayDeskModel", "isFigures", "[Z", true)
  | 5 => ("RelayDeskModel", "last", "[I", true)
  | 6 => ("RelayDeskModel", "missing", "[I", true)
  | 7 => ("RelayDeskModel", "missingNumbers", "[I", true)
  | 8 => ("RelayDeskModel", "routes", "I", false)
  | 9 => ("RelayDeskModel", "routeOf", "[I", true)
  | 10 => ("RelayDeskModel", "routeKind", "[I", true)
  | 11 => ("RelayDeskModel", "routeChannel", "[I", true)
  | 12 => ("RelayDeskModel", "routeOther", "[I", true)
  | 13 => ("RelayDeskModel", "memberCount", "[I", true)
  | 14 => ("RelayDeskModel", "members", "[I", true)
  | 15 => ("RelayDeskModel", "messages", "I", false)
  | 16 => ("RelayDeskModel", "precedence", "[I", true)
  | 17 => ("RelayDeskModel", "indicatorCount", "[I", true)
  | 18 => ("RelayDeskModel", "indicators", "[I", true)
  | 19 => ("RelayDeskModel", "bodySize", "[I", true)
  | 20 => ("RelayDeskModel", "bodies", "[C", true)
  | 21 => ("RelayDeskModel", "entry", "[I", true)
  | 22 => ("RelayDeskModel", "entryNumber", "[I", true)
  | 23 => ("RelayDeskModel", "cases", "I", false)
  | 24 => ("RelayDeskModel", "reasons", "[I", true)
  | 25 => ("RelayDeskModel", "caseSize", "[I", true)
  | 26 => ("RelayDeskModel", "caseText", "[C", true)
  | 27 => ("RelayDeskModel", "nextNumber", "[I", true)
  | 28 => ("RelayDeskModel", "sending", "[I", true)
  | 29 => ("RelayDeskModel", "sendingNumber", "[I", true)
  | 30 => ("RelayDeskModel", "isAgain", "[Z", true)
  | 31 => ("RelayDeskModel", "signsOut", "[I", true)
  | 32 => ("RelayDeskModel", "sentCount", "[I", true)
  | 33 => ("RelayDeskModel", "sentMessage", "[I", true)
  | 34 => ("RelayDeskModel", "sentNumber", "[I", true)
  | 35 => ("RelayDeskModel", "askedCount", "[I", true)
  | 36 => ("RelayDeskModel", "askedMessage", "[I", true)
  | 37 => ("RelayDeskModel", "askedNumber", "[I", true)
  | 38 => ("RelayDeskModel", "textSize", "I", false)
  | 39 => ("RelayDeskModel", "text", "[C", true)
  | 40 => ("RelayDeskModel", "isLong", "Z", false)
  | 41 => ("RelayDeskModel", "words", "I", false)
  | 42 => ("RelayDeskModel", "wordFrom", "[I", true)
  | 43 => ("RelayDeskModel", "wordSize", "[I", true)
  | 44 => ("RelayDeskModel", "foundNumber", "I", false)
  | 45 => ("RelayDeskModel", "foundPrecedence", "I", false)
  | 46 => ("RelayDeskModel", "foundFirst", "I", false)
  | 47 => ("RelayDeskModel", "foundBody", "I", false)
  | 48 => ("RelayDeskModel", "reached", "[Z", true)
  | 49 => ("RelayDeskModel", "isLost", "Z", false)
  | 50 => ("RelayDeskModel", "outSize", "I", false)
  | 51 => ("RelayDeskModel", "out", "[C", true)
  | 52 => ("RelayDeskModel", "signSize", "I", false)
  | 53 => ("RelayDeskModel", "signs", "[I", true)
  | _ => ("RelayDeskModel", "seen", "[Z", true)
def clY11 : Nat → FieldType := fun k => match k with
  | 0 => .int
  | 1 => (.array .boolean)
  | 2 => (.array .int)
  | 3 => (.array .char)
  | 4 => (.array .boolean)
  | 5 => (.array .int)
  | 6 => (.array .int)
  | 7 => (.array .int)
  | 8 => .int
  | 9 => (.array .int)
  | 10 => (.array .int)
  | 11 => (.array .int)
  | 12 => (.array .int)
  | 13 => (.array .int)
  | 14 => (.array .int)
  | 15 => .int
  | 16 => (.array .int)
  | 17 => (.array .int)
  | 18 => (.array .int)
  | 19 => (.array .int)
  | 20 => (.array .char)
  | 21 => (.array .int)
  | 22 => (.array .int)
  | 23 => .int
  | 24 => (.array .int)
  | 25 => (.array .int)
  | 26 => (.array .char)
  | 27 => (.array .int)
  | 28 => (.array .int)
  | 29 => (.array .int)
  | 30 => (.array .boolean)
  | 31 => (.array .int)
  | 32 => (.array .int)
  | 33 => (.array .int)
  | 34 => (.array .int)
  | 35 => (.array .int)
  | 36 => (.array .int)
  | 37 => (.array .int)
  | 38 => .int
  | 39 => (.array .char)
  | 40 => .boolean
  | 41 => .int
  | 42 => (.array .int)
  | 43 => (.array .int)
  | 44 => .int
  | 45 => .int
  | 46 => .int
  | 47 => .int
  | 48 => (.array .boolean)
  | 49 => .boolean
  | 50 => .int
  | 51 => (.array .char)
  | 52 => .int
  | 53 => (.array .int)
  | _ => (.array .boolean)
def clT : Nat → u_T := fun c => match c with
  | 0 => clT0
  | 1 => clT1
  | 2 => clT2
  | 3 => clT3
  | 4 => clT4
  | 5 => clT5
  | 6 => clT6
  | 7 => clT7
  | 8 => clT8
  | 9 => clT9
  | 10 => clT10
  | _ => clT11
def clY : Nat → Nat → FieldType := fun c => match c with
  | 0 => clY0
  | 1 => clY1
  | 2 => clY2
  | 3 => clY3
  | 4 => clY4
  | 5 => clY5
  | 6 => clY6
  | 7 => clY7
  | 8 => clY8
  | 9 => clY9
  | 10 => clY10
  | _ => clY11
def clF : Nat → Nat := fun c => match c with
  | 0 => 7
  | 1 => 4
  | 2 => 5
  | 3 => 2
  | 4 => 3
  | 5 => 11
  | 6 => 5
  | 7 => 2
  | 8 => 5
  | 9 => 2
  | 10 => 7
  | _ => 55
theorem cl_in0 : ∀ w ∈ u_ws (clN 0) (clT 0) (clF 0), w ∈ lw_tbl := by decide +kernel
theorem cl_nm0 : ∀ a, a < clF 0 → ∀ b, b < clF 0 → a ≠ b → (clT 0 a).2.1 ≠ (clT 0 b).2.1 := by decide +kernel
theorem cl_ty0 : ∀ k, k < clF 0 → parseFieldDescriptor (clT 0 k).2.2.1 = some (clY 0 k) := by decide +kernel
theorem cl_is0 : Cond.instantiable (clN 0) (clF 0) ∈ lw_tbl ∧ Cond.initialized (clN 0) ∈ lw_tbl := by decide +kernel
theorem cl_in1 : ∀ w ∈ u_ws (clN 1) (clT 1) (clF 1), w ∈ lw_tbl := by decide +kernel
theorem cl_nm1 : ∀ a, a < clF 1 → ∀ b, b < clF 1 → a ≠ b → (clT 1 a).2.1 ≠ (clT 1 b).2.1 := by decide +kernel
theorem cl_ty1 : ∀ k, k < clF 1 → parseFieldDescriptor (clT 1 k).2.2.1 = some (clY 1 k) := by decide +kernel
theorem cl_is1 : Cond.instantiable (clN 1) (clF 1) ∈ lw_tbl ∧ Cond.initialized (clN 1) ∈ lw_tbl := by decide +kernel
theorem cl_in2 : ∀ w ∈ u_ws (clN 2) (clT 2) (clF 2), w ∈ lw_tbl := by decide +kernel
theorem cl_nm2 : ∀ a, a < clF 2 → ∀ b, b < clF 2 → a ≠ b → (clT 2 a).2.1 ≠ (clT 2 b).2.1 := by decide +kernel
theorem cl_ty2 : ∀ k, k < clF 2 → parseFieldDescriptor (clT 2 k).2.2.1 = some (clY 2 k) := by decide +kernel
theorem cl_is2 : Cond.instantiable (clN 2) (clF 2) ∈ lw_tbl ∧ Cond.initialized (clN 2) ∈ lw_tbl := by decide +kernel
theorem cl_in3 : ∀ w ∈ u_ws (clN 3) (clT 3) (clF 3), w ∈ lw_tbl := by decide +kernel
theorem cl_nm3 : ∀ a, a < clF 3 → ∀ b, b < clF 3 → a ≠ b → (clT 3 a).2.1 ≠ (clT 3 b).2.1 := by decide +kernel
theorem cl_ty3 : ∀ k, k < clF 3 → parseFieldDescriptor (clT 3 k).2.2.1 = some (clY 3 k) := by decide +kernel
theorem cl_is3 : Cond.instantiable (clN 3) (clF 3) ∈ lw_tbl ∧ Cond.initialized (clN 3) ∈ lw_tbl := by decide +kernel
theorem cl_in4 : ∀ w ∈ u_ws (clN 4) (clT 4) (clF 4), w ∈ lw_tbl := by decide +kernel
theorem cl_nm4 : ∀ a, a < clF 4 → ∀ b, b < clF 4 → a ≠ b → (clT 4 a).2.1 ≠ (clT 4 b).2.1 := by decide +kernel
theorem cl_ty4 : ∀ k, k < clF 4 → parseFieldDescriptor (clT 4 k).2.2.1 = some (clY 4 k) := by decide +kernel
theorem cl_is4 : Cond.instantiable (clN 4) (clF 4) ∈ lw_tbl ∧ Cond.initialized (clN 4) ∈ lw_tbl := by decide +kernel
theorem cl_in5 : ∀ w ∈ u_ws (clN 5) (clT 5) (clF 5), w ∈ lw_tbl := by decide +kernel
theorem cl_nm5 : ∀ a, a < clF 5 → ∀ b, b < clF 5 → a ≠ b → (clT 5 a).2.1 ≠ (clT 5 b).2.1 := by decide +kernel
theorem cl_ty5 : ∀ k, k < clF 5 → parseFieldDescriptor (clT 5 k).2.2.1 = some (clY 5 k) := by decide +kernel
theorem cl_is5 : Cond.instantiable (clN 5) (clF 5) ∈ lw_tbl ∧ Cond.initialized (clN 5) ∈ lw_tbl := by decide +kernel
theorem cl_in6 : ∀ w ∈ u_ws (clN 6) (clT 6) (clF 6), w ∈ lw_tbl := by decide +kernel
theorem cl_nm6 : ∀ a, a < clF 6 → ∀ b, b < clF 6 → a ≠ b → (clT 6 a).2.1 ≠ (clT 6 b).2.1 := by decide +kernel
theorem cl_ty6 : ∀ k, k < clF 6 → parseFieldDescriptor (clT 6 k).2.2.1 = some (clY 6 k) := by decide +kernel
theorem cl_is6 : Cond.instantiable (clN 6) (clF 6) ∈ lw_tbl ∧ Cond.initialized (clN 6) ∈ lw_tbl := by decide +kernel
theorem cl_in7 : ∀ w ∈ u_ws (clN 7) (clT 7) (clF 7), w ∈ lw_tbl := by decide +kernel
theorem cl_nm7 : ∀ a, a < clF 7 → ∀ b, b < clF 7 → a ≠ b → (clT 7 a).2.1 ≠ (clT 7 b).2.1 := by decide +kernel
theorem cl_ty7 : ∀ k, k < clF 7 → parseFieldDescriptor (clT 7 k).2.2.1 = some (clY 7 k) := by decide +kernel
theorem cl_is7 : Cond.instantiable (clN 7) (clF 7) ∈ lw_tbl ∧ Cond.initialized (clN 7) ∈ lw_tbl := by decide +kernel
theorem cl_in8 : ∀ w ∈ u_ws (clN 8) (clT 8) (clF 8), w ∈ lw_tbl := by decide +kernel
theorem cl_nm8 : ∀ a, a < clF 8 → ∀ b, b < clF 8 → a ≠ b → (clT 8 a).2.1 ≠ (clT 8 b).2.1 := by decide +kernel
theorem cl_ty8 : ∀ k, k < clF 8 → parseFieldDescriptor (clT 8 k).2.2.1 = some (clY 8 k) := by decide +kernel
theorem cl_is8 : Cond.instantiable (clN 8) (clF 8) ∈ lw_tbl ∧ Cond.initialized (clN 8) ∈ lw_tbl := by decide +kernel
theorem cl_in9 : ∀ w ∈ u_ws (clN 9) (clT 9) (clF 9), w ∈ lw_tbl := by decide +kernel
theorem cl_nm9 : ∀ a, a < clF 9 → ∀ b, b < clF 9 → a ≠ b → (clT 9 a).2.1 ≠ (clT 9 b).2.1 := by decide +kernel
theorem cl_ty9 : ∀ k, k < clF 9 → parseFieldDescriptor (clT 9 k).2.2.1 = some (clY 9 k) := by decide +kernel
theorem cl_is9 : Cond.instantiable (clN 9) (clF 9) ∈ lw_tbl ∧ Cond.initialized (clN 9) ∈ lw_tbl := by decide +kernel
theorem cl_in10 : ∀ w ∈ u_ws (clN 10) (clT 10) (clF 10), w ∈ lw_tbl := by decide +kernel
theorem cl_nm10 : ∀ a, a < clF 10 → ∀ b, b < clF 10 → a ≠ b → (clT 10 a).2.1 ≠ (clT 10 b).2.1 := by decide +kernel
theorem cl_ty10 : ∀ k, k < clF 10 → parseFieldDescriptor (clT 10 k).2.2.1 = some (clY 10 k) := by decide +kernel
theorem cl_is10 : Cond.instantiable (clN 10) (clF 10) ∈ lw_tbl ∧ Cond.initialized (clN 10) ∈ lw_tbl := by decide +kernel
theorem cl_in11 : ∀ w ∈ u_ws (clN 11) (clT 11) (clF 11), w ∈ lw_tbl := by decide +kernel
theorem cl_nm11 : ∀ a, a < clF 11 → ∀ b, b < clF 11 → a ≠ b → (clT 11 a).2.1 ≠ (clT 11 b).2.1 := by decide +kernel
theorem cl_ty11 : ∀ k, k < clF 11 → parseFieldDescriptor (clT 11 k).2.2.1 = some (clY 11 k) := by decide +kernel
theorem cl_is11 : Cond.instantiable (clN 11) (clF 11) ∈ lw_tbl ∧ Cond.initialized (clN 11) ∈ lw_tbl := by decide +kernel
theorem cl_in : ∀ c, c < 12 → ∀ w ∈ u_ws (clN c) (clT c) (clF c), w ∈ lw_tbl := by
  intro c hc
  match c, hc with
  | 0, _ => exact cl_in0
  | 1, _ => exact cl_in1
  | 2, _ => exact cl_in2
  | 3, _ => exact cl_in3
  | 4, _ => exact cl_in4
  | 5, _ => exact cl_in5
  | 6, _ => exact cl_in6
  | 7, _ => exact cl_in7
  | 8, _ => exact cl_in8
  | 9, _ => exact cl_in9
  | 10, _ => exact cl_in10
  | 11, _ => exact cl_in11
  | c + 12, hc => omega
theorem cl_nm : ∀ c, c < 12 → ∀ a, a < clF c → ∀ b, b < clF c → a ≠ b → (clT c a).2.1 ≠ (clT c b).2.1 := by
  intro c hc
  match c, hc with
  | 0, _ => exact cl_nm0
  | 1, _ => exact cl_nm1
  | 2, _ => exact cl_nm2
  | 3, _ => exact cl_nm3
  | 4, _ => exact cl_nm4
  | 5, _ => exact cl_nm5
  | 6, _ => exact cl_nm6
  | 7, _ => exact cl_nm7
  | 8, _ => exact cl_nm8
  | 9, _ => exact cl_nm9
  | 10, _ => exact cl_nm10
  | 11, _ => exact cl_nm11
  | c + 12, hc => omega
theorem cl_ty : ∀ c, c < 12 → ∀ k, k < clF c → parseFieldDescriptor (clT c k).2.2.1 = some (clY c k) := by
  intro c hc
  match c, hc with
  | 0, _ => exact cl_ty0
  | 1, _ => exact cl_ty1
  | 2, _ => exact cl_ty2
  | 3, _ => exact cl_ty3
  | 4, _ => exact cl_ty4
  | 5, _ => exact cl_ty5
  | 6, _ => exact cl_ty6
  | 7, _ => exact cl_ty7
  | 8, _ => exact cl_ty8
  | 9, _ => exact cl_ty9
  | 10, _ => exact cl_ty10
  | 11, _ => exact cl_ty11
  | c + 12, hc => omega
theorem cl_is : ∀ c, c < 12 → Cond.instantiable (clN c) (clF c) ∈ lw_tbl ∧ Cond.initialized (clN c) ∈ lw_tbl := by
  intro c hc
  match c, hc with
  | 0, _ => exact cl_is0
  | 1, _ => exact cl_is1
  | 2, _ => exact cl_is2
  | 3, _ => exact cl_is3
  | 4, _ => exact cl_is4
  | 5, _ => exact cl_is5
  | 6, _ => exact cl_is6
  | 7, _ => exact cl_is7
  | 8, _ => exact cl_is8
  | 9, _ => exact cl_is9
  | 10, _ => exact cl_is10
  | 11, _ => exact cl_is11
  | c + 12, hc => omega
theorem cl_own : ∀ c, c < 12 → ∀ k, k < clF c → (clT c k).1 = clN c := by decide +kernel
end
section
/-! ===== the pure machine: heap by fields and elements, a method by its name, bytes, locals, answer, handlers ===== -/
abbrev MI : Type := MethodName × ByteArray × Nat × Option FieldType × List (Nat × Nat × Nat × Nat)
/-- how a method ends: with an answer (or none), or with an exception of a kind (0 IllegalArgument, 1 IllegalState) -/
abbrev PO : Type := Option Value ⊕ Nat
/-- the first own cell, cells made so far, slots made so far, shapes (kind, length or class), int fields, reference fields, int elements, reference elements, long elements; the text constant, a static -/
abbrev PH : Type := Nat × Nat × Nat × (Nat → Nat × Nat) × (Nat → Nat → Int32) × (Nat → Nat → Option Nat) × (Nat → Nat → Int32) × (Nat → Nat → Option Nat) × (Nat → Nat → Int64) × Nat × Option Nat
def bs (σ : PH) : Nat := σ.1
def cc (σ : PH) : Nat := σ.2.1
def cs (σ : PH) : Nat := σ.2.2.1
def sh (σ : PH) : Nat → Nat × Nat := σ.2.2.2.1
def gI (σ : PH) : Nat → Nat → Int32 := σ.2.2.2.2.1
def gR (σ : PH) : Nat → Nat → Option Nat := σ.2.2.2.2.2.1
def eI (σ : PH) : Nat → Nat → Int32 := σ.2.2.2.2.2.2.1
def eR (σ : PH) : Nat → Nat → Option Nat := σ.2.2.2.2.2.2.2.1
def eL (σ : PH) : Nat → Nat → Int64 := σ.2.2.2.2.2.2.2.2.1
def kA (σ : PH) : Nat := σ.2.2.2.2.2.2.2.2.2.1
def kF (σ : PH) : Option Nat := σ.2.2.2.2.2.2.2.2.2.2
/-- where the next cell comes -/
def nx (σ : PH) : Nat := bs σ + cc σ
def up2 {α : Type} (f : Nat → Nat → α) (a b : Nat) (v : α) : Nat → Nat → α := fun x y => if x = a ∧ y = b then v else f x y
def up1 {α : Type} (f : Nat → α) (a : Nat) (v : α) : Nat → α := fun x => if x = a then v else f x
/-- writes -/
def pI (σ : PH) (f a : Nat) (v : Int32) : PH := (bs σ, cc σ, cs σ, sh σ, up2 (gI σ) f a v, gR σ, eI σ, eR σ, eL σ, kA σ, kF σ)
def pR (σ : PH) (f a : Nat) (v : Option Nat) : PH := (bs σ, cc σ, cs σ, sh σ, gI σ, up2 (gR σ) f a v, eI σ, eR σ, eL σ, kA σ, kF σ)
def uI (σ : PH) (a j : Nat) (v : Int32) : PH := (bs σ, cc σ, cs σ, sh σ, gI σ, gR σ, up2 (eI σ) a j v, eR σ, eL σ, kA σ, kF σ)
def uR (σ : PH) (a j : Nat) (v : Option Nat) : PH := (bs σ, cc σ, cs σ, sh σ, gI σ, gR σ, eI σ, up2 (eR σ) a j v, eL σ, kA σ, kF σ)
def uL (σ : PH) (a j : Nat) (v : Int64) : PH := (bs σ, cc σ, cs σ, sh σ, gI σ, gR σ, eI σ, eR σ, up2 (eL σ) a j v, kA σ, kF σ)
/-- k cells of n slots more, that nobody keeps -/
def bump (σ : PH) (k n : Nat) : PH := (bs σ, cc σ + k, cs σ + n, sh σ, gI σ, gR σ, eI σ, eR σ, eL σ, kA σ, kF σ)
def zr1 {α : Type} (f : Nat → Nat → α) (a : Nat) (v : α) : Nat → Nat → α := fun x y => if x = a then v else f x y
def zr2 {α : Type} (f : Nat → Nat → α) (a : Nat) (v : α) : Nat → Nat → α := fun x y => if y = a then v else f x y
/-- a new cell at nx: its shape; its fields and elements are 0 and null -/
def mk (σ : PH) (s : Nat × Nat) (n : Nat) : PH := (bs σ, cc σ + 1, cs σ + n, up1 (sh σ) (nx σ) s, zr2 (gI σ) (nx σ) 0, zr2 (gR σ) (nx σ) none, zr1 (eI σ) (nx σ) 0, zr1 (eR σ) (nx σ) none, zr1 (eL σ) (nx σ) 0, kA σ, kF σ)
/-- the world: the first cell of the law's own, the classes' numbers and slots -/
abbrev WG : Type := Nat × (Nat → ClassId) × (Nat → Nat → Nat)
def isR (t : FieldType) : Bool := match t with
  | .object _ => true
  | .array _ => true
  | _ => false
/-- what field k of an object of class c at a holds -/
def fv (σ : PH) (c a k : Nat) : Value := if isR (clY c k) = true then va_rf (gR σ (64 * c + k) a) else .int (gI σ (64 * c + k) a)
/-- kinds of arrays: 2 int, 3 char, 4 boolean, 5 long, 6 Channel, 7 Message, 8 Case, 9 Route, 10 an int array that nobody writes -/
def aT : Nat → FieldType := fun k => match k with
  | 2 => .int
  | 3 => .char
  | 4 => .boolean
  | 5 => .long
  | 6 => .object "RelayDesk$Channel"
  | 7 => .object "RelayDesk$Message"
  | 8 => .object "RelayDesk$Case"
  | 9 => .object "RelayDesk$Route"
  | _ => .int
def av (σ : PH) (k a j : Nat) : Value := if k = 5 then .long (eL σ a j) else if isR (aT k) = true then va_rf (eR σ a j) else .int (eI σ a j)
/-- an array in the heap -/
def AR (U : State) (H : Heap) (a : Nat) (t : FieldType) (n : Nat) (v : Nat → Value) : Prop :=
  ∃ cell : Cell, H[a]? = some cell ∧ U.isArrayOf cell t ∧ cell.vm ≠ .unknown ∧ cell.slots.size = n ∧ (∀ j, j < n → cell.slots[j]? = some (v j)) ∧ (isR t = true → va_RA U cell.cls t)
/-- what the heap holds at a -/
def RA (G : WG) (σ : PH) (U : State) (H : Heap) (a : Nat) : Prop := match (sh σ a).1 with
  | 0 => True
  | 1 => G.1 ≤ a ∧ (sh σ a).2 < 12 ∧ t_OB a (G.2.1 (sh σ a).2) (clF (sh σ a).2) (G.2.2 (sh σ a).2) H (fv σ (sh σ a).2 a)
  | k => k ≤ 10 ∧ (k < 10 → G.1 ≤ a) ∧ (sh σ a).2 < 2 ^ 31 ∧ AR U H a (aT k) (sh σ a).2 (av σ k a)
def Rep (G : WG) (σ : PH) (U : State) (H : Heap) : Prop := (∀ a, RA G σ U H a) ∧ H.size = nx σ ∧ bs σ = G.1 ∧ cc σ ≤ 601024 ∧ cs σ ≤ 7293034
def isNest (w : Cond) : Bool := match w with
  | .fieldLinkNest _ _ _ _ _ _ => true
  | .methodLinkNest _ _ _ _ => true
  | .arrayOver (.object _) => true
  | _ => false
def okW (w : Cond) : Bool := goodWord w || isNest w
/-- the tables' words -/
def TB (U : State) : Prop := ∀ w ∈ lw_tbl, okW w = true → ∀ a : Array Value, w.before a U = true
theorem TB.moved {s U : State} (hW : s.WarmedH U.vm) (h : TB s) : TB U := by
  intro w hw hk a
  by_cases hg : goodWord w = true
  · exact word_at (args := #[]) hW (good_of_word hg) (h w hw hk #[])
  · have hn : isNest w = true := by
      unfold okW at hk
      simpa [hg] using hk
    have h0 := h w hw hk #[]
    cases w <;> first | (simp [isNest] at hn; done) | exact va_Nw.use rfl (va_Nw.warmM hW h0) | exact va_Nw.use rfl (va_Nw.warmF hW h0) | skip
    rename_i t
    cases t <;> first | (simp [isNest] at hn; done) | exact va_AO.use (va_AO.moved hW.alike h0)
def KN (G : WG) (U : State) : Prop := ∀ c, c < 12 → u_Kn U (clN c) (clT c) (clF c) (G.2.1 c) (G.2.2 c)
theorem KN.moved {G : WG} {u U : State} (hvm : u.vm.Alike U.vm) (h : KN G u) : KN G U := fun c hc => u_Kn_moved hvm (h c hc)
theorem AR.moved {u U : State} {H : Heap} {a : Nat} {t : FieldType} {n : Nat} {v : Nat → Value} (hvm : u.vm.Alike U.vm) (h : AR u H a t n v) : AR U H a t n v := by
  obtain ⟨cell, h1, h2, h3, h4, h5, h6⟩ := h
  exact ⟨cell, h1, State.isArrayOf_alike hvm h2, h3, h4, h5, fun q => (h6 q).moved hvm⟩
theorem RA.moved {G : WG} {σ : PH} {u U : State} {H : Heap} {a : Nat} (hvm : u.vm.Alike U.vm) (h : RA G σ u H a) : RA G σ U H a := by
  unfold RA at h ⊢
  split at h
  · trivial
  · exact h
  · exact ⟨h.1, h.2.1, h.2.2.1, h.2.2.2.moved hvm⟩
theorem Rep.moved {G : WG} {σ : PH} {u U : State} {H : Heap} (hvm : u.vm.Alike U.vm) (h : Rep G σ u H) : Rep G σ U H := ⟨fun a => (h.1 a).moved hvm, h.2⟩
/-- locals: what is listed is held; .retAddr is 'unset' -/
def LV (A : Array Slot) (nL : Nat) (ls : List Value) : Prop := A.size = nL ∧ lv_wf A ∧ ls.length = nL ∧ ∀ (i : Nat) (v : Value), ls[i]? = some v → (∀ n, v ≠ .retAddr n) → v.category = 1 ∧ A[i]? = some (.val v)
theorem LV.at {A : Array Slot} {nL : Nat} {ls : List Value} (h : LV A nL ls) {i : Nat} {v : Value} (hi : ls[i]? = some v) (hv : ∀ n, v ≠ .retAddr n) : A[i]? = some (.val v) := (h.2.2.2 i v hi hv).2
theorem LV.store {A : Array Slot} {nL : Nat} {ls : List Value} (h : LV A nL ls) {i : Nat} {v : Value} (hi : i < nL) (hc : v.category = 1) (hr : ∀ n, v ≠ .retAddr n) :
    ∃ A', storeLocals A i v = some A' ∧ LV A' nL (ls.set i v) := by
  obtain ⟨h1, h2, h3, h4⟩ := h
  obtain ⟨A', e', q1, q2, q3⟩ := lv_store1 (ls := A) (nL := nL) (l := []) (i := i) (v := v) ⟨h1, h2, fun q hq => by simp at hq⟩ hi hc
  refine ⟨A', e', q1, q2, by simp [h3], fun j w hj hw => ?_⟩
  by_cases hij : i = j
  · subst hij
    rw [List.getElem?_set_self (by omega)] at hj
    cases hj
    exact ⟨hc, q3 (i, v) (by simp)⟩
  · rw [List.getElem?_set_ne hij] at hj
    obtain ⟨c1, c2⟩ := h4 j w hj hw
    obtain ⟨A2, e2, -, -, r3⟩ := lv_store1 (ls := A) (nL := nL) (l := [(j, w)]) (i := i) (v := v) ⟨h1, h2, fun q hq => by rw [List.mem_singleton.mp hq]; exact c2⟩ hi hc
    have : A2 = A' := Option.some.inj (e2.symm.trans e')
    subst this
    refine ⟨c1, r3 (j, w) ?_⟩
    have : ¬ j = i := fun q => hij q.symm
    simp [this, c1]
/-- exception classes by kind -/
def exN : Nat → String := fun k => match k with
  | 0 => "java/lang/IllegalArgumentException"
  | _ => "java/lang/IllegalStateException"
/-- an outcome beside its pure one -/
def OM (o : PO) (x : Outcome) (s t : State) : Prop := match o with
  | .inl v => x = .returned v
  | .inr k => ∃ (a : Addr) (cell : Cell), x = .threw a ∧ t.heap[a]? = some cell ∧ (∀ z, cell.vm ≠ .statics z) ∧ s.vm.findClass (exN k) = some cell.cls
/-- what a method's body stands on -/
def Ctx (G : WG) (d : Nat) (M : MI) (p : Program) (R : Room) (s : State) (m : MethodId) (meth : Method) (c : Code) : Prop :=
  p.tables.exec = Jvm.exec ∧ c.code = M.2.1 ∧ c.maxLocals = M.2.2.1 ∧ meth.sig.returnType = M.2.2.2.1 ∧ meth.locks = false ∧ s.methodNamed? M.1 = some m ∧ d ≤ R.frames ∧ 37 * d ≤ R.locals ∧ TB s ∧ KN G s ∧ s.vm.method? m = some meth ∧ c.exceptionTable.toList.map (fun h => (h.startPc, h.endPc, h.handlerPc, h.catchType)) = M.2.2.2.2
/-- the end that a walk comes to -/
def EQ (G : WG) (K : PO → PH → Prop) (below : List Frame) (s : State) (c0 s0 : Nat) : State → Prop := fun t =>
  ∃ (o : PO) (σ : PH) (x : Outcome) (L : List Loc) (k n : Nat), K o σ ∧ t.status = .running ∧ Ended t below x ∧ s.WarmedH t.vm ∧ s.sameButNew ({ t with vm := s.vm } : State) L k n ∧ (∀ q ∈ L, G.1 ≤ q.base) ∧ c0 + k = cc σ ∧ s0 + n = cs σ ∧ Rep G σ s t.heap ∧ OM o x s t
/-- THE PURE WALK: from pc with these locals, this stack and this heap, the method M comes to an end that K allows -/
def PW (d : Nat) (M : MI) (pc : Nat) (ls st : List Value) (σ : PH) (K : PO → PH → Prop) : Prop :=
  ∀ (G : WG) (p : Program) (l : Launch) (e : Env) (R : Room) (s : State) (m : MethodId) (args : Array Value) (below : List Frame) (meth : Method) (c : Code) (H : Heap) (locs : List Loc) (cells slots : Nat) (A : Array Slot) (c0 s0 : Nat),
    Ctx G d M p R s m meth c → Rep G σ s H → LV A M.2.2.1 ls → (∀ q ∈ locs, G.1 ≤ q.base) → c0 + cells = cc σ → s0 + slots = cs σ → R.cells + c0 = 601024 → R.slots + s0 = 7293034 →
    W p l e R s m args below meth c H locs cells slots (EQ G K below s c0 s0) (F0 m pc A st)
end
section
/-! ===== rules of the pure walk: locals, stack, numbers, branches ===== -/
/-- a step that leaves the heap alone -/
def SS (M : MI) (pc : Nat) (ls st : List Value) (pc' : Nat) (ls' st' : List Value) : Prop :=
  ∀ (p : Program) (l : Launch) (e : Env) (R : Room) (s : State) (m : MethodId) (args : Array Value) (below : List Frame) (meth : Method) (c : Code) (H : Heap) (locs : List Loc) (cells slots : Nat) (Q : State → Prop) (A : Array Slot),
    p.tables.exec = Jvm.exec → c.code = M.2.1 → s.vm.findClass M.1.cls = some m.cls → TB s → LV A M.2.2.1 ls → (∀ A' : Array Slot, LV A' M.2.2.1 ls' → W p l e R s m args below meth c H locs cells slots Q (F0 m pc' A' st')) → W p l e R s m args below meth c H locs cells slots Q (F0 m pc A st)
section Rules
variable {d : Nat} {M : MI} {pc pc' : Nat} {ls ls' st st' : List Value} {σ : PH} {K : PO → PH → Prop}
theorem PW.ss (h : SS M pc ls st pc' ls' st') (k : PW d M pc' ls' st' σ K) : PW d M pc ls st σ K := by
  intro G p l e R s m args below meth c H locs cells slots A c0 s0 hC hR hA hL h1 h2 h3 h4
  refine h p l e R s m args below meth c H locs cells slots _ A hC.1 hC.2.1 (findClass_of_methodNamed hC.2.2.2.2.2.1) hC.2.2.2.2.2.2.2.2.1 hA (fun A' hA' => ?_)
  exact k G p l e R s m args below meth c H locs cells slots A' c0 s0 hC hR hA' hL h1 h2 h3 h4
theorem va_rf_ref (o : Option Nat) : (va_rf o).isRef = true := by cases o <;> rfl
theorem isRef_not {v : Value} (h : v.isRef = true) : ∀ n, v ≠ .retAddr n := fun n e => by rw [e] at h; cases h
theorem isRef_cat {v : Value} (h : v.isRef = true) : v.category = 1 := by cases v <;> first | rfl | cases h
theorem int_not (x : Int32) : ∀ n, (Value.int x) ≠ .retAddr n := fun n e => by cases e

theorem pw_iload_n {k : Fin 4} {x : Int32} (hd : decode M.2.1 pc = .ok (.iload_n k, 1)) (hl : ls[(k : Nat)]? = some (.int x)) (h : PW d M (pc + 1) ls (.int x :: st) σ K) : PW d M pc ls st σ K := by
  refine PW.ss ?_ h
  intro p l e R s m args below meth c H locs cells slots Q A hx hb ho ht hA kk
  exact lv_iload_n hx hb hd rfl (hA.at hl (int_not x)) (kk A hA)
theorem pw_iload {k : Nat} {x : Int32} (hd : decode M.2.1 pc = .ok (.iload k, 2)) (hl : ls[k]? = some (.int x)) (h : PW d M (pc + 2) ls (.int x :: st) σ K) : PW d M pc ls st σ K := by
  refine PW.ss ?_ h
  intro p l e R s m args below meth c H locs cells slots Q A hx hb ho ht hA kk
  exact lv_iload hx hb hd (hA.at hl (int_not x)) (kk A hA)
theorem pw_aload_n {k : Fin 4} {v : Value} (hd : decode M.2.1 pc = .ok (.aload_n k, 1)) (hl : ls[(k : Nat)]? = some v) (hv : v.isRef = true) (h : PW d M (pc + 1) ls (v :: st) σ K) : PW d M pc ls st σ K := by
  refine PW.ss ?_ h
  intro p l e R s m args below meth c H locs cells slots Q A hx hb ho ht hA kk
  have hl := hA.at hl (isRef_not hv)
  intro T hT X
  obtain ⟨t, a, b⟩ := kk A hA T hT X
  refine ⟨t, ?_, b⟩
  jvm_step X.here [X.here.top, hx, hb, hd, hl, hv]
  exact a
theorem pw_aload {k : Nat} {v : Value} (hd : decode M.2.1 pc = .ok (.aload k, 2)) (hl : ls[k]? = some v) (hv : v.isRef = true) (h : PW d M (pc + 2) ls (v :: st) σ K) : PW d M pc ls st σ K := by
  refine PW.ss ?_ h
  intro p l e R s m args below meth c H locs cells slots Q A hx hb ho ht hA kk
  have hl := hA.at hl (isRef_not hv)
  intro T hT X
  obtain ⟨t, a, b⟩ := kk A hA T hT X
  refine ⟨t, ?_, b⟩
  jvm_step X.here [X.here.top, hx, hb, hd, hl, hv]
  exact a
theorem pw_istore_n {k : Fin 4} {x : Int32} (hd : decode M.2.1 pc = .ok (.istore_n k, 1)) (hn : (k : Nat) < M.2.2.1) (h : PW d M (pc + 1) (ls.set (k : Nat) (.int x)) st σ K) : PW d M pc ls (.int x :: st) σ K := by
  refine PW.ss ?_ h
  intro p l e R s m args below meth c H locs cells slots Q A hx hb ho ht hA kk
  obtain ⟨A', e', h'⟩ := hA.store (v := .int x) hn rfl (int_not x)
  intro T hT X
  obtain ⟨t, a, b⟩ := kk A' h' T hT X
  refine ⟨t, ?_, b⟩
  jvm_step X.here [X.here.top, ↓top_set X.here.top, hx, hb, hd, e']
  exact a
theorem pw_istore {k : Nat} {x : Int32} (hd : decode M.2.1 pc = .ok (.istore k, 2)) (hn : (k : Nat) < M.2.2.1) (h : PW d M (pc + 2) (ls.set (k : Nat) (.int x)) st σ K) : PW d M pc ls (.int x :: st) σ K := by
  refine PW.ss ?_ h
  intro p l e R s m args below meth c H locs cells slots Q A hx hb ho ht hA kk
  obtain ⟨A', e', h'⟩ := hA.store (v := .int x) hn rfl (int_not x)
  intro T hT X
  obtain ⟨t, a, b⟩ := kk A' h' T hT X
  refine ⟨t, ?_, b⟩
  jvm_step X.here [X.here.top, ↓top_set X.here.top, hx, hb, hd, e']
  exact a
theorem pw_astore_n {k : Fin 4} {v : Value} (hd : decode M.2.1 pc = .ok (.astore_n k, 1)) (hn : (k : Nat) < M.2.2.1) (hv : v.isRef = true) (h : PW d M (pc + 1) (ls.set (k : Nat) v) st σ K) : PW d M pc ls (v :: st) σ K := by
  refine PW.ss ?_ h
  intro p l e R s m args below meth c H locs cells slots Q A hx hb ho ht hA kk
  obtain ⟨A', e', h'⟩ := hA.store (v := v) hn (isRef_cat hv) (isRef_not hv)
  intro T hT X
  obtain ⟨t, a, b⟩ := kk A' h' T hT X
  refine ⟨t, ?_, b⟩
  jvm_step X.here [X.here.top, ↓top_set X.here.top, hx, hb, hd, e', hv]
  exact a
theorem pw_astore {k : Nat} {v : Value} (hd : decode M.2.1 pc = .ok (.astore k, 2)) (hn : (k : Nat) < M.2.2.1) (hv : v.isRef = true) (h : PW d M (pc + 2) (ls.set (k : Nat) v) st σ K) : PW d M pc ls (v :: st) σ K := by
  refine PW.ss ?_ h
  intro p l e R s m args below meth c H locs cells slots Q A hx hb ho ht hA kk
  obtain ⟨A', e', h'⟩ := hA.store (v := v) hn (isRef_cat hv) (isRef_not hv)
  intro T hT X
  obtain ⟨t, a, b⟩ := kk A' h' T hT X
  refine ⟨t, ?_, b⟩
  jvm_step X.here [X.here.top, ↓top_set X.here.top, hx, hb, hd, e', hv]
  exact a
theorem pw_iinc {i : Nat} {n : Int} {x : Int32} (hd : decode M.2.1 pc = .ok (.iinc i n, 3)) (hl : ls[i]? = some (.int x)) (hn : i < M.2.2.1) (h : PW d M (pc + 3) (ls.set i (.int (x + Int32.ofInt n))) st σ K) : PW d M pc ls st σ K := by
  refine PW.ss ?_ h
  intro p l e R s m args below meth c H locs cells slots Q A hx hb ho ht hA kk
  have hg := hA.at hl (int_not x)
  obtain ⟨A', e', h'⟩ := hA.store (v := .int (x + Int32.ofInt n)) hn rfl (int_not _)
  intro T hT X
  obtain ⟨t, a, b⟩ := kk A' h' T hT X
  refine ⟨t, ?_, b⟩
  jvm_step X.here [X.here.top, ↓top_set X.here.top, hx, hb, hd, hg, e']
  exact a
theorem pw_iconst {n : Int} {v : Int32} (hd : decode M.2.1 pc = .ok (.iconst n, 1)) (hv : Int32.ofInt n = v) (h : PW d M (pc + 1) ls (.int v :: st) σ K) : PW d M pc ls (st) σ K := by
  refine PW.ss ?_ h
  intro p l e R s m args below meth c H locs cells slots Q A hx hb ho ht hA kk
  exact lv_iconst hx hb hd hv (kk A hA)
theorem pw_bipush {n : Int} {v : Int32} (hd : decode M.2.1 pc = .ok (.bipush n, 2)) (hv : (Int8.ofInt n).toInt32 = v) (h : PW d M (pc + 2) ls (.int v :: st) σ K) : PW d M pc ls (st) σ K := by
  refine PW.ss ?_ h
  intro p l e R s m args below meth c H locs cells slots Q A hx hb ho ht hA kk
  exact lv_bipush hx hb hd hv (kk A hA)
theorem pw_sipush {n : Int} {v : Int32} (hd : decode M.2.1 pc = .ok (.sipush n, 3)) (hv : (Int16.ofInt n).toInt32 = v) (h : PW d M (pc + 3) ls (.int v :: st) σ K) : PW d M pc ls (st) σ K := by
  refine PW.ss ?_ h
  intro p l e R s m args below meth c H locs cells slots Q A hx hb ho ht hA kk
  exact lv_sipush hx hb hd hv (kk A hA)
theorem pw_null  (hd : decode M.2.1 pc = .ok (.aconst_null, 1)) (h : PW d M (pc + 1) ls (.null :: st) σ K) : PW d M pc ls (st) σ K := by
  refine PW.ss ?_ h
  intro p l e R s m args below meth c H locs cells slots Q A hx hb ho ht hA kk
  exact lv_null hx hb hd (kk A hA)
theorem pw_lconst {n : Fin 2} {v : Int64} (hd : decode M.2.1 pc = .ok (.lconst n, 1)) (hv : Int64.ofNat (n : Nat) = v) (h : PW d M (pc + 1) ls (.long v :: st) σ K) : PW d M pc ls (st) σ K := by
  refine PW.ss ?_ h
  intro p l e R s m args below meth c H locs cells slots Q A hx hb ho ht hA kk
  exact lv_lconst hx hb hd hv (kk A hA)
theorem pw_ldc {i : Nat} {v : Int32} (hd : decode M.2.1 pc = .ok (.ldc i, 2)) (hc : Cond.constant M.1.cls i v ∈ lw_tbl) (h : PW d M (pc + 2) ls (.int v :: st) σ K) : PW d M pc ls (st) σ K := by
  refine PW.ss ?_ h
  intro p l e R s m args below meth c H locs cells slots Q A hx hb ho ht hA kk
  exact lv_ldc hx hb ho (ht _ hc rfl _) hd (kk A hA)
theorem pw_iadd {x y : Int32} (hd : decode M.2.1 pc = .ok (.iadd, 1)) (h : PW d M (pc + 1) ls (.int (x + y) :: st) σ K) : PW d M pc ls (.int y :: .int x :: st) σ K := by
  refine PW.ss ?_ h
  intro p l e R s m args below meth c H locs cells slots Q A hx hb ho ht hA kk
  exact lv_iadd hx hb hd (kk A hA)
theorem pw_isub {x y : Int32} (hd : decode M.2.1 pc = .ok (.isub, 1)) (h : PW d M (pc + 1) ls (.int (x - y) :: st) σ K) : PW d M pc ls (.int y :: .int x :: st) σ K := by
  refine PW.ss ?_ h
  intro p l e R s m args below meth c H locs cells slots Q A hx hb ho ht hA kk
  exact lv_isub hx hb hd (kk A hA)
theorem pw_imul {x y : Int32} (hd : decode M.2.1 pc = .ok (.imul, 1)) (h : PW d M (pc + 1) ls (.int (x * y) :: st) σ K) : PW d M pc ls (.int y :: .int x :: st) σ K := by
  refine PW.ss ?_ h
  intro p l e R s m args below meth c H locs cells slots Q A hx hb ho ht hA kk
  exact lv_imul hx hb hd (kk A hA)
theorem pw_iand {x y : Int32} (hd : decode M.2.1 pc = .ok (.iand, 1)) (h : PW d M (pc + 1) ls (.int (x &&& y) :: st) σ K) : PW d M pc ls (.int y :: .int x :: st) σ K := by
  refine PW.ss ?_ h
  intro p l e R s m args below meth c H locs cells slots Q A hx hb ho ht hA kk
  exact lv_iand hx hb hd (kk A hA)
theorem pw_ior {x y : Int32} (hd : decode M.2.1 pc = .ok (.ior, 1)) (h : PW d M (pc + 1) ls (.int (x ||| y) :: st) σ K) : PW d M pc ls (.int y :: .int x :: st) σ K := by
  refine PW.ss ?_ h
  intro p l e R s m args below meth c H locs cells slots Q A hx hb ho ht hA kk
  exact lv_ior hx hb hd (kk A hA)
theorem pw_ishl {x y : Int32} (hd : decode M.2.1 pc = .ok (.ishl, 1)) (h : PW d M (pc + 1) ls (.int (x <<< (y &&& 31)) :: st) σ K) : PW d M pc ls (.int y :: .int x :: st) σ K := by
  refine PW.ss ?_ h
  intro p l e R s m args below meth c H locs cells slots Q A hx hb ho ht hA kk
  exact lv_ishl hx hb hd (kk A hA)
theorem pw_ishr {x y : Int32} (hd : decode M.2.1 pc = .ok (.ishr, 1)) (h : PW d M (pc + 1) ls (.int (x >>> (y &&& 31)) :: st) σ K) : PW d M pc ls (.int y :: .int x :: st) σ K := by
  refine PW.ss ?_ h
  intro p l e R s m args below meth c H locs cells slots Q A hx hb ho ht hA kk
  exact lv_ishr hx hb hd (kk A hA)
theorem pw_idiv {x y : Int32} (hd : decode M.2.1 pc = .ok (.idiv, 1)) (hy : ¬ y = 0) (h : PW d M (pc + 1) ls (.int (x / y) :: st) σ K) : PW d M pc ls (.int y :: .int x :: st) σ K := by
  refine PW.ss ?_ h
  intro p l e R s m args below meth c H locs cells slots Q A hx hb ho ht hA kk
  exact lv_idiv hx hb hd hy (kk A hA)
theorem pw_irem {x y : Int32} (hd : decode M.2.1 pc = .ok (.irem, 1)) (hy : ¬ y = 0) (h : PW d M (pc + 1) ls (.int (x - x / y * y) :: st) σ K) : PW d M pc ls (.int y :: .int x :: st) σ K := by
  refine PW.ss ?_ h
  intro p l e R s m args below meth c H locs cells slots Q A hx hb ho ht hA kk
  exact lv_irem hx hb hd hy (kk A hA)
theorem pw_i2c {x : Int32} (hd : decode M.2.1 pc = .ok (.i2c, 1)) (h : PW d M (pc + 1) ls (.int (x.toUInt32 % 65536).toInt32 :: st) σ K) : PW d M pc ls (.int x :: st) σ K := by
  refine PW.ss ?_ h
  intro p l e R s m args below meth c H locs cells slots Q A hx hb ho ht hA kk
  exact lv_i2c hx hb hd rfl (kk A hA)
theorem pw_i2l {x : Int32} (hd : decode M.2.1 pc = .ok (.i2l, 1)) (h : PW d M (pc + 1) ls (.long x.toInt64 :: st) σ K) : PW d M pc ls (.int x :: st) σ K := by
  refine PW.ss ?_ h
  intro p l e R s m args below meth c H locs cells slots Q A hx hb ho ht hA kk
  exact lv_i2l hx hb hd rfl (kk A hA)
theorem pw_lcmp {x y : Int64} (hd : decode M.2.1 pc = .ok (.lcmp, 1)) (h : PW d M (pc + 1) ls (.int (lg_cmp x y) :: st) σ K) : PW d M pc ls (.long y :: .long x :: st) σ K := by
  refine PW.ss ?_ h
  intro p l e R s m args below meth c H locs cells slots Q A hx hb ho ht hA kk
  exact W.lcmp hx hb hd (kk A hA)
theorem pw_dup {v : Value} (hd : decode M.2.1 pc = .ok (.dup, 1)) (hv : v.category = 1) (h : PW d M (pc + 1) ls (v :: v :: st) σ K) : PW d M pc ls (v :: st) σ K := by
  refine PW.ss ?_ h
  intro p l e R s m args below meth c H locs cells slots Q A hx hb ho ht hA kk
  exact lv_dup hx hb hd hv (kk A hA)
theorem pw_dup2 {v w : Value} (hd : decode M.2.1 pc = .ok (.dup2, 1)) (hv : v.category = 1) (hw : w.category = 1) (h : PW d M (pc + 1) ls (v :: w :: v :: w :: st) σ K) : PW d M pc ls (v :: w :: st) σ K := by
  refine PW.ss ?_ h
  intro p l e R s m args below meth c H locs cells slots Q A hx hb ho ht hA kk
  exact lv_dup2_11 hx hb hd hv hw (kk A hA)
theorem pw_pop {v : Value} (hd : decode M.2.1 pc = .ok (.pop, 1)) (hv : v.category = 1) (h : PW d M (pc + 1) ls (st) σ K) : PW d M pc ls (v :: st) σ K := by
  refine PW.ss ?_ h
  intro p l e R s m args below meth c H locs cells slots Q A hx hb ho ht hA kk
  exact lv_pop hx hb hd hv (kk A hA)
theorem pw_goto {off : Int} {tgt : Nat} (hd : decode M.2.1 pc = .ok (.goto off, 3)) (ht : (pc : Int) + off = (tgt : Int)) (h : PW d M tgt ls st σ K) : PW d M pc ls st σ K := by
  refine PW.ss ?_ h
  intro p l e R s m args below meth c H locs cells slots Q A hx hb ho htb hA kk
  exact lv_goto hx hb hd ht (kk A hA)
/-- two ways on -/
theorem PW.br {c : Prop} (tgt nxt : Nat) {stk : List Value} (hk : ∀ (p : Program) (l : Launch) (e : Env) (R : Room) (s : State) (m : MethodId) (args : Array Value) (below : List Frame) (meth : Method) (cd : Code) (H : Heap) (locs : List Loc) (cells slots : Nat) (Q : State → Prop) (A : Array Slot),
    p.tables.exec = Jvm.exec → cd.code = M.2.1 → (c → W p l e R s m args below meth cd H locs cells slots Q (F0 m tgt A st)) → (¬ c → W p l e R s m args below meth cd H locs cells slots Q (F0 m nxt A st)) → W p l e R s m args below meth cd H locs cells slots Q (F0 m pc A stk))
    (ht : c → PW d M tgt ls st σ K) (hf : ¬ c → PW d M nxt ls st σ K) : PW d M pc ls stk σ K := by
  intro G p l e R s m args below meth c H locs cells slots A c0 s0 hC hR hA hL h1 h2 h3 h4
  exact hk p l e R s m args below meth c H locs cells slots _ A hC.1 hC.2.1 (fun q => ht q G p l e R s m args below meth c H locs cells slots A c0 s0 hC hR hA hL h1 h2 h3 h4) (fun q => hf q G p l e R s m args below meth c H locs cells slots A c0 s0 hC hR hA hL h1 h2 h3 h4)
theorem pw_if_eq {x : Int32} {off : Int} {tgt : Nat} (hd : decode M.2.1 pc = .ok (.ifCond .eq off, 3)) (htg : (pc : Int) + off = (tgt : Int)) (ht : x = 0 → PW d M tgt ls st σ K) (hf : ¬ (x = 0) → PW d M (pc + 3) ls st σ K) : PW d M pc ls (.int x :: st) σ K :=
  PW.br (c := x = 0) tgt (pc + 3) (fun p l e R s m args below meth cd H locs cells slots Q A hx hb k1 k2 => lv_if_eq hx hb hd htg k1 k2) ht hf
theorem pw_icmp_eq {x y : Int32} {off : Int} {tgt : Nat} (hd : decode M.2.1 pc = .ok (.if_icmp .eq off, 3)) (htg : (pc : Int) + off = (tgt : Int)) (ht : x = y → PW d M tgt ls st σ K) (hf : ¬ (x = y) → PW d M (pc + 3) ls st σ K) : PW d M pc ls (.int y :: .int x :: st) σ K :=
  PW.br (c := x = y) tgt (pc + 3) (fun p l e R s m args below meth cd H locs cells slots Q A hx hb k1 k2 => lv_icmp_eq hx hb hd htg k1 k2) ht hf
theorem pw_if_ne {x : Int32} {off : Int} {tgt : Nat} (hd : decode M.2.1 pc = .ok (.ifCond .ne off, 3)) (htg : (pc : Int) + off = (tgt : Int)) (ht : ¬ x = 0 → PW d M tgt ls st σ K) (hf : x = 0 → PW d M (pc + 3) ls st σ K) : PW d M pc ls (.int x :: st) σ K :=
  PW.br (c := ¬ x = 0) tgt (pc + 3) (fun p l e R s m args below meth cd H locs cells slots Q A hx hb k1 k2 => lv_if_ne hx hb hd htg k1 (fun q => k2 (fun r => r q))) ht (fun q => hf (Classical.not_not.mp q))
theorem pw_icmp_ne {x y : Int32} {off : Int} {tgt : Nat} (hd : decode M.2.1 pc = .ok (.if_icmp .ne off, 3)) (htg : (pc : Int) + off = (tgt : Int)) (ht : ¬ x = y → PW d M tgt ls st σ K) (hf : x = y → PW d M (pc + 3) ls st σ K) : PW d M pc ls (.int y :: .int x :: st) σ K :=
  PW.br (c := ¬ x = y) tgt (pc + 3) (fun p l e R s m args below meth cd H locs cells slots Q A hx hb k1 k2 => lv_icmp_ne hx hb hd htg k1 (fun q => k2 (fun r => r q))) ht (fun q => hf (Classical.not_not.mp q))
theorem pw_if_lt {x : Int32} {off : Int} {tgt : Nat} (hd : decode M.2.1 pc = .ok (.ifCond .lt off, 3)) (htg : (pc : Int) + off = (tgt : Int)) (ht : x < 0 → PW d M tgt ls st σ K) (hf : ¬ (x < 0) → PW d M (pc + 3) ls st σ K) : PW d M pc ls (.int x :: st) σ K :=
  PW.br (c := x < 0) tgt (pc + 3) (fun p l e R s m args below meth cd H locs cells slots Q A hx hb k1 k2 => lv_if_lt hx hb hd htg k1 k2) ht hf
theorem pw_icmp_lt {x y : Int32} {off : Int} {tgt : Nat} (hd : decode M.2.1 pc = .ok (.if_icmp .lt off, 3)) (htg : (pc : Int) + off = (tgt : Int)) (ht : x < y → PW d M tgt ls st σ K) (hf : ¬ (x < y) → PW d M (pc + 3) ls st σ K) : PW d M pc ls (.int y :: .int x :: st) σ K :=
  PW.br (c := x < y) tgt (pc + 3) (fun p l e R s m args below meth cd H locs cells slots Q A hx hb k1 k2 => lv_icmp_lt hx hb hd htg k1 k2) ht hf
theorem pw_if_ge {x : Int32} {off : Int} {tgt : Nat} (hd : decode M.2.1 pc = .ok (.ifCond .ge off, 3)) (htg : (pc : Int) + off = (tgt : Int)) (ht : 0 ≤ x → PW d M tgt ls st σ K) (hf : ¬ (0 ≤ x) → PW d M (pc + 3) ls st σ K) : PW d M pc ls (.int x :: st) σ K :=
  PW.br (c := 0 ≤ x) tgt (pc + 3) (fun p l e R s m args below meth cd H locs cells slots Q A hx hb k1 k2 => lv_if_ge hx hb hd htg k1 k2) ht hf
theorem pw_icmp_ge {x y : Int32} {off : Int} {tgt : Nat} (hd : decode M.2.1 pc = .ok (.if_icmp .ge off, 3)) (htg : (pc : Int) + off = (tgt : Int)) (ht : y ≤ x → PW d M tgt ls st σ K) (hf : ¬ (y ≤ x) → PW d M (pc + 3) ls st σ K) : PW d M pc ls (.int y :: .int x :: st) σ K :=
  PW.br (c := y ≤ x) tgt (pc + 3) (fun p l e R s m args below meth cd H locs cells slots Q A hx hb k1 k2 => lv_icmp_ge hx hb hd htg k1 k2) ht hf
theorem pw_if_gt {x : Int32} {off : Int} {tgt : Nat} (hd : decode M.2.1 pc = .ok (.ifCond .gt off, 3)) (htg : (pc : Int) + off = (tgt : Int)) (ht : 0 < x → PW d M tgt ls st σ K) (hf : ¬ (0 < x) → PW d M (pc + 3) ls st σ K) : PW d M pc ls (.int x :: st) σ K :=
  PW.br (c := 0 < x) tgt (pc + 3) (fun p l e R s m args below meth cd H locs cells slots Q A hx hb k1 k2 => lv_if_gt hx hb hd htg k1 k2) ht hf
theorem pw_icmp_gt {x y : Int32} {off : Int} {tgt : Nat} (hd : decode M.2.1 pc = .ok (.if_icmp .gt off, 3)) (htg : (pc : Int) + off = (tgt : Int)) (ht : y < x → PW d M tgt ls st σ K) (hf : ¬ (y < x) → PW d M (pc + 3) ls st σ K) : PW d M pc ls (.int y :: .int x :: st) σ K :=
  PW.br (c := y < x) tgt (pc + 3) (fun p l e R s m args below meth cd H locs cells slots Q A hx hb k1 k2 => lv_icmp_gt hx hb hd htg k1 k2) ht hf
theorem pw_if_le {x : Int32} {off : Int} {tgt : Nat} (hd : decode M.2.1 pc = .ok (.ifCond .le off, 3)) (htg : (pc : Int) + off = (tgt : Int)) (ht : x ≤ 0 → PW d M tgt ls st σ K) (hf : ¬ (x ≤ 0) → PW d M (pc + 3) ls st σ K) : PW d M pc ls (.int x :: st) σ K :=
  PW.br (c := x ≤ 0) tgt (pc + 3) (fun p l e R s m args below meth cd H locs cells slots Q A hx hb k1 k2 => lv_if_le hx hb hd htg k1 k2) ht hf
theorem pw_icmp_le {x y : Int32} {off : Int} {tgt : Nat} (hd : decode M.2.1 pc = .ok (.if_icmp .le off, 3)) (htg : (pc : Int) + off = (tgt : Int)) (ht : x ≤ y → PW d M tgt ls st σ K) (hf : ¬ (x ≤ y) → PW d M (pc + 3) ls st σ K) : PW d M pc ls (.int y :: .int x :: st) σ K :=
  PW.br (c := x ≤ y) tgt (pc + 3) (fun p l e R s m args below meth cd H locs cells slots Q A hx hb k1 k2 => lv_icmp_le hx hb hd htg k1 k2) ht hf
theorem pw_ifnull {v : Option Nat} {off : Int} {tgt : Nat} (hd : decode M.2.1 pc = .ok (.ifnull off, 3)) (htg : (pc : Int) + off = (tgt : Int)) (ht : v = none → PW d M tgt ls st σ K) (hf : ¬ v = none → PW d M (pc + 3) ls st σ K) : PW d M pc ls (va_rf v :: st) σ K :=
  PW.br tgt (pc + 3) (fun p l e R s m args below meth cd H locs cells slots Q A hx hb k1 k2 => by
    cases v with
    | none => exact lv_ifnullN hx hb hd htg (k1 rfl)
    | some a => exact lv_ifnull hx hb hd (k2 (fun q => by cases q))) ht hf
theorem pw_ifnonnull {v : Option Nat} {off : Int} {tgt : Nat} (hd : decode M.2.1 pc = .ok (.ifnonnull off, 3)) (htg : (pc : Int) + off = (tgt : Int)) (ht : ¬ v = none → PW d M tgt ls st σ K) (hf : v = none → PW d M (pc + 3) ls st σ K) : PW d M pc ls (va_rf v :: st) σ K :=
  PW.br (c := ¬ v = none) tgt (pc + 3) (fun p l e R s m args below meth cd H locs cells slots Q A hx hb k1 k2 => by
    cases v with
    | none => exact lv_ifnonnullN hx hb hd (k2 (fun q => q rfl))
    | some a => exact lv_ifnonnull hx hb hd htg (k1 (fun q => by cases q))) ht (fun q => hf (Classical.not_not.mp q))
theorem pw_tableOut {dflt lo hi : Int} {offs : Array Int} {len : Nat} {x : Int32} {tgt : Nat} (hd : decode M.2.1 pc = .ok (.tableswitch dflt lo hi offs, len)) (hr : x.toInt < lo ∨ hi < x.toInt) (ht : (pc : Int) + dflt = (tgt : Int)) (h : PW d M tgt ls st σ K) : PW d M pc ls (.int x :: st) σ K := by
  refine PW.ss ?_ h
  intro p l e R s m args below meth c H locs cells slots Q A hx hb ho htb hA kk
  exact lv_tableOut hx hb hd hr ht (kk A hA)
theorem pw_tableIn {dflt lo hi : Int} {offs : Array Int} {len : Nat} {x : Int32} {off : Int} {tgt : Nat} (hd : decode M.2.1 pc = .ok (.tableswitch dflt lo hi offs, len)) (h1 : ¬ x.toInt < lo) (h2 : ¬ hi < x.toInt) (ho : offs[(x.toInt - lo).toNat]? = some off) (ht : (pc : Int) + off = (tgt : Int)) (h : PW d M tgt ls st σ K) : PW d M pc ls (.int x :: st) σ K := by
  refine PW.ss ?_ h
  intro p l e R s m args below meth c H locs cells slots Q A hx hb how htb hA kk
  exact lv_tableIn hx hb hd h1 h2 ho ht (kk A hA)
end Rules
end
section
/-! ===== rules of the pure walk: fields ===== -/
/-- two pure heaps say the same of the cell at q -/
def Ag (σ σ' : PH) (q : Nat) : Prop := sh σ' q = sh σ q ∧ (∀ f, gI σ' f q = gI σ f q) ∧ (∀ f, gR σ' f q = gR σ f q) ∧ (∀ j, eI σ' q j = eI σ q j) ∧ (∀ j, eR σ' q j = eR σ q j) ∧ ∀ j, eL σ' q j = eL σ q j
theorem fv_ag {σ σ' : PH} {q : Nat} (h : Ag σ σ' q) (c k : Nat) : fv σ' c q k = fv σ c q k := by
  unfold fv
  rw [h.2.1, h.2.2.1]
theorem av_ag {σ σ' : PH} {q : Nat} (h : Ag σ σ' q) (k j : Nat) : av σ' k q j = av σ k q j := by
  unfold av
  rw [h.2.2.2.1, h.2.2.2.2.1, h.2.2.2.2.2]
theorem AR.kept {U : State} {H H1 : Heap} {a : Nat} {t : FieldType} {n : Nat} {v w : Nat → Value} (h : AR U H a t n v) (h1 : H1[a]? = H[a]?) (hv : ∀ j, w j = v j) : AR U H1 a t n w := by
  obtain ⟨cell, q1, q2, q3, q4, q5, q6⟩ := h
  exact ⟨cell, by rw [h1]; exact q1, q2, q3, q4, fun j hj => by rw [hv]; exact q5 j hj, q6⟩
theorem RA.ag {G : WG} {σ σ' : PH} {U : State} {H H1 : Heap} {q : Nat} (hg : Ag σ σ' q) (h1 : H1[q]? = H[q]?) (h : RA G σ U H q) : RA G σ' U H1 q := by
  unfold RA at h ⊢
  rw [hg.1]
  split at h
  · trivial
  · exact ⟨h.1, h.2.1, (h.2.2.kept h1).to (fun k _ => (fv_ag hg _ k).symm)⟩
  · exact ⟨h.1, h.2.1, h.2.2.1, h.2.2.2.kept h1 (fun j => av_ag hg _ j)⟩
theorem RA.lt {G : WG} {σ : PH} {U : State} {H : Heap} {q : Nat} (h : RA G σ U H q) (h0 : (sh σ q).1 ≠ 0) : q < H.size := by
  unfold RA at h
  split at h
  · contradiction
  · obtain ⟨-, -, cell, h2, -⟩ := h
    exact (Array.getElem?_eq_some_iff.mp h2).1
  · obtain ⟨-, -, -, cell, h2, -⟩ := h
    exact (Array.getElem?_eq_some_iff.mp h2).1
/-- one cell changes -/
theorem Rep.set {G : WG} {σ σ' : PH} {U : State} {H H1 : Heap} {a : Nat} (h : Rep G σ U H) (hb : bs σ' = bs σ) (hc : cc σ' = cc σ) (hcs : cs σ' = cs σ) (hg : ∀ q, q ≠ a → Ag σ σ' q) (hz : H1.size = H.size) (ho : ∀ q, q ≠ a → H1[q]? = H[q]?) (ha : RA G σ' U H1 a) : Rep G σ' U H1 := by
  refine ⟨fun q => ?_, ?_, ?_, by rw [hc]; exact h.2.2.2.1, by rw [hcs]; exact h.2.2.2.2⟩
  · by_cases hq : q = a
    · rw [hq]; exact ha
    · exact (h.1 q).ag (hg q hq) (ho q hq)
  · rw [hz, h.2.1]; unfold nx; rw [hb, hc]
  · rw [hb]; exact h.2.2.1
theorem Ag.pI {σ : PH} {f a q : Nat} {v : Int32} (h : q ≠ a) : Ag σ (pI σ f a v) q := ⟨rfl, fun g => by show up2 (gI σ) f a v g q = _; unfold up2; rw [if_neg (fun e => h e.2)], fun _ => rfl, fun _ => rfl, fun _ => rfl, fun _ => rfl⟩
theorem Ag.pR {σ : PH} {f a q : Nat} {v : Option Nat} (h : q ≠ a) : Ag σ (pR σ f a v) q := ⟨rfl, fun _ => rfl, fun g => by show up2 (gR σ) f a v g q = _; unfold up2; rw [if_neg (fun e => h e.2)], fun _ => rfl, fun _ => rfl, fun _ => rfl⟩
theorem Ag.uI {σ : PH} {a j q : Nat} {v : Int32} (h : q ≠ a) : Ag σ (uI σ a j v) q := ⟨rfl, fun _ => rfl, fun _ => rfl, fun i => by show up2 (eI σ) a j v q i = _; unfold up2; rw [if_neg (fun e => h e.1)], fun _ => rfl, fun _ => rfl⟩
theorem Ag.uR {σ : PH} {a j q : Nat} {v : Option Nat} (h : q ≠ a) : Ag σ (uR σ a j v) q := ⟨rfl, fun _ => rfl, fun _ => rfl, fun _ => rfl, fun i => by show up2 (eR σ) a j v q i = _; unfold up2; rw [if_neg (fun e => h e.1)], fun _ => rfl⟩
theorem Ag.uL {σ : PH} {a j q : Nat} {v : Int64} (h : q ≠ a) : Ag σ (uL σ a j v) q := ⟨rfl, fun _ => rfl, fun _ => rfl, fun _ => rfl, fun _ => rfl, fun i => by show up2 (eL σ) a j v q i = _; unfold up2; rw [if_neg (fun e => h e.1)]⟩
theorem Ag.bump {σ : PH} {k n q : Nat} : Ag σ (bump σ k n) q := ⟨rfl, fun _ => rfl, fun _ => rfl, fun _ => rfl, fun _ => rfl, fun _ => rfl⟩
/-- the link of a field access: own, or of a nest mate -/
def FL (own : String) (i c k : Nat) : Prop := c < 12 ∧ k < clF c ∧ (Cond.fieldLink own i (clT c k).1 (clT c k).2.1 (clT c k).2.2.1 ∈ lw_tbl ∨ ∃ host : String, Cond.fieldLinkNest own i (clT c k).1 (clT c k).2.1 (clT c k).2.2.1 host ∈ lw_tbl)
theorem u_lay_good {C : String} {T : u_T} {k : Nat} : okW (u_lay C T k) = true := by
  unfold u_lay
  split <;> rfl
theorem TB.lays {s : State} (h : TB s) {c : Nat} (hc : c < 12) (args : Array Value) : ∀ w ∈ u_ws (clN c) (clT c) (clF c), w.before args s = true := by
  intro w hw
  refine h w (cl_in c hc w hw) ?_ args
  obtain ⟨k, -, rfl⟩ := List.mem_map.mp hw
  exact u_lay_good
section Heap
variable {d : Nat} {M : MI} {pc : Nat} {ls st : List Value} {σ : PH} {K : PO → PH → Prop}
theorem RA.obj {G : WG} {U : State} {H : Heap} {a c : Nat} (h : RA G σ U H a) (hs : sh σ a = (1, c)) : G.1 ≤ a ∧ c < 12 ∧ t_OB a (G.2.1 c) (clF c) (G.2.2 c) H (fv σ c a) := by
  unfold RA at h
  rw [hs] at h
  exact h
theorem pw_getf {a c k i : Nat} (hd : decode M.2.1 pc = .ok (.getfield i, 3)) (hf : FL M.1.cls i c k) (hs : sh σ a = (1, c)) (h : PW d M (pc + 3) ls (fv σ c a k :: st) σ K) : PW d M pc ls (.ref a :: st) σ K := by
  intro G p l e R s m args below meth cd H locs cells slots A c0 s0 hC hR hA hL h1 h2 h3 h4
  have hk := h G p l e R s m args below meth cd H locs cells slots A c0 s0 hC hR hA hL h1 h2 h3 h4
  obtain ⟨hx, hb, hml, hr, hlk, hnm, hfr, hlo, hTB, hKN, hmm, hex⟩ := hC
  obtain ⟨-, hc, cell, q1, q2, q3, q4⟩ := (hR.1 a).obj hs
  obtain ⟨-, hkl, hlink⟩ := hf
  obtain ⟨hS, hfc, kC, hkC, hkind⟩ := hKN c hc
  obtain ⟨cf, kf, fi, f, hi, hsl⟩ := hS k hkl
  have hown := findClass_of_methodNamed hnm
  have hst := (u_facts hfc hkC (u_lays (hTB.lays hc args) (fun w hw => hw) hkl) hi).1
  have hv : cell.slots[f.slot]? = some (fv σ c a k) := by rw [hsl]; exact q4 k hkl
  rcases hlink with hlink | ⟨host, hlink⟩
  · exact W.getf hx hb hown (hTB _ hlink rfl args) hi hst q1 (by rw [q3]; exact fun h => by cases h) hv rfl rfl hd hk
  · exact va_Wgetf hx hb hown (hTB _ hlink rfl args) hi hst q1 (by rw [q3]; exact fun h => by cases h) hv rfl rfl hd hk
theorem pw_getI {a c k i f : Nat} (hd : decode M.2.1 pc = .ok (.getfield i, 3)) (hf : FL M.1.cls i c k) (ht : isR (clY c k) = false) (he : 64 * c + k = f) (hs : sh σ a = (1, c)) (h : PW d M (pc + 3) ls (.int (gI σ f a) :: st) σ K) : PW d M pc ls (.ref a :: st) σ K := by
  subst he
  refine pw_getf hd hf hs ?_
  unfold fv
  rw [ht, if_neg (by decide)]
  exact h
theorem pw_getR {a c k i f : Nat} (hd : decode M.2.1 pc = .ok (.getfield i, 3)) (hf : FL M.1.cls i c k) (ht : isR (clY c k) = true) (he : 64 * c + k = f) (hs : sh σ a = (1, c)) (h : PW d M (pc + 3) ls (va_rf (gR σ f a) :: st) σ K) : PW d M pc ls (.ref a :: st) σ K := by
  subst he
  refine pw_getf hd hf hs ?_
  unfold fv
  rw [if_pos ht]
  exact h
theorem cl_apart {G : WG} {s : State} (hTB : TB s) (hKN : KN G s) {c : Nat} (hc : c < 12) : ∀ x y, x < clF c → y < clF c → x ≠ y → G.2.2 c x ≠ G.2.2 c y := by
  intro x y hx hy hne
  obtain ⟨hS, -⟩ := hKN c hc
  obtain ⟨_, _, _, fa, hia, ea⟩ := hS x hx
  obtain ⟨_, _, _, fb, hib, eb⟩ := hS y hy
  rw [← ea, ← eb]
  refine u_apart (u_lays (hTB.lays hc #[]) (fun w hw => hw) hx) (u_lays (hTB.lays hc #[]) (fun w hw => hw) hy) hia hib ?_
  rw [(State.fieldFound?_type hia (cl_ty c hc x hx)).1, (State.fieldFound?_type hib (cl_ty c hc y hy)).1]
  exact cl_nm c hc x hx y hy hne
/-- a field gets v: σ' is the heap then -/
theorem pw_putf {σ' : PH} {a c k i : Nat} {v : Value} (hd : decode M.2.1 pc = .ok (.putfield i, 3)) (hf : FL M.1.cls i c k) (hfin : (clT c k).2.2.2 = false ∨ ((clT c k).2.2.2 = true ∧ M.1.name = "<init>" ∧ M.1.cls = clN c ∧ Cond.fieldLink M.1.cls i (clT c k).1 (clT c k).2.1 (clT c k).2.2.1 ∈ lw_tbl)) (hs : sh σ a = (1, c))
    (hn : narrow (clY c k) v = v) (hfit : fits (clY c k) v = true)
    (e1 : bs σ' = bs σ) (e2 : cc σ' = cc σ) (e3 : cs σ' = cs σ) (e4 : ∀ q, q ≠ a → Ag σ σ' q) (e5 : sh σ' a = (1, c)) (e6 : ∀ j, j < clF c → fv σ' c a j = updV (fv σ c a) k v j)
    (h : PW d M (pc + 3) ls st σ' K) : PW d M pc ls (v :: .ref a :: st) σ K := by
  intro G p l e R s m args below meth cd H locs cells slots A c0 s0 hC hR hA hL h1 h2 h3 h4
  have hk : ∀ (H' : Heap) (locs' : List Loc), Rep G σ' s H' → (∀ q ∈ locs', G.1 ≤ q.base) → _ := fun H' locs' hR' hL' => h G p l e R s m args below meth cd H' locs' cells slots A c0 s0 hC hR' hA hL' (by rw [e2]; exact h1) (by rw [e3]; exact h2) h3 h4
  obtain ⟨hx, hb, hml, hr, hlk, hnm, hfr, hlo, hTB, hKN, hmm, hex⟩ := hC
  obtain ⟨hbase, hc, cell, q1, q2, q3, q4⟩ := (hR.1 a).obj hs
  obtain ⟨-, hkl, hlink⟩ := hf
  obtain ⟨hS, hfc, kC, hkC, hkind⟩ := hKN c hc
  obtain ⟨cf, kf, fi, f, hi, hsl⟩ := hS k hkl
  have hown := findClass_of_methodNamed hnm
  have hst := (u_facts hfc hkC (u_lays (hTB.lays hc args) (fun w hw => hw) hkl) hi).1
  have hap := cl_apart hTB hKN hc
  have hlt : f.slot < cell.slots.size := by rw [hsl]; exact k2_hasslot (q4 k hkl)
  have hlay := hTB.lays hc args _ (u_in_lay hkl)
  have fin : ∀ H' : Heap, H'[a]? = some (cell.setSlot f.slot v) → H'.size = H.size → (∀ q, q ≠ a → H'[q]? = H[q]?) → W p l e R s m args below meth cd H' (locs ++ [⟨a, f.slot⟩]) cells slots (EQ G K below s c0 s0) (F0 m (pc + 3) A st) := by
    intro H' w1 w2 w3
    refine hk H' _ (hR.set e1 e2 e3 e4 w2 w3 ?_) (fun q hq => ?_)
    · unfold RA
      rw [e5]
      refine ⟨hbase, hc, t_OB.to (V := updV (fv σ c a) k v) ⟨_, w1, q2, q3, ?_⟩ (fun j hj => (e6 j hj).symm)⟩
      rw [hsl]
      exact t_set q4 hap hkl v
    · rcases List.mem_append.mp hq with hq | hq
      · exact hL q hq
      · rw [List.mem_singleton.mp hq]; exact hbase
  unfold u_lay at hlay
  rcases hfin with hfin | ⟨hfin, hinit, hcn, hfl⟩
  · rw [if_neg (by rw [hfin]; decide)] at hlay
    have h6 := u_store hfc hkC hkind hlay hi (cl_ty c hc k hkl) hn hfit
    rcases hlink with hlink | ⟨host, hlink⟩
    · exact W.putK hx hb (f := f) ⟨hown, hTB _ hlink rfl args, ⟨_, _, _, hi⟩, hst⟩ (by rw [q2]; exact h6) q1 q3 hlt rfl rfl hd fin
    · exact va_WputK hx hb (f := f) hown (hTB _ hlink rfl args) hi hst (by rw [q2]; exact h6) q1 q3 hlt rfl rfl hd fin
  · rw [if_pos hfin] at hlay
    have h6 := u_fits hfc hkC hkind (Or.inr hlay) hi (cl_ty c hc k hkl) hn hfit
    have hcf : m.cls = cf := by
      obtain ⟨_, _, c', _, _, _, -, -, hf', -, -, -, hown2, -⟩ := Cond.laysFinal_spec hlay
      have e1 : c' = cf := by have := hi.symm.trans hf'; simp at this; exact this.1.symm
      rw [cl_own c hc k hkl, ← hcn] at hown2
      rw [← e1]; exact Option.some.inj (hown.symm.trans hown2)
    have hin : meth.name = "<init>" := (name_of_methodNamed hnm hmm).1.trans hinit
    exact W.putFinK hx hb hown (hTB _ hfl rfl args) hi hst hcf hin (by rw [q2]; exact h6) q1 q3 hlt rfl rfl hd fin
theorem fv_pI {a c k j : Nat} {v : Int32} (hk : k < 64) (hj : j < 64) (ht : isR (clY c k) = false) : fv (pI σ (64 * c + k) a v) c a j = updV (fv σ c a) k (.int v) j := by
  unfold updV
  by_cases h : j = k
  · subst h
    rw [if_pos rfl]
    unfold fv
    rw [ht, if_neg (by decide)]
    show Value.int (up2 (gI σ) (64 * c + j) a v (64 * c + j) a) = _
    simp [up2]
  · rw [if_neg h]
    unfold fv
    split
    · rfl
    · show Value.int (up2 (gI σ) (64 * c + k) a v (64 * c + j) a) = _
      unfold up2
      rw [if_neg (fun e => h (by omega))]
theorem fv_pR {a c k j : Nat} {v : Option Nat} (hk : k < 64) (hj : j < 64) (ht : isR (clY c k) = true) : fv (pR σ (64 * c + k) a v) c a j = updV (fv σ c a) k (va_rf v) j := by
  unfold updV
  by_cases h : j = k
  · subst h
    rw [if_pos rfl]
    unfold fv
    rw [if_pos ht]
    show va_rf (up2 (gR σ) (64 * c + j) a v (64 * c + j) a) = _
    simp [up2]
  · rw [if_neg h]
    unfold fv
    split
    · show va_rf (up2 (gR σ) (64 * c + k) a v (64 * c + j) a) = _
      unfold up2
      rw [if_neg (fun e => h (by omega))]
    · rfl
theorem clF_lt : ∀ c, c < 12 → clF c ≤ 64 := by decide +kernel
def PF (M : MI) (i c k : Nat) : Prop := (clT c k).2.2.2 = false ∨ ((clT c k).2.2.2 = true ∧ M.1.name = "<init>" ∧ M.1.cls = clN c ∧ Cond.fieldLink M.1.cls i (clT c k).1 (clT c k).2.1 (clT c k).2.2.1 ∈ lw_tbl)
theorem pw_putI {a c k i f : Nat} {x : Int32} (hd : decode M.2.1 pc = .ok (.putfield i, 3)) (hf : FL M.1.cls i c k) (hfin : PF M i c k) (ht : clY c k = .int) (he : 64 * c + k = f) (hs : sh σ a = (1, c)) (h : PW d M (pc + 3) ls st (pI σ f a x) K) : PW d M pc ls (.int x :: .ref a :: st) σ K := by
  subst he
  have hr : isR (clY c k) = false := by rw [ht]; rfl
  have h64 := clF_lt c hf.1
  have hkl := hf.2.1
  exact pw_putf (σ' := pI σ (64 * c + k) a x) hd hf hfin hs (by rw [ht]; rfl) (by rw [ht]; rfl) rfl rfl rfl (fun q hq => Ag.pI hq) hs (fun j hj => fv_pI (by omega) (by omega) hr) h
/-- 0 or 1 -/
def bo (x : Int32) : Prop := x = 0 ∨ x = 1
theorem pw_putZ {a c k i f : Nat} {x : Int32} (hd : decode M.2.1 pc = .ok (.putfield i, 3)) (hf : FL M.1.cls i c k) (hfin : PF M i c k) (ht : clY c k = .boolean) (he : 64 * c + k = f) (hs : sh σ a = (1, c)) (hx : bo x) (h : PW d M (pc + 3) ls st (pI σ f a x) K) : PW d M pc ls (.int x :: .ref a :: st) σ K := by
  subst he
  have hr : isR (clY c k) = false := by rw [ht]; rfl
  have h64 := clF_lt c hf.1
  have hkl := hf.2.1
  refine pw_putf (σ' := pI σ (64 * c + k) a x) hd hf hfin hs (by rw [ht]; rcases hx with rfl | rfl <;> rfl) (by rw [ht]; rcases hx with rfl | rfl <;> rfl) rfl rfl rfl (fun q hq => Ag.pI hq) hs (fun j hj => fv_pI (by omega) (by omega) hr) h
theorem pw_putR {a c k i f : Nat} {v : Option Nat} (hd : decode M.2.1 pc = .ok (.putfield i, 3)) (hf : FL M.1.cls i c k) (hfin : PF M i c k) (ht : isR (clY c k) = true) (he : 64 * c + k = f) (hs : sh σ a = (1, c)) (h : PW d M (pc + 3) ls st (pR σ f a v) K) : PW d M pc ls (va_rf v :: .ref a :: st) σ K := by
  subst he
  have h64 := clF_lt c hf.1
  have hkl := hf.2.1
  refine pw_putf (σ' := pR σ (64 * c + k) a v) hd hf hfin hs ?_ ?_ rfl rfl rfl (fun q hq => Ag.pR hq) hs (fun j hj => fv_pR (by omega) (by omega) ht) h
  · cases hY : clY c k <;> cases v <;> first | rfl | (rw [hY] at ht; cases ht)
  · cases hY : clY c k <;> cases v <;> first | rfl | (rw [hY] at ht; cases ht)
end Heap
end
section
/-! ===== rules of the pure walk: arrays, new cells ===== -/
section Arrays
variable {d : Nat} {M : MI} {pc : Nat} {ls st : List Value} {σ : PH} {K : PO → PH → Prop}
theorem RA.arr {G : WG} {U : State} {H : Heap} {a k n : Nat} (h : RA G σ U H a) (hk : 2 ≤ k) (hs : sh σ a = (k, n)) : k ≤ 10 ∧ (k < 10 → G.1 ≤ a) ∧ n < 2 ^ 31 ∧ AR U H a (aT k) n (av σ k a) := by
  obtain ⟨j, rfl⟩ : ∃ j, k = j + 2 := ⟨k - 2, by omega⟩
  unfold RA at h
  rw [hs] at h
  exact h
theorem RA.ofArr {G : WG} {U : State} {H : Heap} {a k n : Nat} (hk : 2 ≤ k) (hs : sh σ a = (k, n)) (h : k ≤ 10 ∧ (k < 10 → G.1 ≤ a) ∧ n < 2 ^ 31 ∧ AR U H a (aT k) n (av σ k a)) : RA G σ U H a := by
  obtain ⟨j, rfl⟩ : ∃ j, k = j + 2 := ⟨k - 2, by omega⟩
  unfold RA
  rw [hs]
  exact h
/-- the place that an index names -/
def ix (i : Int32) : Nat := i.toNatClampNeg
theorem ix_nI {n : Nat} (h : n < 2 ^ 31) : ix (nI n) = n := nI_clamp h
theorem ix_lt {i : Int32} {n : Nat} (h : vp_in i n) : ix i < n := Nat.not_le.mp fun q => h (Or.inr q)
/-- an element is read -/
theorem pw_ald {a k n : Nat} {i : Int32} {w : Value} (hs : sh σ a = (k, n)) (hk : 2 ≤ k) (hin : vp_in i n) (hw : av σ k a (ix i) = w)
    (row : ∀ (p : Program) (l : Launch) (e : Env) (R : Room) (s : State) (m : MethodId) (args : Array Value) (below : List Frame) (meth : Method) (cd : Code) (H : Heap) (locs : List Loc) (cells slots : Nat) (Q : State → Prop) (A : Array Slot) (cell : Cell), p.tables.exec = Jvm.exec → cd.code = M.2.1 → H[a]? = some cell → s.isArrayOf cell (aT k) → cell.vm ≠ .unknown → ¬ (i < 0 ∨ cell.slots.size ≤ i.toNatClampNeg) → cell.slots[i.toNatClampNeg]? = some w → W p l e R s m args below meth cd H locs cells slots Q (F0 m (pc + 1) A (w :: st)) → W p l e R s m args below meth cd H locs cells slots Q (F0 m pc A (.int i :: .ref a :: st)))
    (h : PW d M (pc + 1) ls (w :: st) σ K) : PW d M pc ls (.int i :: .ref a :: st) σ K := by
  intro G p l e R s m args below meth cd H locs cells slots A c0 s0 hC hR hA hL h1 h2 h3 h4
  have hkk := h G p l e R s m args below meth cd H locs cells slots A c0 s0 hC hR hA hL h1 h2 h3 h4
  obtain ⟨-, -, -, cell, q1, q2, q3, q4, q5, -⟩ := (hR.1 a).arr hk hs
  refine row p l e R s m args below meth cd H locs cells slots _ A cell hC.1 hC.2.1 q1 q2 q3 (by rw [q4]; exact hin) ?_ hkk
  rw [← hw]
  exact q5 (ix i) (ix_lt hin)
theorem pw_iald {a n : Nat} {i : Int32} (hd : decode M.2.1 pc = .ok (.iaload, 1)) (hs : sh σ a = (2, n)) (hin : vp_in i n) (h : PW d M (pc + 1) ls (.int (eI σ a (ix i)) :: st) σ K) : PW d M pc ls (.int i :: .ref a :: st) σ K :=
  pw_ald hs (by decide) hin rfl (fun p l e R s m args below meth cd H locs cells slots Q A cell hx hb h1 h2 h3 h4 h5 kk => W.iald hx hb h1 h2 h3 h4 h5 rfl rfl hd kk) h
theorem pw_iald0 {a n : Nat} {i : Int32} (hd : decode M.2.1 pc = .ok (.iaload, 1)) (hs : sh σ a = (10, n)) (hin : vp_in i n) (h : PW d M (pc + 1) ls (.int (eI σ a (ix i)) :: st) σ K) : PW d M pc ls (.int i :: .ref a :: st) σ K :=
  pw_ald hs (by decide) hin rfl (fun p l e R s m args below meth cd H locs cells slots Q A cell hx hb h1 h2 h3 h4 h5 kk => W.iald hx hb h1 h2 h3 h4 h5 rfl rfl hd kk) h
theorem pw_cald {a n : Nat} {i : Int32} (hd : decode M.2.1 pc = .ok (.caload, 1)) (hs : sh σ a = (3, n)) (hin : vp_in i n) (h : PW d M (pc + 1) ls (.int (eI σ a (ix i)) :: st) σ K) : PW d M pc ls (.int i :: .ref a :: st) σ K :=
  pw_ald hs (by decide) hin rfl (fun p l e R s m args below meth cd H locs cells slots Q A cell hx hb h1 h2 h3 h4 h5 kk => W.cald hx hb h1 h2 h3 h4 h5 rfl rfl hd kk) h
theorem pw_zald {a n : Nat} {i : Int32} (hd : decode M.2.1 pc = .ok (.baload, 1)) (hs : sh σ a = (4, n)) (hin : vp_in i n) (h : PW d M (pc + 1) ls (.int (eI σ a (ix i)) :: st) σ K) : PW d M pc ls (.int i :: .ref a :: st) σ K :=
  pw_ald hs (by decide) hin rfl (fun p l e R s m args below meth cd H locs cells slots Q A cell hx hb h1 h2 h3 h4 h5 kk => W.zald hx hb h1 h2 h3 h4 h5 rfl rfl hd kk) h
theorem pw_lald {a n : Nat} {i : Int32} (hd : decode M.2.1 pc = .ok (.laload, 1)) (hs : sh σ a = (5, n)) (hin : vp_in i n) (h : PW d M (pc + 1) ls (.long (eL σ a (ix i)) :: st) σ K) : PW d M pc ls (.int i :: .ref a :: st) σ K :=
  pw_ald hs (by decide) hin rfl (fun p l e R s m args below meth cd H locs cells slots Q A cell hx hb h1 h2 h3 h4 h5 kk => W.lald hx hb h1 h2 h3 h4 h5 rfl rfl hd kk) h
/-- kinds of reference arrays -/
def rk (k : Nat) : Prop := k = 6 ∨ k = 7 ∨ k = 8 ∨ k = 9
theorem rk_av {k a j : Nat} (h : rk k) : av σ k a j = va_rf (eR σ a j) := by rcases h with rfl | rfl | rfl | rfl <;> rfl
theorem rk_ty {k : Nat} (h : rk k) : (aT k).isReference = true := by rcases h with rfl | rfl | rfl | rfl <;> rfl
theorem rk_2 {k : Nat} (h : rk k) : 2 ≤ k := by rcases h with rfl | rfl | rfl | rfl <;> decide
theorem pw_aald {a n k : Nat} {i : Int32} (hd : decode M.2.1 pc = .ok (.aaload, 1)) (hk : rk k) (hs : sh σ a = (k, n)) (hin : vp_in i n) (h : PW d M (pc + 1) ls (va_rf (eR σ a (ix i)) :: st) σ K) : PW d M pc ls (.int i :: .ref a :: st) σ K :=
  pw_ald hs (rk_2 hk) hin (rk_av hk) (fun p l e R s m args below meth cd H locs cells slots Q A cell hx hb h1 h2 h3 h4 h5 kk => W.aald hx hb h1 h2 (rk_ty hk) h3 h4 h5 rfl rfl hd kk) h
theorem pw_alen {a n k : Nat} (hd : decode M.2.1 pc = .ok (.arraylength, 1)) (hk : 2 ≤ k) (hs : sh σ a = (k, n)) (h : PW d M (pc + 1) ls (.int (nI n) :: st) σ K) : PW d M pc ls (.ref a :: st) σ K := by
  intro G p l e R s m args below meth cd H locs cells slots A c0 s0 hC hR hA hL h1 h2 h3 h4
  have hkk := h G p l e R s m args below meth cd H locs cells slots A c0 s0 hC hR hA hL h1 h2 h3 h4
  obtain ⟨-, -, -, cell, q1, q2, q3, q4, q5, -⟩ := (hR.1 a).arr hk hs
  exact W.alen hC.1 hC.2.1 q1 q2 (by rw [q4]; rfl) rfl rfl hd hkk
/-- an element is written: σ' is the heap then -/
theorem pw_ast {σ' : PH} {a k n : Nat} {i : Int32} {v w : Value} (hs : sh σ a = (k, n)) (hk : 2 ≤ k) (hk9 : k < 10) (hin : vp_in i n)
    (e1 : bs σ' = bs σ) (e2 : cc σ' = cc σ) (e3 : cs σ' = cs σ) (e4 : ∀ q, q ≠ a → Ag σ σ' q) (e5 : sh σ' a = (k, n)) (e6 : ∀ j, av σ' k a j = if j = ix i then w else av σ k a j)
    (row : ∀ (G : WG) (p : Program) (l : Launch) (e : Env) (R : Room) (s : State) (m : MethodId) (args : Array Value) (below : List Frame) (meth : Method) (cd : Code) (H : Heap) (locs : List Loc) (cells slots : Nat) (Q : State → Prop) (A : Array Slot) (cell : Cell), Rep G σ s H → KN G s → p.tables.exec = Jvm.exec → cd.code = M.2.1 → H[a]? = some cell → s.isArrayOf cell (aT k) → cell.vm ≠ .unknown → ¬ (i < 0 ∨ cell.slots.size ≤ i.toNatClampNeg) → (isR (aT k) = true → va_RA s cell.cls (aT k)) →
      (∀ H' : Heap, H'[a]? = some (cell.setSlot i.toNatClampNeg w) → H'.size = H.size → (∀ q, q ≠ a → H'[q]? = H[q]?) → W p l e R s m args below meth cd H' (locs ++ [⟨a, i.toNatClampNeg⟩]) cells slots Q (F0 m (pc + 1) A st)) → W p l e R s m args below meth cd H locs cells slots Q (F0 m pc A (v :: .int i :: .ref a :: st)))
    (h : PW d M (pc + 1) ls st σ' K) : PW d M pc ls (v :: .int i :: .ref a :: st) σ K := by
  intro G p l e R s m args below meth cd H locs cells slots A c0 s0 hC hR hA hL h1 h2 h3 h4
  obtain ⟨g1, g2, g3, cell, q1, q2, q3, q4, q5, q6⟩ := (hR.1 a).arr hk hs
  refine row G p l e R s m args below meth cd H locs cells slots _ A cell hR hC.2.2.2.2.2.2.2.2.2.1 hC.1 hC.2.1 q1 q2 q3 (by rw [q4]; exact hin) q6 (fun H' w1 w2 w3 => ?_)
  refine h G p l e R s m args below meth cd H' _ cells slots A c0 s0 hC (hR.set e1 e2 e3 e4 w2 w3 ?_) hA (fun q hq => ?_) (by rw [e2]; exact h1) (by rw [e3]; exact h2) h3 h4
  · refine RA.ofArr hk e5 ⟨g1, g2, g3, _, w1, q2, q3, by simp [Cell.setSlot, q4], fun j hj => ?_, q6⟩
    rw [e6 j]
    by_cases hj2 : j = ix i
    · rw [if_pos hj2, hj2]
      exact slot_same (by rw [q4]; exact ix_lt hin)
    · rw [if_neg hj2]
      exact (slot_other (fun q => hj2 q.symm)).trans (q5 j hj)
  · rcases List.mem_append.mp hq with hq | hq
    · exact hL q hq
    · rw [List.mem_singleton.mp hq]; exact g2 hk9
/-- a char -/
def ch (x : Int32) : Prop := narrow .char (.int x) = .int x
theorem av_uI {k a j i : Nat} {x : Int32} (h5 : k ≠ 5) (hr : isR (aT k) = false) : av (uI σ a i x) k a j = if j = i then .int x else av σ k a j := by
  have e : ∀ τ : PH, av τ k a j = .int (eI τ a j) := fun τ => by
    unfold av
    rw [if_neg h5, hr, if_neg (by decide)]
  rw [e, e]
  show Value.int (up2 (eI σ) a i x a j) = _
  unfold up2
  by_cases h : j = i
  · rw [if_pos ⟨rfl, h⟩, if_pos h]
  · rw [if_neg (fun e => h e.2), if_neg h]
theorem pw_iast {a n : Nat} {i x : Int32} (hd : decode M.2.1 pc = .ok (.iastore, 1)) (hs : sh σ a = (2, n)) (hin : vp_in i n) (h : PW d M (pc + 1) ls st (uI σ a (ix i) x) K) : PW d M pc ls (.int x :: .int i :: .ref a :: st) σ K :=
  pw_ast (σ' := uI σ a (ix i) x) (w := .int x) hs (by decide) (by decide) hin rfl rfl rfl (fun q hq => Ag.uI hq) hs (fun j => av_uI (by decide) rfl) (fun G p l e R s m args below meth cd H locs cells slots Q A cell _ _ hx hb h1 h2 h3 h4 _ kk => W.iast hx hb h1 h2 h3 h4 rfl rfl hd kk) h
theorem pw_cast {a n : Nat} {i x : Int32} (hd : decode M.2.1 pc = .ok (.castore, 1)) (hs : sh σ a = (3, n)) (hin : vp_in i n) (hc : ch x) (h : PW d M (pc + 1) ls st (uI σ a (ix i) x) K) : PW d M pc ls (.int x :: .int i :: .ref a :: st) σ K :=
  pw_ast (σ' := uI σ a (ix i) x) (w := narrow .char (.int x)) hs (by decide) (by decide) hin rfl rfl rfl (fun q hq => Ag.uI hq) hs (fun j => by rw [hc]; exact av_uI (by decide) rfl) (fun G p l e R s m args below meth cd H locs cells slots Q A cell _ _ hx hb h1 h2 h3 h4 _ kk => W.cast hx hb h1 h2 h3 h4 rfl rfl hd kk) h
theorem bo_nar {x : Int32} (h : bo x) : narrow .boolean (.int x) = .int x := by rcases h with rfl | rfl <;> rfl
theorem pw_zast {a n : Nat} {i x : Int32} (hd : decode M.2.1 pc = .ok (.bastore, 1)) (hs : sh σ a = (4, n)) (hin : vp_in i n) (hc : bo x) (h : PW d M (pc + 1) ls st (uI σ a (ix i) x) K) : PW d M pc ls (.int x :: .int i :: .ref a :: st) σ K :=
  pw_ast (σ' := uI σ a (ix i) x) (w := narrow .boolean (.int x)) hs (by decide) (by decide) hin rfl rfl rfl (fun q hq => Ag.uI hq) hs (fun j => by rw [bo_nar hc]; exact av_uI (by decide) rfl) (fun G p l e R s m args below meth cd H locs cells slots Q A cell _ _ hx hb h1 h2 h3 h4 _ kk => W.zast hx hb h1 h2 h3 h4 rfl rfl hd kk) h
theorem pw_last {a n : Nat} {i : Int32} {x : Int64} (hd : decode M.2.1 pc = .ok (.lastore, 1)) (hs : sh σ a = (5, n)) (hin : vp_in i n) (h : PW d M (pc + 1) ls st (uL σ a (ix i) x) K) : PW d M pc ls (.long x :: .int i :: .ref a :: st) σ K :=
  pw_ast (σ' := uL σ a (ix i) x) (w := .long x) hs (by decide) (by decide) hin rfl rfl rfl (fun q hq => Ag.uL hq) hs (fun j => by
    unfold av
    rw [if_pos rfl, if_pos rfl]
    show Value.long (up2 (eL σ) a (ix i) x a j) = _
    unfold up2
    by_cases h : j = ix i
    · rw [if_pos ⟨rfl, h⟩, if_pos h]
    · rw [if_neg (fun e => h e.2), if_neg h]) (fun G p l e R s m args below meth cd H locs cells slots Q A cell _ _ hx hb h1 h2 h3 h4 _ kk => W.last hx hb h1 h2 h3 h4 rfl rfl hd kk) h
/-- the class of a reference array's elements -/
def aC : Nat → Nat := fun k => match k with
  | 6 => 1
  | 7 => 6
  | 8 => 7
  | _ => 8
theorem rk_N {k : Nat} (h : rk k) : aT k = .object (clN (aC k)) ∧ aC k < 12 := by rcases h with rfl | rfl | rfl | rfl <;> exact ⟨rfl, by decide⟩
theorem pw_aast {a n k : Nat} {i : Int32} {v : Option Nat} (hd : decode M.2.1 pc = .ok (.aastore, 1)) (hk : rk k) (hs : sh σ a = (k, n)) (hin : vp_in i n) (hv : ∀ b, v = some b → sh σ b = (1, aC k)) (h : PW d M (pc + 1) ls st (uR σ a (ix i) v) K) : PW d M pc ls (va_rf v :: .int i :: .ref a :: st) σ K := by
  refine pw_ast (σ' := uR σ a (ix i) v) (w := va_rf v) hs (rk_2 hk) (by rcases hk with rfl | rfl | rfl | rfl <;> decide) hin rfl rfl rfl (fun q hq => Ag.uR hq) hs (fun j => ?_) (fun G p l e R s m args below meth cd H locs cells slots Q A cell hR hKN hx hb h1 h2 h3 h4 h5 kk => ?_) h
  · rw [rk_av hk, rk_av hk]
    show va_rf (up2 (eR σ) a (ix i) v a j) = _
    unfold up2
    by_cases h : j = ix i
    · rw [if_pos ⟨rfl, h⟩, if_pos h]
    · rw [if_neg (fun e => h e.2), if_neg h]
  · have h5 := h5 (by rcases hk with rfl | rfl | rfl | rfl <;> rfl)
    rw [(rk_N hk).1] at h2 h5
    cases v with
    | none => exact va_WaastN (C := clN (aC k)) hx hb h1 h2 h3 h4 rfl rfl hd kk
    | some b =>
      obtain ⟨-, hc, cellV, g1, g2, g3, -⟩ := (hR.1 b).obj (hv b rfl)
      have hcls := (hKN (aC k) hc).2
      obtain ⟨kA, comp, k1, k2, k3, -⟩ := h5
      have hcomp : comp = G.2.1 (aC k) := Option.some.inj (k3.symm.trans hcls.1)
      subst hcomp
      obtain ⟨kC, hkC, -⟩ := hcls.2
      exact W.aast hx hb h1 h2.1 h3 k1 k2 rfl hkC ⟨fun q => h4 (Or.inl q), Nat.not_le.mp fun q => h4 (Or.inr q)⟩ g1 (fun q h => by rw [g3] at h; cases h) (by rw [g2]; exact hkC) (by rw [g2]; exact va_assign hcls) rfl rfl hd kk
end Arrays
end
section
/-! ===== rules of the pure walk: new cells, ends ===== -/
theorem Ag.mk {σ : PH} {s : Nat × Nat} {n q : Nat} (h : q ≠ nx σ) : Ag σ (mk σ s n) q := by
  refine ⟨?_, fun f => ?_, fun f => ?_, fun j => ?_, fun j => ?_, fun j => ?_⟩
  · show up1 (sh σ) (nx σ) s q = _
    unfold up1; rw [if_neg h]
  · show zr2 (gI σ) (nx σ) 0 f q = _
    unfold zr2; rw [if_neg h]
  · show zr2 (gR σ) (nx σ) none f q = _
    unfold zr2; rw [if_neg h]
  · show zr1 (eI σ) (nx σ) 0 q j = _
    unfold zr1; rw [if_neg h]
  · show zr1 (eR σ) (nx σ) none q j = _
    unfold zr1; rw [if_neg h]
  · show zr1 (eL σ) (nx σ) 0 q j = _
    unfold zr1; rw [if_neg h]
theorem sh_mk {σ : PH} {s : Nat × Nat} {n : Nat} : sh (mk σ s n) (nx σ) = s := by
  show up1 (sh σ) (nx σ) s (nx σ) = _
  unfold up1; rw [if_pos rfl]
theorem Rep.push {G : WG} {σ : PH} {s : Nat × Nat} {n : Nat} {U : State} {H H1 : Heap} (h : Rep G σ U H) (h1 : cc σ + 1 ≤ 601024) (h2 : cs σ + n ≤ 7293034) (hz : H1.size = H.size + 1) (ho : ∀ q, q < H.size → H1[q]? = H[q]?) (ha : RA G (mk σ s n) U H1 (nx σ)) : Rep G (mk σ s n) U H1 := by
  refine ⟨fun q => ?_, ?_, h.2.2.1, h1, h2⟩
  · by_cases hq : q = nx σ
    · rw [hq]; exact ha
    · by_cases h0 : (sh σ q).1 = 0
      · unfold RA
        rw [(Ag.mk hq).1, h0]
        trivial
      · exact (h.1 q).ag (Ag.mk hq) (ho q ((h.1 q).lt h0))
  · rw [hz, h.2.1]; show _ = bs σ + (cc σ + 1); unfold nx; omega
theorem cl_dv : ∀ c, c < 12 → ∀ k, k < clF c → (isR (clY c k) = true → defaultValue (clY c k) = .null) ∧ (isR (clY c k) = false → defaultValue (clY c k) = .int 0) := by decide +kernel
section Made
variable {d : Nat} {M : MI} {pc : Nat} {ls st : List Value} {σ : PH} {K : PO → PH → Prop}
theorem pw_new {c i n : Nat} (hd : decode M.2.1 pc = .ok (.new i, 3)) (hc : c < 12) (hl : Cond.classLink M.1.cls i (clN c) ∈ lw_tbl) (hn : clF c = n) (h1 : cc σ + 1 ≤ 601024) (h2 : cs σ + n ≤ 7293034) (h : PW d M (pc + 3) ls (.ref (nx σ) :: st) (mk σ (1, c) n) K) : PW d M pc ls st σ K := by
  intro G p l e R s m args below meth cd H locs cells slots A c0 s0 hC hR hA hL g1 g2 g3 g4
  have hk := fun (H' : Heap) (hR' : Rep G (mk σ (1, c) n) s H') => h G p l e R s m args below meth cd H' locs (cells + 1) (slots + n) A c0 s0 hC hR' hA hL (by show _ = cc σ + 1; omega) (by show _ = cs σ + n; omega) g3 g4
  obtain ⟨hx, hb, hml, hr, hlk, hnm, hfr, hlo, hTB, hKN, hmm, hex⟩ := hC
  subst hn
  have hKn := hKN c hc
  refine W.newcK (h := nx σ) hx hb (findClass_of_methodNamed hnm) (hTB _ hl rfl args) (hTB _ (cl_is c hc).1 rfl args) (hTB _ (cl_is c hc).2 rfl args) rfl hd (by omega) (by omega) hKn.2.1 hR.2.1 fun H1 kC hkC e1 z1 o1 => ?_
  refine hk H1 (hR.push h1 h2 (by rw [z1, hR.2.1]) (fun q hq => o1 q (by rw [← hR.2.1]; exact hq)) ?_)
  unfold RA
  rw [sh_mk]
  refine ⟨?_, hc, (u_born (clY c) (hTB.lays hc args) (fun w hw => hw) hKn hkC e1 (cl_ty c hc)).to (fun k hk => ?_)⟩
  · rw [← hR.2.2.1]; exact Nat.le_add_right _ _
  · have hdv := cl_dv c hc k hk
    unfold fv
    by_cases ht : isR (clY c k) = true
    · rw [if_pos ht, hdv.1 ht]
      show _ = va_rf (zr2 (gR σ) (nx σ) none _ (nx σ))
      unfold zr2; rw [if_pos rfl]; rfl
    · rw [if_neg ht, hdv.2 (by simpa using ht)]
      show _ = Value.int (zr2 (gI σ) (nx σ) 0 _ (nx σ))
      unfold zr2; rw [if_pos rfl]
theorem av_mk {k n j : Nat} {s : Nat × Nat} : av (mk σ s n) k (nx σ) j = if k = 5 then .long 0 else if isR (aT k) = true then .null else .int 0 := by
  unfold av
  have e1 : eL (mk σ s n) (nx σ) j = 0 := by show zr1 (eL σ) (nx σ) 0 (nx σ) j = _; unfold zr1; rw [if_pos rfl]
  have e2 : eR (mk σ s n) (nx σ) j = none := by show zr1 (eR σ) (nx σ) none (nx σ) j = _; unfold zr1; rw [if_pos rfl]
  have e3 : eI (mk σ s n) (nx σ) j = 0 := by show zr1 (eI σ) (nx σ) 0 (nx σ) j = _; unfold zr1; rw [if_pos rfl]
  rw [e1, e2, e3]
  rfl
/-- kinds of arrays of numbers -/
def nk (k : Nat) : Prop := k = 2 ∨ k = 3 ∨ k = 4 ∨ k = 5
theorem pw_newa {at_ : ArrayType} {k N : Nat} (hd : decode M.2.1 pc = .ok (.newarray at_, 2)) (hk : nk k) (ht : newarray.typeOf at_ = aT k) (hw : Cond.arrayClass (aT k) ∈ lw_tbl) (hN : N ≤ 65536) (h1 : cc σ + 1 ≤ 601024) (h2 : cs σ + N ≤ 7293034) (h : PW d M (pc + 2) ls (.ref (nx σ) :: st) (mk σ (k, N) N) K) : PW d M pc ls (.int (nI N) :: st) σ K := by
  intro G p l e R s m args below meth cd H locs cells slots A c0 s0 hC hR hA hL g1 g2 g3 g4
  have hkk := fun (H' : Heap) (hR' : Rep G (mk σ (k, N) N) s H') => h G p l e R s m args below meth cd H' locs (cells + 1) (slots + N) A c0 s0 hC hR' hA hL (by show _ = cc σ + 1; omega) (by show _ = cs σ + N; omega) g3 g4
  obtain ⟨hx, hb, hml, hr, hlk, hnm, hfr, hlo, hTB, hKN, hmm, hex⟩ := hC
  have hcl : (nI N).toNatClampNeg = N := nI_clamp (by omega)
  have hby : N * componentBytes (newarray.typeOf at_) ≤ 536870912 := by
    rw [ht]
    rcases hk with rfl | rfl | rfl | rfl <;> (simp only [aT, componentBytes]; omega)
  refine W.newa hx hb (by rw [ht]; exact hTB _ hw rfl args) rfl hd rfl (nI_pos (by omega)) (by rw [hcl]; exact hby) (by omega) (by rw [hcl]; omega) fun cA kA comp f1 f2 f3 => ?_
  rw [hcl, ht, hR.2.1]
  have hpush : ∀ x : Cell, (H.push x)[nx σ]? = some x := fun x => by rw [← hR.2.1]; exact Array.getElem?_push_size
  refine hkk _ (hR.push h1 h2 (Array.size_push ..) (fun q hq => by rw [Array.getElem?_push, if_neg (Nat.ne_of_lt hq)]) ?_)
  refine RA.ofArr (n := N) (by rcases hk with rfl | rfl | rfl | rfl <;> decide) sh_mk ⟨by rcases hk with rfl | rfl | rfl | rfl <;> decide, fun _ => by rw [← hR.2.2.1]; exact Nat.le_add_right _ _, by omega, _, hpush _, ⟨(fun k h => by cases h), kA, f2, comp, by rw [← ht]; exact f3⟩, fun h => (by cases h), by simp, fun j hj => ?_, fun q => ?_⟩
  · rw [av_mk]
    rcases hk with rfl | rfl | rfl | rfl <;> simp [hj, aT, isR, defaultValue]
  · rcases hk with rfl | rfl | rfl | rfl <;> cases q
theorem pw_anew {i k N : Nat} (hd : decode M.2.1 pc = .ok (.anewarray i, 3)) (hk : rk k) (hl : Cond.classLink M.1.cls i (clN (aC k)) ∈ lw_tbl) (hw : Cond.arrayOver (.object (clN (aC k))) ∈ lw_tbl) (hN : N ≤ 65536) (h1 : cc σ + 1 ≤ 601024) (h2 : cs σ + N ≤ 7293034) (h : PW d M (pc + 3) ls (.ref (nx σ) :: st) (mk σ (k, N) N) K) : PW d M pc ls (.int (nI N) :: st) σ K := by
  intro G p l e R s m args below meth cd H locs cells slots A c0 s0 hC hR hA hL g1 g2 g3 g4
  have hkk := fun (H' : Heap) (hR' : Rep G (mk σ (k, N) N) s H') => h G p l e R s m args below meth cd H' locs (cells + 1) (slots + N) A c0 s0 hC hR' hA hL (by show _ = cc σ + 1; omega) (by show _ = cs σ + N; omega) g3 g4
  obtain ⟨hx, hb, hml, hr, hlk, hnm, hfr, hlo, hTB, hKN, hmm, hex⟩ := hC
  have hcl : (nI N).toNatClampNeg = N := nI_clamp (by omega)
  refine W.anew hx hb (findClass_of_methodNamed hnm) (hTB _ hl rfl args) (hTB _ hw rfl args) rfl hd rfl (nI_pos (by omega)) (by rw [hcl]; omega) (by omega) (by rw [hcl]; omega) fun cA kA comp f1 f2 f3 f4 => ?_
  rw [hcl, hR.2.1]
  have hpush : ∀ x : Cell, (H.push x)[nx σ]? = some x := fun x => by rw [← hR.2.1]; exact Array.getElem?_push_size
  refine hkk _ (hR.push h1 h2 (Array.size_push ..) (fun q hq => by rw [Array.getElem?_push, if_neg (Nat.ne_of_lt hq)]) ?_)
  refine RA.ofArr (n := N) (rk_2 hk) sh_mk ⟨by rcases hk with rfl | rfl | rfl | rfl <;> decide, fun _ => by rw [← hR.2.2.1]; exact Nat.le_add_right _ _, by omega, _, hpush _, ⟨(fun k h => by cases h), kA, f2, comp, by rw [(rk_N hk).1]; exact f3⟩, fun h => (by cases h), by simp, fun j hj => ?_, fun q => ?_⟩
  · rw [av_mk]
    rcases hk with rfl | rfl | rfl | rfl <;> simp [hj, aT, isR]
  · rw [(rk_N hk).1]
    exact ⟨kA, comp, f2, f3, f4, f1⟩
/-! ends -/
theorem pw_iret {v : Int32} {ty : FieldType} (hd : decode M.2.1 pc = .ok (.ireturn, 1)) (hr : M.2.2.2.1 = some ty) (hn : narrow ty (.int v) = .int v) (h : K (.inl (some (.int v))) σ) : PW d M pc ls [.int v] σ K := by
  intro G p l e R s m args below meth cd H locs cells slots A c0 s0 hC hR hA hL g1 g2 g3 g4
  obtain ⟨hx, hb, hml, hret, hlocks, hnm, hfr, hlo, hTB, hKN, hmm, hex⟩ := hC
  rw [hr] at hret
  intro T hT X
  obtain ⟨fs, hdo, hrun, hended, hW, hframe⟩ := X.leave (v := some (.int v)) (fun h => by rw [hret] at h; cases h)
  have hmeth' : T.vm.method? m = some meth := X.method'
  refine ⟨T.setFrames fs, ?_, .inl (some (.int v)), σ, .returned (some (.int v)), locs, cells, slots, h, hrun, hended, hW, hframe, hL, g1, g2, (by show Rep G σ s T.heap; rw [hT]; exact hR), rfl⟩
  jvm_step X.here [X.here.top, hx, hb, hd, hmeth', hret, hn]
  (try refine ⟨rfl, ?_⟩); (try refine ⟨rfl, ?_⟩)
  first | (intro acts; rw [hdo _ acts rfl rfl rfl]) | rw [hdo _ _ rfl rfl rfl]
  exact Steps.refl _
theorem pw_vret (hd : decode M.2.1 pc = .ok (.return_, 1)) (hr : M.2.2.2.1 = none) (h : K (.inl none) σ) : PW d M pc ls [] σ K := by
  intro G p l e R s m args below meth cd H locs cells slots A c0 s0 hC hR hA hL g1 g2 g3 g4
  obtain ⟨hx, hb, hml, hret, hlocks, hnm, hfr, hlo, hTB, hKN, hmm, hex⟩ := hC
  rw [hr] at hret
  intro T hT X
  obtain ⟨fs, hdo, hrun, hended, hW, hframe⟩ := X.leave (v := none) (fun _ => rfl)
  have hmeth' : T.vm.method? m = some meth := X.method'
  refine ⟨T.setFrames fs, ?_, .inl none, σ, .returned none, locs, cells, slots, h, hrun, hended, hW, hframe, hL, g1, g2, (by show Rep G σ s T.heap; rw [hT]; exact hR), rfl⟩
  jvm_step X.here [X.here.top, hx, hb, hd, hmeth', hret]
  (try refine ⟨rfl, ?_⟩); (try refine ⟨rfl, ?_⟩)
  first | (intro acts; rw [hdo _ acts rfl rfl rfl]) | rw [hdo _ _ rfl rfl rfl]
  exact Steps.refl _
theorem pw_aret {v : Option Nat} {n : String} (hd : decode M.2.1 pc = .ok (.areturn, 1)) (hr : M.2.2.2.1 = some (.object n)) (h : K (.inl (some (va_rf v))) σ) : PW d M pc ls [va_rf v] σ K := by
  intro G p l e R s m args below meth cd H locs cells slots A c0 s0 hC hR hA hL g1 g2 g3 g4
  obtain ⟨hx, hb, hml, hret, hlocks, hnm, hfr, hlo, hTB, hKN, hmm, hex⟩ := hC
  rw [hr] at hret
  intro T hT X
  obtain ⟨fs, hdo, hrun, hended, hW, hframe⟩ := X.leave (v := some (va_rf v)) (fun h => by rw [hret] at h; cases h)
  have hmeth' : T.vm.method? m = some meth := X.method'
  refine ⟨T.setFrames fs, ?_, .inl (some (va_rf v)), σ, .returned (some (va_rf v)), locs, cells, slots, h, hrun, hended, hW, hframe, hL, g1, g2, (by show Rep G σ s T.heap; rw [hT]; exact hR), rfl⟩
  cases v <;>
    (simp only [va_rf] at hdo ⊢
     jvm_step X.here [X.here.top, hx, hb, hd, hmeth', hret]
     (try refine ⟨rfl, ?_⟩); (try refine ⟨rfl, ?_⟩)
     first | (intro acts; rw [hdo _ acts rfl rfl rfl]) | rw [hdo _ _ rfl rfl rfl]
     exact Steps.refl _)
theorem pw_objInit {i : Nat} {a : Nat} (hd : decode M.2.1 pc = .ok (.invokespecial i, 3)) (hl : Cond.methodLink M.1.cls i objectInit ∈ lw_tbl) (hi : Cond.instanceMethod objectInit ∈ lw_tbl) (hc : Cond.code objectInit ⟨#[0xb1]⟩ 1 none ∈ lw_tbl) (hst : (st.map fun v => v.category).sum ≤ 8) (h : PW (d + 1) M (pc + 3) ls st σ K) : PW (d + 1) M pc ls (.ref a :: st) σ K := by
  intro G p l e R s m args below meth cd H locs cells slots A c0 s0 hC hR hA hL g1 g2 g3 g4
  have hk := h G p l e R s m args below meth cd H locs cells slots A c0 s0 hC hR hA hL g1 g2 g3 g4
  obtain ⟨hx, hb, hml, hret, hlocks, hnm, hfr, hlo, hTB, hKN, hmm, hex⟩ := hC
  refine W.objInit hx hb (findClass_of_methodNamed hnm) (hTB _ hl rfl args) (hTB _ hi rfl args) (hTB _ hc rfl args) rfl (by rw [hml]; exact hA.1) rfl hd (by omega) (by show 2 * 0 + _ + 12 ≤ R.locals; omega) hk
end Made
end
section
/-! ===== rules of the pure walk: calls ===== -/
theorem lv_args_mem : ∀ (vs : List Value) (j i : Nat) (v : Value), (∀ w ∈ vs, w.category = 1) → vs[i]? = some v → (j + i, v) ∈ lv_args j vs := by
  intro vs
  induction vs with
  | nil => intro j i v _ h; simp at h
  | cons w ws ih =>
    intro j i v hc h
    have hw : ¬ w.category = 2 := by rw [hc w (by simp)]; decide
    unfold lv_args
    rw [if_neg hw]
    cases i with
    | zero => simp at h; subst h; simp
    | succ i =>
      have := ih (j + 1) i v (fun q hq => hc q (by simp [hq])) (by simpa using h)
      rw [show j + 1 + i = j + (i + 1) by omega] at this
      exact List.mem_cons_of_mem _ this
theorem lg_sl_len : ∀ (vs : List Value), (∀ w ∈ vs, w.category = 1) → (lg_sl vs).length = vs.length := by
  intro vs
  induction vs with
  | nil => intro _; rfl
  | cons w ws ih =>
    intro hc
    have hw : ¬ w.category = 2 := by rw [hc w (by simp)]; decide
    have := ih (fun q hq => hc q (by simp [hq]))
    simp only [lg_sl, List.flatMap_cons, if_neg hw, List.length_append, List.length_cons, List.length_nil] at this ⊢
    omega
theorem LV.entry (vs : List Value) {n : Nat} (hc : ∀ w ∈ vs, w.category = 1) (h : vs.length ≤ n) : LV ((lg_sl vs ++ List.replicate (n - (lg_sl vs).length) Slot.unset).toArray) n (vs ++ List.replicate (n - vs.length) (.retAddr 0)) := by
  obtain ⟨h1, h2, h3⟩ := lv_entry vs (n := n) (by rw [lg_sl_len vs hc]; exact h)
  refine ⟨h1, h2, by simp; omega, fun i v hi hv => ?_⟩
  by_cases hlt : i < vs.length
  · rw [List.getElem?_append_left hlt] at hi
    have := h3 (0 + i, v) (lv_args_mem vs 0 i v hc hi)
    rw [Nat.zero_add] at this
    exact ⟨hc v (List.mem_of_getElem? hi), this⟩
  · rw [List.getElem?_append_right (by omega)] at hi
    have := List.eq_of_mem_replicate (List.mem_of_getElem? hi)
    exact absurd this (hv 0)
/-- a method's code, by its word -/
def CW (M : MI) : Prop := (Cond.code M.1 M.2.1 M.2.2.1 M.2.2.2.1 ∈ lw_tbl ∧ M.2.2.2.2 = []) ∨ Cond.codeWith M.1 M.2.1 M.2.2.1 M.2.2.2.1 M.2.2.2.2 ∈ lw_tbl
theorem CW.spec {M : MI} {s : State} (h : CW M) (hT : TB s) : ∃ (mk : MethodId) (methk : Method) (ck : Code), s.methodNamed? M.1 = some mk ∧ s.vm.method? mk = some methk ∧ methk.code = some ck ∧ ck.code = M.2.1 ∧ ck.maxLocals = M.2.2.1 ∧ methk.sig.returnType = M.2.2.2.1 ∧ methk.locks = false ∧ ck.exceptionTable.toList.map (fun h => (h.startPc, h.endPc, h.handlerPc, h.catchType)) = M.2.2.2.2 ∧ parseMethodDescriptor M.1.desc = some methk.sig := by
  rcases h with ⟨h, he⟩ | h
  · have hc := hT _ h rfl #[]
    obtain ⟨mk, hn⟩ := Cond.code_named hc
    obtain ⟨methk, ck, h1, h2, h3, h4, h5, h6, h7, h8⟩ := Cond.code_spec hn hc
    refine ⟨mk, methk, ck, hn, h1, h2, h3, h4, h5, h6, ?_, h8⟩
    rw [he]
    simpa using h7
  · have hc := hT _ h rfl #[]
    obtain ⟨mk, methk, ck, hn, h1, h2, h3, h4, h7, h5, h6, h8⟩ := Cond.codeWith_spec hc
    exact ⟨mk, methk, ck, hn, h1, h2, h3, h4, h5, h6, h7, h8⟩
section Calls
variable {G : WG} {d : Nat} {M M' : MI} {p : Program} {l : Launch} {e : Env} {R : Room} {s : State} {m : MethodId} {args : Array Value} {below : List Frame} {meth : Method} {c : Code} {T : State} {locs : List Loc} {cells slots c0 s0 : Nat} {σ : PH} {K' : PO → PH → Prop}
/-- into the callee and out of it -/
theorem pcall (X : Stand p l e R s m args below meth c T locs cells slots) (hx : p.tables.exec = Jvm.exec) (hTB : TB s) (hKN : KN G s) (hR : Rep G σ s T.heap) (hL : ∀ q ∈ locs, G.1 ≤ q.base) (h1 : c0 + cells = cc σ) (h2 : s0 + slots = cs σ) (h3 : R.cells + c0 = 601024) (h4 : R.slots + s0 = 7293034) (hfr : d + 1 ≤ R.frames) (hlo : 37 * (d + 1) ≤ R.locals)
    {g : JFrame} (hg : g.method = m) (hmon : g.monitorRoom = 0) (hsize : g.locals.size = c.maxLocals) {ig : Instr} {len : Nat} (hdg : decode c.code g.pc = .ok (ig, len))
    {mk : MethodId} {methk : Method} {ck : Code} (hnk : s.methodNamed? M'.1 = some mk) (hmk : s.vm.method? mk = some methk) (hck : methk.code = some ck) (hbk : ck.code = M'.2.1) (hlk : ck.maxLocals = M'.2.2.1) (hrk : methk.sig.returnType = M'.2.2.2.1) (hkk : methk.locks = false) (hek : ck.exceptionTable.toList.map (fun h => (h.startPc, h.endPc, h.handlerPc, h.catchType)) = M'.2.2.2.2) (hpl : plainFor M'.1 = true)
    {vs : List Value} (hcat : ∀ v ∈ vs, v.category = 1) (hlen : vs.length ≤ M'.2.2.1) (hroom : (g.stack.map fun v => v.category).sum + M'.2.2.1 ≤ 26)
    (hP : PW d M' 0 (vs ++ List.replicate (M'.2.2.1 - vs.length) (.retAddr 0)) [] σ K') :
    ∃ (o : PO) (σ' : PH) (T' : State) (L : List Loc) (k n : Nat), K' o σ' ∧ Stand p l e R s m args below meth c T' (locs ++ L) (cells + k) (slots + n) ∧ (∀ q ∈ locs ++ L, G.1 ≤ q.base) ∧ c0 + (cells + k) = cc σ' ∧ s0 + (slots + n) = cs σ' ∧ Rep G σ' s T'.heap ∧
      match o with
      | .inl v => ∀ acts, Steps p.tables e below (doInvoke e (T.setTop g) acts mk vs.toArray).1 (T'.setTop { g with pc := g.pc + len, stack := v.toList ++ g.stack })
      | .inr kd => ∃ (a : Addr) (cell : Cell), T'.heap[a]? = some cell ∧ (∀ z, cell.vm ≠ .statics z) ∧ s.vm.findClass (exN kd) = some cell.cls ∧ ∀ acts, Steps p.tables e below (doInvoke e (T.setTop g) acts mk vs.toArray).1 ((T'.setTop g).pushFrame (.throwing a)) := by
  have hal : s.vm.Alike T.vm := X.warmed.alike
  have hmkT : T.vm.method? mk = some methk := by rw [hal.method?]; exact hmk
  have hnT : T.methodNamed? M'.1 = some mk := X.named hnk
  have hpT : T.plainMethod mk := State.plainMethod.of_named hpl hnT hmkT
  have hcc := hR.2.2.2
  obtain ⟨Y, hin⟩ := X.into hg hsize hdg vs.toArray (R' := { frames := d, cells := R.cells - cells, slots := R.slots - slots, locals := 37 * d }) hmkT hck hkk hpT hfr (by show 2 * g.monitorRoom + _ + (ck.maxLocals + 11) + 37 * d ≤ R.locals; rw [hmon, hlk]; omega) (by show cells + (R.cells - cells) ≤ R.cells; omega) (by show slots + (R.slots - slots) ≤ R.slots; omega)
  generalize hU : (T.setTop g).pushFrame (.java (entryFrame mk vs.toArray ck.maxLocals)) = U at Y hin
  have hUh : U.heap = T.heap := by rw [← hU]; rfl
  have hWc : s.WarmedH (T.calling g mk vs.toArray).vm := X.warmed
  have hCtx : Ctx G d M' p { frames := d, cells := R.cells - cells, slots := R.slots - slots, locals := 37 * d } (T.calling g mk vs.toArray) mk methk ck :=
    ⟨hx, hbk, hlk, hrk, hkk, hnT, Nat.le_refl _, Nat.le_refl _, hTB.moved hWc, hKN.moved hal, hmkT, hek⟩
  obtain ⟨t, hst, o, σ', x, L, k, n, hK, hrun, hend, hW, hsame, hLb, hk1, hk2, hRep, hO⟩ := hP G p l e _ (T.calling g mk vs.toArray) mk vs.toArray (.java g :: below) methk ck T.heap [] 0 0 _ (c0 + cells) (s0 + slots) hCtx (hR.moved hal) (LV.entry vs hcat hlen) (fun q hq => by simp at hq) (by omega) (by omega) (by show R.cells - cells + (c0 + cells) = _; omega) (by show R.slots - slots + (s0 + slots) = _; omega) U hUh Y
  have hLL : ∀ q ∈ locs ++ L, G.1 ≤ q.base := fun q hq => (List.mem_append.mp hq).elim (hL q) (hLb q)
  rw [← lg_entry_eq, ← hlk] at hst
  have hst2 := Steps.weaken (mid := [.java g]) hst
  cases o with
  | inl v =>
    have hxe : x = .returned v := hO
    subst hxe
    obtain ⟨T', X', hW', hB', ht⟩ := X.outOf hg hdg hend hW hsame
    have hh : t.heap = T'.heap := by rw [ht]; simp
    refine ⟨.inl v, σ', T', L, k, n, hK, X', hLL, by omega, by omega, ?_, fun acts => ?_⟩
    · rw [← hh]
      exact hRep.moved (u := T.calling g mk vs.toArray) (Vm.Alike.symm hal)
    · rw [hin acts, ← ht]
      exact hst2
  | inr kd =>
    obtain ⟨a, cell, hxe, q1, q2, q3⟩ := hO
    subst hxe
    obtain ⟨T', X', hW', hB', ht⟩ := X.outOfThrown hg hend hW hsame
    have hh : t.heap = T'.heap := by rw [ht]; exact throwing_heap T' g a
    refine ⟨.inr kd, σ', T', L, k, n, hK, X', hLL, by omega, by omega, ?_, a, cell, by rw [← hh]; exact q1, q2, ?_, fun acts => ?_⟩
    · rw [← hh]
      exact hRep.moved (u := T.calling g mk vs.toArray) (Vm.Alike.symm hal)
    · rw [← hal.findClass]; exact q3
    · rw [hin acts, ← ht]
      exact hst2
end Calls
end
section
/-! ===== rules of the pure walk: the call instructions ===== -/
/-- behind a call, in a method without handlers -/
def kN (d : Nat) (M : MI) (pc : Nat) (ls st : List Value) (K : PO → PH → Prop) : PO → PH → Prop := fun o σ => match o with
  | .inl v => PW d M pc ls (v.toList ++ st) σ K
  | .inr k => K (.inr k) σ
/-- what every call asks of its callee -/
def CQ (M' : MI) (n : Nat) : Prop := CW M' ∧ Cond.initialized M'.1.cls ∈ lw_tbl ∧ (M'.1.cls ≠ "java/lang/invoke/MethodHandle" ∧ M'.1.cls ≠ "java/lang/invoke/VarHandle") ∧ plainFor M'.1 = true ∧ (parseMethodDescriptor M'.1.desc).map (fun d => d.parameters.length) = some n ∧ n + 1 ≤ M'.2.2.1 + 1 ∧ M'.2.2.1 ≤ 18
theorem CQ.len {M' : MI} {n : Nat} (h : CQ M' n) {sig : MethodDescriptor} (hs : parseMethodDescriptor M'.1.desc = some sig) : n = sig.parameters.length := by
  have h5 := h.2.2.2.2.1
  rw [hs] at h5
  simpa using h5.symm
section Invoke
variable {d : Nat} {M M' : MI} {pc i n : Nat} {ls st vs : List Value} {σ : PH} {K : PO → PH → Prop}
/-- behind a resolved call, either way: no handler -/
theorem after_call {G : WG} {p : Program} {l : Launch} {e : Env} {R : Room} {s : State} {m : MethodId} {args : Array Value} {below : List Frame} {meth : Method} {c : Code} {T T1 : State} {locs : List Loc} {cells slots c0 s0 : Nat} {A : Array Slot} {stk : List Value} {mk : MethodId} {vl : List Value} (hh : M.2.2.2.2 = []) (hC : Ctx G (d + 1) M p R s m meth c) (hA : LV A M.2.2.1 ls) (h3 : R.cells + c0 = 601024) (h4 : R.slots + s0 = 7293034)
    (hstep : ∀ target, (∀ acts, Steps p.tables e below (doInvoke e (T1.setTop (F0 m pc A st)) acts mk vl.toArray).1 target) → Steps p.tables e below (T.setTop (F0 m pc A stk)) target)
    (hp : ∃ (o : PO) (σ' : PH) (T' : State) (L : List Loc) (k n : Nat), kN (d + 1) M (pc + 3) ls st K o σ' ∧ Stand p l e R s m args below meth c T' (locs ++ L) (cells + k) (slots + n) ∧ (∀ q ∈ locs ++ L, G.1 ≤ q.base) ∧ c0 + (cells + k) = cc σ' ∧ s0 + (slots + n) = cs σ' ∧ Rep G σ' s T'.heap ∧
      match o with
      | .inl v => ∀ acts, Steps p.tables e below (doInvoke e (T1.setTop (F0 m pc A st)) acts mk vl.toArray).1 (T'.setTop { (F0 m pc A st) with pc := (F0 m pc A st).pc + 3, stack := v.toList ++ (F0 m pc A st).stack })
      | .inr kd => ∃ (a : Addr) (cell : Cell), T'.heap[a]? = some cell ∧ (∀ z, cell.vm ≠ .statics z) ∧ s.vm.findClass (exN kd) = some cell.cls ∧ ∀ acts, Steps p.tables e below (doInvoke e (T1.setTop (F0 m pc A st)) acts mk vl.toArray).1 ((T'.setTop (F0 m pc A st)).pushFrame (.throwing a))) :
    ∃ t, Steps p.tables e below (T.setTop (F0 m pc A stk)) t ∧ EQ G K below s c0 s0 t := by
  obtain ⟨o, σ', T', L, k, n, hK, X', hLL, g1, g2, hRep, hgo⟩ := hp
  cases o with
  | inl v =>
    obtain ⟨t, a1, b1⟩ := hK G p l e R s m args below meth c T'.heap (locs ++ L) (cells + k) (slots + n) A c0 s0 hC hRep hA hLL g1 g2 h3 h4 T' rfl X'
    exact ⟨t, hstep t (fun acts => (hgo acts).trans a1), b1⟩
  | inr kd =>
    obtain ⟨a, cell, q1, q2, q3, hgo⟩ := hgo
    have hlocks := hC.2.2.2.2.1
    have hex := hC.2.2.2.2.2.2.2.2.2.2.2
    rw [hh] at hex
    obtain ⟨hs, hrun, hended, hW, hframe⟩ := X'.leaveThrown a (g := F0 m pc A st) rfl rfl rfl (fun x hx => by rw [List.map_eq_nil_iff.mp hex] at hx; cases hx)
    exact ⟨_, hstep _ (fun acts => (hgo acts).trans hs), .inr kd, σ', .threw a, locs ++ L, cells + k, slots + n, hK, hrun, hended, hW, hframe, hLL, g1, g2, hRep, a, cell, rfl, q1, q2, q3⟩
theorem pw_callS (hd : decode M.2.1 pc = .ok (.invokestatic i, 3)) (hq : CQ M' n) (hs : Cond.static M'.1 ∈ lw_tbl) (hl : Cond.methodLink M.1.cls i M'.1 ∈ lw_tbl) (hh : M.2.2.2.2 = []) (hn : vs.length = n) (hcat : ∀ v ∈ vs, v.category = 1) (hst : (st.map fun v => v.category).sum ≤ 8)
    (h : PW d M' 0 (vs ++ List.replicate (M'.2.2.1 - vs.length) (.retAddr 0)) [] σ (kN (d + 1) M (pc + 3) ls st K)) : PW (d + 1) M pc ls (vs.reverse ++ st) σ K := by
  intro G p l e R s m args below meth c H locs cells slots A c0 s0 hC hR hA hL h1 h2 h3 h4
  intro T hT X
  subst hT
  obtain ⟨hx, hb, hml, hret, hlocks, hnm, hfr, hlo, hTB, hKN, hmm, hex⟩ := id hC
  obtain ⟨mk, methk, ck, r1, r2, r3, r4, r5, r6, r7, r8, r9⟩ := hq.1.spec hTB
  obtain ⟨kP, hkP, -⟩ := className_of_methodNamed r1
  have hinitP : kP.init = .initialized := Cond.initialized_spec (findClass_of_methodNamed r1) hkP (hTB _ hq.2.1 rfl args)
  obtain ⟨vm₁, X₁, hstep⟩ := X.invokestatic hx (findClass_of_methodNamed hnm) (hTB _ hl rfl args) r1 r2 (Cond.static_spec r1 r2 (hTB _ hs rfl args)) hkP hinitP hq.2.2.1 (g := F0 m pc A (vs.reverse ++ st)) rfl (argsL := vs) (rest := st) (hn.trans (hq.len r9)) rfl (by rw [hb]; exact hd)
  exact after_call hh hC hA h3 h4 hstep (pcall X₁ hx hTB hKN hR hL h1 h2 h3 h4 hfr hlo (g := F0 m pc A st) rfl rfl (hA.1.trans hml.symm) (ig := .invokestatic i) (by rw [hb]; exact hd) r1 r2 r3 r4 r5 r6 r7 r8 hq.2.2.2.1 hcat (by have := hq.2.2.2.2.2.1; omega) (by have := hq.2.2.2.2.2.2; show (st.map _).sum + _ ≤ 26; omega) h)
theorem pw_callV {b cn : Nat} (hd : decode M.2.1 pc = .ok (.invokevirtual i, 3)) (hq : CQ M' n) (hi : Cond.instanceMethod M'.1 ∈ lw_tbl) (hse : Cond.selects M'.1.cls M'.1 M'.1 ∈ lw_tbl) (hl : Cond.methodLink M.1.cls i M'.1 ∈ lw_tbl) (hcn : clN cn = M'.1.cls) (hb0 : sh σ b = (1, cn)) (hh : M.2.2.2.2 = []) (hn : vs.length = n) (hlt : n + 1 ≤ M'.2.2.1) (hcat : ∀ v ∈ vs, v.category = 1) (hst : (st.map fun v => v.category).sum ≤ 8)
    (h : PW d M' 0 (.ref b :: vs ++ List.replicate (M'.2.2.1 - (vs.length + 1)) (.retAddr 0)) [] σ (kN (d + 1) M (pc + 3) ls st K)) : PW (d + 1) M pc ls (vs.reverse ++ .ref b :: st) σ K := by
  intro G p l e R s m args below meth c H locs cells slots A c0 s0 hC hR hA hL h1 h2 h3 h4
  intro T hT X
  subst hT
  obtain ⟨hx, hb, hml, hret, hlocks, hnm, hfr, hlo, hTB, hKN, hmm, hex⟩ := id hC
  obtain ⟨mk, methk, ck, r1, r2, r3, r4, r5, r6, r7, r8, r9⟩ := hq.1.spec hTB
  obtain ⟨mk', methM, hnamed, hmethM, hstM, habM⟩ := Cond.instanceMethod_spec (hTB _ hi rfl args)
  cases r1.symm.trans hnamed
  cases r2.symm.trans hmethM
  obtain ⟨-, hcl, cellB, z1, z2, z3, -⟩ := (hR.1 b).obj hb0
  have hcls : s.vm.findClass M'.1.cls = some cellB.cls := by rw [z2, ← hcn]; exact (hKN cn hcl).2.1
  obtain ⟨c2, r2', m2, q1, q2, q3, q4, kP, hkP, hkPi⟩ := Cond.selects_spec (hTB _ hse rfl args)
  cases hcls.symm.trans q1
  cases (State.methodFound?_of_named hnamed hq.2.2.1).symm.trans q2
  cases hnamed.symm.trans q3
  have hselP : selectMethod e.platform s.vm cellB.cls mk = .method mk := by rw [Launch.admits_selectMethod X.admits]; exact q4
  obtain ⟨vm₁, X₁, hstep⟩ := X.invokevirtual hx (findClass_of_methodNamed hnm) (hTB _ hl rfl args) r1 r2 hstM hkP hkPi hq.2.2.1 (a := b) (cell := cellB) z1 (fun z h => by rw [z3] at h; cases h) hselP r2 habM hkP hkPi (g := F0 m pc A (vs.reverse ++ .ref b :: st)) rfl (argsL := vs) (rest := st) (hn.trans (hq.len r9)) rfl (by rw [hb]; exact hd)
  exact after_call hh hC hA h3 h4 hstep (pcall (vs := .ref b :: vs) X₁ hx hTB hKN hR hL h1 h2 h3 h4 hfr hlo (g := F0 m pc A st) rfl rfl (hA.1.trans hml.symm) (ig := .invokevirtual i) (by rw [hb]; exact hd) r1 r2 r3 r4 r5 r6 r7 r8 hq.2.2.2.1 (fun v hv => by rcases List.mem_cons.mp hv with rfl | hv; exact rfl; exact hcat v hv) (by simp; omega) (by have := hq.2.2.2.2.2.2; show (st.map _).sum + _ ≤ 26; omega) h)
theorem pw_callI {b : Nat} (hd : decode M.2.1 pc = .ok (.invokespecial i, 3)) (hq : CQ M' n) (hini : M'.1.name = "<init>") (hrt : M'.2.2.2.1 = none) (hcd : Cond.code M'.1 M'.2.1 M'.2.2.1 none ∈ lw_tbl) (hi : Cond.instanceMethod M'.1 ∈ lw_tbl) (hl : Cond.methodLink M.1.cls i M'.1 ∈ lw_tbl ∨ ∃ host : String, Cond.methodLinkNest M.1.cls i M'.1 host ∈ lw_tbl) (hh : M.2.2.2.2 = []) (hn : vs.length = n) (hlt : n + 1 ≤ M'.2.2.1) (hcat : ∀ v ∈ vs, v.category = 1) (hst : (st.map fun v => v.category).sum ≤ 8)
    (h : PW d M' 0 (.ref b :: vs ++ List.replicate (M'.2.2.1 - (vs.length + 1)) (.retAddr 0)) [] σ (kN (d + 1) M (pc + 3) ls st K)) : PW (d + 1) M pc ls (vs.reverse ++ .ref b :: st) σ K := by
  intro G p l e R s m args below meth c H locs cells slots A c0 s0 hC hR hA hL h1 h2 h3 h4
  intro T hT X
  subst hT
  obtain ⟨hx, hb, hml, hret, hlocks, hnm, hfr, hlo, hTB, hKN, hmm, hex⟩ := id hC
  obtain ⟨mk, methk, ck, r1, r2, r3, r4, r5, r6, r7, r8, r9⟩ := hq.1.spec hTB
  have hpl : e.platform.magicAccessors = ({} : Platform).magicAccessors := by rw [X.admits.platform]
  have key : ∃ vm₁, s.WarmedH vm₁ ∧ ∀ target, (∀ acts, Steps p.tables e below (doInvoke e ((T.setVm vm₁).setTop (F0 m pc A st)) acts mk (Value.ref b :: vs).toArray).1 target) → Steps p.tables e below (T.setTop (F0 m pc A (vs.reverse ++ .ref b :: st))) target := by
    rcases hl with hl | ⟨host, hl⟩
    · obtain ⟨mk', methM, cM, kP, vm₁, hnamed, hmethM, hcodeM, -, hlocalsM, -, hkP, -, hW₁, hstep₁⟩ := Steps.initColdArgs (e := e) X.here hx X.warmed hpl (findClass_of_methodNamed hnm) hini hq.2.2.1 (hTB _ hl rfl args) (hTB _ hi rfl args) (hTB _ hcd rfl args) (f := F0 m pc A (vs.reverse ++ .ref b :: st)) rfl (a := b) (argsL := vs) (rest := st) (fun sig hs => hn.trans (hq.len hs)) rfl (by rw [hb]; exact hd)
      cases r1.symm.trans hnamed
      exact ⟨vm₁, hW₁, hstep₁⟩
    · obtain ⟨mk', methM, cM, kP, vm₁, hnamed, hmethM, hcodeM, -, hlocalsM, -, hkP, -, hW₁, hstep₁⟩ := Steps.initColdArgsNest (e := e) X.here hx X.warmed hpl (findClass_of_methodNamed hnm) hini hq.2.2.1 (hTB _ hl rfl args) (hTB _ hi rfl args) (hTB _ hcd rfl args) (f := F0 m pc A (vs.reverse ++ .ref b :: st)) rfl (a := b) (argsL := vs) (rest := st) (fun sig hs => hn.trans (hq.len hs)) rfl (by rw [hb]; exact hd)
      cases r1.symm.trans hnamed
      exact ⟨vm₁, hW₁, hstep₁⟩
  obtain ⟨vm₁, hW₁, hstep⟩ := key
  have X₁ := X.noted hW₁
  exact after_call hh hC hA h3 h4 hstep (pcall (vs := .ref b :: vs) X₁ hx hTB hKN hR hL h1 h2 h3 h4 hfr hlo (g := F0 m pc A st) rfl rfl (hA.1.trans hml.symm) (ig := .invokespecial i) (by rw [hb]; exact hd) r1 r2 r3 r4 r5 r6 r7 r8 hq.2.2.2.1 (fun v hv => by rcases List.mem_cons.mp hv with rfl | hv; exact rfl; exact hcat v hv) (by simp; omega) (by have := hq.2.2.2.2.2.2; show (st.map _).sum + _ ≤ 26; omega) h)
end Invoke
end
section
/-! ===== what the printed walks stand on ===== -/
theorem va_rf_some (b : Nat) : va_rf (some b) = .ref b := rfl
theorem va_rf_none : va_rf none = .null := rfl
section Glue
variable {d : Nat} {M : MI} {pc : Nat} {ls st : List Value} {σ : PH} {K K' : PO → PH → Prop}
theorem PW.mono (hk : ∀ o σ, K o σ → K' o σ) (h : PW d M pc ls st σ K) : PW d M pc ls st σ K' := by
  intro G p l e R s m args below meth c H locs cells slots A c0 s0 hC hR hA hL h1 h2 h3 h4
  intro T hT X
  obtain ⟨t, a, o, σ', x, L, k, n, b1, b2⟩ := h G p l e R s m args below meth c H locs cells slots A c0 s0 hC hR hA hL h1 h2 h3 h4 T hT X
  exact ⟨t, a, o, σ', x, L, k, n, hk o σ' b1, b2⟩
theorem PW.top {v v' : Value} (hv : v = v') (h : PW d M pc ls (v' :: st) σ K) : PW d M pc ls (v :: st) σ K := hv ▸ h
theorem PW.loc {ls' : List Value} (hv : ls = ls') (h : PW d M pc ls' st σ K) : PW d M pc ls st σ K := hv ▸ h
/-- behind a call that answers an int, nothing, a reference -/
def kI (F : Int32 → PH → Prop) (K : PO → PH → Prop) : PO → PH → Prop := fun o σ => match o with
  | .inl (some (.int r)) => F r σ
  | .inr k => K (.inr k) σ
  | _ => False
def kV (F : PH → Prop) (K : PO → PH → Prop) : PO → PH → Prop := fun o σ => match o with
  | .inl none => F σ
  | .inr k => K (.inr k) σ
  | _ => False
def kR (F : Option Nat → PH → Prop) (K : PO → PH → Prop) : PO → PH → Prop := fun o σ => match o with
  | .inl (some .null) => F none σ
  | .inl (some (.ref a)) => F (some a) σ
  | .inr k => K (.inr k) σ
  | _ => False
theorem kI_kN {F : Int32 → PH → Prop} (h : ∀ r σ', F r σ' → PW d M pc ls (.int r :: st) σ' K) : ∀ o σ', kI F K o σ' → kN d M pc ls st K o σ' := by
  intro o σ' ho
  match o, ho with
  | .inl (some (.int r)), ho => exact h r σ' ho
  | .inr k, ho => exact ho
theorem kV_kN {F : PH → Prop} (h : ∀ σ', F σ' → PW d M pc ls st σ' K) : ∀ o σ', kV F K o σ' → kN d M pc ls st K o σ' := by
  intro o σ' ho
  match o, ho with
  | .inl none, ho => exact h σ' ho
  | .inr k, ho => exact ho
theorem kR_kN {F : Option Nat → PH → Prop} (h : ∀ r σ', F r σ' → PW d M pc ls (va_rf r :: st) σ' K) : ∀ o σ', kR F K o σ' → kN d M pc ls st K o σ' := by
  intro o σ' ho
  match o, ho with
  | .inl (some .null), ho => exact h none σ' ho
  | .inl (some (.ref a)), ho => exact h (some a) σ' ho
  | .inr k, ho => exact ho
theorem pw_iincv {i : Nat} {n : Int} {x v : Int32} (hd : decode M.2.1 pc = .ok (.iinc i n, 3)) (hv : Int32.ofInt n = v) (hl : ls[i]? = some (.int x)) (hn : i < M.2.2.1) (h : PW d M (pc + 3) (ls.set i (.int (x + v))) st σ K) : PW d M pc ls st σ K := by
  subst hv
  exact pw_iinc hd hl hn h
/-- fewer locals are asked for -/
def dropL : List Value → List Value → Prop
  | [], [] => True
  | v :: vs, w :: ws => (w = v ∨ w = .retAddr 0) ∧ dropL vs ws
  | _, _ => False
theorem dropL.at : ∀ {ls ls' : List Value}, dropL ls ls' → ls'.length = ls.length ∧ ∀ (i : Nat) (v : Value), ls'[i]? = some v → (∀ n, v ≠ .retAddr n) → ls[i]? = some v
  | [], [], _ => ⟨rfl, fun i v h _ => h⟩
  | v :: vs, w :: ws, h => by
    obtain ⟨h1, h2⟩ := h
    obtain ⟨q1, q2⟩ := dropL.at h2
    refine ⟨by simp [q1], fun i x hx hr => ?_⟩
    cases i with
    | zero =>
      simp at hx
      subst hx
      rcases h1 with rfl | rfl
      · rfl
      · exact absurd rfl (hr 0)
    | succ i => simpa using q2 i x (by simpa using hx) hr
theorem PW.drop {ls' : List Value} (hd : dropL ls ls') (h : PW d M pc ls' st σ K) : PW d M pc ls st σ K := by
  intro G p l e R s m args below meth c H locs cells slots A c0 s0 hC hR hA hL h1 h2 h3 h4
  obtain ⟨q1, q2⟩ := hd.at
  exact h G p l e R s m args below meth c H locs cells slots A c0 s0 hC hR ⟨hA.1, hA.2.1, by rw [q1]; exact hA.2.2.1, fun i v hi hv => hA.2.2.2 i v (q2 i v hi hv) hv⟩ hL h1 h2 h3 h4
theorem pw_ldc_w {i : Nat} {v : Int32} (hd : decode M.2.1 pc = .ok (.ldc_w i, 3)) (hc : Cond.constant M.1.cls i v ∈ lw_tbl) (h : PW d M (pc + 3) ls (.int v :: st) σ K) : PW d M pc ls st σ K := by
  refine PW.ss ?_ h
  intro p l e R s m args below meth c H locs cells slots Q A hx hb ho ht hA kk
  intro T hT X
  obtain ⟨t, a, b⟩ := kk A hA T hT X
  refine ⟨t, ?_, b⟩
  obtain ⟨k, cf, bytes, hk, hcf, hcp, hbb⟩ := Cond.constant_spec ho (ht _ hc rfl args)
  obtain ⟨k', hk', he⟩ := X.warmed.alike.2.2 _ _ hk
  jvm_step X.here [hx, hb, hd, Op.ldc_w.sem, ldc.wp_int (s := T) (f := F0 m pc A st) X.here.top hk' (by rw [he]; exact hcf) hcp, hbb]
  exact a
theorem pw_mmin {i : Nat} {x y : Int32} (hd : decode M.2.1 pc = .ok (.invokestatic i, 3)) (hl : Cond.methodLink M.1.cls i Lib.Math.min.name ∈ lw_tbl) (hst : (st.map fun v => v.category).sum ≤ 8) (h : PW (d + 1) M (pc + 3) ls (.int (if y < x then y else x) :: st) σ K) : PW (d + 1) M pc ls (.int y :: .int x :: st) σ K := by
  intro G p l e R s m args below meth c H locs cells slots A c0 s0 hC hR hA hL h1 h2 h3 h4
  have hk := h G p l e R s m args below meth c H locs cells slots A c0 s0 hC hR hA hL h1 h2 h3 h4
  obtain ⟨hx, hb, hml, hret, hlocks, hnm, hfr, hlo, hTB, hKN, hmm, hex⟩ := hC
  have h5 := hR.2.2.2
  exact va_mmin hx hb (hml.trans hA.1.symm) (findClass_of_methodNamed hnm) (hTB _ hl rfl args) (hTB _ (List.mem_of_getElem? (i := 531) (by decide +kernel)) rfl args) (hTB _ (List.mem_of_getElem? (i := 82) (by decide +kernel)) rfl args) (hTB _ (List.mem_of_getElem? (i := 532) (by decide +kernel)) rfl args) (by omega) (by omega) (by omega) (by omega) hd hk
theorem pw_mmax {i : Nat} {x y : Int32} (hd : decode M.2.1 pc = .ok (.invokestatic i, 3)) (hl : Cond.methodLink M.1.cls i Lib.Math.max.name ∈ lw_tbl) (hst : (st.map fun v => v.category).sum ≤ 8) (h : PW (d + 1) M (pc + 3) ls (.int (if x < y then y else x) :: st) σ K) : PW (d + 1) M pc ls (.int y :: .int x :: st) σ K := by
  intro G p l e R s m args below meth c H locs cells slots A c0 s0 hC hR hA hL h1 h2 h3 h4
  have hk := h G p l e R s m args below meth c H locs cells slots A c0 s0 hC hR hA hL h1 h2 h3 h4
  obtain ⟨hx, hb, hml, hret, hlocks, hnm, hfr, hlo, hTB, hKN, hmm, hex⟩ := hC
  have h5 := hR.2.2.2
  exact va_mmax hx hb (hml.trans hA.1.symm) (findClass_of_methodNamed hnm) (hTB _ hl rfl args) (hTB _ (List.mem_of_getElem? (i := 804) (by decide +kernel)) rfl args) (hTB _ (List.mem_of_getElem? (i := 82) (by decide +kernel)) rfl args) (hTB _ (List.mem_of_getElem? (i := 805) (by decide +kernel)) rfl args) (by omega) (by omega) (by omega) (by omega) hd hk
end Glue
theorem ite_t {c : Prop} [Decidable c] {A B : Prop} (h : if c then A else B) (hc : c) : A := by rw [if_pos hc] at h; exact h
theorem ite_f {c : Prop} [Decidable c] {A B : Prop} (h : if c then A else B) (hc : ¬ c) : B := by rw [if_neg hc] at h; exact h
theorem cat_nil : ∀ w ∈ ([] : List Value), w.category = 1 := fun w hw => by cases hw
theorem cat_cons {v : Value} {vs : List Value} (h : v.category = 1) (hs : ∀ w ∈ vs, w.category = 1) : ∀ w ∈ v :: vs, w.category = 1 := fun w hw => by
  rcases List.mem_cons.mp hw with rfl | hw
  · exact h
  · exact hs w hw
/-- an unset local -/
abbrev uu : Value := .retAddr 0
end
section
/-! ===== printed: the methods by name, and what their calls ask ===== -/
def M_Desk_init : MI := (⟨"RelayDesk", "<init>", "()V"⟩, prog_1_method_1_code, 2, none, [])
theorem cq_Desk_init : CQ M_Desk_init 0 := ⟨Or.inl ⟨List.mem_of_getElem? (i := 89) (by decide +kernel), rfl⟩, List.mem_of_getElem? (i := 61) (by decide +kernel), ⟨by decide +kernel, by decide +kernel⟩, by decide +kernel, by decide +kernel, by decide, by decide⟩
def M_Desk_sign : MI := (⟨"RelayDesk", "sign", "(II)I"⟩, prog_1_method_2_code, 5, (some .int), [])
theorem cq_Desk_sign : CQ M_Desk_sign 2 := ⟨Or.inl ⟨List.mem_of_getElem? (i := 400) (by decide +kernel), rfl⟩, List.mem_of_getElem? (i := 61) (by decide +kernel), ⟨by decide +kernel, by decide +kernel⟩, by decide +kernel, by decide +kernel, by decide, by decide⟩
def M_Desk_receipt : MI := (⟨"RelayDesk", "receipt", "(I)I"⟩, prog_1_method_3_code, 2, (some .int), [])
theorem cq_Desk_receipt : CQ M_Desk_receipt 1 := ⟨Or.inl ⟨List.mem_of_getElem? (i := 693) (by decide +kernel), rfl⟩, List.mem_of_getElem? (i := 61) (by decide +kernel), ⟨by decide +kernel, by decide +kernel⟩, by decide +kernel, by decide +kernel, by decide, by decide⟩
def M_Desk_askFor : MI := (⟨"RelayDesk", "askFor", "(I)I"⟩, prog_1_method_4_code, 2, (some .int), [])
theorem cq_Desk_askFor : CQ M_Desk_askFor 1 := ⟨Or.inl ⟨List.mem_of_getElem? (i := 700) (by decide +kernel), rfl⟩, List.mem_of_getElem? (i := 61) (by decide +kernel), ⟨by decide +kernel, by decide +kernel⟩, by decide +kernel, by decide +kernel, by decide, by decide⟩
def M_Desk_route : MI := (⟨"RelayDesk", "route", "(III)V"⟩, prog_1_method_5_code, 6, none, [])
theorem cq_Desk_route : CQ M_Desk_route 3 := ⟨Or.inl ⟨List.mem_of_getElem? (i := 712) (by decide +kernel), rfl⟩, List.mem_of_getElem? (i := 61) (by decide +kernel), ⟨by decide +kernel, by decide +kernel⟩, by decide +kernel, by decide +kernel, by decide, by decide⟩
def M_Desk_group : MI := (⟨"RelayDesk", "group", "(II)I"⟩, prog_1_method_6_code, 4, (some .int), [])
theorem cq_Desk_group : CQ M_Desk_group 2 := ⟨Or.inl ⟨List.mem_of_getElem? (i := 745) (by decide +kernel), rfl⟩, List.mem_of_getElem? (i := 61) (by decide +kernel), ⟨by decide +kernel, by decide +kernel⟩, by decide +kernel, by decide +kernel, by decide, by decide⟩
def M_Desk_open : MI := (⟨"RelayDesk", "open", "(IZ)Z"⟩, prog_1_method_7_code, 5, (some .boolean), [])
theorem cq_Desk_open : CQ M_Desk_open 2 := ⟨Or.inl ⟨List.mem_of_getElem? (i := 765) (by decide +kernel), rfl⟩, List.mem_of_getElem? (i := 61) (by decide +kernel), ⟨by decide +kernel, by decide +kernel⟩, by decide +kernel, by decide +kernel, by decide, by decide⟩
def M_Desk_send : MI := (⟨"RelayDesk", "send", "(I)I"⟩, prog_1_method_8_code, 3, (some .int), [])
theorem cq_Desk_send : CQ M_Desk_send 1 := ⟨Or.inl ⟨List.mem_of_getElem? (i := 776) (by decide +kernel), rfl⟩, List.mem_of_getElem? (i := 61) (by decide +kernel), ⟨by decide +kernel, by decide +kernel⟩, by decide +kernel, by decide +kernel, by decide, by decide⟩
def M_Desk_rerun : MI := (⟨"RelayDesk", "rerun", "(II)Z"⟩, prog_1_method_9_code, 4, (some .boolean), [])
theorem cq_Desk_rerun : CQ M_Desk_rerun 2 := ⟨Or.inl ⟨List.mem_of_getElem? (i := 899) (by decide +kernel), rfl⟩, List.mem_of_getElem? (i := 61) (by decide +kernel), ⟨by decide +kernel, by decide +kernel⟩, by decide +kernel, by decide +kernel, by decide, by decide⟩
def M_Desk_queued : MI := (⟨"RelayDesk", "queued", "(II)I"⟩, prog_1_method_10_code, 5, (some .int), [])
theorem cq_Desk_queued : CQ M_Desk_queued 2 := ⟨Or.inl ⟨List.mem_of_getElem? (i := 910) (by decide +kernel), rfl⟩, List.mem_of_getElem? (i := 61) (by decide +kernel), ⟨by decide +kernel, by decide +kernel⟩, by decide +kernel, by decide +kernel, by decide, by decide⟩
def M_Desk_trace : MI := (⟨"RelayDesk", "trace", "(II)I"⟩, prog_1_method_11_code, 4, (some .int), [])
theorem cq_Desk_trace : CQ M_Desk_trace 2 := ⟨Or.inl ⟨List.mem_of_getElem? (i := 917) (by decide +kernel), rfl⟩, List.mem_of_getElem? (i := 61) (by decide +kernel), ⟨by decide +kernel, by decide +kernel⟩, by decide +kernel, by decide +kernel, by decide, by decide⟩
def M_Desk_reason : MI := (⟨"RelayDesk", "reason", "(I)I"⟩, prog_1_method_12_code, 2, (some .int), [])
theorem cq_Desk_reason : CQ M_Desk_reason 1 := ⟨Or.inl ⟨List.mem_of_getElem? (i := 924) (by decide +kernel), rfl⟩, List.mem_of_getElem? (i := 61) (by decide +kernel), ⟨by decide +kernel, by decide +kernel⟩, by decide +kernel, by decide +kernel, by decide, by decide⟩
def M_Desk_clerk : MI := (⟨"RelayDesk", "clerk", "(IC)V"⟩, prog_1_method_13_code, 4, none, [])
theorem cq_Desk_clerk : CQ M_Desk_clerk 2 := ⟨Or.inl ⟨List.mem_of_getElem? (i := 931) (by decide +kernel), rfl⟩, List.mem_of_getElem? (i := 61) (by decide +kernel), ⟨by decide +kernel, by decide +kernel⟩, by decide +kernel, by decide +kernel, by decide, by decide⟩
def M_Desk_resubmit : MI := (⟨"RelayDesk", "resubmit", "(I)I"⟩, prog_1_method_14_code, 4, (some .int), [])
theorem cq_Desk_resubmit : CQ M_Desk_resubmit 1 := ⟨Or.inl ⟨List.mem_of_getElem? (i := 940) (by decide +kernel), rfl⟩, List.mem_of_getElem? (i := 61) (by decide +kernel), ⟨by decide +kernel, by decide +kernel⟩, by decide +kernel, by decide +kernel, by decide, by decide⟩
def M_Desk_cut : MI := (⟨"RelayDesk", "cut", "()V"⟩, prog_1_method_15_code, 2, none, [])
theorem cq_Desk_cut : CQ M_Desk_cut 0 := ⟨Or.inl ⟨List.mem_of_getElem? (i := 364) (by decide +kernel), rfl⟩, List.mem_of_getElem? (i := 61) (by decide +kernel), ⟨by decide +kernel, by decide +kernel⟩, by decide +kernel, by decide +kernel, by decide, by decide⟩
def M_Desk_count : MI := (⟨"RelayDesk", "count", "(I)I"⟩, prog_1_method_16_code, 2, (some .int), [])
theorem cq_Desk_count : CQ M_Desk_count 1 := ⟨Or.inl ⟨List.mem_of_getElem? (i := 384) (by decide +kernel), rfl⟩, List.mem_of_getElem? (i := 61) (by decide +kernel), ⟨by decide +kernel, by decide +kernel⟩, by decide +kernel, by decide +kernel, by decide, by decide⟩
def M_Desk_needWithin : MI := (⟨"RelayDesk", "needWithin", "(III)V"⟩, prog_1_method_17_code, 3, none, [])
theorem cq_Desk_needWithin : CQ M_Desk_needWithin 3 := ⟨Or.inl ⟨List.mem_of_getElem? (i := 403) (by decide +kernel), rfl⟩, List.mem_of_getElem? (i := 61) (by decide +kernel), ⟨by decide +kernel, by decide +kernel⟩, by decide +kernel, by decide +kernel, by decide, by decide⟩
def M_Desk_handIn : MI := (⟨"RelayDesk", "handIn", "(LRelayDesk$Channel;)I"⟩, prog_1_method_18_code, 5, (some .int), [])
theorem cq_Desk_handIn : CQ M_Desk_handIn 1 := ⟨Or.inl ⟨List.mem_of_getElem? (i := 536) (by decide +kernel), rfl⟩, List.mem_of_getElem? (i := 61) (by decide +kernel), ⟨by decide +kernel, by decide +kernel⟩, by decide +kernel, by decide +kernel, by decide, by decide⟩
def M_Desk_fileIfAllLeadSomewhere : MI := (⟨"RelayDesk", "fileIfAllLeadSomewhere", "(LRelayDesk$Text;)I"⟩, prog_1_method_19_code, 3, (some .int), [])
theorem cq_Desk_fileIfAllLeadSomewhere : CQ M_Desk_fileIfAllLeadSomewhere 1 := ⟨Or.inl ⟨List.mem_of_getElem? (i := 944) (by decide +kernel), rfl⟩, List.mem_of_getElem? (i := 61) (by decide +kernel), ⟨by decide +kernel, by decide +kernel⟩, by decide +kernel, by decide +kernel, by decide, by decide⟩
def M_Desk_makeCase : MI := (⟨"RelayDesk", "makeCase", "(I)V"⟩, prog_1_method_20_code, 2, none, [])
theorem cq_Desk_makeCase : CQ M_Desk_makeCase 1 := ⟨Or.inl ⟨List.mem_of_getElem? (i := 599) (by decide +kernel), rfl⟩, List.mem_of_getElem? (i := 61) (by decide +kernel), ⟨by decide +kernel, by decide +kernel⟩, by decide +kernel, by decide +kernel, by decide, by decide⟩
def M_Desk_fileMessage : MI := (⟨"RelayDesk", "fileMessage", "(LRelayDesk$Text;I)V"⟩, prog_1_method_21_code, 6, none, [])
theorem cq_Desk_fileMessage : CQ M_Desk_fileMessage 2 := ⟨Or.inl ⟨List.mem_of_getElem? (i := 657) (by decide +kernel), rfl⟩, List.mem_of_getElem? (i := 61) (by decide +kernel), ⟨by decide +kernel, by decide +kernel⟩, by decide +kernel, by decide +kernel, by decide, by decide⟩
def M_Desk_channelOf : MI := (⟨"RelayDesk", "channelOf", "(LRelayDesk$Route;)I"⟩, prog_1_method_22_code, 2, (some .int), [])
theorem cq_Desk_channelOf : CQ M_Desk_channelOf 1 := ⟨Or.inl ⟨List.mem_of_getElem? (i := 681) (by decide +kernel), rfl⟩, List.mem_of_getElem? (i := 61) (by decide +kernel), ⟨by decide +kernel, by decide +kernel⟩, by decide +kernel, by decide +kernel, by decide, by decide⟩
def M_Desk_firstWaiting : MI := (⟨"RelayDesk", "firstWaiting", "(I)LRelayDesk$Message;"⟩, prog_1_method_23_code, 5, (some (.object "RelayDesk$Message")), [])
theorem cq_Desk_firstWaiting : CQ M_Desk_firstWaiting 1 := ⟨Or.inl ⟨List.mem_of_getElem? (i := 811) (by decide +kernel), rfl⟩, List.mem_of_getElem? (i := 61) (by decide +kernel), ⟨by decide +kernel, by decide +kernel⟩, by decide +kernel, by decide +kernel, by decide, by decide⟩
def M_Desk_casesNotClosed : MI := (⟨"RelayDesk", "casesNotClosed", "()I"⟩, prog_1_method_24_code, 3, (some .int), [])
theorem cq_Desk_casesNotClosed : CQ M_Desk_casesNotClosed 0 := ⟨Or.inl ⟨List.mem_of_getElem? (i := 388) (by decide +kernel), rfl⟩, List.mem_of_getElem? (i := 61) (by decide +kernel), ⟨by decide +kernel, by decide +kernel⟩, by decide +kernel, by decide +kernel, by decide, by decide⟩
def M_Mod_init : MI := (⟨"RelayDeskModel", "<init>", "()V"⟩, prog_14_method_1_code, 2, none, [])
theorem cq_Mod_init : CQ M_Mod_init 0 := ⟨Or.inl ⟨List.mem_of_getElem? (i := 950) (by decide +kernel), rfl⟩, List.mem_of_getElem? (i := 72) (by decide +kernel), ⟨by decide +kernel, by decide +kernel⟩, by decide +kernel, by decide +kernel, by decide, by decide⟩
def M_Mod_thrown : MI := (⟨"RelayDeskModel", "thrown", "()I"⟩, prog_14_method_2_code, 1, (some .int), [])
theorem cq_Mod_thrown : CQ M_Mod_thrown 0 := ⟨Or.inl ⟨List.mem_of_getElem? (i := 1123) (by decide +kernel), rfl⟩, List.mem_of_getElem? (i := 72) (by decide +kernel), ⟨by decide +kernel, by decide +kernel⟩, by decide +kernel, by decide +kernel, by decide, by decide⟩
def M_Mod_refused : MI := (⟨"RelayDeskModel", "refused", "(I)Z"⟩, prog_14_method_3_code, 2, (some .boolean), [])
theorem cq_Mod_refused : CQ M_Mod_refused 1 := ⟨Or.inl ⟨List.mem_of_getElem? (i := 1137) (by decide +kernel), rfl⟩, List.mem_of_getElem? (i := 72) (by decide +kernel), ⟨by decide +kernel, by decide +kernel⟩, by decide +kernel, by decide +kernel, by decide, by decide⟩
def M_Mod_isIn : MI := (⟨"RelayDeskModel", "isIn", "(III)Z"⟩, prog_14_method_4_code, 3, (some .boolean), [])
theorem cq_Mod_isIn : CQ M_Mod_isIn 3 := ⟨Or.inl ⟨List.mem_of_getElem? (i := 1133) (by decide +kernel), rfl⟩, List.mem_of_getElem? (i := 72) (by decide +kernel), ⟨by decide +kernel, by decide +kernel⟩, by decide +kernel, by decide +kernel, by decide, by decide⟩
def M_Mod_isChannel : MI := (⟨"RelayDeskModel", "isChannel", "(I)Z"⟩, prog_14_method_5_code, 1, (some .boolean), [])
theorem cq_Mod_isChannel : CQ M_Mod_isChannel 1 := ⟨Or.inl ⟨List.mem_of_getElem? (i := 1130) (by decide +kernel), rfl⟩, List.mem_of_getElem? (i := 72) (by decide +kernel), ⟨by decide +kernel, by decide +kernel⟩, by decide +kernel, by decide +kernel, by decide, by decide⟩
def M_Mod_figure : MI := (⟨"RelayDeskModel", "figure", "(I)C"⟩, prog_14_method_6_code, 1, (some .char), [])
theorem cq_Mod_figure : CQ M_Mod_figure 1 := ⟨Or.inl ⟨List.mem_of_getElem? (i := 1144) (by decide +kernel), rfl⟩, List.mem_of_getElem? (i := 72) (by decide +kernel), ⟨by decide +kernel, by decide +kernel⟩, by decide +kernel, by decide +kernel, by decide, by decide⟩
def M_Mod_figureOf : MI := (⟨"RelayDeskModel", "figureOf", "(C)I"⟩, prog_14_method_7_code, 3, (some .int), [])
theorem cq_Mod_figureOf : CQ M_Mod_figureOf 1 := ⟨Or.inl ⟨List.mem_of_getElem? (i := 1304) (by decide +kernel), rfl⟩, List.mem_of_getElem? (i := 72) (by decide +kernel), ⟨by decide +kernel, by decide +kernel⟩, by decide +kernel, by decide +kernel, by decide, by decide⟩
def M_Mod_isLetter : MI := (⟨"RelayDeskModel", "isLetter", "(C)Z"⟩, prog_14_method_8_code, 1, (some .boolean), [])
theorem cq_Mod_isLetter : CQ M_Mod_isLetter 1 := ⟨Or.inl ⟨List.mem_of_getElem? (i := 1186) (by decide +kernel), rfl⟩, List.mem_of_getElem? (i := 72) (by decide +kernel), ⟨by decide +kernel, by decide +kernel⟩, by decide +kernel, by decide +kernel, by decide, by decide⟩
def M_Mod_isDigit : MI := (⟨"RelayDeskModel", "isDigit", "(C)Z"⟩, prog_14_method_9_code, 1, (some .boolean), [])
theorem cq_Mod_isDigit : CQ M_Mod_isDigit 1 := ⟨Or.inl ⟨List.mem_of_getElem? (i := 1179) (by decide +kernel), rfl⟩, List.mem_of_getElem? (i := 72) (by decide +kernel), ⟨by decide +kernel, by decide +kernel⟩, by decide +kernel, by decide +kernel, by decide, by decide⟩
def M_Mod_isCharacter : MI := (⟨"RelayDeskModel", "isCharacter", "(C)Z"⟩, prog_14_method_10_code, 1, (some .boolean), [])
theorem cq_Mod_isCharacter : CQ M_Mod_isCharacter 1 := ⟨Or.inl ⟨List.mem_of_getElem? (i := 1335) (by decide +kernel), rfl⟩, List.mem_of_getElem? (i := 72) (by decide +kernel), ⟨by decide +kernel, by decide +kernel⟩, by decide +kernel, by decide +kernel, by decide, by decide⟩
def M_Mod_gather : MI := (⟨"RelayDeskModel", "gather", "(IC)V"⟩, prog_14_method_11_code, 3, none, [])
theorem cq_Mod_gather : CQ M_Mod_gather 2 := ⟨Or.inl ⟨List.mem_of_getElem? (i := 1141) (by decide +kernel), rfl⟩, List.mem_of_getElem? (i := 72) (by decide +kernel), ⟨by decide +kernel, by decide +kernel⟩, by decide +kernel, by decide +kernel, by decide, by decide⟩
def M_Mod_atEnd : MI := (⟨"RelayDeskModel", "atEnd", "(II)C"⟩, prog_14_method_12_code, 3, (some .char), [])
theorem cq_Mod_atEnd : CQ M_Mod_atEnd 2 := ⟨Or.inl ⟨List.mem_of_getElem? (i := 1152) (by decide +kernel), rfl⟩, List.mem_of_getElem? (i := 72) (by decide +kernel), ⟨by decide +kernel, by decide +kernel⟩, by decide +kernel, by decide +kernel, by decide, by decide⟩
def M_Mod_isEnd : MI := (⟨"RelayDeskModel", "isEnd", "(I)Z"⟩, prog_14_method_13_code, 4, (some .boolean), [])
theorem cq_Mod_isEnd : CQ M_Mod_isEnd 1 := ⟨Or.inl ⟨List.mem_of_getElem? (i := 1148) (by decide +kernel), rfl⟩, List.mem_of_getElem? (i := 72) (by decide +kernel), ⟨by decide +kernel, by decide +kernel⟩, by decide +kernel, by decide +kernel, by decide, by decide⟩
def M_Mod_forget : MI := (⟨"RelayDeskModel", "forget", "(I)V"⟩, prog_14_method_14_code, 2, none, [])
theorem cq_Mod_forget : CQ M_Mod_forget 1 := ⟨Or.inl ⟨List.mem_of_getElem? (i := 1156) (by decide +kernel), rfl⟩, List.mem_of_getElem? (i := 72) (by decide +kernel), ⟨by decide +kernel, by decide +kernel⟩, by decide +kernel, by decide +kernel, by decide, by decide⟩
def M_Mod_sign : MI := (⟨"RelayDeskModel", "sign", "(II)I"⟩, prog_14_method_15_code, 5, (some .int), [])
theorem cq_Mod_sign : CQ M_Mod_sign 2 := ⟨Or.inl ⟨List.mem_of_getElem? (i := 1127) (by decide +kernel), rfl⟩, List.mem_of_getElem? (i := 72) (by decide +kernel), ⟨by decide +kernel, by decide +kernel⟩, by decide +kernel, by decide +kernel, by decide, by decide⟩
def M_Mod_part : MI := (⟨"RelayDeskModel", "part", "()V"⟩, prog_14_method_16_code, 2, none, [])
theorem cq_Mod_part : CQ M_Mod_part 0 := ⟨Or.inl ⟨List.mem_of_getElem? (i := 1168) (by decide +kernel), rfl⟩, List.mem_of_getElem? (i := 72) (by decide +kernel), ⟨by decide +kernel, by decide +kernel⟩, by decide +kernel, by decide +kernel, by decide, by decide⟩
def M_Mod_letter : MI := (⟨"RelayDeskModel", "letter", "(II)C"⟩, prog_14_method_17_code, 3, (some .char), [])
theorem cq_Mod_letter : CQ M_Mod_letter 2 := ⟨Or.inl ⟨List.mem_of_getElem? (i := 1176) (by decide +kernel), rfl⟩, List.mem_of_getElem? (i := 72) (by decide +kernel), ⟨by decide +kernel, by decide +kernel⟩, by decide +kernel, by decide +kernel, by decide, by decide⟩
def M_Mod_numberWord : MI := (⟨"RelayDeskModel", "numberWord", "()I"⟩, prog_14_method_18_code, 3, (some .int), [])
theorem cq_Mod_numberWord : CQ M_Mod_numberWord 0 := ⟨Or.inl ⟨List.mem_of_getElem? (i := 1172) (by decide +kernel), rfl⟩, List.mem_of_getElem? (i := 72) (by decide +kernel), ⟨by decide +kernel, by decide +kernel⟩, by decide +kernel, by decide +kernel, by decide, by decide⟩
def M_Mod_isIndicator : MI := (⟨"RelayDeskModel", "isIndicator", "(I)Z"⟩, prog_14_method_19_code, 4, (some .boolean), [])
theorem cq_Mod_isIndicator : CQ M_Mod_isIndicator 1 := ⟨Or.inl ⟨List.mem_of_getElem? (i := 1183) (by decide +kernel), rfl⟩, List.mem_of_getElem? (i := 72) (by decide +kernel), ⟨by decide +kernel, by decide +kernel⟩, by decide +kernel, by decide +kernel, by decide, by decide⟩
def M_Mod_indicatorOf : MI := (⟨"RelayDeskModel", "indicatorOf", "(I)I"⟩, prog_14_method_20_code, 4, (some .int), [])
theorem cq_Mod_indicatorOf : CQ M_Mod_indicatorOf 1 := ⟨Or.inl ⟨List.mem_of_getElem? (i := 1221) (by decide +kernel), rfl⟩, List.mem_of_getElem? (i := 72) (by decide +kernel), ⟨by decide +kernel, by decide +kernel⟩, by decide +kernel, by decide +kernel, by decide, by decide⟩
def M_Mod_faultOfText : MI := (⟨"RelayDeskModel", "faultOfText", "()I"⟩, prog_14_method_21_code, 5, (some .int), [])
theorem cq_Mod_faultOfText : CQ M_Mod_faultOfText 0 := ⟨Or.inl ⟨List.mem_of_getElem? (i := 1164) (by decide +kernel), rfl⟩, List.mem_of_getElem? (i := 72) (by decide +kernel), ⟨by decide +kernel, by decide +kernel⟩, by decide +kernel, by decide +kernel, by decide, by decide⟩
def M_Mod_missingAt : MI := (⟨"RelayDeskModel", "missingAt", "(II)I"⟩, prog_14_method_22_code, 5, (some .int), [])
theorem cq_Mod_missingAt : CQ M_Mod_missingAt 2 := ⟨Or.inl ⟨List.mem_of_getElem? (i := 1205) (by decide +kernel), rfl⟩, List.mem_of_getElem? (i := 72) (by decide +kernel), ⟨by decide +kernel, by decide +kernel⟩, by decide +kernel, by decide +kernel, by decide, by decide⟩
def M_Mod_after : MI := (⟨"RelayDeskModel", "after", "(I)I"⟩, prog_14_method_23_code, 1, (some .int), [])
theorem cq_Mod_after : CQ M_Mod_after 1 := ⟨Or.inl ⟨List.mem_of_getElem? (i := 1201) (by decide +kernel), rfl⟩, List.mem_of_getElem? (i := 72) (by decide +kernel), ⟨by decide +kernel, by decide +kernel⟩, by decide +kernel, by decide +kernel, by decide, by decide⟩
def M_Mod_count3 : MI := (⟨"RelayDeskModel", "count", "(III)I"⟩, prog_14_method_24_code, 6, (some .int), [])
theorem cq_Mod_count3 : CQ M_Mod_count3 3 := ⟨Or.inl ⟨List.mem_of_getElem? (i := 1198) (by decide +kernel), rfl⟩, List.mem_of_getElem? (i := 72) (by decide +kernel), ⟨by decide +kernel, by decide +kernel⟩, by decide +kernel, by decide +kernel, by decide, by decide⟩
def M_Mod_isDue : MI := (⟨"RelayDeskModel", "isDue", "(II)Z"⟩, prog_14_method_25_code, 4, (some .boolean), [])
theorem cq_Mod_isDue : CQ M_Mod_isDue 2 := ⟨Or.inl ⟨List.mem_of_getElem? (i := 1194) (by decide +kernel), rfl⟩, List.mem_of_getElem? (i := 72) (by decide +kernel), ⟨by decide +kernel, by decide +kernel⟩, by decide +kernel, by decide +kernel, by decide, by decide⟩
def M_Mod_take : MI := (⟨"RelayDeskModel", "take", "(II)V"⟩, prog_14_method_26_code, 4, none, [])
theorem cq_Mod_take : CQ M_Mod_take 2 := ⟨Or.inl ⟨List.mem_of_getElem? (i := 1209) (by decide +kernel), rfl⟩, List.mem_of_getElem? (i := 72) (by decide +kernel), ⟨by decide +kernel, by decide +kernel⟩, by decide +kernel, by decide +kernel, by decide, by decide⟩
def M_Mod_missingAt2 : MI := (⟨"RelayDeskModel", "missingAt2", "(II)I"⟩, prog_14_method_27_code, 4, (some .int), [])
theorem cq_Mod_missingAt2 : CQ M_Mod_missingAt2 2 := ⟨Or.inl ⟨List.mem_of_getElem? (i := 1213) (by decide +kernel), rfl⟩, List.mem_of_getElem? (i := 72) (by decide +kernel), ⟨by decide +kernel, by decide +kernel⟩, by decide +kernel, by decide +kernel, by decide, by decide⟩
def M_Mod_addCase : MI := (⟨"RelayDeskModel", "addCase", "(I)V"⟩, prog_14_method_28_code, 2, none, [])
theorem cq_Mod_addCase : CQ M_Mod_addCase 1 := ⟨Or.inl ⟨List.mem_of_getElem? (i := 1190) (by decide +kernel), rfl⟩, List.mem_of_getElem? (i := 72) (by decide +kernel), ⟨by decide +kernel, by decide +kernel⟩, by decide +kernel, by decide +kernel, by decide, by decide⟩
def M_Mod_finish : MI := (⟨"RelayDeskModel", "finish", "(I)I"⟩, prog_14_method_29_code, 3, (some .int), [])
theorem cq_Mod_finish : CQ M_Mod_finish 1 := ⟨Or.inl ⟨List.mem_of_getElem? (i := 1160) (by decide +kernel), rfl⟩, List.mem_of_getElem? (i := 72) (by decide +kernel), ⟨by decide +kernel, by decide +kernel⟩, by decide +kernel, by decide +kernel, by decide, by decide⟩
def M_Mod_receipt : MI := (⟨"RelayDeskModel", "receipt", "(I)I"⟩, prog_14_method_30_code, 2, (some .int), [])
theorem cq_Mod_receipt : CQ M_Mod_receipt 1 := ⟨Or.inl ⟨List.mem_of_getElem? (i := 1241) (by decide +kernel), rfl⟩, List.mem_of_getElem? (i := 72) (by decide +kernel), ⟨by decide +kernel, by decide +kernel⟩, by decide +kernel, by decide +kernel, by decide, by decide⟩
def M_Mod_askFor : MI := (⟨"RelayDeskModel", "askFor", "(I)I"⟩, prog_14_method_31_code, 2, (some .int), [])
theorem cq_Mod_askFor : CQ M_Mod_askFor 1 := ⟨Or.inl ⟨List.mem_of_getElem? (i := 1245) (by decide +kernel), rfl⟩, List.mem_of_getElem? (i := 72) (by decide +kernel), ⟨by decide +kernel, by decide +kernel⟩, by decide +kernel, by decide +kernel, by decide, by decide⟩
def M_Mod_routeAt : MI := (⟨"RelayDeskModel", "routeAt", "(I)I"⟩, prog_14_method_32_code, 4, (some .int), [])
theorem cq_Mod_routeAt : CQ M_Mod_routeAt 1 := ⟨Or.inl ⟨List.mem_of_getElem? (i := 1229) (by decide +kernel), rfl⟩, List.mem_of_getElem? (i := 72) (by decide +kernel), ⟨by decide +kernel, by decide +kernel⟩, by decide +kernel, by decide +kernel, by decide, by decide⟩
def M_Mod_isCode : MI := (⟨"RelayDeskModel", "isCode", "(I)Z"⟩, prog_14_method_33_code, 1, (some .boolean), [])
theorem cq_Mod_isCode : CQ M_Mod_isCode 1 := ⟨Or.inl ⟨List.mem_of_getElem? (i := 1252) (by decide +kernel), rfl⟩, List.mem_of_getElem? (i := 72) (by decide +kernel), ⟨by decide +kernel, by decide +kernel⟩, by decide +kernel, by decide +kernel, by decide, by decide⟩
def M_Mod_addRoute : MI := (⟨"RelayDeskModel", "addRoute", "(II)I"⟩, prog_14_method_34_code, 3, (some .int), [])
theorem cq_Mod_addRoute : CQ M_Mod_addRoute 2 := ⟨Or.inl ⟨List.mem_of_getElem? (i := 1257) (by decide +kernel), rfl⟩, List.mem_of_getElem? (i := 72) (by decide +kernel), ⟨by decide +kernel, by decide +kernel⟩, by decide +kernel, by decide +kernel, by decide, by decide⟩
def M_Mod_route : MI := (⟨"RelayDeskModel", "route", "(III)V"⟩, prog_14_method_35_code, 6, none, [])
theorem cq_Mod_route : CQ M_Mod_route 3 := ⟨Or.inl ⟨List.mem_of_getElem? (i := 1249) (by decide +kernel), rfl⟩, List.mem_of_getElem? (i := 72) (by decide +kernel), ⟨by decide +kernel, by decide +kernel⟩, by decide +kernel, by decide +kernel, by decide, by decide⟩
def M_Mod_leads : MI := (⟨"RelayDeskModel", "leads", "(II)Z"⟩, prog_14_method_36_code, 9, (some .boolean), [])
theorem cq_Mod_leads : CQ M_Mod_leads 2 := ⟨Or.inl ⟨List.mem_of_getElem? (i := 1269) (by decide +kernel), rfl⟩, List.mem_of_getElem? (i := 72) (by decide +kernel), ⟨by decide +kernel, by decide +kernel⟩, by decide +kernel, by decide +kernel, by decide, by decide⟩
def M_Mod_hasMember : MI := (⟨"RelayDeskModel", "hasMember", "(II)Z"⟩, prog_14_method_37_code, 5, (some .boolean), [])
theorem cq_Mod_hasMember : CQ M_Mod_hasMember 2 := ⟨Or.inl ⟨List.mem_of_getElem? (i := 1265) (by decide +kernel), rfl⟩, List.mem_of_getElem? (i := 72) (by decide +kernel), ⟨by decide +kernel, by decide +kernel⟩, by decide +kernel, by decide +kernel, by decide, by decide⟩
def M_Mod_group : MI := (⟨"RelayDeskModel", "group", "(II)I"⟩, prog_14_method_38_code, 5, (some .int), [])
theorem cq_Mod_group : CQ M_Mod_group 2 := ⟨Or.inl ⟨List.mem_of_getElem? (i := 1261) (by decide +kernel), rfl⟩, List.mem_of_getElem? (i := 72) (by decide +kernel), ⟨by decide +kernel, by decide +kernel⟩, by decide +kernel, by decide +kernel, by decide, by decide⟩
def M_Mod_reach : MI := (⟨"RelayDeskModel", "reach", "(II)V"⟩, prog_14_method_39_code, 4, none, [])
theorem cq_Mod_reach : CQ M_Mod_reach 2 := ⟨Or.inl ⟨List.mem_of_getElem? (i := 1233) (by decide +kernel), rfl⟩, List.mem_of_getElem? (i := 72) (by decide +kernel), ⟨by decide +kernel, by decide +kernel⟩, by decide +kernel, by decide +kernel, by decide, by decide⟩
def M_Mod_look : MI := (⟨"RelayDeskModel", "look", "()V"⟩, prog_14_method_40_code, 2, none, [])
theorem cq_Mod_look : CQ M_Mod_look 0 := ⟨Or.inl ⟨List.mem_of_getElem? (i := 1217) (by decide +kernel), rfl⟩, List.mem_of_getElem? (i := 72) (by decide +kernel), ⟨by decide +kernel, by decide +kernel⟩, by decide +kernel, by decide +kernel, by decide, by decide⟩
def M_Mod_lookFrom : MI := (⟨"RelayDeskModel", "lookFrom", "(I)V"⟩, prog_14_method_41_code, 6, none, [])
theorem cq_Mod_lookFrom : CQ M_Mod_lookFrom 1 := ⟨Or.inl ⟨List.mem_of_getElem? (i := 1225) (by decide +kernel), rfl⟩, List.mem_of_getElem? (i := 72) (by decide +kernel), ⟨by decide +kernel, by decide +kernel⟩, by decide +kernel, by decide +kernel, by decide, by decide⟩
def M_Mod_addMessage : MI := (⟨"RelayDeskModel", "addMessage", "()V"⟩, prog_14_method_42_code, 3, none, [])
theorem cq_Mod_addMessage : CQ M_Mod_addMessage 0 := ⟨Or.inl ⟨List.mem_of_getElem? (i := 1237) (by decide +kernel), rfl⟩, List.mem_of_getElem? (i := 72) (by decide +kernel), ⟨by decide +kernel, by decide +kernel⟩, by decide +kernel, by decide +kernel, by decide, by decide⟩
def M_Mod_open : MI := (⟨"RelayDeskModel", "open", "(IZ)Z"⟩, prog_14_method_43_code, 4, (some .boolean), [])
theorem cq_Mod_open : CQ M_Mod_open 2 := ⟨Or.inl ⟨List.mem_of_getElem? (i := 1273) (by decide +kernel), rfl⟩, List.mem_of_getElem? (i := 72) (by decide +kernel), ⟨by decide +kernel, by decide +kernel⟩, by decide +kernel, by decide +kernel, by decide, by decide⟩
def M_Mod_put : MI := (⟨"RelayDeskModel", "put", "(C)V"⟩, prog_14_method_44_code, 2, none, [])
theorem cq_Mod_put : CQ M_Mod_put 1 := ⟨Or.inl ⟨List.mem_of_getElem? (i := 1293) (by decide +kernel), rfl⟩, List.mem_of_getElem? (i := 72) (by decide +kernel), ⟨by decide +kernel, by decide +kernel⟩, by decide +kernel, by decide +kernel, by decide, by decide⟩
def M_Mod_putDigits : MI := (⟨"RelayDeskModel", "putDigits", "(I)V"⟩, prog_14_method_45_code, 2, none, [])
theorem cq_Mod_putDigits : CQ M_Mod_putDigits 1 := ⟨Or.inl ⟨List.mem_of_getElem? (i := 1289) (by decide +kernel), rfl⟩, List.mem_of_getElem? (i := 72) (by decide +kernel), ⟨by decide +kernel, by decide +kernel⟩, by decide +kernel, by decide +kernel, by decide, by decide⟩
def M_Mod_write : MI := (⟨"RelayDeskModel", "write", "(I)V"⟩, prog_14_method_46_code, 5, none, [])
theorem cq_Mod_write : CQ M_Mod_write 1 := ⟨Or.inl ⟨List.mem_of_getElem? (i := 1285) (by decide +kernel), rfl⟩, List.mem_of_getElem? (i := 72) (by decide +kernel), ⟨by decide +kernel, by decide +kernel⟩, by decide +kernel, by decide +kernel, by decide, by decide⟩
def M_Mod_addSign : MI := (⟨"RelayDeskModel", "addSign", "(I)V"⟩, prog_14_method_47_code, 2, none, [])
theorem cq_Mod_addSign : CQ M_Mod_addSign 1 := ⟨Or.inl ⟨List.mem_of_getElem? (i := 1301) (by decide +kernel), rfl⟩, List.mem_of_getElem? (i := 72) (by decide +kernel), ⟨by decide +kernel, by decide +kernel⟩, by decide +kernel, by decide +kernel, by decide, by decide⟩
def M_Mod_toSigns : MI := (⟨"RelayDeskModel", "toSigns", "()V"⟩, prog_14_method_48_code, 5, none, [])
theorem cq_Mod_toSigns : CQ M_Mod_toSigns 0 := ⟨Or.inl ⟨List.mem_of_getElem? (i := 1297) (by decide +kernel), rfl⟩, List.mem_of_getElem? (i := 72) (by decide +kernel), ⟨by decide +kernel, by decide +kernel⟩, by decide +kernel, by decide +kernel, by decide, by decide⟩
def M_Mod_pick : MI := (⟨"RelayDeskModel", "pick", "(I)V"⟩, prog_14_method_49_code, 5, none, [])
theorem cq_Mod_pick : CQ M_Mod_pick 1 := ⟨Or.inl ⟨List.mem_of_getElem? (i := 1281) (by decide +kernel), rfl⟩, List.mem_of_getElem? (i := 72) (by decide +kernel), ⟨by decide +kernel, by decide +kernel⟩, by decide +kernel, by decide +kernel, by decide, by decide⟩
def M_Mod_sent : MI := (⟨"RelayDeskModel", "sent", "(I)V"⟩, prog_14_method_50_code, 5, none, [])
theorem cq_Mod_sent : CQ M_Mod_sent 1 := ⟨Or.inl ⟨List.mem_of_getElem? (i := 1308) (by decide +kernel), rfl⟩, List.mem_of_getElem? (i := 72) (by decide +kernel), ⟨by decide +kernel, by decide +kernel⟩, by decide +kernel, by decide +kernel, by decide, by decide⟩
def M_Mod_send : MI := (⟨"RelayDeskModel", "send", "(I)I"⟩, prog_14_method_51_code, 3, (some .int), [])
theorem cq_Mod_send : CQ M_Mod_send 1 := ⟨Or.inl ⟨List.mem_of_getElem? (i := 1277) (by decide +kernel), rfl⟩, List.mem_of_getElem? (i := 72) (by decide +kernel), ⟨by decide +kernel, by decide +kernel⟩, by decide +kernel, by decide +kernel, by decide, by decide⟩
def M_Mod_rerun : MI := (⟨"RelayDeskModel", "rerun", "(II)Z"⟩, prog_14_method_52_code, 6, (some .boolean), [])
theorem cq_Mod_rerun : CQ M_Mod_rerun 2 := ⟨Or.inl ⟨List.mem_of_getElem? (i := 1312) (by decide +kernel), rfl⟩, List.mem_of_getElem? (i := 72) (by decide +kernel), ⟨by decide +kernel, by decide +kernel⟩, by decide +kernel, by decide +kernel, by decide, by decide⟩
def M_Mod_queued : MI := (⟨"RelayDeskModel", "queued", "(II)I"⟩, prog_14_method_53_code, 5, (some .int), [])
theorem cq_Mod_queued : CQ M_Mod_queued 2 := ⟨Or.inl ⟨List.mem_of_getElem? (i := 1316) (by decide +kernel), rfl⟩, List.mem_of_getElem? (i := 72) (by decide +kernel), ⟨by decide +kernel, by decide +kernel⟩, by decide +kernel, by decide +kernel, by decide, by decide⟩
def M_Mod_trace : MI := (⟨"RelayDeskModel", "trace", "(II)I"⟩, prog_14_method_54_code, 4, (some .int), [])
theorem cq_Mod_trace : CQ M_Mod_trace 2 := ⟨Or.inl ⟨List.mem_of_getElem? (i := 1320) (by decide +kernel), rfl⟩, List.mem_of_getElem? (i := 72) (by decide +kernel), ⟨by decide +kernel, by decide +kernel⟩, by decide +kernel, by decide +kernel, by decide, by decide⟩
def M_Mod_isCase : MI := (⟨"RelayDeskModel", "isCase", "(I)Z"⟩, prog_14_method_55_code, 2, (some .boolean), [])
theorem cq_Mod_isCase : CQ M_Mod_isCase 1 := ⟨Or.inl ⟨List.mem_of_getElem? (i := 1328) (by decide +kernel), rfl⟩, List.mem_of_getElem? (i := 72) (by decide +kernel), ⟨by decide +kernel, by decide +kernel⟩, by decide +kernel, by decide +kernel, by decide, by decide⟩
def M_Mod_reason : MI := (⟨"RelayDeskModel", "reason", "(I)I"⟩, prog_14_method_56_code, 2, (some .int), [])
theorem cq_Mod_reason : CQ M_Mod_reason 1 := ⟨Or.inl ⟨List.mem_of_getElem? (i := 1324) (by decide +kernel), rfl⟩, List.mem_of_getElem? (i := 72) (by decide +kernel), ⟨by decide +kernel, by decide +kernel⟩, by decide +kernel, by decide +kernel, by decide, by decide⟩
def M_Mod_clerk : MI := (⟨"RelayDeskModel", "clerk", "(IC)V"⟩, prog_14_method_57_code, 4, none, [])
theorem cq_Mod_clerk : CQ M_Mod_clerk 2 := ⟨Or.inl ⟨List.mem_of_getElem? (i := 1332) (by decide +kernel), rfl⟩, List.mem_of_getElem? (i := 72) (by decide +kernel), ⟨by decide +kernel, by decide +kernel⟩, by decide +kernel, by decide +kernel, by decide, by decide⟩
def M_Mod_resubmit : MI := (⟨"RelayDeskModel", "resubmit", "(I)I"⟩, prog_14_method_58_code, 3, (some .int), [])
theorem cq_Mod_resubmit : CQ M_Mod_resubmit 1 := ⟨Or.inl ⟨List.mem_of_getElem? (i := 1339) (by decide +kernel), rfl⟩, List.mem_of_getElem? (i := 72) (by decide +kernel), ⟨by decide +kernel, by decide +kernel⟩, by decide +kernel, by decide +kernel, by decide, by decide⟩
def M_Mod_cut : MI := (⟨"RelayDeskModel", "cut", "()V"⟩, prog_14_method_59_code, 2, none, [])
theorem cq_Mod_cut : CQ M_Mod_cut 0 := ⟨Or.inl ⟨List.mem_of_getElem? (i := 1343) (by decide +kernel), rfl⟩, List.mem_of_getElem? (i := 72) (by decide +kernel), ⟨by decide +kernel, by decide +kernel⟩, by decide +kernel, by decide +kernel, by decide, by decide⟩
def M_Mod_count : MI := (⟨"RelayDeskModel", "count", "(I)I"⟩, prog_14_method_60_code, 4, (some .int), [])
theorem cq_Mod_count : CQ M_Mod_count 1 := ⟨Or.inl ⟨List.mem_of_getElem? (i := 1347) (by decide +kernel), rfl⟩, List.mem_of_getElem? (i := 72) (by decide +kernel), ⟨by decide +kernel, by decide +kernel⟩, by decide +kernel, by decide +kernel, by decide, by decide⟩
def M_Case_init : MI := (⟨"RelayDesk$Case", "<init>", "()V"⟩, prog_2_method_1_code, 1, none, [])
theorem cq_Case_init : CQ M_Case_init 0 := ⟨Or.inl ⟨List.mem_of_getElem? (i := 326) (by decide +kernel), rfl⟩, List.mem_of_getElem? (i := 71) (by decide +kernel), ⟨by decide +kernel, by decide +kernel⟩, by decide +kernel, by decide +kernel, by decide, by decide⟩
def M_Case_isClosed : MI := (⟨"RelayDesk$Case", "isClosed", "()Z"⟩, prog_2_method_2_code, 1, (some .boolean), [])
theorem cq_Case_isClosed : CQ M_Case_isClosed 0 := ⟨Or.inl ⟨List.mem_of_getElem? (i := 392) (by decide +kernel), rfl⟩, List.mem_of_getElem? (i := 71) (by decide +kernel), ⟨by decide +kernel, by decide +kernel⟩, by decide +kernel, by decide +kernel, by decide, by decide⟩
def M_Channel_init : MI := (⟨"RelayDesk$Channel", "<init>", "(I)V"⟩, prog_3_method_1_code, 2, none, [])
theorem cq_Channel_init : CQ M_Channel_init 1 := ⟨Or.inl ⟨List.mem_of_getElem? (i := 178) (by decide +kernel), rfl⟩, List.mem_of_getElem? (i := 65) (by decide +kernel), ⟨by decide +kernel, by decide +kernel⟩, by decide +kernel, by decide +kernel, by decide, by decide⟩
def M_Channel_loseWhatIsUnderWay : MI := (⟨"RelayDesk$Channel", "loseWhatIsUnderWay", "()V"⟩, prog_3_method_2_code, 1, none, [])
theorem cq_Channel_loseWhatIsUnderWay : CQ M_Channel_loseWhatIsUnderWay 0 := ⟨Or.inl ⟨List.mem_of_getElem? (i := 368) (by decide +kernel), rfl⟩, List.mem_of_getElem? (i := 65) (by decide +kernel), ⟨by decide +kernel, by decide +kernel⟩, by decide +kernel, by decide +kernel, by decide, by decide⟩
def M_Header_init : MI := (⟨"RelayDesk$Header", "<init>", "()V"⟩, prog_4_method_1_code, 1, none, [])
theorem cq_Header_init : CQ M_Header_init 0 := ⟨Or.inl ⟨List.mem_of_getElem? (i := 145) (by decide +kernel), rfl⟩, List.mem_of_getElem? (i := 64) (by decide +kernel), ⟨by decide +kernel, by decide +kernel⟩, by decide +kernel, by decide +kernel, by decide, by decide⟩
def M_Header_faultIn : MI := (⟨"RelayDesk$Header", "faultIn", "(LRelayDesk$Text;Z)I"⟩, prog_4_method_2_code, 4, (some .int), [])
theorem cq_Header_faultIn : CQ M_Header_faultIn 2 := ⟨Or.inl ⟨List.mem_of_getElem? (i := 553) (by decide +kernel), rfl⟩, List.mem_of_getElem? (i := 64) (by decide +kernel), ⟨by decide +kernel, by decide +kernel⟩, by decide +kernel, by decide +kernel, by decide, by decide⟩
def M_Header_bodyStart : MI := (⟨"RelayDesk$Header", "bodyStart", "()I"⟩, prog_4_method_3_code, 1, (some .int), [])
theorem cq_Header_bodyStart : CQ M_Header_bodyStart 0 := ⟨Or.inl ⟨List.mem_of_getElem? (i := 666) (by decide +kernel), rfl⟩, List.mem_of_getElem? (i := 64) (by decide +kernel), ⟨by decide +kernel, by decide +kernel⟩, by decide +kernel, by decide +kernel, by decide, by decide⟩
def M_Header_hasNextWord : MI := (⟨"RelayDesk$Header", "hasNextWord", "(LRelayDesk$Text;)Z"⟩, prog_4_method_4_code, 2, (some .boolean), [])
theorem cq_Header_hasNextWord : CQ M_Header_hasNextWord 1 := ⟨Or.inl ⟨List.mem_of_getElem? (i := 561) (by decide +kernel), rfl⟩, List.mem_of_getElem? (i := 64) (by decide +kernel), ⟨by decide +kernel, by decide +kernel⟩, by decide +kernel, by decide +kernel, by decide, by decide⟩
def M_Header_wordLength : MI := (⟨"RelayDesk$Header", "wordLength", "()I"⟩, prog_4_method_5_code, 1, (some .int), [])
theorem cq_Header_wordLength : CQ M_Header_wordLength 0 := ⟨Or.inl ⟨List.mem_of_getElem? (i := 573) (by decide +kernel), rfl⟩, List.mem_of_getElem? (i := 64) (by decide +kernel), ⟨by decide +kernel, by decide +kernel⟩, by decide +kernel, by decide +kernel, by decide, by decide⟩
def M_Header_isNumber : MI := (⟨"RelayDesk$Header", "isNumber", "(LRelayDesk$Text;)Z"⟩, prog_4_method_6_code, 3, (some .boolean), [])
theorem cq_Header_isNumber : CQ M_Header_isNumber 1 := ⟨Or.inl ⟨List.mem_of_getElem? (i := 569) (by decide +kernel), rfl⟩, List.mem_of_getElem? (i := 64) (by decide +kernel), ⟨by decide +kernel, by decide +kernel⟩, by decide +kernel, by decide +kernel, by decide, by decide⟩
def M_Header_isPrecedence : MI := (⟨"RelayDesk$Header", "isPrecedence", "(LRelayDesk$Text;)Z"⟩, prog_4_method_7_code, 2, (some .boolean), [])
theorem cq_Header_isPrecedence : CQ M_Header_isPrecedence 1 := ⟨Or.inl ⟨List.mem_of_getElem? (i := 580) (by decide +kernel), rfl⟩, List.mem_of_getElem? (i := 64) (by decide +kernel), ⟨by decide +kernel, by decide +kernel⟩, by decide +kernel, by decide +kernel, by decide, by decide⟩
def M_Header_readsIndicators : MI := (⟨"RelayDesk$Header", "readsIndicators", "(LRelayDesk$Text;)Z"⟩, prog_4_method_8_code, 3, (some .boolean), [])
theorem cq_Header_readsIndicators : CQ M_Header_readsIndicators 1 := ⟨Or.inl ⟨List.mem_of_getElem? (i := 584) (by decide +kernel), rfl⟩, List.mem_of_getElem? (i := 64) (by decide +kernel), ⟨by decide +kernel, by decide +kernel⟩, by decide +kernel, by decide +kernel, by decide, by decide⟩
def M_Header_isIndicator : MI := (⟨"RelayDesk$Header", "isIndicator", "(LRelayDesk$Text;)Z"⟩, prog_4_method_9_code, 3, (some .boolean), [])
theorem cq_Header_isIndicator : CQ M_Header_isIndicator 1 := ⟨Or.inl ⟨List.mem_of_getElem? (i := 588) (by decide +kernel), rfl⟩, List.mem_of_getElem? (i := 64) (by decide +kernel), ⟨by decide +kernel, by decide +kernel⟩, by decide +kernel, by decide +kernel, by decide, by decide⟩
def M_Header_indicatorOf : MI := (⟨"RelayDesk$Header", "indicatorOf", "(LRelayDesk$Text;)I"⟩, prog_4_method_10_code, 4, (some .int), [])
theorem cq_Header_indicatorOf : CQ M_Header_indicatorOf 1 := ⟨Or.inl ⟨List.mem_of_getElem? (i := 595) (by decide +kernel), rfl⟩, List.mem_of_getElem? (i := 64) (by decide +kernel), ⟨by decide +kernel, by decide +kernel⟩, by decide +kernel, by decide +kernel, by decide, by decide⟩
def M_Intake_init : MI := (⟨"RelayDesk$Intake", "<init>", "()V"⟩, prog_5_method_1_code, 1, none, [])
theorem cq_Intake_init : CQ M_Intake_init 0 := ⟨Or.inl ⟨List.mem_of_getElem? (i := 184) (by decide +kernel), rfl⟩, List.mem_of_getElem? (i := 66) (by decide +kernel), ⟨by decide +kernel, by decide +kernel⟩, by decide +kernel, by decide +kernel, by decide, by decide⟩
def M_Intake_begin : MI := (⟨"RelayDesk$Intake", "begin", "()V"⟩, prog_5_method_2_code, 1, none, [])
theorem cq_Intake_begin : CQ M_Intake_begin 0 := ⟨Or.inl ⟨List.mem_of_getElem? (i := 372) (by decide +kernel), rfl⟩, List.mem_of_getElem? (i := 66) (by decide +kernel), ⟨by decide +kernel, by decide +kernel⟩, by decide +kernel, by decide +kernel, by decide, by decide⟩
def M_Intake_takesEnd : MI := (⟨"RelayDesk$Intake", "takesEnd", "(I)Z"⟩, prog_5_method_3_code, 3, (some .boolean), [])
theorem cq_Intake_takesEnd : CQ M_Intake_takesEnd 1 := ⟨Or.inl ⟨List.mem_of_getElem? (i := 469) (by decide +kernel), rfl⟩, List.mem_of_getElem? (i := 66) (by decide +kernel), ⟨by decide +kernel, by decide +kernel⟩, by decide +kernel, by decide +kernel, by decide, by decide⟩
def M_Intake_gather : MI := (⟨"RelayDesk$Intake", "gather", "(C)V"⟩, prog_5_method_4_code, 2, none, [])
theorem cq_Intake_gather : CQ M_Intake_gather 1 := ⟨Or.inl ⟨List.mem_of_getElem? (i := 525) (by decide +kernel), rfl⟩, List.mem_of_getElem? (i := 66) (by decide +kernel), ⟨by decide +kernel, by decide +kernel⟩, by decide +kernel, by decide +kernel, by decide, by decide⟩
def M_Intake_textBeforeEnd : MI := (⟨"RelayDesk$Intake", "textBeforeEnd", "()LRelayDesk$Text;"⟩, prog_5_method_5_code, 1, (some (.object "RelayDesk$Text")), [])
theorem cq_Intake_textBeforeEnd : CQ M_Intake_textBeforeEnd 0 := ⟨Or.inl ⟨List.mem_of_getElem? (i := 540) (by decide +kernel), rfl⟩, List.mem_of_getElem? (i := 66) (by decide +kernel), ⟨by decide +kernel, by decide +kernel⟩, by decide +kernel, by decide +kernel, by decide, by decide⟩
def M_Intake_isLong : MI := (⟨"RelayDesk$Intake", "isLong", "()Z"⟩, prog_5_method_6_code, 1, (some .boolean), [])
theorem cq_Intake_isLong : CQ M_Intake_isLong 0 := ⟨Or.inl ⟨List.mem_of_getElem? (i := 549) (by decide +kernel), rfl⟩, List.mem_of_getElem? (i := 66) (by decide +kernel), ⟨by decide +kernel, by decide +kernel⟩, by decide +kernel, by decide +kernel, by decide, by decide⟩
def M_Message_init : MI := (⟨"RelayDesk$Message", "<init>", "()V"⟩, prog_6_method_1_code, 1, none, [])
theorem cq_Message_init : CQ M_Message_init 0 := ⟨Or.inl ⟨List.mem_of_getElem? (i := 300) (by decide +kernel), rfl⟩, List.mem_of_getElem? (i := 70) (by decide +kernel), ⟨by decide +kernel, by decide +kernel⟩, by decide +kernel, by decide +kernel, by decide, by decide⟩
def M_Message_fill : MI := (⟨"RelayDesk$Message", "fill", "(LRelayDesk$Header;LRelayDesk$Text;)V"⟩, prog_6_method_2_code, 4, none, [])
theorem cq_Message_fill : CQ M_Message_fill 2 := ⟨Or.inl ⟨List.mem_of_getElem? (i := 661) (by decide +kernel), rfl⟩, List.mem_of_getElem? (i := 70) (by decide +kernel), ⟨by decide +kernel, by decide +kernel⟩, by decide +kernel, by decide +kernel, by decide, by decide⟩
def M_Message_waitsOn : MI := (⟨"RelayDesk$Message", "waitsOn", "(I)Z"⟩, prog_6_method_3_code, 2, (some .boolean), [])
theorem cq_Message_waitsOn : CQ M_Message_waitsOn 1 := ⟨Or.inl ⟨List.mem_of_getElem? (i := 815) (by decide +kernel), rfl⟩, List.mem_of_getElem? (i := 70) (by decide +kernel), ⟨by decide +kernel, by decide +kernel⟩, by decide +kernel, by decide +kernel, by decide, by decide⟩
def M_Message_writeOn : MI := (⟨"RelayDesk$Message", "writeOn", "(LRelayDesk$Text;IZ)V"⟩, prog_6_method_4_code, 5, none, [])
theorem cq_Message_writeOn : CQ M_Message_writeOn 3 := ⟨Or.inl ⟨List.mem_of_getElem? (i := 792) (by decide +kernel), rfl⟩, List.mem_of_getElem? (i := 70) (by decide +kernel), ⟨by decide +kernel, by decide +kernel⟩, by decide +kernel, by decide +kernel, by decide, by decide⟩
def M_Numbers_init : MI := (⟨"RelayDesk$Numbers", "<init>", "()V"⟩, prog_7_method_1_code, 1, none, [])
theorem cq_Numbers_init : CQ M_Numbers_init 0 := ⟨Or.inl ⟨List.mem_of_getElem? (i := 223) (by decide +kernel), rfl⟩, List.mem_of_getElem? (i := 68) (by decide +kernel), ⟨by decide +kernel, by decide +kernel⟩, by decide +kernel, by decide +kernel, by decide, by decide⟩
def M_Numbers_accepts : MI := (⟨"RelayDesk$Numbers", "accepts", "(I)Z"⟩, prog_7_method_2_code, 2, (some .boolean), [])
theorem cq_Numbers_accepts : CQ M_Numbers_accepts 1 := ⟨Or.inl ⟨List.mem_of_getElem? (i := 603) (by decide +kernel), rfl⟩, List.mem_of_getElem? (i := 68) (by decide +kernel), ⟨by decide +kernel, by decide +kernel⟩, by decide +kernel, by decide +kernel, by decide, by decide⟩
def M_Numbers_take : MI := (⟨"RelayDesk$Numbers", "take", "(I)V"⟩, prog_7_method_3_code, 2, none, [])
theorem cq_Numbers_take : CQ M_Numbers_take 1 := ⟨Or.inl ⟨List.mem_of_getElem? (i := 619) (by decide +kernel), rfl⟩, List.mem_of_getElem? (i := 68) (by decide +kernel), ⟨by decide +kernel, by decide +kernel⟩, by decide +kernel, by decide +kernel, by decide, by decide⟩
def M_Numbers_firstMissing : MI := (⟨"RelayDesk$Numbers", "firstMissing", "()I"⟩, prog_7_method_4_code, 1, (some .int), [])
theorem cq_Numbers_firstMissing : CQ M_Numbers_firstMissing 0 := ⟨Or.inl ⟨List.mem_of_getElem? (i := 704) (by decide +kernel), rfl⟩, List.mem_of_getElem? (i := 68) (by decide +kernel), ⟨by decide +kernel, by decide +kernel⟩, by decide +kernel, by decide +kernel, by decide, by decide⟩
def M_Numbers_forgetMissing : MI := (⟨"RelayDesk$Numbers", "forgetMissing", "()V"⟩, prog_7_method_5_code, 1, none, [])
theorem cq_Numbers_forgetMissing : CQ M_Numbers_forgetMissing 0 := ⟨Or.inl ⟨List.mem_of_getElem? (i := 769) (by decide +kernel), rfl⟩, List.mem_of_getElem? (i := 68) (by decide +kernel), ⟨by decide +kernel, by decide +kernel⟩, by decide +kernel, by decide +kernel, by decide, by decide⟩
def M_Numbers_isDue : MI := (⟨"RelayDesk$Numbers", "isDue", "(I)Z"⟩, prog_7_method_6_code, 3, (some .boolean), [])
theorem cq_Numbers_isDue : CQ M_Numbers_isDue 1 := ⟨Or.inl ⟨List.mem_of_getElem? (i := 607) (by decide +kernel), rfl⟩, List.mem_of_getElem? (i := 68) (by decide +kernel), ⟨by decide +kernel, by decide +kernel⟩, by decide +kernel, by decide +kernel, by decide, by decide⟩
def M_Numbers_aheadOfLast : MI := (⟨"RelayDesk$Numbers", "aheadOfLast", "(I)I"⟩, prog_7_method_7_code, 3, (some .int), [])
theorem cq_Numbers_aheadOfLast : CQ M_Numbers_aheadOfLast 1 := ⟨Or.inl ⟨List.mem_of_getElem? (i := 611) (by decide +kernel), rfl⟩, List.mem_of_getElem? (i := 68) (by decide +kernel), ⟨by decide +kernel, by decide +kernel⟩, by decide +kernel, by decide +kernel, by decide, by decide⟩
def M_Numbers_missAllBefore : MI := (⟨"RelayDesk$Numbers", "missAllBefore", "(I)V"⟩, prog_7_method_8_code, 5, none, [])
theorem cq_Numbers_missAllBefore : CQ M_Numbers_missAllBefore 1 := ⟨Or.inl ⟨List.mem_of_getElem? (i := 623) (by decide +kernel), rfl⟩, List.mem_of_getElem? (i := 68) (by decide +kernel), ⟨by decide +kernel, by decide +kernel⟩, by decide +kernel, by decide +kernel, by decide, by decide⟩
def M_Numbers_placeOf : MI := (⟨"RelayDesk$Numbers", "placeOf", "(I)I"⟩, prog_7_method_9_code, 3, (some .int), [])
theorem cq_Numbers_placeOf : CQ M_Numbers_placeOf 1 := ⟨Or.inl ⟨List.mem_of_getElem? (i := 615) (by decide +kernel), rfl⟩, List.mem_of_getElem? (i := 68) (by decide +kernel), ⟨by decide +kernel, by decide +kernel⟩, by decide +kernel, by decide +kernel, by decide, by decide⟩
def M_Numbers_dropMissing : MI := (⟨"RelayDesk$Numbers", "dropMissing", "(I)V"⟩, prog_7_method_10_code, 3, none, [])
theorem cq_Numbers_dropMissing : CQ M_Numbers_dropMissing 1 := ⟨Or.inl ⟨List.mem_of_getElem? (i := 630) (by decide +kernel), rfl⟩, List.mem_of_getElem? (i := 68) (by decide +kernel), ⟨by decide +kernel, by decide +kernel⟩, by decide +kernel, by decide +kernel, by decide, by decide⟩
def M_Numbers_numberBehind : MI := (⟨"RelayDesk$Numbers", "numberBehind", "(I)I"⟩, prog_7_method_11_code, 1, (some .int), [])
theorem cq_Numbers_numberBehind : CQ M_Numbers_numberBehind 1 := ⟨Or.inl ⟨List.mem_of_getElem? (i := 626) (by decide +kernel), rfl⟩, List.mem_of_getElem? (i := 68) (by decide +kernel), ⟨by decide +kernel, by decide +kernel⟩, by decide +kernel, by decide +kernel, by decide, by decide⟩
def M_Outlet_init : MI := (⟨"RelayDesk$Outlet", "<init>", "(I)V"⟩, prog_8_method_1_code, 2, none, [])
theorem cq_Outlet_init : CQ M_Outlet_init 1 := ⟨Or.inl ⟨List.mem_of_getElem? (i := 240) (by decide +kernel), rfl⟩, List.mem_of_getElem? (i := 69) (by decide +kernel), ⟨by decide +kernel, by decide +kernel⟩, by decide +kernel, by decide +kernel, by decide, by decide⟩
def M_Outlet_isIdle : MI := (⟨"RelayDesk$Outlet", "isIdle", "()Z"⟩, prog_8_method_2_code, 1, (some .boolean), [])
theorem cq_Outlet_isIdle : CQ M_Outlet_isIdle 0 := ⟨Or.inl ⟨List.mem_of_getElem? (i := 780) (by decide +kernel), rfl⟩, List.mem_of_getElem? (i := 69) (by decide +kernel), ⟨by decide +kernel, by decide +kernel⟩, by decide +kernel, by decide +kernel, by decide, by decide⟩
def M_Outlet_beginAnew : MI := (⟨"RelayDesk$Outlet", "beginAnew", "()V"⟩, prog_8_method_3_code, 1, none, [])
theorem cq_Outlet_beginAnew : CQ M_Outlet_beginAnew 0 := ⟨Or.inl ⟨List.mem_of_getElem? (i := 380) (by decide +kernel), rfl⟩, List.mem_of_getElem? (i := 69) (by decide +kernel), ⟨by decide +kernel, by decide +kernel⟩, by decide +kernel, by decide +kernel, by decide, by decide⟩
def M_Outlet_asksAgain : MI := (⟨"RelayDesk$Outlet", "asksAgain", "(I)Z"⟩, prog_8_method_4_code, 4, (some .boolean), [])
theorem cq_Outlet_asksAgain : CQ M_Outlet_asksAgain 1 := ⟨Or.inl ⟨List.mem_of_getElem? (i := 903) (by decide +kernel), rfl⟩, List.mem_of_getElem? (i := 69) (by decide +kernel), ⟨by decide +kernel, by decide +kernel⟩, by decide +kernel, by decide +kernel, by decide, by decide⟩
def M_Outlet_startsAsked : MI := (⟨"RelayDesk$Outlet", "startsAsked", "()Z"⟩, prog_8_method_5_code, 3, (some .boolean), [])
theorem cq_Outlet_startsAsked : CQ M_Outlet_startsAsked 0 := ⟨Or.inl ⟨List.mem_of_getElem? (i := 784) (by decide +kernel), rfl⟩, List.mem_of_getElem? (i := 69) (by decide +kernel), ⟨by decide +kernel, by decide +kernel⟩, by decide +kernel, by decide +kernel, by decide, by decide⟩
def M_Outlet_startEntry : MI := (⟨"RelayDesk$Outlet", "startEntry", "(LRelayDesk$Message;)V"⟩, prog_8_method_6_code, 2, none, [])
theorem cq_Outlet_startEntry : CQ M_Outlet_startEntry 1 := ⟨Or.inl ⟨List.mem_of_getElem? (i := 819) (by decide +kernel), rfl⟩, List.mem_of_getElem? (i := 69) (by decide +kernel), ⟨by decide +kernel, by decide +kernel⟩, by decide +kernel, by decide +kernel, by decide, by decide⟩
def M_Outlet_start : MI := (⟨"RelayDesk$Outlet", "start", "(LRelayDesk$Message;IZ)V"⟩, prog_8_method_7_code, 4, none, [])
theorem cq_Outlet_start : CQ M_Outlet_start 3 := ⟨Or.inl ⟨List.mem_of_getElem? (i := 788) (by decide +kernel), rfl⟩, List.mem_of_getElem? (i := 69) (by decide +kernel), ⟨by decide +kernel, by decide +kernel⟩, by decide +kernel, by decide +kernel, by decide, by decide⟩
def M_Outlet_nextSign : MI := (⟨"RelayDesk$Outlet", "nextSign", "()I"⟩, prog_8_method_8_code, 3, (some .int), [])
theorem cq_Outlet_nextSign : CQ M_Outlet_nextSign 0 := ⟨Or.inl ⟨List.mem_of_getElem? (i := 824) (by decide +kernel), rfl⟩, List.mem_of_getElem? (i := 69) (by decide +kernel), ⟨by decide +kernel, by decide +kernel⟩, by decide +kernel, by decide +kernel, by decide, by decide⟩
def M_Outlet_finish : MI := (⟨"RelayDesk$Outlet", "finish", "()V"⟩, prog_8_method_9_code, 2, none, [])
theorem cq_Outlet_finish : CQ M_Outlet_finish 0 := ⟨Or.inl ⟨List.mem_of_getElem? (i := 833) (by decide +kernel), rfl⟩, List.mem_of_getElem? (i := 69) (by decide +kernel), ⟨by decide +kernel, by decide +kernel⟩, by decide +kernel, by decide +kernel, by decide, by decide⟩
def M_Route_init : MI := (⟨"RelayDesk$Route", "<init>", "()V"⟩, prog_9_method_1_code, 1, none, [])
theorem cq_Route_init : CQ M_Route_init 0 := ⟨Or.inl ⟨List.mem_of_getElem? (i := 110) (by decide +kernel), rfl⟩, List.mem_of_getElem? (i := 63) (by decide +kernel), ⟨by decide +kernel, by decide +kernel⟩, by decide +kernel, by decide +kernel, by decide, by decide⟩
def M_Route_isGroup : MI := (⟨"RelayDesk$Route", "isGroup", "()Z"⟩, prog_9_method_2_code, 1, (some .boolean), [])
theorem cq_Route_isGroup : CQ M_Route_isGroup 0 := ⟨Or.inl ⟨List.mem_of_getElem? (i := 677) (by decide +kernel), rfl⟩, List.mem_of_getElem? (i := 63) (by decide +kernel), ⟨by decide +kernel, by decide +kernel⟩, by decide +kernel, by decide +kernel, by decide, by decide⟩
def M_Route_holds : MI := (⟨"RelayDesk$Route", "holds", "(I)Z"⟩, prog_9_method_3_code, 3, (some .boolean), [])
theorem cq_Route_holds : CQ M_Route_holds 1 := ⟨Or.inl ⟨List.mem_of_getElem? (i := 753) (by decide +kernel), rfl⟩, List.mem_of_getElem? (i := 63) (by decide +kernel), ⟨by decide +kernel, by decide +kernel⟩, by decide +kernel, by decide +kernel, by decide, by decide⟩
def M_Route_addMember : MI := (⟨"RelayDesk$Route", "addMember", "(I)I"⟩, prog_9_method_4_code, 2, (some .int), [])
theorem cq_Route_addMember : CQ M_Route_addMember 1 := ⟨Or.inl ⟨List.mem_of_getElem? (i := 758) (by decide +kernel), rfl⟩, List.mem_of_getElem? (i := 63) (by decide +kernel), ⟨by decide +kernel, by decide +kernel⟩, by decide +kernel, by decide +kernel, by decide, by decide⟩
def M_Routes_init : MI := (⟨"RelayDesk$Routes", "<init>", "()V"⟩, prog_10_method_1_code, 2, none, [])
theorem cq_Routes_init : CQ M_Routes_init 0 := ⟨Or.inl ⟨List.mem_of_getElem? (i := 103) (by decide +kernel), rfl⟩, List.mem_of_getElem? (i := 62) (by decide +kernel), ⟨by decide +kernel, by decide +kernel⟩, by decide +kernel, by decide +kernel, by decide, by decide⟩
def M_Routes_has : MI := (⟨"RelayDesk$Routes", "has", "(II)Z"⟩, prog_10_method_2_code, 2, (some .boolean), [])
theorem cq_Routes_has : CQ M_Routes_has 2 := ⟨Or.inl ⟨List.mem_of_getElem? (i := 653) (by decide +kernel), rfl⟩, List.mem_of_getElem? (i := 62) (by decide +kernel), ⟨by decide +kernel, by decide +kernel⟩, by decide +kernel, by decide +kernel, by decide, by decide⟩
def M_Routes_leadNowhere : MI := (⟨"RelayDesk$Routes", "leadNowhere", "(I)Z"⟩, prog_10_method_3_code, 1, (some .boolean), [])
theorem cq_Routes_leadNowhere : CQ M_Routes_leadNowhere 1 := ⟨Or.inl ⟨List.mem_of_getElem? (i := 684) (by decide +kernel), rfl⟩, List.mem_of_getElem? (i := 62) (by decide +kernel), ⟨by decide +kernel, by decide +kernel⟩, by decide +kernel, by decide +kernel, by decide, by decide⟩
def M_Routes_isFull : MI := (⟨"RelayDesk$Routes", "isFull", "()Z"⟩, prog_10_method_4_code, 1, (some .boolean), [])
theorem cq_Routes_isFull : CQ M_Routes_isFull 0 := ⟨Or.inl ⟨List.mem_of_getElem? (i := 718) (by decide +kernel), rfl⟩, List.mem_of_getElem? (i := 62) (by decide +kernel), ⟨by decide +kernel, by decide +kernel⟩, by decide +kernel, by decide +kernel, by decide, by decide⟩
def M_Routes_rowOf : MI := (⟨"RelayDesk$Routes", "rowOf", "(I)I"⟩, prog_10_method_5_code, 3, (some .int), [])
theorem cq_Routes_rowOf : CQ M_Routes_rowOf 1 := ⟨Or.inl ⟨List.mem_of_getElem? (i := 642) (by decide +kernel), rfl⟩, List.mem_of_getElem? (i := 62) (by decide +kernel), ⟨by decide +kernel, by decide +kernel⟩, by decide +kernel, by decide +kernel, by decide, by decide⟩
def M_Routes_newRow : MI := (⟨"RelayDesk$Routes", "newRow", "(I)I"⟩, prog_10_method_6_code, 3, (some .int), [])
theorem cq_Routes_newRow : CQ M_Routes_newRow 1 := ⟨Or.inl ⟨List.mem_of_getElem? (i := 737) (by decide +kernel), rfl⟩, List.mem_of_getElem? (i := 62) (by decide +kernel), ⟨by decide +kernel, by decide +kernel⟩, by decide +kernel, by decide +kernel, by decide, by decide⟩
def M_Routes_rowsBehind : MI := (⟨"RelayDesk$Routes", "rowsBehind", "(LRelayDesk$Header;)I"⟩, prog_10_method_7_code, 4, (some .int), [])
theorem cq_Routes_rowsBehind : CQ M_Routes_rowsBehind 1 := ⟨Or.inl ⟨List.mem_of_getElem? (i := 634) (by decide +kernel), rfl⟩, List.mem_of_getElem? (i := 62) (by decide +kernel), ⟨by decide +kernel, by decide +kernel⟩, by decide +kernel, by decide +kernel, by decide, by decide⟩
def M_Routes_leadsTo : MI := (⟨"RelayDesk$Routes", "leadsTo", "(II)Z"⟩, prog_10_method_8_code, 5, (some .boolean), [])
theorem cq_Routes_leadsTo : CQ M_Routes_leadsTo 2 := ⟨Or.inl ⟨List.mem_of_getElem? (i := 749) (by decide +kernel), rfl⟩, List.mem_of_getElem? (i := 62) (by decide +kernel), ⟨by decide +kernel, by decide +kernel⟩, by decide +kernel, by decide +kernel, by decide, by decide⟩
def M_Routes_withMembers : MI := (⟨"RelayDesk$Routes", "withMembers", "(I)I"⟩, prog_10_method_9_code, 4, (some .int), [])
theorem cq_Routes_withMembers : CQ M_Routes_withMembers 1 := ⟨Or.inl ⟨List.mem_of_getElem? (i := 646) (by decide +kernel), rfl⟩, List.mem_of_getElem? (i := 62) (by decide +kernel), ⟨by decide +kernel, by decide +kernel⟩, by decide +kernel, by decide +kernel, by decide, by decide⟩
def M_Routes_membersOf : MI := (⟨"RelayDesk$Routes", "membersOf", "(I)I"⟩, prog_10_method_10_code, 5, (some .int), [])
theorem cq_Routes_membersOf : CQ M_Routes_membersOf 1 := ⟨Or.inl ⟨List.mem_of_getElem? (i := 650) (by decide +kernel), rfl⟩, List.mem_of_getElem? (i := 62) (by decide +kernel), ⟨by decide +kernel, by decide +kernel⟩, by decide +kernel, by decide +kernel, by decide, by decide⟩
def M_Routes_bitOf : MI := (⟨"RelayDesk$Routes", "bitOf", "(I)I"⟩, prog_10_method_11_code, 3, (some .int), [])
theorem cq_Routes_bitOf : CQ M_Routes_bitOf 1 := ⟨Or.inl ⟨List.mem_of_getElem? (i := 638) (by decide +kernel), rfl⟩, List.mem_of_getElem? (i := 62) (by decide +kernel), ⟨by decide +kernel, by decide +kernel⟩, by decide +kernel, by decide +kernel, by decide, by decide⟩
def M_Signs_characterOf : MI := (⟨"RelayDesk$Signs", "characterOf", "(IZ)C"⟩, prog_11_method_2_code, 2, (some .char), [])
theorem cq_Signs_characterOf : CQ M_Signs_characterOf 2 := ⟨Or.inl ⟨List.mem_of_getElem? (i := 472) (by decide +kernel), rfl⟩, List.mem_of_getElem? (i := 77) (by decide +kernel), ⟨by decide +kernel, by decide +kernel⟩, by decide +kernel, by decide +kernel, by decide, by decide⟩
def M_Signs_signOf : MI := (⟨"RelayDesk$Signs", "signOf", "(C)I"⟩, prog_11_method_3_code, 1, (some .int), [])
theorem cq_Signs_signOf : CQ M_Signs_signOf 1 := ⟨Or.inl ⟨List.mem_of_getElem? (i := 836) (by decide +kernel), rfl⟩, List.mem_of_getElem? (i := 77) (by decide +kernel), ⟨by decide +kernel, by decide +kernel⟩, by decide +kernel, by decide +kernel, by decide, by decide⟩
def M_Signs_isLetter : MI := (⟨"RelayDesk$Signs", "isLetter", "(C)Z"⟩, prog_11_method_4_code, 1, (some .boolean), [])
theorem cq_Signs_isLetter : CQ M_Signs_isLetter 1 := ⟨Or.inl ⟨List.mem_of_getElem? (i := 591) (by decide +kernel), rfl⟩, List.mem_of_getElem? (i := 77) (by decide +kernel), ⟨by decide +kernel, by decide +kernel⟩, by decide +kernel, by decide +kernel, by decide, by decide⟩
def M_Signs_isDigit : MI := (⟨"RelayDesk$Signs", "isDigit", "(C)Z"⟩, prog_11_method_5_code, 1, (some .boolean), [])
theorem cq_Signs_isDigit : CQ M_Signs_isDigit 1 := ⟨Or.inl ⟨List.mem_of_getElem? (i := 576) (by decide +kernel), rfl⟩, List.mem_of_getElem? (i := 77) (by decide +kernel), ⟨by decide +kernel, by decide +kernel⟩, by decide +kernel, by decide +kernel, by decide, by decide⟩
def M_Signs_isInBothShifts : MI := (⟨"RelayDesk$Signs", "isInBothShifts", "(C)Z"⟩, prog_11_method_6_code, 1, (some .boolean), [])
theorem cq_Signs_isInBothShifts : CQ M_Signs_isInBothShifts 1 := ⟨Or.inl ⟨List.mem_of_getElem? (i := 829) (by decide +kernel), rfl⟩, List.mem_of_getElem? (i := 77) (by decide +kernel), ⟨by decide +kernel, by decide +kernel⟩, by decide +kernel, by decide +kernel, by decide, by decide⟩
def M_Text_init : MI := (⟨"RelayDesk$Text", "<init>", "(I)V"⟩, prog_12_method_1_code, 2, none, [])
theorem cq_Text_init : CQ M_Text_init 1 := ⟨Or.inl ⟨List.mem_of_getElem? (i := 190) (by decide +kernel), rfl⟩, List.mem_of_getElem? (i := 67) (by decide +kernel), ⟨by decide +kernel, by decide +kernel⟩, by decide +kernel, by decide +kernel, by decide, by decide⟩
def M_Text_clear : MI := (⟨"RelayDesk$Text", "clear", "()V"⟩, prog_12_method_2_code, 1, none, [])
theorem cq_Text_clear : CQ M_Text_clear 0 := ⟨Or.inl ⟨List.mem_of_getElem? (i := 376) (by decide +kernel), rfl⟩, List.mem_of_getElem? (i := 67) (by decide +kernel), ⟨by decide +kernel, by decide +kernel⟩, by decide +kernel, by decide +kernel, by decide, by decide⟩
def M_Text_add : MI := (⟨"RelayDesk$Text", "add", "(C)V"⟩, prog_12_method_3_code, 2, none, [])
theorem cq_Text_add : CQ M_Text_add 1 := ⟨Or.inl ⟨List.mem_of_getElem? (i := 529) (by decide +kernel), rfl⟩, List.mem_of_getElem? (i := 67) (by decide +kernel), ⟨by decide +kernel, by decide +kernel⟩, by decide +kernel, by decide +kernel, by decide, by decide⟩
def M_Text_addNumber : MI := (⟨"RelayDesk$Text", "addNumber", "(I)V"⟩, prog_12_method_4_code, 2, none, [])
theorem cq_Text_addNumber : CQ M_Text_addNumber 1 := ⟨Or.inl ⟨List.mem_of_getElem? (i := 797) (by decide +kernel), rfl⟩, List.mem_of_getElem? (i := 67) (by decide +kernel), ⟨by decide +kernel, by decide +kernel⟩, by decide +kernel, by decide +kernel, by decide, by decide⟩
def M_Text_addIndicator : MI := (⟨"RelayDesk$Text", "addIndicator", "(I)V"⟩, prog_12_method_5_code, 4, none, [])
theorem cq_Text_addIndicator : CQ M_Text_addIndicator 1 := ⟨Or.inl ⟨List.mem_of_getElem? (i := 802) (by decide +kernel), rfl⟩, List.mem_of_getElem? (i := 67) (by decide +kernel), ⟨by decide +kernel, by decide +kernel⟩, by decide +kernel, by decide +kernel, by decide, by decide⟩
def M_Text_addFrom : MI := (⟨"RelayDesk$Text", "addFrom", "(LRelayDesk$Text;I)V"⟩, prog_12_method_6_code, 4, none, [])
theorem cq_Text_addFrom : CQ M_Text_addFrom 2 := ⟨Or.inl ⟨List.mem_of_getElem? (i := 670) (by decide +kernel), rfl⟩, List.mem_of_getElem? (i := 67) (by decide +kernel), ⟨by decide +kernel, by decide +kernel⟩, by decide +kernel, by decide +kernel, by decide, by decide⟩
def M_Text_shortenTo : MI := (⟨"RelayDesk$Text", "shortenTo", "(I)V"⟩, prog_12_method_7_code, 2, none, [])
theorem cq_Text_shortenTo : CQ M_Text_shortenTo 1 := ⟨Or.inl ⟨List.mem_of_getElem? (i := 544) (by decide +kernel), rfl⟩, List.mem_of_getElem? (i := 67) (by decide +kernel), ⟨by decide +kernel, by decide +kernel⟩, by decide +kernel, by decide +kernel, by decide, by decide⟩
def M_Text_at : MI := (⟨"RelayDesk$Text", "at", "(I)C"⟩, prog_12_method_8_code, 2, (some .char), [])
theorem cq_Text_at : CQ M_Text_at 1 := ⟨Or.inl ⟨List.mem_of_getElem? (i := 565) (by decide +kernel), rfl⟩, List.mem_of_getElem? (i := 67) (by decide +kernel), ⟨by decide +kernel, by decide +kernel⟩, by decide +kernel, by decide +kernel, by decide, by decide⟩
def M_Text_firstLineEnd : MI := (⟨"RelayDesk$Text", "firstLineEnd", "()I"⟩, prog_12_method_9_code, 2, (some .int), [])
theorem cq_Text_firstLineEnd : CQ M_Text_firstLineEnd 0 := ⟨Or.inl ⟨List.mem_of_getElem? (i := 557) (by decide +kernel), rfl⟩, List.mem_of_getElem? (i := 67) (by decide +kernel), ⟨by decide +kernel, by decide +kernel⟩, by decide +kernel, by decide +kernel, by decide, by decide⟩
def M_Law_sign : MI := (⟨"RelayDeskLaw", "sign", "(LRelayDesk;II[J)I"⟩, method_3_code, 5, (some .int), [(0, 10, 13, 13)])
theorem cq_Law_sign : CQ M_Law_sign 4 := ⟨Or.inr (List.mem_of_getElem? (i := 395) (by decide +kernel)), List.mem_of_getElem? (i := 60) (by decide +kernel), ⟨by decide +kernel, by decide +kernel⟩, by decide +kernel, by decide +kernel, by decide, by decide⟩
def M_Law_receipt : MI := (⟨"RelayDeskLaw", "receipt", "(LRelayDesk;I[J)I"⟩, method_4_code, 4, (some .int), [(0, 9, 12, 13)])
theorem cq_Law_receipt : CQ M_Law_receipt 3 := ⟨Or.inr (List.mem_of_getElem? (i := 689) (by decide +kernel)), List.mem_of_getElem? (i := 60) (by decide +kernel), ⟨by decide +kernel, by decide +kernel⟩, by decide +kernel, by decide +kernel, by decide, by decide⟩
def M_Law_askFor : MI := (⟨"RelayDeskLaw", "askFor", "(LRelayDesk;I[J)I"⟩, method_5_code, 4, (some .int), [(0, 9, 12, 13)])
theorem cq_Law_askFor : CQ M_Law_askFor 3 := ⟨Or.inr (List.mem_of_getElem? (i := 696) (by decide +kernel)), List.mem_of_getElem? (i := 60) (by decide +kernel), ⟨by decide +kernel, by decide +kernel⟩, by decide +kernel, by decide +kernel, by decide, by decide⟩
def M_Law_route : MI := (⟨"RelayDeskLaw", "route", "(LRelayDesk;III)I"⟩, method_6_code, 5, (some .int), [(0, 7, 10, 13), (0, 7, 14, 26)])
theorem cq_Law_route : CQ M_Law_route 4 := ⟨Or.inr (List.mem_of_getElem? (i := 707) (by decide +kernel)), List.mem_of_getElem? (i := 60) (by decide +kernel), ⟨by decide +kernel, by decide +kernel⟩, by decide +kernel, by decide +kernel, by decide, by decide⟩
def M_Law_group : MI := (⟨"RelayDeskLaw", "group", "(LRelayDesk;II[J)I"⟩, method_7_code, 5, (some .int), [(0, 10, 13, 13), (0, 10, 17, 26)])
theorem cq_Law_group : CQ M_Law_group 4 := ⟨Or.inr (List.mem_of_getElem? (i := 741) (by decide +kernel)), List.mem_of_getElem? (i := 60) (by decide +kernel), ⟨by decide +kernel, by decide +kernel⟩, by decide +kernel, by decide +kernel, by decide, by decide⟩
def M_Law_open : MI := (⟨"RelayDeskLaw", "open", "(LRelayDesk;IZ[J)I"⟩, method_8_code, 5, (some .int), [(0, 17, 20, 13)])
theorem cq_Law_open : CQ M_Law_open 4 := ⟨Or.inr (List.mem_of_getElem? (i := 761) (by decide +kernel)), List.mem_of_getElem? (i := 60) (by decide +kernel), ⟨by decide +kernel, by decide +kernel⟩, by decide +kernel, by decide +kernel, by decide, by decide⟩
def M_Law_send : MI := (⟨"RelayDeskLaw", "send", "(LRelayDesk;I[J)I"⟩, method_9_code, 4, (some .int), [(0, 9, 12, 13)])
theorem cq_Law_send : CQ M_Law_send 3 := ⟨Or.inr (List.mem_of_getElem? (i := 772) (by decide +kernel)), List.mem_of_getElem? (i := 60) (by decide +kernel), ⟨by decide +kernel, by decide +kernel⟩, by decide +kernel, by decide +kernel, by decide, by decide⟩
def M_Law_rerun : MI := (⟨"RelayDeskLaw", "rerun", "(LRelayDesk;II[J)I"⟩, method_10_code, 5, (some .int), [(0, 17, 20, 13), (0, 17, 24, 26)])
theorem cq_Law_rerun : CQ M_Law_rerun 4 := ⟨Or.inr (List.mem_of_getElem? (i := 895) (by decide +kernel)), List.mem_of_getElem? (i := 60) (by decide +kernel), ⟨by decide +kernel, by decide +kernel⟩, by decide +kernel, by decide +kernel, by decide, by decide⟩
def M_Law_queued : MI := (⟨"RelayDeskLaw", "queued", "(LRelayDesk;II[J)I"⟩, method_11_code, 5, (some .int), [(0, 10, 13, 13)])
theorem cq_Law_queued : CQ M_Law_queued 4 := ⟨Or.inr (List.mem_of_getElem? (i := 906) (by decide +kernel)), List.mem_of_getElem? (i := 60) (by decide +kernel), ⟨by decide +kernel, by decide +kernel⟩, by decide +kernel, by decide +kernel, by decide, by decide⟩
def M_Law_trace : MI := (⟨"RelayDeskLaw", "trace", "(LRelayDesk;II[J)I"⟩, method_12_code, 5, (some .int), [(0, 10, 13, 13)])
theorem cq_Law_trace : CQ M_Law_trace 4 := ⟨Or.inr (List.mem_of_getElem? (i := 913) (by decide +kernel)), List.mem_of_getElem? (i := 60) (by decide +kernel), ⟨by decide +kernel, by decide +kernel⟩, by decide +kernel, by decide +kernel, by decide, by decide⟩
def M_Law_reason : MI := (⟨"RelayDeskLaw", "reason", "(LRelayDesk;I[J)I"⟩, method_13_code, 4, (some .int), [(0, 9, 12, 13)])
theorem cq_Law_reason : CQ M_Law_reason 3 := ⟨Or.inr (List.mem_of_getElem? (i := 920) (by decide +kernel)), List.mem_of_getElem? (i := 60) (by decide +kernel), ⟨by decide +kernel, by decide +kernel⟩, by decide +kernel, by decide +kernel, by decide, by decide⟩
def M_Law_clerk : MI := (⟨"RelayDeskLaw", "clerk", "(LRelayDesk;IC)I"⟩, method_14_code, 4, (some .int), [(0, 6, 9, 13), (0, 6, 12, 26)])
theorem cq_Law_clerk : CQ M_Law_clerk 3 := ⟨Or.inr (List.mem_of_getElem? (i := 927) (by decide +kernel)), List.mem_of_getElem? (i := 60) (by decide +kernel), ⟨by decide +kernel, by decide +kernel⟩, by decide +kernel, by decide +kernel, by decide, by decide⟩
def M_Law_resubmit : MI := (⟨"RelayDeskLaw", "resubmit", "(LRelayDesk;I[J)I"⟩, method_15_code, 4, (some .int), [(0, 9, 12, 13), (0, 9, 15, 26)])
theorem cq_Law_resubmit : CQ M_Law_resubmit 3 := ⟨Or.inr (List.mem_of_getElem? (i := 936) (by decide +kernel)), List.mem_of_getElem? (i := 60) (by decide +kernel), ⟨by decide +kernel, by decide +kernel⟩, by decide +kernel, by decide +kernel, by decide, by decide⟩
def M_Law_law : MI := (⟨"RelayDeskLaw", "law", "([I)Z"⟩, code, 7, (some .boolean), [])
end
section
theorem fl_Text_9 : FL "RelayDesk$Text" 9 3 0 := ⟨by decide, by decide, Or.inl (List.mem_of_getElem? (i := 192) (by decide +kernel))⟩
theorem fl_Text_15 : FL "RelayDesk$Text" 15 3 1 := ⟨by decide, by decide, Or.inl (List.mem_of_getElem? (i := 193) (by decide +kernel))⟩
theorem dc_Text_init_0 : decode M_Text_init.2.1 0 = .ok (.aload_n 0, 1) := by decide +kernel
theorem dc_Text_init_1 : decode M_Text_init.2.1 1 = .ok (.invokespecial 3, 3) := by decide +kernel
theorem dc_Text_init_4 : decode M_Text_init.2.1 4 = .ok (.aload_n 0, 1) := by decide +kernel
theorem dc_Text_init_5 : decode M_Text_init.2.1 5 = .ok (.iload_n 1, 1) := by decide +kernel
theorem dc_Text_init_6 : decode M_Text_init.2.1 6 = .ok (.newarray .char, 2) := by decide +kernel
theorem dc_Text_init_8 : decode M_Text_init.2.1 8 = .ok (.putfield 9, 3) := by decide +kernel
theorem dc_Text_init_11 : decode M_Text_init.2.1 11 = .ok (.return_, 1) := by decide +kernel
set_option maxRecDepth 20000 in
theorem e_Text_init_0 {d : Nat} {σ : PH} {K : PO → PH → Prop} (x0 : Nat) (x1 : Int32) (h : (∃ n1 : Nat, (x1 = nI n1 ∧ n1 ≤ 65536) ∧ cc σ + 1 ≤ 601024 ∧ cs σ + n1 ≤ 7293034 ∧ (∀ σ1 : PH, σ1 = mk σ (3, n1) n1 → sh σ1 x0 = (1, 3) ∧ (∀ σ2 : PH, σ2 = pR σ1 192 x0 (some (nx σ)) → K (.inl none) σ2)))) : PW (d + 1) M_Text_init 0 [.ref x0, .int x1] [] σ K := by
  refine pw_aload_n dc_Text_init_0 rfl rfl ?_
  refine pw_objInit dc_Text_init_1 (List.mem_of_getElem? (i := 191) (by decide +kernel)) (List.mem_of_getElem? (i := 91) (by decide +kernel)) (List.mem_of_getElem? (i := 92) (by decide +kernel)) (Nat.le_of_ble_eq_true rfl) ?_
  refine pw_aload_n dc_Text_init_4 rfl rfl ?_
  refine pw_iload_n dc_Text_init_5 rfl ?_
  obtain ⟨n1, ⟨hn1, hl1⟩, h⟩ := h
  refine PW.top (congrArg Value.int hn1) ?_
  obtain ⟨hr1, hr2, h⟩ := h
  have h := h _ rfl
  refine pw_newa (k := 3) (N := n1) dc_Text_init_6 (by unfold nk; decide) rfl (List.mem_of_getElem? (i := 202) (by decide +kernel)) hl1 hr1 hr2 ?_
  obtain ⟨hs1, h⟩ := h
  have h := h _ rfl
  refine pw_putR (c := 3) (k := 0) (f := 192) (v := some (nx σ)) dc_Text_init_8 fl_Text_9 (Or.inr ⟨rfl, rfl, rfl, List.mem_of_getElem? (i := 192) (by decide +kernel)⟩) rfl rfl hs1 ?_
  exact pw_vret dc_Text_init_11 rfl h
theorem dc_Text_clear_0 : decode M_Text_clear.2.1 0 = .ok (.aload_n 0, 1) := by decide +kernel
theorem dc_Text_clear_1 : decode M_Text_clear.2.1 1 = .ok (.iconst 0, 1) := by decide +kernel
theorem dc_Text_clear_2 : decode M_Text_clear.2.1 2 = .ok (.putfield 15, 3) := by decide +kernel
theorem dc_Text_clear_5 : decode M_Text_clear.2.1 5 = .ok (.return_, 1) := by decide +kernel
set_option maxRecDepth 20000 in
theorem e_Text_clear_0 {d : Nat} {σ : PH} {K : PO → PH → Prop} (x0 : Nat) (h : sh σ x0 = (1, 3) ∧ (∀ σ1 : PH, σ1 = pI σ 193 x0 0 → K (.inl none) σ1)) : PW d M_Text_clear 0 [.ref x0] [] σ K := by
  refine pw_aload_n dc_Text_clear_0 rfl rfl ?_
  refine pw_iconst (v := 0) dc_Text_clear_1 (by decide) ?_
  obtain ⟨hs1, h⟩ := h
  have h := h _ rfl
  refine pw_putI (c := 3) (k := 1) (f := 193) dc_Text_clear_2 fl_Text_15 (Or.inl rfl) rfl rfl hs1 ?_
  exact pw_vret dc_Text_clear_5 rfl h
theorem dc_Text_add_0 : decode M_Text_add.2.1 0 = .ok (.aload_n 0, 1) := by decide +kernel
theorem dc_Text_add_1 : decode M_Text_add.2.1 1 = .ok (.getfield 15, 3) := by decide +kernel
theorem dc_Text_add_4 : decode M_Text_add.2.1 4 = .ok (.aload_n 0, 1) := by decide +kernel
theorem dc_Text_add_5 : decode M_Text_add.2.1 5 = .ok (.getfield 9, 3) := by decide +kernel
theorem dc_Text_add_8 : decode M_Text_add.2.1 8 = .ok (.arraylength, 1) := by decide +kernel
theorem dc_Text_add_9 : decode M_Text_add.2.1 9 = .ok (.if_icmp .ge 23, 3) := by decide +kernel
theorem dc_Text_add_12 : decode M_Text_add.2.1 12 = .ok (.aload_n 0, 1) := by decide +kernel
theorem dc_Text_add_13 : decode M_Text_add.2.1 13 = .ok (.getfield 9, 3) := by decide +kernel
theorem dc_Text_add_16 : decode M_Text_add.2.1 16 = .ok (.aload_n 0, 1) := by decide +kernel
theorem dc_Text_add_17 : decode M_Text_add.2.1 17 = .ok (.getfield 15, 3) := by decide +kernel
theorem dc_Text_add_20 : decode M_Text_add.2.1 20 = .ok (.iload_n 1, 1) := by decide +kernel
theorem dc_Text_add_21 : decode M_Text_add.2.1 21 = .ok (.castore, 1) := by decide +kernel
theorem dc_Text_add_22 : decode M_Text_add.2.1 22 = .ok (.aload_n 0, 1) := by decide +kernel
theorem dc_Text_add_23 : decode M_Text_add.2.1 23 = .ok (.dup, 1) := by decide +kernel
theorem dc_Text_add_24 : decode M_Text_add.2.1 24 = .ok (.getfield 15, 3) := by decide +kernel
theorem dc_Text_add_27 : decode M_Text_add.2.1 27 = .ok (.iconst 1, 1) := by decide +kernel
theorem dc_Text_add_28 : decode M_Text_add.2.1 28 = .ok (.iadd, 1) := by decide +kernel
theorem dc_Text_add_29 : decode M_Text_add.2.1 29 = .ok (.putfield 15, 3) := by decide +kernel
theorem dc_Text_add_32 : decode M_Text_add.2.1 32 = .ok (.return_, 1) := by decide +kernel
set_option maxRecDepth 20000 in
theorem e_Text_add_0 {d : Nat} {σ : PH} {K : PO → PH → Prop} (x0 : Nat) (x1 : Int32) (h : sh σ x0 = (1, 3) ∧ (∃ b1 : Nat, gR σ 192 x0 = some b1 ∧ (∃ n1 : Nat, sh σ b1 = (3, n1) ∧ (if (nI n1) ≤ (gI σ 193 x0) then K (.inl none) σ else vp_in (gI σ 193 x0) n1 ∧ ch x1 ∧ (∀ σ1 : PH, σ1 = uI σ b1 (ix (gI σ 193 x0)) x1 → sh σ1 x0 = (1, 3) ∧ (∀ σ2 : PH, σ2 = pI σ1 193 x0 ((gI σ1 193 x0) + 1) → K (.inl none) σ2)))))) : PW d M_Text_add 0 [.ref x0, .int x1] [] σ K := by
  refine pw_aload_n dc_Text_add_0 rfl rfl ?_
  obtain ⟨hs1, h⟩ := h
  refine pw_getI (c := 3) (k := 1) (f := 193) dc_Text_add_1 fl_Text_15 rfl rfl hs1 ?_
  refine pw_aload_n dc_Text_add_4 rfl rfl ?_
  refine pw_getR (c := 3) (k := 0) (f := 192) dc_Text_add_5 fl_Text_9 rfl rfl hs1 ?_
  obtain ⟨b1, hb1, h⟩ := h
  refine PW.top (v' := .ref b1) (congrArg va_rf hb1) ?_
  obtain ⟨n1, hs2, h⟩ := h
  refine pw_alen dc_Text_add_8 (by decide) hs2 ?_
  refine pw_icmp_ge (tgt := 32) dc_Text_add_9 (by decide) (fun hc => ?_) (fun hc => ?_)
  · have h := ite_t h hc
    exact pw_vret dc_Text_add_32 rfl h
  · have h := ite_f h hc
    refine pw_aload_n dc_Text_add_12 rfl rfl ?_
    refine pw_getR (c := 3) (k := 0) (f := 192) dc_Text_add_13 fl_Text_9 rfl rfl hs1 ?_
    refine PW.top (v' := .ref b1) (congrArg va_rf hb1) ?_
    refine pw_aload_n dc_Text_add_16 rfl rfl ?_
    refine pw_getI (c := 3) (k := 1) (f := 193) dc_Text_add_17 fl_Text_15 rfl rfl hs1 ?_
    refine pw_iload_n dc_Text_add_20 rfl ?_
    obtain ⟨hi1, h⟩ := h
    obtain ⟨hc1, h⟩ := h
    have h := h _ rfl
    refine pw_cast dc_Text_add_21 hs2 hi1 hc1 ?_
    refine pw_aload_n dc_Text_add_22 rfl rfl ?_
    refine pw_dup dc_Text_add_23 rfl ?_
    obtain ⟨hs3, h⟩ := h
    refine pw_getI (c := 3) (k := 1) (f := 193) dc_Text_add_24 fl_Text_15 rfl rfl hs3 ?_
    refine pw_iconst (v := 1) dc_Text_add_27 (by decide) ?_
    refine pw_iadd dc_Text_add_28 ?_
    have h := h _ rfl
    refine pw_putI (c := 3) (k := 1) (f := 193) dc_Text_add_29 fl_Text_15 (Or.inl rfl) rfl rfl hs3 ?_
    exact pw_vret dc_Text_add_32 rfl h
theorem dc_Text_addNumber_0 : decode M_Text_addNumber.2.1 0 = .ok (.aload_n 0, 1) := by decide +kernel
theorem dc_Text_addNumber_1 : decode M_Text_addNumber.2.1 1 = .ok (.bipush 48, 2) := by decide +kernel
theorem dc_Text_addNumber_3 : decode M_Text_addNumber.2.1 3 = .ok (.iload_n 1, 1) := by decide +kernel
theorem dc_Text_addNumber_4 : decode M_Text_addNumber.2.1 4 = .ok (.bipush 100, 2) := by decide +kernel
theorem dc_Text_addNumber_6 : decode M_Text_addNumber.2.1 6 = .ok (.idiv, 1) := by decide +kernel
theorem dc_Text_addNumber_7 : decode M_Text_addNumber.2.1 7 = .ok (.bipush 10, 2) := by decide +kernel
theorem dc_Text_addNumber_9 : decode M_Text_addNumber.2.1 9 = .ok (.irem, 1) := by decide +kernel
theorem dc_Text_addNumber_10 : decode M_Text_addNumber.2.1 10 = .ok (.iadd, 1) := by decide +kernel
theorem dc_Text_addNumber_11 : decode M_Text_addNumber.2.1 11 = .ok (.i2c, 1) := by decide +kernel
theorem dc_Text_addNumber_12 : decode M_Text_addNumber.2.1 12 = .ok (.invokevirtual 19, 3) := by decide +kernel
theorem dc_Text_addNumber_15 : decode M_Text_addNumber.2.1 15 = .ok (.aload_n 0, 1) := by decide +kernel
theorem dc_Text_addNumber_16 : decode M_Text_addNumber.2.1 16 = .ok (.bipush 48, 2) := by decide +kernel
theorem dc_Text_addNumber_18 : decode M_Text_addNumber.2.1 18 = .ok (.iload_n 1, 1) := by decide +kernel
theorem dc_Text_addNumber_19 : decode M_Text_addNumber.2.1 19 = .ok (.bipush 10, 2) := by decide +kernel
theorem dc_Text_addNumber_21 : decode M_Text_addNumber.2.1 21 = .ok (.idiv, 1) := by decide +kernel
theorem dc_Text_addNumber_22 : decode M_Text_addNumber.2.1 22 = .ok (.bipush 10, 2) := by decide +kernel
theorem dc_Text_addNumber_24 : decode M_Text_addNumber.2.1 24 = .ok (.irem, 1) := by decide +kernel
theorem dc_Text_addNumber_25 : decode M_Text_addNumber.2.1 25 = .ok (.iadd, 1) := by decide +kernel
theorem dc_Text_addNumber_26 : decode M_Text_addNumber.2.1 26 = .ok (.i2c, 1) := by decide +kernel
theorem dc_Text_addNumber_27 : decode M_Text_addNumber.2.1 27 = .ok (.invokevirtual 19, 3) := by decide +kernel
theorem dc_Text_addNumber_30 : decode M_Text_addNumber.2.1 30 = .ok (.aload_n 0, 1) := by decide +kernel
theorem dc_Text_addNumber_31 : decode M_Text_addNumber.2.1 31 = .ok (.bipush 48, 2) := by decide +kernel
theorem dc_Text_addNumber_33 : decode M_Text_addNumber.2.1 33 = .ok (.iload_n 1, 1) := by decide +kernel
theorem dc_Text_addNumber_34 : decode M_Text_addNumber.2.1 34 = .ok (.bipush 10, 2) := by decide +kernel
theorem dc_Text_addNumber_36 : decode M_Text_addNumber.2.1 36 = .ok (.irem, 1) := by decide +kernel
theorem dc_Text_addNumber_37 : decode M_Text_addNumber.2.1 37 = .ok (.iadd, 1) := by decide +kernel
theorem dc_Text_addNumber_38 : decode M_Text_addNumber.2.1 38 = .ok (.i2c, 1) := by decide +kernel
theorem dc_Text_addNumber_39 : decode M_Text_addNumber.2.1 39 = .ok (.invokevirtual 19, 3) := by decide +kernel
theorem dc_Text_addNumber_42 : decode M_Text_addNumber.2.1 42 = .ok (.return_, 1) := by decide +kernel
set_option maxRecDepth 20000 in
theorem e_Text_addNumber_0 {d : Nat} {σ : PH} {K : PO → PH → Prop} (x0 : Nat) (x1 : Int32) (h : sh σ x0 = (1, 3) ∧ PW d M_Text_add 0 [.ref x0, .int (((48 + ((x1 / 100) - (x1 / 100) / 10 * 10)).toUInt32 % 65536).toInt32)] [] σ (kV (fun σ1 => sh σ1 x0 = (1, 3) ∧ PW d M_Text_add 0 [.ref x0, .int (((48 + ((x1 / 10) - (x1 / 10) / 10 * 10)).toUInt32 % 65536).toInt32)] [] σ1 (kV (fun σ2 => sh σ2 x0 = (1, 3) ∧ PW d M_Text_add 0 [.ref x0, .int (((48 + (x1 - x1 / 10 * 10)).toUInt32 % 65536).toInt32)] [] σ2 (kV (fun σ3 => K (.inl none) σ3) K)) K)) K)) : PW (d + 1) M_Text_addNumber 0 [.ref x0, .int x1] [] σ K := by
  refine pw_aload_n dc_Text_addNumber_0 rfl rfl ?_
  refine pw_bipush (v := 48) dc_Text_addNumber_1 (by decide) ?_
  refine pw_iload_n dc_Text_addNumber_3 rfl ?_
  refine pw_bipush (v := 100) dc_Text_addNumber_4 (by decide) ?_
  refine pw_idiv dc_Text_addNumber_6 (by decide) ?_
  refine pw_bipush (v := 10) dc_Text_addNumber_7 (by decide) ?_
  refine pw_irem dc_Text_addNumber_9 (by decide) ?_
  refine pw_iadd dc_Text_addNumber_10 ?_
  refine pw_i2c dc_Text_addNumber_11 ?_
  obtain ⟨hs1, h⟩ := h
  refine pw_callV (vs := [.int (((48 + ((x1 / 100) - (x1 / 100) / 10 * 10)).toUInt32 % 65536).toInt32)]) (st := []) (b := x0) (cn := 3) dc_Text_addNumber_12 cq_Text_add (List.mem_of_getElem? (i := 527) (by decide +kernel)) (List.mem_of_getElem? (i := 528) (by decide +kernel)) (List.mem_of_getElem? (i := 672) (by decide +kernel)) rfl hs1 rfl rfl (by decide) (cat_cons rfl (cat_nil)) (Nat.le_of_ble_eq_true rfl) (PW.mono (kV_kN (fun σ1 h => ?_)) h)
  refine pw_aload_n dc_Text_addNumber_15 rfl rfl ?_
  refine pw_bipush (v := 48) dc_Text_addNumber_16 (by decide) ?_
  refine pw_iload_n dc_Text_addNumber_18 rfl ?_
  refine pw_bipush (v := 10) dc_Text_addNumber_19 (by decide) ?_
  refine pw_idiv dc_Text_addNumber_21 (by decide) ?_
  refine pw_bipush (v := 10) dc_Text_addNumber_22 (by decide) ?_
  refine pw_irem dc_Text_addNumber_24 (by decide) ?_
  refine pw_iadd dc_Text_addNumber_25 ?_
  refine pw_i2c dc_Text_addNumber_26 ?_
  obtain ⟨hs2, h⟩ := h
  refine pw_callV (vs := [.int (((48 + ((x1 / 10) - (x1 / 10) / 10 * 10)).toUInt32 % 65536).toInt32)]) (st := []) (b := x0) (cn := 3) dc_Text_addNumber_27 cq_Text_add (List.mem_of_getElem? (i := 527) (by decide +kernel)) (List.mem_of_getElem? (i := 528) (by decide +kernel)) (List.mem_of_getElem? (i := 672) (by decide +kernel)) rfl hs2 rfl rfl (by decide) (cat_cons rfl (cat_nil)) (Nat.le_of_ble_eq_true rfl) (PW.mono (kV_kN (fun σ2 h => ?_)) h)
  refine pw_aload_n dc_Text_addNumber_30 rfl rfl ?_
  refine pw_bipush (v := 48) dc_Text_addNumber_31 (by decide) ?_
  refine pw_iload_n dc_Text_addNumber_33 rfl ?_
  refine pw_bipush (v := 10) dc_Text_addNumber_34 (by decide) ?_
  refine pw_irem dc_Text_addNumber_36 (by decide) ?_
  refine pw_iadd dc_Text_addNumber_37 ?_
  refine pw_i2c dc_Text_addNumber_38 ?_
  obtain ⟨hs3, h⟩ := h
  refine pw_callV (vs := [.int (((48 + (x1 - x1 / 10 * 10)).toUInt32 % 65536).toInt32)]) (st := []) (b := x0) (cn := 3) dc_Text_addNumber_39 cq_Text_add (List.mem_of_getElem? (i := 527) (by decide +kernel)) (List.mem_of_getElem? (i := 528) (by decide +kernel)) (List.mem_of_getElem? (i := 672) (by decide +kernel)) rfl hs3 rfl rfl (by decide) (cat_cons rfl (cat_nil)) (Nat.le_of_ble_eq_true rfl) (PW.mono (kV_kN (fun σ3 h => ?_)) h)
  exact pw_vret dc_Text_addNumber_42 rfl h
theorem dc_Text_addIndicator_0 : decode M_Text_addIndicator.2.1 0 = .ok (.sipush 17576, 3) := by decide +kernel
theorem dc_Text_addIndicator_3 : decode M_Text_addIndicator.2.1 3 = .ok (.istore_n 2, 1) := by decide +kernel
theorem dc_Text_addIndicator_4 : decode M_Text_addIndicator.2.1 4 = .ok (.iconst 0, 1) := by decide +kernel
theorem dc_Text_addIndicator_5 : decode M_Text_addIndicator.2.1 5 = .ok (.istore_n 3, 1) := by decide +kernel
theorem dc_Text_addIndicator_6 : decode M_Text_addIndicator.2.1 6 = .ok (.iload_n 3, 1) := by decide +kernel
theorem dc_Text_addIndicator_7 : decode M_Text_addIndicator.2.1 7 = .ok (.iconst 4, 1) := by decide +kernel
theorem dc_Text_addIndicator_8 : decode M_Text_addIndicator.2.1 8 = .ok (.if_icmp .ge 32, 3) := by decide +kernel
theorem dc_Text_addIndicator_11 : decode M_Text_addIndicator.2.1 11 = .ok (.aload_n 0, 1) := by decide +kernel
theorem dc_Text_addIndicator_12 : decode M_Text_addIndicator.2.1 12 = .ok (.bipush 65, 2) := by decide +kernel
theorem dc_Text_addIndicator_14 : decode M_Text_addIndicator.2.1 14 = .ok (.iload_n 1, 1) := by decide +kernel
theorem dc_Text_addIndicator_15 : decode M_Text_addIndicator.2.1 15 = .ok (.iload_n 2, 1) := by decide +kernel
theorem dc_Text_addIndicator_16 : decode M_Text_addIndicator.2.1 16 = .ok (.idiv, 1) := by decide +kernel
theorem dc_Text_addIndicator_17 : decode M_Text_addIndicator.2.1 17 = .ok (.bipush 26, 2) := by decide +kernel
theorem dc_Text_addIndicator_19 : decode M_Text_addIndicator.2.1 19 = .ok (.irem, 1) := by decide +kernel
theorem dc_Text_addIndicator_20 : decode M_Text_addIndicator.2.1 20 = .ok (.iadd, 1) := by decide +kernel
theorem dc_Text_addIndicator_21 : decode M_Text_addIndicator.2.1 21 = .ok (.i2c, 1) := by decide +kernel
theorem dc_Text_addIndicator_22 : decode M_Text_addIndicator.2.1 22 = .ok (.invokevirtual 19, 3) := by decide +kernel
theorem dc_Text_addIndicator_25 : decode M_Text_addIndicator.2.1 25 = .ok (.iconst 1, 1) := by decide +kernel
theorem dc_Text_addIndicator_26 : decode M_Text_addIndicator.2.1 26 = .ok (.iload_n 2, 1) := by decide +kernel
theorem dc_Text_addIndicator_27 : decode M_Text_addIndicator.2.1 27 = .ok (.bipush 26, 2) := by decide +kernel
theorem dc_Text_addIndicator_29 : decode M_Text_addIndicator.2.1 29 = .ok (.idiv, 1) := by decide +kernel
theorem dc_Text_addIndicator_30 : decode M_Text_addIndicator.2.1 30 = .ok (.invokestatic 23, 3) := by decide +kernel
theorem dc_Text_addIndicator_33 : decode M_Text_addIndicator.2.1 33 = .ok (.istore_n 2, 1) := by decide +kernel
theorem dc_Text_addIndicator_34 : decode M_Text_addIndicator.2.1 34 = .ok (.iinc 3 1, 3) := by decide +kernel
theorem dc_Text_addIndicator_37 : decode M_Text_addIndicator.2.1 37 = .ok (.goto (-31), 3) := by decide +kernel
theorem dc_Text_addIndicator_40 : decode M_Text_addIndicator.2.1 40 = .ok (.return_, 1) := by decide +kernel
set_option maxRecDepth 20000 in
theorem e_Text_addIndicator_0 {d : Nat} {σ : PH} {K : PO → PH → Prop} (x0 : Nat) (x1 : Int32) (h : PW (d + 1) M_Text_addIndicator 6 [.ref x0, .int x1, .int 17576, .int 0] [] σ K) : PW (d + 1) M_Text_addIndicator 0 [.ref x0, .int x1, uu, uu] [] σ K := by
  refine pw_sipush (v := 17576) dc_Text_addIndicator_0 (by decide) ?_
  refine pw_istore_n dc_Text_addIndicator_3 (by decide) ?_
  refine pw_iconst (v := 0) dc_Text_addIndicator_4 (by decide) ?_
  refine pw_istore_n dc_Text_addIndicator_5 (by decide) ?_
  exact h
set_option maxRecDepth 20000 in
theorem e_Text_addIndicator_6 {d : Nat} {σ : PH} {K : PO → PH → Prop} (x0 : Nat) (x1 : Int32) (x2 : Int32) (x3 : Int32) (h : (if 4 ≤ x3 then K (.inl none) σ else ¬ x2 = 0 ∧ sh σ x0 = (1, 3) ∧ PW d M_Text_add 0 [.ref x0, .int (((65 + ((x1 / x2) - (x1 / x2) / 26 * 26)).toUInt32 % 65536).toInt32)] [] σ (kV (fun σ1 => PW (d + 1) M_Text_addIndicator 6 [.ref x0, .int x1, .int (if 1 < (x2 / 26) then x2 / 26 else 1), .int (x3 + 1)] [] σ1 K) K))) : PW (d + 1) M_Text_addIndicator 6 [.ref x0, .int x1, .int x2, .int x3] [] σ K := by
  refine pw_iload_n dc_Text_addIndicator_6 rfl ?_
  refine pw_iconst (v := 4) dc_Text_addIndicator_7 (by decide) ?_
  refine pw_icmp_ge (tgt := 40) dc_Text_addIndicator_8 (by decide) (fun hc => ?_) (fun hc => ?_)
  · have h := ite_t h hc
    exact pw_vret dc_Text_addIndicator_40 rfl h
  · have h := ite_f h hc
    refine pw_aload_n dc_Text_addIndicator_11 rfl rfl ?_
    refine pw_bipush (v := 65) dc_Text_addIndicator_12 (by decide) ?_
    refine pw_iload_n dc_Text_addIndicator_14 rfl ?_
    refine pw_iload_n dc_Text_addIndicator_15 rfl ?_
    obtain ⟨hy1, h⟩ := h
    refine pw_idiv dc_Text_addIndicator_16 hy1 ?_
    refine pw_bipush (v := 26) dc_Text_addIndicator_17 (by decide) ?_
    refine pw_irem dc_Text_addIndicator_19 (by decide) ?_
    refine pw_iadd dc_Text_addIndicator_20 ?_
    refine pw_i2c dc_Text_addIndicator_21 ?_
    obtain ⟨hs1, h⟩ := h
    refine pw_callV (vs := [.int (((65 + ((x1 / x2) - (x1 / x2) / 26 * 26)).toUInt32 % 65536).toInt32)]) (st := []) (b := x0) (cn := 3) dc_Text_addIndicator_22 cq_Text_add (List.mem_of_getElem? (i := 527) (by decide +kernel)) (List.mem_of_getElem? (i := 528) (by decide +kernel)) (List.mem_of_getElem? (i := 672) (by decide +kernel)) rfl hs1 rfl rfl (by decide) (cat_cons rfl (cat_nil)) (Nat.le_of_ble_eq_true rfl) (PW.mono (kV_kN (fun σ1 h => ?_)) h)
    refine pw_iconst (v := 1) dc_Text_addIndicator_25 (by decide) ?_
    refine pw_iload_n dc_Text_addIndicator_26 rfl ?_
    refine pw_bipush (v := 26) dc_Text_addIndicator_27 (by decide) ?_
    refine pw_idiv dc_Text_addIndicator_29 (by decide) ?_
    refine pw_mmax dc_Text_addIndicator_30 (List.mem_of_getElem? (i := 803) (by decide +kernel)) (Nat.le_of_ble_eq_true rfl) ?_
    refine pw_istore_n dc_Text_addIndicator_33 (by decide) ?_
    refine pw_iincv (v := 1) dc_Text_addIndicator_34 (by decide) rfl (by decide) ?_
    refine pw_goto (tgt := 6) dc_Text_addIndicator_37 (by decide) ?_
    exact h
theorem dc_Text_addFrom_0 : decode M_Text_addFrom.2.1 0 = .ok (.iload_n 2, 1) := by decide +kernel
theorem dc_Text_addFrom_1 : decode M_Text_addFrom.2.1 1 = .ok (.istore_n 3, 1) := by decide +kernel
theorem dc_Text_addFrom_2 : decode M_Text_addFrom.2.1 2 = .ok (.iload_n 3, 1) := by decide +kernel
theorem dc_Text_addFrom_3 : decode M_Text_addFrom.2.1 3 = .ok (.aload_n 1, 1) := by decide +kernel
theorem dc_Text_addFrom_4 : decode M_Text_addFrom.2.1 4 = .ok (.getfield 15, 3) := by decide +kernel
theorem dc_Text_addFrom_7 : decode M_Text_addFrom.2.1 7 = .ok (.if_icmp .ge 18, 3) := by decide +kernel
theorem dc_Text_addFrom_10 : decode M_Text_addFrom.2.1 10 = .ok (.aload_n 0, 1) := by decide +kernel
theorem dc_Text_addFrom_11 : decode M_Text_addFrom.2.1 11 = .ok (.aload_n 1, 1) := by decide +kernel
theorem dc_Text_addFrom_12 : decode M_Text_addFrom.2.1 12 = .ok (.iload_n 3, 1) := by decide +kernel
theorem dc_Text_addFrom_13 : decode M_Text_addFrom.2.1 13 = .ok (.invokevirtual 29, 3) := by decide +kernel
theorem dc_Text_addFrom_16 : decode M_Text_addFrom.2.1 16 = .ok (.invokevirtual 19, 3) := by decide +kernel
theorem dc_Text_addFrom_19 : decode M_Text_addFrom.2.1 19 = .ok (.iinc 3 1, 3) := by decide +kernel
theorem dc_Text_addFrom_22 : decode M_Text_addFrom.2.1 22 = .ok (.goto (-20), 3) := by decide +kernel
theorem dc_Text_addFrom_25 : decode M_Text_addFrom.2.1 25 = .ok (.return_, 1) := by decide +kernel
set_option maxRecDepth 20000 in
theorem e_Text_addFrom_0 {d : Nat} {σ : PH} {K : PO → PH → Prop} (x0 : Nat) (x1 : Nat) (x2 : Int32) (h : PW (d + 1) M_Text_addFrom 2 [.ref x0, .ref x1, uu, .int x2] [] σ K) : PW (d + 1) M_Text_addFrom 0 [.ref x0, .ref x1, .int x2, uu] [] σ K := by
  refine pw_iload_n dc_Text_addFrom_0 rfl ?_
  refine pw_istore_n dc_Text_addFrom_1 (by decide) ?_
  refine PW.drop (ls' := [.ref x0, .ref x1, uu, .int x2]) ⟨Or.inl rfl, Or.inl rfl, Or.inr rfl, Or.inl rfl, trivial⟩ ?_
  exact h
set_option maxRecDepth 20000 in
theorem e_Text_addFrom_2 {d : Nat} {σ : PH} {K : PO → PH → Prop} (x0 : Nat) (x1 : Nat) (x3 : Int32) (h : sh σ x1 = (1, 3) ∧ (if (gI σ 193 x1) ≤ x3 then K (.inl none) σ else PW d M_Text_at 0 [.ref x1, .int x3] [] σ (kI (fun r1 σ1 => sh σ1 x0 = (1, 3) ∧ PW d M_Text_add 0 [.ref x0, .int r1] [] σ1 (kV (fun σ2 => PW (d + 1) M_Text_addFrom 2 [.ref x0, .ref x1, uu, .int (x3 + 1)] [] σ2 K) K)) K))) : PW (d + 1) M_Text_addFrom 2 [.ref x0, .ref x1, uu, .int x3] [] σ K := by
  refine pw_iload_n dc_Text_addFrom_2 rfl ?_
  refine pw_aload_n dc_Text_addFrom_3 rfl rfl ?_
  obtain ⟨hs1, h⟩ := h
  refine pw_getI (c := 3) (k := 1) (f := 193) dc_Text_addFrom_4 fl_Text_15 rfl rfl hs1 ?_
  refine pw_icmp_ge (tgt := 25) dc_Text_addFrom_7 (by decide) (fun hc => ?_) (fun hc => ?_)
  · have h := ite_t h hc
    exact pw_vret dc_Text_addFrom_25 rfl h
  · have h := ite_f h hc
    refine pw_aload_n dc_Text_addFrom_10 rfl rfl ?_
    refine pw_aload_n dc_Text_addFrom_11 rfl rfl ?_
    refine pw_iload_n dc_Text_addFrom_12 rfl ?_
    refine pw_callV (vs := [.int x3]) (st := [.ref x0]) (b := x1) (cn := 3) dc_Text_addFrom_13 cq_Text_at (List.mem_of_getElem? (i := 563) (by decide +kernel)) (List.mem_of_getElem? (i := 564) (by decide +kernel)) (List.mem_of_getElem? (i := 671) (by decide +kernel)) rfl hs1 rfl rfl (by decide) (cat_cons rfl (cat_nil)) (Nat.le_of_ble_eq_true rfl) (PW.mono (kI_kN (fun r1 σ1 h => ?_)) h)
    obtain ⟨hs2, h⟩ := h
    refine pw_callV (vs := [.int r1]) (st := []) (b := x0) (cn := 3) dc_Text_addFrom_16 cq_Text_add (List.mem_of_getElem? (i := 527) (by decide +kernel)) (List.mem_of_getElem? (i := 528) (by decide +kernel)) (List.mem_of_getElem? (i := 672) (by decide +kernel)) rfl hs2 rfl rfl (by decide) (cat_cons rfl (cat_nil)) (Nat.le_of_ble_eq_true rfl) (PW.mono (kV_kN (fun σ2 h => ?_)) h)
    refine pw_iincv (v := 1) dc_Text_addFrom_19 (by decide) rfl (by decide) ?_
    refine pw_goto (tgt := 2) dc_Text_addFrom_22 (by decide) ?_
    exact h
theorem dc_Text_shortenTo_0 : decode M_Text_shortenTo.2.1 0 = .ok (.aload_n 0, 1) := by decide +kernel
theorem dc_Text_shortenTo_1 : decode M_Text_shortenTo.2.1 1 = .ok (.aload_n 0, 1) := by decide +kernel
theorem dc_Text_shortenTo_2 : decode M_Text_shortenTo.2.1 2 = .ok (.getfield 15, 3) := by decide +kernel
theorem dc_Text_shortenTo_5 : decode M_Text_shortenTo.2.1 5 = .ok (.iload_n 1, 1) := by decide +kernel
theorem dc_Text_shortenTo_6 : decode M_Text_shortenTo.2.1 6 = .ok (.invokestatic 33, 3) := by decide +kernel
theorem dc_Text_shortenTo_9 : decode M_Text_shortenTo.2.1 9 = .ok (.putfield 15, 3) := by decide +kernel
theorem dc_Text_shortenTo_12 : decode M_Text_shortenTo.2.1 12 = .ok (.return_, 1) := by decide +kernel
set_option maxRecDepth 20000 in
theorem e_Text_shortenTo_0 {d : Nat} {σ : PH} {K : PO → PH → Prop} (x0 : Nat) (x1 : Int32) (h : sh σ x0 = (1, 3) ∧ (∀ σ1 : PH, σ1 = pI σ 193 x0 (if x1 < (gI σ 193 x0) then x1 else gI σ 193 x0) → K (.inl none) σ1)) : PW (d + 1) M_Text_shortenTo 0 [.ref x0, .int x1] [] σ K := by
  refine pw_aload_n dc_Text_shortenTo_0 rfl rfl ?_
  refine pw_aload_n dc_Text_shortenTo_1 rfl rfl ?_
  obtain ⟨hs1, h⟩ := h
  refine pw_getI (c := 3) (k := 1) (f := 193) dc_Text_shortenTo_2 fl_Text_15 rfl rfl hs1 ?_
  refine pw_iload_n dc_Text_shortenTo_5 rfl ?_
  refine pw_mmin dc_Text_shortenTo_6 (List.mem_of_getElem? (i := 545) (by decide +kernel)) (Nat.le_of_ble_eq_true rfl) ?_
  have h := h _ rfl
  refine pw_putI (c := 3) (k := 1) (f := 193) dc_Text_shortenTo_9 fl_Text_15 (Or.inl rfl) rfl rfl hs1 ?_
  exact pw_vret dc_Text_shortenTo_12 rfl h
theorem dc_Text_at_0 : decode M_Text_at.2.1 0 = .ok (.iload_n 1, 1) := by decide +kernel
theorem dc_Text_at_1 : decode M_Text_at.2.1 1 = .ok (.ifCond .lt 20, 3) := by decide +kernel
theorem dc_Text_at_4 : decode M_Text_at.2.1 4 = .ok (.iload_n 1, 1) := by decide +kernel
theorem dc_Text_at_5 : decode M_Text_at.2.1 5 = .ok (.aload_n 0, 1) := by decide +kernel
theorem dc_Text_at_6 : decode M_Text_at.2.1 6 = .ok (.getfield 15, 3) := by decide +kernel
theorem dc_Text_at_9 : decode M_Text_at.2.1 9 = .ok (.if_icmp .ge 12, 3) := by decide +kernel
theorem dc_Text_at_12 : decode M_Text_at.2.1 12 = .ok (.aload_n 0, 1) := by decide +kernel
theorem dc_Text_at_13 : decode M_Text_at.2.1 13 = .ok (.getfield 9, 3) := by decide +kernel
theorem dc_Text_at_16 : decode M_Text_at.2.1 16 = .ok (.iload_n 1, 1) := by decide +kernel
theorem dc_Text_at_17 : decode M_Text_at.2.1 17 = .ok (.caload, 1) := by decide +kernel
theorem dc_Text_at_18 : decode M_Text_at.2.1 18 = .ok (.goto 4, 3) := by decide +kernel
theorem dc_Text_at_21 : decode M_Text_at.2.1 21 = .ok (.iconst 0, 1) := by decide +kernel
theorem dc_Text_at_22 : decode M_Text_at.2.1 22 = .ok (.ireturn, 1) := by decide +kernel
set_option maxRecDepth 20000 in
theorem e_Text_at_0 {d : Nat} {σ : PH} {K : PO → PH → Prop} (x0 : Nat) (x1 : Int32) (h : (if x1 < 0 then ch 0 ∧ K (.inl (some (.int 0))) σ else sh σ x0 = (1, 3) ∧ (if (gI σ 193 x0) ≤ x1 then ch 0 ∧ K (.inl (some (.int 0))) σ else (∃ b1 : Nat, gR σ 192 x0 = some b1 ∧ (∃ n1 : Nat, sh σ b1 = (3, n1) ∧ vp_in x1 n1 ∧ ch (eI σ b1 (ix x1)) ∧ K (.inl (some (.int (eI σ b1 (ix x1))))) σ))))) : PW d M_Text_at 0 [.ref x0, .int x1] [] σ K := by
  refine pw_iload_n dc_Text_at_0 rfl ?_
  refine pw_if_lt (tgt := 21) dc_Text_at_1 (by decide) (fun hc => ?_) (fun hc => ?_)
  · have h := ite_t h hc
    refine pw_iconst (v := 0) dc_Text_at_21 (by decide) ?_
    exact pw_iret dc_Text_at_22 rfl h.1 h.2
  · have h := ite_f h hc
    refine pw_iload_n dc_Text_at_4 rfl ?_
    refine pw_aload_n dc_Text_at_5 rfl rfl ?_
    obtain ⟨hs1, h⟩ := h
    refine pw_getI (c := 3) (k := 1) (f := 193) dc_Text_at_6 fl_Text_15 rfl rfl hs1 ?_
    refine pw_icmp_ge (tgt := 21) dc_Text_at_9 (by decide) (fun hc => ?_) (fun hc => ?_)
    · have h := ite_t h hc
      refine pw_iconst (v := 0) dc_Text_at_21 (by decide) ?_
      exact pw_iret dc_Text_at_22 rfl h.1 h.2
    · have h := ite_f h hc
      refine pw_aload_n dc_Text_at_12 rfl rfl ?_
      refine pw_getR (c := 3) (k := 0) (f := 192) dc_Text_at_13 fl_Text_9 rfl rfl hs1 ?_
      obtain ⟨b1, hb1, h⟩ := h
      refine PW.top (v' := .ref b1) (congrArg va_rf hb1) ?_
      refine pw_iload_n dc_Text_at_16 rfl ?_
      obtain ⟨n1, hs2, h⟩ := h
      obtain ⟨hi1, h⟩ := h
      refine pw_cald dc_Text_at_17 hs2 hi1 ?_
      refine pw_goto (tgt := 22) dc_Text_at_18 (by decide) ?_
      exact pw_iret dc_Text_at_22 rfl h.1 h.2
theorem dc_Text_firstLineEnd_0 : decode M_Text_firstLineEnd.2.1 0 = .ok (.iconst 0, 1) := by decide +kernel
theorem dc_Text_firstLineEnd_1 : decode M_Text_firstLineEnd.2.1 1 = .ok (.istore_n 1, 1) := by decide +kernel
theorem dc_Text_firstLineEnd_2 : decode M_Text_firstLineEnd.2.1 2 = .ok (.iload_n 1, 1) := by decide +kernel
theorem dc_Text_firstLineEnd_3 : decode M_Text_firstLineEnd.2.1 3 = .ok (.aload_n 0, 1) := by decide +kernel
theorem dc_Text_firstLineEnd_4 : decode M_Text_firstLineEnd.2.1 4 = .ok (.getfield 15, 3) := by decide +kernel
theorem dc_Text_firstLineEnd_7 : decode M_Text_firstLineEnd.2.1 7 = .ok (.if_icmp .ge 22, 3) := by decide +kernel
theorem dc_Text_firstLineEnd_10 : decode M_Text_firstLineEnd.2.1 10 = .ok (.aload_n 0, 1) := by decide +kernel
theorem dc_Text_firstLineEnd_11 : decode M_Text_firstLineEnd.2.1 11 = .ok (.getfield 9, 3) := by decide +kernel
theorem dc_Text_firstLineEnd_14 : decode M_Text_firstLineEnd.2.1 14 = .ok (.iload_n 1, 1) := by decide +kernel
theorem dc_Text_firstLineEnd_15 : decode M_Text_firstLineEnd.2.1 15 = .ok (.caload, 1) := by decide +kernel
theorem dc_Text_firstLineEnd_16 : decode M_Text_firstLineEnd.2.1 16 = .ok (.bipush 10, 2) := by decide +kernel
theorem dc_Text_firstLineEnd_18 : decode M_Text_firstLineEnd.2.1 18 = .ok (.if_icmp .ne 5, 3) := by decide +kernel
theorem dc_Text_firstLineEnd_21 : decode M_Text_firstLineEnd.2.1 21 = .ok (.iload_n 1, 1) := by decide +kernel
theorem dc_Text_firstLineEnd_22 : decode M_Text_firstLineEnd.2.1 22 = .ok (.ireturn, 1) := by decide +kernel
theorem dc_Text_firstLineEnd_23 : decode M_Text_firstLineEnd.2.1 23 = .ok (.iinc 1 1, 3) := by decide +kernel
theorem dc_Text_firstLineEnd_26 : decode M_Text_firstLineEnd.2.1 26 = .ok (.goto (-24), 3) := by decide +kernel
theorem dc_Text_firstLineEnd_29 : decode M_Text_firstLineEnd.2.1 29 = .ok (.aload_n 0, 1) := by decide +kernel
theorem dc_Text_firstLineEnd_30 : decode M_Text_firstLineEnd.2.1 30 = .ok (.getfield 15, 3) := by decide +kernel
theorem dc_Text_firstLineEnd_33 : decode M_Text_firstLineEnd.2.1 33 = .ok (.ireturn, 1) := by decide +kernel
set_option maxRecDepth 20000 in
theorem e_Text_firstLineEnd_0 {d : Nat} {σ : PH} {K : PO → PH → Prop} (x0 : Nat) (h : PW d M_Text_firstLineEnd 2 [.ref x0, .int 0] [] σ K) : PW d M_Text_firstLineEnd 0 [.ref x0, uu] [] σ K := by
  refine pw_iconst (v := 0) dc_Text_firstLineEnd_0 (by decide) ?_
  refine pw_istore_n dc_Text_firstLineEnd_1 (by decide) ?_
  exact h
set_option maxRecDepth 20000 in
theorem e_Text_firstLineEnd_2 {d : Nat} {σ : PH} {K : PO → PH → Prop} (x0 : Nat) (x1 : Int32) (h : sh σ x0 = (1, 3) ∧ (if (gI σ 193 x0) ≤ x1 then K (.inl (some (.int (gI σ 193 x0)))) σ else (∃ b1 : Nat, gR σ 192 x0 = some b1 ∧ (∃ n1 : Nat, sh σ b1 = (3, n1) ∧ vp_in x1 n1 ∧ (if (eI σ b1 (ix x1)) = 10 then K (.inl (some (.int x1))) σ else PW d M_Text_firstLineEnd 2 [.ref x0, .int (x1 + 1)] [] σ K))))) : PW d M_Text_firstLineEnd 2 [.ref x0, .int x1] [] σ K := by
  refine pw_iload_n dc_Text_firstLineEnd_2 rfl ?_
  refine pw_aload_n dc_Text_firstLineEnd_3 rfl rfl ?_
  obtain ⟨hs1, h⟩ := h
  refine pw_getI (c := 3) (k := 1) (f := 193) dc_Text_firstLineEnd_4 fl_Text_15 rfl rfl hs1 ?_
  refine pw_icmp_ge (tgt := 29) dc_Text_firstLineEnd_7 (by decide) (fun hc => ?_) (fun hc => ?_)
  · have h := ite_t h hc
    refine pw_aload_n dc_Text_firstLineEnd_29 rfl rfl ?_
    refine pw_getI (c := 3) (k := 1) (f := 193) dc_Text_firstLineEnd_30 fl_Text_15 rfl rfl hs1 ?_
    exact pw_iret dc_Text_firstLineEnd_33 rfl rfl h
  · have h := ite_f h hc
    refine pw_aload_n dc_Text_firstLineEnd_10 rfl rfl ?_
    refine pw_getR (c := 3) (k := 0) (f := 192) dc_Text_firstLineEnd_11 fl_Text_9 rfl rfl hs1 ?_
    obtain ⟨b1, hb1, h⟩ := h
    refine PW.top (v' := .ref b1) (congrArg va_rf hb1) ?_
    refine pw_iload_n dc_Text_firstLineEnd_14 rfl ?_
    obtain ⟨n1, hs2, h⟩ := h
    obtain ⟨hi1, h⟩ := h
    refine pw_cald dc_Text_firstLineEnd_15 hs2 hi1 ?_
    refine pw_bipush (v := 10) dc_Text_firstLineEnd_16 (by decide) ?_
    refine pw_icmp_ne (tgt := 23) dc_Text_firstLineEnd_18 (by decide) (fun hc => ?_) (fun hc => ?_)
    · have h := ite_f h hc
      refine pw_iincv (v := 1) dc_Text_firstLineEnd_23 (by decide) rfl (by decide) ?_
      refine pw_goto (tgt := 2) dc_Text_firstLineEnd_26 (by decide) ?_
      exact h
    · have h := ite_t h hc
      refine pw_iload_n dc_Text_firstLineEnd_21 rfl ?_
      exact pw_iret dc_Text_firstLineEnd_22 rfl rfl h
end
section
theorem fl_Case_14 : FL "RelayDesk$Case" 14 7 1 := ⟨by decide, by decide, Or.inl (List.mem_of_getElem? (i := 332) (by decide +kernel))⟩
theorem fl_Case_20 : FL "RelayDesk$Case" 20 7 0 := ⟨by decide, by decide, Or.inl (List.mem_of_getElem? (i := 330) (by decide +kernel))⟩
theorem fl_Channel_7 : FL "RelayDesk$Channel" 7 1 0 := ⟨by decide, by decide, Or.inl (List.mem_of_getElem? (i := 280) (by decide +kernel))⟩
theorem fl_Channel_16 : FL "RelayDesk$Channel" 16 1 1 := ⟨by decide, by decide, Or.inl (List.mem_of_getElem? (i := 282) (by decide +kernel))⟩
theorem fl_Channel_23 : FL "RelayDesk$Channel" 23 1 2 := ⟨by decide, by decide, Or.inl (List.mem_of_getElem? (i := 284) (by decide +kernel))⟩
theorem fl_Channel_32 : FL "RelayDesk$Channel" 32 1 3 := ⟨by decide, by decide, Or.inl (List.mem_of_getElem? (i := 286) (by decide +kernel))⟩
theorem fl_Numbers_9 : FL "RelayDesk$Numbers" 9 4 0 := ⟨by decide, by decide, Or.inl (List.mem_of_getElem? (i := 225) (by decide +kernel))⟩
theorem fl_Numbers_15 : FL "RelayDesk$Numbers" 15 4 1 := ⟨by decide, by decide, Or.inl (List.mem_of_getElem? (i := 227) (by decide +kernel))⟩
theorem fl_Numbers_34 : FL "RelayDesk$Numbers" 34 4 2 := ⟨by decide, by decide, Or.inl (List.mem_of_getElem? (i := 228) (by decide +kernel))⟩
theorem fl_Route_9 : FL "RelayDesk$Route" 9 8 3 := ⟨by decide, by decide, Or.inl (List.mem_of_getElem? (i := 115) (by decide +kernel))⟩
theorem fl_Route_15 : FL "RelayDesk$Route" 15 8 4 := ⟨by decide, by decide, Or.inl (List.mem_of_getElem? (i := 117) (by decide +kernel))⟩
theorem dc_Case_init_0 : decode M_Case_init.2.1 0 = .ok (.aload_n 0, 1) := by decide +kernel
theorem dc_Case_init_1 : decode M_Case_init.2.1 1 = .ok (.invokespecial 3, 3) := by decide +kernel
theorem dc_Case_init_4 : decode M_Case_init.2.1 4 = .ok (.aload_n 0, 1) := by decide +kernel
theorem dc_Case_init_5 : decode M_Case_init.2.1 5 = .ok (.new 9, 3) := by decide +kernel
theorem dc_Case_init_8 : decode M_Case_init.2.1 8 = .ok (.dup, 1) := by decide +kernel
theorem dc_Case_init_9 : decode M_Case_init.2.1 9 = .ok (.bipush 60, 2) := by decide +kernel
theorem dc_Case_init_11 : decode M_Case_init.2.1 11 = .ok (.invokespecial 11, 3) := by decide +kernel
theorem dc_Case_init_14 : decode M_Case_init.2.1 14 = .ok (.putfield 14, 3) := by decide +kernel
theorem dc_Case_init_17 : decode M_Case_init.2.1 17 = .ok (.return_, 1) := by decide +kernel
set_option maxRecDepth 20000 in
theorem e_Case_init_0 {d : Nat} {σ : PH} {K : PO → PH → Prop} (x0 : Nat) (h : cc σ + 1 ≤ 601024 ∧ cs σ + 2 ≤ 7293034 ∧ (∀ σ1 : PH, σ1 = mk σ (1, 3) 2 → PW d M_Text_init 0 [.ref (nx σ), .int 60] [] σ1 (kV (fun σ2 => sh σ2 x0 = (1, 7) ∧ (∀ σ3 : PH, σ3 = pR σ2 449 x0 (some (nx σ)) → K (.inl none) σ3)) K))) : PW (d + 1) M_Case_init 0 [.ref x0] [] σ K := by
  refine pw_aload_n dc_Case_init_0 rfl rfl ?_
  refine pw_objInit dc_Case_init_1 (List.mem_of_getElem? (i := 327) (by decide +kernel)) (List.mem_of_getElem? (i := 91) (by decide +kernel)) (List.mem_of_getElem? (i := 92) (by decide +kernel)) (Nat.le_of_ble_eq_true rfl) ?_
  refine pw_aload_n dc_Case_init_4 rfl rfl ?_
  obtain ⟨hr1, hr2, h⟩ := h
  have h := h _ rfl
  refine pw_new (c := 3) dc_Case_init_5 (by decide) (List.mem_of_getElem? (i := 328) (by decide +kernel)) rfl hr1 hr2 ?_
  refine pw_dup dc_Case_init_8 rfl ?_
  refine pw_bipush (v := 60) dc_Case_init_9 (by decide) ?_
  refine pw_callI (vs := [.int 60]) (st := [.ref (nx σ), .ref x0]) (b := (nx σ)) dc_Case_init_11 cq_Text_init rfl rfl (List.mem_of_getElem? (i := 190) (by decide +kernel)) (List.mem_of_getElem? (i := 189) (by decide +kernel)) (Or.inl (List.mem_of_getElem? (i := 329) (by decide +kernel))) rfl rfl (by decide) (cat_cons rfl (cat_nil)) (Nat.le_of_ble_eq_true rfl) (PW.mono (kV_kN (fun σ2 h => ?_)) h)
  obtain ⟨hs1, h⟩ := h
  have h := h _ rfl
  refine pw_putR (c := 7) (k := 1) (f := 449) (v := some (nx σ)) dc_Case_init_14 fl_Case_14 (Or.inr ⟨rfl, rfl, rfl, List.mem_of_getElem? (i := 332) (by decide +kernel)⟩) rfl rfl hs1 ?_
  exact pw_vret dc_Case_init_17 rfl h
theorem dc_Case_isClosed_0 : decode M_Case_isClosed.2.1 0 = .ok (.aload_n 0, 1) := by decide +kernel
theorem dc_Case_isClosed_1 : decode M_Case_isClosed.2.1 1 = .ok (.getfield 20, 3) := by decide +kernel
theorem dc_Case_isClosed_4 : decode M_Case_isClosed.2.1 4 = .ok (.ifCond .ne 7, 3) := by decide +kernel
theorem dc_Case_isClosed_7 : decode M_Case_isClosed.2.1 7 = .ok (.iconst 1, 1) := by decide +kernel
theorem dc_Case_isClosed_8 : decode M_Case_isClosed.2.1 8 = .ok (.goto 4, 3) := by decide +kernel
theorem dc_Case_isClosed_11 : decode M_Case_isClosed.2.1 11 = .ok (.iconst 0, 1) := by decide +kernel
theorem dc_Case_isClosed_12 : decode M_Case_isClosed.2.1 12 = .ok (.ireturn, 1) := by decide +kernel
set_option maxRecDepth 20000 in
theorem e_Case_isClosed_0 {d : Nat} {σ : PH} {K : PO → PH → Prop} (x0 : Nat) (h : sh σ x0 = (1, 7) ∧ (if (gI σ 448 x0) = 0 then K (.inl (some (.int 1))) σ else K (.inl (some (.int 0))) σ)) : PW d M_Case_isClosed 0 [.ref x0] [] σ K := by
  refine pw_aload_n dc_Case_isClosed_0 rfl rfl ?_
  obtain ⟨hs1, h⟩ := h
  refine pw_getI (c := 7) (k := 0) (f := 448) dc_Case_isClosed_1 fl_Case_20 rfl rfl hs1 ?_
  refine pw_if_ne (tgt := 11) dc_Case_isClosed_4 (by decide) (fun hc => ?_) (fun hc => ?_)
  · have h := ite_f h hc
    refine pw_iconst (v := 0) dc_Case_isClosed_11 (by decide) ?_
    exact pw_iret dc_Case_isClosed_12 rfl (bo_nar (Or.inl rfl)) h
  · have h := ite_t h hc
    refine pw_iconst (v := 1) dc_Case_isClosed_7 (by decide) ?_
    refine pw_goto (tgt := 12) dc_Case_isClosed_8 (by decide) ?_
    exact pw_iret dc_Case_isClosed_12 rfl (bo_nar (Or.inr rfl)) h
theorem dc_Channel_init_0 : decode M_Channel_init.2.1 0 = .ok (.aload_n 0, 1) := by decide +kernel
theorem dc_Channel_init_1 : decode M_Channel_init.2.1 1 = .ok (.invokespecial 1, 3) := by decide +kernel
theorem dc_Channel_init_4 : decode M_Channel_init.2.1 4 = .ok (.aload_n 0, 1) := by decide +kernel
theorem dc_Channel_init_5 : decode M_Channel_init.2.1 5 = .ok (.iconst 1, 1) := by decide +kernel
theorem dc_Channel_init_6 : decode M_Channel_init.2.1 6 = .ok (.putfield 7, 3) := by decide +kernel
theorem dc_Channel_init_9 : decode M_Channel_init.2.1 9 = .ok (.aload_n 0, 1) := by decide +kernel
theorem dc_Channel_init_10 : decode M_Channel_init.2.1 10 = .ok (.new 13, 3) := by decide +kernel
theorem dc_Channel_init_13 : decode M_Channel_init.2.1 13 = .ok (.dup, 1) := by decide +kernel
theorem dc_Channel_init_14 : decode M_Channel_init.2.1 14 = .ok (.invokespecial 15, 3) := by decide +kernel
theorem dc_Channel_init_17 : decode M_Channel_init.2.1 17 = .ok (.putfield 16, 3) := by decide +kernel
theorem dc_Channel_init_20 : decode M_Channel_init.2.1 20 = .ok (.aload_n 0, 1) := by decide +kernel
theorem dc_Channel_init_21 : decode M_Channel_init.2.1 21 = .ok (.new 20, 3) := by decide +kernel
theorem dc_Channel_init_24 : decode M_Channel_init.2.1 24 = .ok (.dup, 1) := by decide +kernel
theorem dc_Channel_init_25 : decode M_Channel_init.2.1 25 = .ok (.invokespecial 22, 3) := by decide +kernel
theorem dc_Channel_init_28 : decode M_Channel_init.2.1 28 = .ok (.putfield 23, 3) := by decide +kernel
theorem dc_Channel_init_31 : decode M_Channel_init.2.1 31 = .ok (.aload_n 0, 1) := by decide +kernel
theorem dc_Channel_init_32 : decode M_Channel_init.2.1 32 = .ok (.new 27, 3) := by decide +kernel
theorem dc_Channel_init_35 : decode M_Channel_init.2.1 35 = .ok (.dup, 1) := by decide +kernel
theorem dc_Channel_init_36 : decode M_Channel_init.2.1 36 = .ok (.iload_n 1, 1) := by decide +kernel
theorem dc_Channel_init_37 : decode M_Channel_init.2.1 37 = .ok (.invokespecial 29, 3) := by decide +kernel
theorem dc_Channel_init_40 : decode M_Channel_init.2.1 40 = .ok (.putfield 32, 3) := by decide +kernel
theorem dc_Channel_init_43 : decode M_Channel_init.2.1 43 = .ok (.return_, 1) := by decide +kernel
set_option maxRecDepth 20000 in
theorem e_Channel_init_0 {d : Nat} {σ : PH} {K : PO → PH → Prop} (x0 : Nat) (x1 : Int32) (h : sh σ x0 = (1, 1) ∧ (∀ σ1 : PH, σ1 = pI σ 64 x0 1 → cc σ1 + 1 ≤ 601024 ∧ cs σ1 + 5 ≤ 7293034 ∧ (∀ σ2 : PH, σ2 = mk σ1 (1, 2) 5 → PW d M_Intake_init 0 [.ref (nx σ1)] [] σ2 (kV (fun σ3 => sh σ3 x0 = (1, 1) ∧ (∀ σ4 : PH, σ4 = pR σ3 65 x0 (some (nx σ1)) → cc σ4 + 1 ≤ 601024 ∧ cs σ4 + 3 ≤ 7293034 ∧ (∀ σ5 : PH, σ5 = mk σ4 (1, 4) 3 → PW d M_Numbers_init 0 [.ref (nx σ4)] [] σ5 (kV (fun σ6 => sh σ6 x0 = (1, 1) ∧ (∀ σ7 : PH, σ7 = pR σ6 66 x0 (some (nx σ4)) → cc σ7 + 1 ≤ 601024 ∧ cs σ7 + 11 ≤ 7293034 ∧ (∀ σ8 : PH, σ8 = mk σ7 (1, 5) 11 → PW d M_Outlet_init 0 [.ref (nx σ7), .int x1] [] σ8 (kV (fun σ9 => sh σ9 x0 = (1, 1) ∧ (∀ σ10 : PH, σ10 = pR σ9 67 x0 (some (nx σ7)) → K (.inl none) σ10)) K)))) K)))) K)))) : PW (d + 1) M_Channel_init 0 [.ref x0, .int x1] [] σ K := by
  refine pw_aload_n dc_Channel_init_0 rfl rfl ?_
  refine pw_objInit dc_Channel_init_1 (List.mem_of_getElem? (i := 179) (by decide +kernel)) (List.mem_of_getElem? (i := 91) (by decide +kernel)) (List.mem_of_getElem? (i := 92) (by decide +kernel)) (Nat.le_of_ble_eq_true rfl) ?_
  refine pw_aload_n dc_Channel_init_4 rfl rfl ?_
  refine pw_iconst (v := 1) dc_Channel_init_5 (by decide) ?_
  obtain ⟨hs1, h⟩ := h
  have h := h _ rfl
  refine pw_putZ (c := 1) (k := 0) (f := 64) dc_Channel_init_6 fl_Channel_7 (Or.inl rfl) rfl rfl hs1 (Or.inr rfl) ?_
  refine pw_aload_n dc_Channel_init_9 rfl rfl ?_
  obtain ⟨hr1, hr2, h⟩ := h
  have h := h _ rfl
  refine pw_new (c := 2) dc_Channel_init_10 (by decide) (List.mem_of_getElem? (i := 180) (by decide +kernel)) rfl hr1 hr2 ?_
  refine pw_dup dc_Channel_init_13 rfl ?_
  refine pw_callI (vs := []) (st := [.ref _, .ref x0]) (b := _) dc_Channel_init_14 cq_Intake_init rfl rfl (List.mem_of_getElem? (i := 184) (by decide +kernel)) (List.mem_of_getElem? (i := 183) (by decide +kernel)) (Or.inr ⟨"RelayDesk", List.mem_of_getElem? (i := 182) (by decide +kernel)⟩) rfl rfl (by decide) (cat_nil) (Nat.le_of_ble_eq_true rfl) (PW.mono (kV_kN (fun σ3 h => ?_)) h)
  obtain ⟨hs2, h⟩ := h
  have h := h _ rfl
  refine pw_putR (c := 1) (k := 1) (f := 65) (v := some _) dc_Channel_init_17 fl_Channel_16 (Or.inr ⟨rfl, rfl, rfl, List.mem_of_getElem? (i := 282) (by decide +kernel)⟩) rfl rfl hs2 ?_
  refine pw_aload_n dc_Channel_init_20 rfl rfl ?_
  obtain ⟨hr3, hr4, h⟩ := h
  have h := h _ rfl
  refine pw_new (c := 4) dc_Channel_init_21 (by decide) (List.mem_of_getElem? (i := 219) (by decide +kernel)) rfl hr3 hr4 ?_
  refine pw_dup dc_Channel_init_24 rfl ?_
  refine pw_callI (vs := []) (st := [.ref _, .ref x0]) (b := _) dc_Channel_init_25 cq_Numbers_init rfl rfl (List.mem_of_getElem? (i := 223) (by decide +kernel)) (List.mem_of_getElem? (i := 222) (by decide +kernel)) (Or.inr ⟨"RelayDesk", List.mem_of_getElem? (i := 221) (by decide +kernel)⟩) rfl rfl (by decide) (cat_nil) (Nat.le_of_ble_eq_true rfl) (PW.mono (kV_kN (fun σ6 h => ?_)) h)
  obtain ⟨hs3, h⟩ := h
  have h := h _ rfl
  refine pw_putR (c := 1) (k := 2) (f := 66) (v := some _) dc_Channel_init_28 fl_Channel_23 (Or.inr ⟨rfl, rfl, rfl, List.mem_of_getElem? (i := 284) (by decide +kernel)⟩) rfl rfl hs3 ?_
  refine pw_aload_n dc_Channel_init_31 rfl rfl ?_
  obtain ⟨hr5, hr6, h⟩ := h
  have h := h _ rfl
  refine pw_new (c := 5) dc_Channel_init_32 (by decide) (List.mem_of_getElem? (i := 236) (by decide +kernel)) rfl hr5 hr6 ?_
  refine pw_dup dc_Channel_init_35 rfl ?_
  refine pw_iload_n dc_Channel_init_36 rfl ?_
  refine pw_callI (vs := [.int x1]) (st := [.ref _, .ref x0]) (b := _) dc_Channel_init_37 cq_Outlet_init rfl rfl (List.mem_of_getElem? (i := 240) (by decide +kernel)) (List.mem_of_getElem? (i := 239) (by decide +kernel)) (Or.inl (List.mem_of_getElem? (i := 238) (by decide +kernel))) rfl rfl (by decide) (cat_cons rfl (cat_nil)) (Nat.le_of_ble_eq_true rfl) (PW.mono (kV_kN (fun σ9 h => ?_)) h)
  obtain ⟨hs4, h⟩ := h
  have h := h _ rfl
  refine pw_putR (c := 1) (k := 3) (f := 67) (v := some _) dc_Channel_init_40 fl_Channel_32 (Or.inr ⟨rfl, rfl, rfl, List.mem_of_getElem? (i := 286) (by decide +kernel)⟩) rfl rfl hs4 ?_
  exact pw_vret dc_Channel_init_43 rfl h
theorem dc_Channel_loseWhatIsUnderWay_0 : decode M_Channel_loseWhatIsUnderWay.2.1 0 = .ok (.aload_n 0, 1) := by decide +kernel
theorem dc_Channel_loseWhatIsUnderWay_1 : decode M_Channel_loseWhatIsUnderWay.2.1 1 = .ok (.getfield 16, 3) := by decide +kernel
theorem dc_Channel_loseWhatIsUnderWay_4 : decode M_Channel_loseWhatIsUnderWay.2.1 4 = .ok (.invokevirtual 36, 3) := by decide +kernel
theorem dc_Channel_loseWhatIsUnderWay_7 : decode M_Channel_loseWhatIsUnderWay.2.1 7 = .ok (.aload_n 0, 1) := by decide +kernel
theorem dc_Channel_loseWhatIsUnderWay_8 : decode M_Channel_loseWhatIsUnderWay.2.1 8 = .ok (.getfield 32, 3) := by decide +kernel
theorem dc_Channel_loseWhatIsUnderWay_11 : decode M_Channel_loseWhatIsUnderWay.2.1 11 = .ok (.invokevirtual 39, 3) := by decide +kernel
theorem dc_Channel_loseWhatIsUnderWay_14 : decode M_Channel_loseWhatIsUnderWay.2.1 14 = .ok (.return_, 1) := by decide +kernel
set_option maxRecDepth 20000 in
theorem e_Channel_loseWhatIsUnderWay_0 {d : Nat} {σ : PH} {K : PO → PH → Prop} (x0 : Nat) (h : sh σ x0 = (1, 1) ∧ (∃ b1 : Nat, gR σ 65 x0 = some b1 ∧ sh σ b1 = (1, 2) ∧ PW d M_Intake_begin 0 [.ref b1] [] σ (kV (fun σ1 => sh σ1 x0 = (1, 1) ∧ (∃ b2 : Nat, gR σ1 67 x0 = some b2 ∧ sh σ1 b2 = (1, 5) ∧ PW d M_Outlet_beginAnew 0 [.ref b2] [] σ1 (kV (fun σ2 => K (.inl none) σ2) K))) K))) : PW (d + 1) M_Channel_loseWhatIsUnderWay 0 [.ref x0] [] σ K := by
  refine pw_aload_n dc_Channel_loseWhatIsUnderWay_0 rfl rfl ?_
  obtain ⟨hs1, h⟩ := h
  refine pw_getR (c := 1) (k := 1) (f := 65) dc_Channel_loseWhatIsUnderWay_1 fl_Channel_16 rfl rfl hs1 ?_
  obtain ⟨b1, hb1, h⟩ := h
  refine PW.top (v' := .ref b1) (congrArg va_rf hb1) ?_
  obtain ⟨hs2, h⟩ := h
  refine pw_callV (vs := []) (st := []) (b := b1) (cn := 2) dc_Channel_loseWhatIsUnderWay_4 cq_Intake_begin (List.mem_of_getElem? (i := 370) (by decide +kernel)) (List.mem_of_getElem? (i := 371) (by decide +kernel)) (List.mem_of_getElem? (i := 369) (by decide +kernel)) rfl hs2 rfl rfl (by decide) (cat_nil) (Nat.le_of_ble_eq_true rfl) (PW.mono (kV_kN (fun σ1 h => ?_)) h)
  refine pw_aload_n dc_Channel_loseWhatIsUnderWay_7 rfl rfl ?_
  obtain ⟨hs3, h⟩ := h
  refine pw_getR (c := 1) (k := 3) (f := 67) dc_Channel_loseWhatIsUnderWay_8 fl_Channel_32 rfl rfl hs3 ?_
  obtain ⟨b2, hb2, h⟩ := h
  refine PW.top (v' := .ref b2) (congrArg va_rf hb2) ?_
  obtain ⟨hs4, h⟩ := h
  refine pw_callV (vs := []) (st := []) (b := b2) (cn := 5) dc_Channel_loseWhatIsUnderWay_11 cq_Outlet_beginAnew (List.mem_of_getElem? (i := 378) (by decide +kernel)) (List.mem_of_getElem? (i := 379) (by decide +kernel)) (List.mem_of_getElem? (i := 377) (by decide +kernel)) rfl hs4 rfl rfl (by decide) (cat_nil) (Nat.le_of_ble_eq_true rfl) (PW.mono (kV_kN (fun σ2 h => ?_)) h)
  exact pw_vret dc_Channel_loseWhatIsUnderWay_14 rfl h
theorem dc_Numbers_init_0 : decode M_Numbers_init.2.1 0 = .ok (.aload_n 0, 1) := by decide +kernel
theorem dc_Numbers_init_1 : decode M_Numbers_init.2.1 1 = .ok (.invokespecial 3, 3) := by decide +kernel
theorem dc_Numbers_init_4 : decode M_Numbers_init.2.1 4 = .ok (.aload_n 0, 1) := by decide +kernel
theorem dc_Numbers_init_5 : decode M_Numbers_init.2.1 5 = .ok (.sipush 999, 3) := by decide +kernel
theorem dc_Numbers_init_8 : decode M_Numbers_init.2.1 8 = .ok (.putfield 9, 3) := by decide +kernel
theorem dc_Numbers_init_11 : decode M_Numbers_init.2.1 11 = .ok (.aload_n 0, 1) := by decide +kernel
theorem dc_Numbers_init_12 : decode M_Numbers_init.2.1 12 = .ok (.bipush 30, 2) := by decide +kernel
theorem dc_Numbers_init_14 : decode M_Numbers_init.2.1 14 = .ok (.newarray .int, 2) := by decide +kernel
theorem dc_Numbers_init_16 : decode M_Numbers_init.2.1 16 = .ok (.putfield 15, 3) := by decide +kernel
theorem dc_Numbers_init_19 : decode M_Numbers_init.2.1 19 = .ok (.return_, 1) := by decide +kernel
set_option maxRecDepth 20000 in
theorem e_Numbers_init_0 {d : Nat} {σ : PH} {K : PO → PH → Prop} (x0 : Nat) (h : sh σ x0 = (1, 4) ∧ (∀ σ1 : PH, σ1 = pI σ 256 x0 999 → cc σ1 + 1 ≤ 601024 ∧ cs σ1 + 30 ≤ 7293034 ∧ (∀ σ2 : PH, σ2 = mk σ1 (2, 30) 30 → sh σ2 x0 = (1, 4) ∧ (∀ σ3 : PH, σ3 = pR σ2 257 x0 (some (nx σ1)) → K (.inl none) σ3)))) : PW (d + 1) M_Numbers_init 0 [.ref x0] [] σ K := by
  refine pw_aload_n dc_Numbers_init_0 rfl rfl ?_
  refine pw_objInit dc_Numbers_init_1 (List.mem_of_getElem? (i := 224) (by decide +kernel)) (List.mem_of_getElem? (i := 91) (by decide +kernel)) (List.mem_of_getElem? (i := 92) (by decide +kernel)) (Nat.le_of_ble_eq_true rfl) ?_
  refine pw_aload_n dc_Numbers_init_4 rfl rfl ?_
  refine pw_sipush (v := 999) dc_Numbers_init_5 (by decide) ?_
  obtain ⟨hs1, h⟩ := h
  have h := h _ rfl
  refine pw_putI (c := 4) (k := 0) (f := 256) dc_Numbers_init_8 fl_Numbers_9 (Or.inl rfl) rfl rfl hs1 ?_
  refine pw_aload_n dc_Numbers_init_11 rfl rfl ?_
  refine pw_bipush (v := 30) dc_Numbers_init_12 (by decide) ?_
  refine PW.top (v' := .int (nI 30)) rfl ?_
  obtain ⟨hr1, hr2, h⟩ := h
  have h := h _ rfl
  refine pw_newa (k := 2) (N := 30) dc_Numbers_init_14 (by unfold nk; decide) rfl (List.mem_of_getElem? (i := 131) (by decide +kernel)) (by decide) hr1 hr2 ?_
  obtain ⟨hs2, h⟩ := h
  have h := h _ rfl
  refine pw_putR (c := 4) (k := 1) (f := 257) (v := some _) dc_Numbers_init_16 fl_Numbers_15 (Or.inr ⟨rfl, rfl, rfl, List.mem_of_getElem? (i := 227) (by decide +kernel)⟩) rfl rfl hs2 ?_
  exact pw_vret dc_Numbers_init_19 rfl h
theorem dc_Numbers_accepts_0 : decode M_Numbers_accepts.2.1 0 = .ok (.aload_n 0, 1) := by decide +kernel
theorem dc_Numbers_accepts_1 : decode M_Numbers_accepts.2.1 1 = .ok (.iload_n 1, 1) := by decide +kernel
theorem dc_Numbers_accepts_2 : decode M_Numbers_accepts.2.1 2 = .ok (.invokevirtual 19, 3) := by decide +kernel
theorem dc_Numbers_accepts_5 : decode M_Numbers_accepts.2.1 5 = .ok (.ifCond .ne 12, 3) := by decide +kernel
theorem dc_Numbers_accepts_8 : decode M_Numbers_accepts.2.1 8 = .ok (.aload_n 0, 1) := by decide +kernel
theorem dc_Numbers_accepts_9 : decode M_Numbers_accepts.2.1 9 = .ok (.iload_n 1, 1) := by decide +kernel
theorem dc_Numbers_accepts_10 : decode M_Numbers_accepts.2.1 10 = .ok (.invokevirtual 23, 3) := by decide +kernel
theorem dc_Numbers_accepts_13 : decode M_Numbers_accepts.2.1 13 = .ok (.iconst (-1), 1) := by decide +kernel
theorem dc_Numbers_accepts_14 : decode M_Numbers_accepts.2.1 14 = .ok (.if_icmp .eq 7, 3) := by decide +kernel
theorem dc_Numbers_accepts_17 : decode M_Numbers_accepts.2.1 17 = .ok (.iconst 1, 1) := by decide +kernel
theorem dc_Numbers_accepts_18 : decode M_Numbers_accepts.2.1 18 = .ok (.goto 4, 3) := by decide +kernel
theorem dc_Numbers_accepts_21 : decode M_Numbers_accepts.2.1 21 = .ok (.iconst 0, 1) := by decide +kernel
theorem dc_Numbers_accepts_22 : decode M_Numbers_accepts.2.1 22 = .ok (.ireturn, 1) := by decide +kernel
set_option maxRecDepth 20000 in
theorem e_Numbers_accepts_0 {d : Nat} {σ : PH} {K : PO → PH → Prop} (x0 : Nat) (x1 : Int32) (h : sh σ x0 = (1, 4) ∧ PW d M_Numbers_isDue 0 [.ref x0, .int x1, uu] [] σ (kI (fun r1 σ1 => (if r1 = 0 then sh σ1 x0 = (1, 4) ∧ PW d M_Numbers_placeOf 0 [.ref x0, .int x1, uu] [] σ1 (kI (fun r2 σ2 => (if r2 = (-1) then K (.inl (some (.int 0))) σ2 else K (.inl (some (.int 1))) σ2)) K) else K (.inl (some (.int 1))) σ1)) K)) : PW (d + 1) M_Numbers_accepts 0 [.ref x0, .int x1] [] σ K := by
  refine pw_aload_n dc_Numbers_accepts_0 rfl rfl ?_
  refine pw_iload_n dc_Numbers_accepts_1 rfl ?_
  obtain ⟨hs1, h⟩ := h
  refine pw_callV (vs := [.int x1]) (st := []) (b := x0) (cn := 4) dc_Numbers_accepts_2 cq_Numbers_isDue (List.mem_of_getElem? (i := 606) (by decide +kernel)) (List.mem_of_getElem? (i := 12) (by decide +kernel)) (List.mem_of_getElem? (i := 604) (by decide +kernel)) rfl hs1 rfl rfl (by decide) (cat_cons rfl (cat_nil)) (Nat.le_of_ble_eq_true rfl) (PW.mono (kI_kN (fun r1 σ1 h => ?_)) h)
  refine pw_if_ne (tgt := 17) dc_Numbers_accepts_5 (by decide) (fun hc => ?_) (fun hc => ?_)
  · have h := ite_f h hc
    refine pw_iconst (v := 1) dc_Numbers_accepts_17 (by decide) ?_
    refine pw_goto (tgt := 22) dc_Numbers_accepts_18 (by decide) ?_
    exact pw_iret dc_Numbers_accepts_22 rfl (bo_nar (Or.inr rfl)) h
  · have h := ite_t h hc
    refine pw_aload_n dc_Numbers_accepts_8 rfl rfl ?_
    refine pw_iload_n dc_Numbers_accepts_9 rfl ?_
    obtain ⟨hs2, h⟩ := h
    refine pw_callV (vs := [.int x1]) (st := []) (b := x0) (cn := 4) dc_Numbers_accepts_10 cq_Numbers_placeOf (List.mem_of_getElem? (i := 614) (by decide +kernel)) (List.mem_of_getElem? (i := 14) (by decide +kernel)) (List.mem_of_getElem? (i := 612) (by decide +kernel)) rfl hs2 rfl rfl (by decide) (cat_cons rfl (cat_nil)) (Nat.le_of_ble_eq_true rfl) (PW.mono (kI_kN (fun r2 σ2 h => ?_)) h)
    refine pw_iconst (v := (-1)) dc_Numbers_accepts_13 (by decide) ?_
    refine pw_icmp_eq (tgt := 21) dc_Numbers_accepts_14 (by decide) (fun hc => ?_) (fun hc => ?_)
    · have h := ite_t h hc
      refine pw_iconst (v := 0) dc_Numbers_accepts_21 (by decide) ?_
      exact pw_iret dc_Numbers_accepts_22 rfl (bo_nar (Or.inl rfl)) h
    · have h := ite_f h hc
      refine pw_iconst (v := 1) dc_Numbers_accepts_17 (by decide) ?_
      refine pw_goto (tgt := 22) dc_Numbers_accepts_18 (by decide) ?_
      exact pw_iret dc_Numbers_accepts_22 rfl (bo_nar (Or.inr rfl)) h
theorem dc_Numbers_take_0 : decode M_Numbers_take.2.1 0 = .ok (.aload_n 0, 1) := by decide +kernel
theorem dc_Numbers_take_1 : decode M_Numbers_take.2.1 1 = .ok (.iload_n 1, 1) := by decide +kernel
theorem dc_Numbers_take_2 : decode M_Numbers_take.2.1 2 = .ok (.invokevirtual 19, 3) := by decide +kernel
theorem dc_Numbers_take_5 : decode M_Numbers_take.2.1 5 = .ok (.ifCond .eq 16, 3) := by decide +kernel
theorem dc_Numbers_take_8 : decode M_Numbers_take.2.1 8 = .ok (.aload_n 0, 1) := by decide +kernel
theorem dc_Numbers_take_9 : decode M_Numbers_take.2.1 9 = .ok (.iload_n 1, 1) := by decide +kernel
theorem dc_Numbers_take_10 : decode M_Numbers_take.2.1 10 = .ok (.invokevirtual 27, 3) := by decide +kernel
theorem dc_Numbers_take_13 : decode M_Numbers_take.2.1 13 = .ok (.aload_n 0, 1) := by decide +kernel
theorem dc_Numbers_take_14 : decode M_Numbers_take.2.1 14 = .ok (.iload_n 1, 1) := by decide +kernel
theorem dc_Numbers_take_15 : decode M_Numbers_take.2.1 15 = .ok (.putfield 9, 3) := by decide +kernel
theorem dc_Numbers_take_18 : decode M_Numbers_take.2.1 18 = .ok (.goto 12, 3) := by decide +kernel
theorem dc_Numbers_take_21 : decode M_Numbers_take.2.1 21 = .ok (.aload_n 0, 1) := by decide +kernel
theorem dc_Numbers_take_22 : decode M_Numbers_take.2.1 22 = .ok (.aload_n 0, 1) := by decide +kernel
theorem dc_Numbers_take_23 : decode M_Numbers_take.2.1 23 = .ok (.iload_n 1, 1) := by decide +kernel
theorem dc_Numbers_take_24 : decode M_Numbers_take.2.1 24 = .ok (.invokevirtual 23, 3) := by decide +kernel
theorem dc_Numbers_take_27 : decode M_Numbers_take.2.1 27 = .ok (.invokevirtual 31, 3) := by decide +kernel
theorem dc_Numbers_take_30 : decode M_Numbers_take.2.1 30 = .ok (.return_, 1) := by decide +kernel
set_option maxRecDepth 20000 in
theorem e_Numbers_take_0 {d : Nat} {σ : PH} {K : PO → PH → Prop} (x0 : Nat) (x1 : Int32) (h : sh σ x0 = (1, 4) ∧ PW d M_Numbers_isDue 0 [.ref x0, .int x1, uu] [] σ (kI (fun r1 σ1 => (if r1 = 0 then sh σ1 x0 = (1, 4) ∧ PW d M_Numbers_placeOf 0 [.ref x0, .int x1, uu] [] σ1 (kI (fun r2 σ2 => sh σ2 x0 = (1, 4) ∧ PW d M_Numbers_dropMissing 0 [.ref x0, .int r2, uu] [] σ2 (kV (fun σ3 => K (.inl none) σ3) K)) K) else sh σ1 x0 = (1, 4) ∧ PW d M_Numbers_missAllBefore 0 [.ref x0, .int x1, uu, uu, uu] [] σ1 (kV (fun σ4 => sh σ4 x0 = (1, 4) ∧ (∀ σ5 : PH, σ5 = pI σ4 256 x0 x1 → K (.inl none) σ5)) K))) K)) : PW (d + 1) M_Numbers_take 0 [.ref x0, .int x1] [] σ K := by
  refine pw_aload_n dc_Numbers_take_0 rfl rfl ?_
  refine pw_iload_n dc_Numbers_take_1 rfl ?_
  obtain ⟨hs1, h⟩ := h
  refine pw_callV (vs := [.int x1]) (st := []) (b := x0) (cn := 4) dc_Numbers_take_2 cq_Numbers_isDue (List.mem_of_getElem? (i := 606) (by decide +kernel)) (List.mem_of_getElem? (i := 12) (by decide +kernel)) (List.mem_of_getElem? (i := 604) (by decide +kernel)) rfl hs1 rfl rfl (by decide) (cat_cons rfl (cat_nil)) (Nat.le_of_ble_eq_true rfl) (PW.mono (kI_kN (fun r1 σ1 h => ?_)) h)
  refine pw_if_eq (tgt := 21) dc_Numbers_take_5 (by decide) (fun hc => ?_) (fun hc => ?_)
  · have h := ite_t h hc
    refine pw_aload_n dc_Numbers_take_21 rfl rfl ?_
    refine pw_aload_n dc_Numbers_take_22 rfl rfl ?_
    refine pw_iload_n dc_Numbers_take_23 rfl ?_
    obtain ⟨hs2, h⟩ := h
    refine pw_callV (vs := [.int x1]) (st := [.ref x0]) (b := x0) (cn := 4) dc_Numbers_take_24 cq_Numbers_placeOf (List.mem_of_getElem? (i := 614) (by decide +kernel)) (List.mem_of_getElem? (i := 14) (by decide +kernel)) (List.mem_of_getElem? (i := 612) (by decide +kernel)) rfl hs2 rfl rfl (by decide) (cat_cons rfl (cat_nil)) (Nat.le_of_ble_eq_true rfl) (PW.mono (kI_kN (fun r2 σ2 h => ?_)) h)
    obtain ⟨hs3, h⟩ := h
    refine pw_callV (vs := [.int r2]) (st := []) (b := x0) (cn := 4) dc_Numbers_take_27 cq_Numbers_dropMissing (List.mem_of_getElem? (i := 629) (by decide +kernel)) (List.mem_of_getElem? (i := 16) (by decide +kernel)) (List.mem_of_getElem? (i := 627) (by decide +kernel)) rfl hs3 rfl rfl (by decide) (cat_cons rfl (cat_nil)) (Nat.le_of_ble_eq_true rfl) (PW.mono (kV_kN (fun σ3 h => ?_)) h)
    exact pw_vret dc_Numbers_take_30 rfl h
  · have h := ite_f h hc
    refine pw_aload_n dc_Numbers_take_8 rfl rfl ?_
    refine pw_iload_n dc_Numbers_take_9 rfl ?_
    obtain ⟨hs4, h⟩ := h
    refine pw_callV (vs := [.int x1]) (st := []) (b := x0) (cn := 4) dc_Numbers_take_10 cq_Numbers_missAllBefore (List.mem_of_getElem? (i := 622) (by decide +kernel)) (List.mem_of_getElem? (i := 15) (by decide +kernel)) (List.mem_of_getElem? (i := 620) (by decide +kernel)) rfl hs4 rfl rfl (by decide) (cat_cons rfl (cat_nil)) (Nat.le_of_ble_eq_true rfl) (PW.mono (kV_kN (fun σ4 h => ?_)) h)
    refine pw_aload_n dc_Numbers_take_13 rfl rfl ?_
    refine pw_iload_n dc_Numbers_take_14 rfl ?_
    obtain ⟨hs5, h⟩ := h
    have h := h _ rfl
    refine pw_putI (c := 4) (k := 0) (f := 256) dc_Numbers_take_15 fl_Numbers_9 (Or.inl rfl) rfl rfl hs5 ?_
    refine pw_goto (tgt := 30) dc_Numbers_take_18 (by decide) ?_
    exact pw_vret dc_Numbers_take_30 rfl h
theorem dc_Numbers_firstMissing_0 : decode M_Numbers_firstMissing.2.1 0 = .ok (.aload_n 0, 1) := by decide +kernel
theorem dc_Numbers_firstMissing_1 : decode M_Numbers_firstMissing.2.1 1 = .ok (.getfield 34, 3) := by decide +kernel
theorem dc_Numbers_firstMissing_4 : decode M_Numbers_firstMissing.2.1 4 = .ok (.ifCond .le 12, 3) := by decide +kernel
theorem dc_Numbers_firstMissing_7 : decode M_Numbers_firstMissing.2.1 7 = .ok (.aload_n 0, 1) := by decide +kernel
theorem dc_Numbers_firstMissing_8 : decode M_Numbers_firstMissing.2.1 8 = .ok (.getfield 15, 3) := by decide +kernel
theorem dc_Numbers_firstMissing_11 : decode M_Numbers_firstMissing.2.1 11 = .ok (.iconst 0, 1) := by decide +kernel
theorem dc_Numbers_firstMissing_12 : decode M_Numbers_firstMissing.2.1 12 = .ok (.iaload, 1) := by decide +kernel
theorem dc_Numbers_firstMissing_13 : decode M_Numbers_firstMissing.2.1 13 = .ok (.goto 4, 3) := by decide +kernel
theorem dc_Numbers_firstMissing_16 : decode M_Numbers_firstMissing.2.1 16 = .ok (.iconst 0, 1) := by decide +kernel
theorem dc_Numbers_firstMissing_17 : decode M_Numbers_firstMissing.2.1 17 = .ok (.ireturn, 1) := by decide +kernel
set_option maxRecDepth 20000 in
theorem e_Numbers_firstMissing_0 {d : Nat} {σ : PH} {K : PO → PH → Prop} (x0 : Nat) (h : sh σ x0 = (1, 4) ∧ (if (gI σ 258 x0) ≤ 0 then K (.inl (some (.int 0))) σ else (∃ b1 : Nat, gR σ 257 x0 = some b1 ∧ (∃ n1 : Nat, sh σ b1 = (2, n1) ∧ vp_in 0 n1 ∧ K (.inl (some (.int (eI σ b1 (ix 0))))) σ)))) : PW d M_Numbers_firstMissing 0 [.ref x0] [] σ K := by
  refine pw_aload_n dc_Numbers_firstMissing_0 rfl rfl ?_
  obtain ⟨hs1, h⟩ := h
  refine pw_getI (c := 4) (k := 2) (f := 258) dc_Numbers_firstMissing_1 fl_Numbers_34 rfl rfl hs1 ?_
  refine pw_if_le (tgt := 16) dc_Numbers_firstMissing_4 (by decide) (fun hc => ?_) (fun hc => ?_)
  · have h := ite_t h hc
    refine pw_iconst (v := 0) dc_Numbers_firstMissing_16 (by decide) ?_
    exact pw_iret dc_Numbers_firstMissing_17 rfl rfl h
  · have h := ite_f h hc
    refine pw_aload_n dc_Numbers_firstMissing_7 rfl rfl ?_
    refine pw_getR (c := 4) (k := 1) (f := 257) dc_Numbers_firstMissing_8 fl_Numbers_15 rfl rfl hs1 ?_
    obtain ⟨b1, hb1, h⟩ := h
    refine PW.top (v' := .ref b1) (congrArg va_rf hb1) ?_
    refine pw_iconst (v := 0) dc_Numbers_firstMissing_11 (by decide) ?_
    obtain ⟨n1, hs2, h⟩ := h
    obtain ⟨hi1, h⟩ := h
    refine pw_iald dc_Numbers_firstMissing_12 hs2 hi1 ?_
    refine pw_goto (tgt := 17) dc_Numbers_firstMissing_13 (by decide) ?_
    exact pw_iret dc_Numbers_firstMissing_17 rfl rfl h
theorem dc_Numbers_forgetMissing_0 : decode M_Numbers_forgetMissing.2.1 0 = .ok (.aload_n 0, 1) := by decide +kernel
theorem dc_Numbers_forgetMissing_1 : decode M_Numbers_forgetMissing.2.1 1 = .ok (.iconst 0, 1) := by decide +kernel
theorem dc_Numbers_forgetMissing_2 : decode M_Numbers_forgetMissing.2.1 2 = .ok (.putfield 34, 3) := by decide +kernel
theorem dc_Numbers_forgetMissing_5 : decode M_Numbers_forgetMissing.2.1 5 = .ok (.return_, 1) := by decide +kernel
set_option maxRecDepth 20000 in
theorem e_Numbers_forgetMissing_0 {d : Nat} {σ : PH} {K : PO → PH → Prop} (x0 : Nat) (h : sh σ x0 = (1, 4) ∧ (∀ σ1 : PH, σ1 = pI σ 258 x0 0 → K (.inl none) σ1)) : PW d M_Numbers_forgetMissing 0 [.ref x0] [] σ K := by
  refine pw_aload_n dc_Numbers_forgetMissing_0 rfl rfl ?_
  refine pw_iconst (v := 0) dc_Numbers_forgetMissing_1 (by decide) ?_
  obtain ⟨hs1, h⟩ := h
  have h := h _ rfl
  refine pw_putI (c := 4) (k := 2) (f := 258) dc_Numbers_forgetMissing_2 fl_Numbers_34 (Or.inl rfl) rfl rfl hs1 ?_
  exact pw_vret dc_Numbers_forgetMissing_5 rfl h
theorem dc_Numbers_isDue_0 : decode M_Numbers_isDue.2.1 0 = .ok (.aload_n 0, 1) := by decide +kernel
theorem dc_Numbers_isDue_1 : decode M_Numbers_isDue.2.1 1 = .ok (.iload_n 1, 1) := by decide +kernel
theorem dc_Numbers_isDue_2 : decode M_Numbers_isDue.2.1 2 = .ok (.invokevirtual 37, 3) := by decide +kernel
theorem dc_Numbers_isDue_5 : decode M_Numbers_isDue.2.1 5 = .ok (.istore_n 2, 1) := by decide +kernel
theorem dc_Numbers_isDue_6 : decode M_Numbers_isDue.2.1 6 = .ok (.iload_n 2, 1) := by decide +kernel
theorem dc_Numbers_isDue_7 : decode M_Numbers_isDue.2.1 7 = .ok (.bipush 20, 2) := by decide +kernel
theorem dc_Numbers_isDue_9 : decode M_Numbers_isDue.2.1 9 = .ok (.if_icmp .gt 20, 3) := by decide +kernel
theorem dc_Numbers_isDue_12 : decode M_Numbers_isDue.2.1 12 = .ok (.aload_n 0, 1) := by decide +kernel
theorem dc_Numbers_isDue_13 : decode M_Numbers_isDue.2.1 13 = .ok (.getfield 34, 3) := by decide +kernel
theorem dc_Numbers_isDue_16 : decode M_Numbers_isDue.2.1 16 = .ok (.iload_n 2, 1) := by decide +kernel
theorem dc_Numbers_isDue_17 : decode M_Numbers_isDue.2.1 17 = .ok (.iadd, 1) := by decide +kernel
theorem dc_Numbers_isDue_18 : decode M_Numbers_isDue.2.1 18 = .ok (.iconst 1, 1) := by decide +kernel
theorem dc_Numbers_isDue_19 : decode M_Numbers_isDue.2.1 19 = .ok (.isub, 1) := by decide +kernel
theorem dc_Numbers_isDue_20 : decode M_Numbers_isDue.2.1 20 = .ok (.bipush 30, 2) := by decide +kernel
theorem dc_Numbers_isDue_22 : decode M_Numbers_isDue.2.1 22 = .ok (.if_icmp .gt 7, 3) := by decide +kernel
theorem dc_Numbers_isDue_25 : decode M_Numbers_isDue.2.1 25 = .ok (.iconst 1, 1) := by decide +kernel
theorem dc_Numbers_isDue_26 : decode M_Numbers_isDue.2.1 26 = .ok (.goto 4, 3) := by decide +kernel
theorem dc_Numbers_isDue_29 : decode M_Numbers_isDue.2.1 29 = .ok (.iconst 0, 1) := by decide +kernel
theorem dc_Numbers_isDue_30 : decode M_Numbers_isDue.2.1 30 = .ok (.ireturn, 1) := by decide +kernel
set_option maxRecDepth 20000 in
theorem e_Numbers_isDue_0 {d : Nat} {σ : PH} {K : PO → PH → Prop} (x0 : Nat) (x1 : Int32) (h : sh σ x0 = (1, 4) ∧ PW d M_Numbers_aheadOfLast 0 [.ref x0, .int x1, uu] [] σ (kI (fun r1 σ1 => (if 20 < r1 then K (.inl (some (.int 0))) σ1 else sh σ1 x0 = (1, 4) ∧ (if 30 < (((gI σ1 258 x0) + r1) - 1) then K (.inl (some (.int 0))) σ1 else K (.inl (some (.int 1))) σ1))) K)) : PW (d + 1) M_Numbers_isDue 0 [.ref x0, .int x1, uu] [] σ K := by
  refine pw_aload_n dc_Numbers_isDue_0 rfl rfl ?_
  refine pw_iload_n dc_Numbers_isDue_1 rfl ?_
  obtain ⟨hs1, h⟩ := h
  refine pw_callV (vs := [.int x1]) (st := []) (b := x0) (cn := 4) dc_Numbers_isDue_2 cq_Numbers_aheadOfLast (List.mem_of_getElem? (i := 610) (by decide +kernel)) (List.mem_of_getElem? (i := 13) (by decide +kernel)) (List.mem_of_getElem? (i := 608) (by decide +kernel)) rfl hs1 rfl rfl (by decide) (cat_cons rfl (cat_nil)) (Nat.le_of_ble_eq_true rfl) (PW.mono (kI_kN (fun r1 σ1 h => ?_)) h)
  refine pw_istore_n dc_Numbers_isDue_5 (by decide) ?_
  refine pw_iload_n dc_Numbers_isDue_6 rfl ?_
  refine pw_bipush (v := 20) dc_Numbers_isDue_7 (by decide) ?_
  refine pw_icmp_gt (tgt := 29) dc_Numbers_isDue_9 (by decide) (fun hc => ?_) (fun hc => ?_)
  · have h := ite_t h hc
    refine pw_iconst (v := 0) dc_Numbers_isDue_29 (by decide) ?_
    exact pw_iret dc_Numbers_isDue_30 rfl (bo_nar (Or.inl rfl)) h
  · have h := ite_f h hc
    refine pw_aload_n dc_Numbers_isDue_12 rfl rfl ?_
    obtain ⟨hs2, h⟩ := h
    refine pw_getI (c := 4) (k := 2) (f := 258) dc_Numbers_isDue_13 fl_Numbers_34 rfl rfl hs2 ?_
    refine pw_iload_n dc_Numbers_isDue_16 rfl ?_
    refine pw_iadd dc_Numbers_isDue_17 ?_
    refine pw_iconst (v := 1) dc_Numbers_isDue_18 (by decide) ?_
    refine pw_isub dc_Numbers_isDue_19 ?_
    refine pw_bipush (v := 30) dc_Numbers_isDue_20 (by decide) ?_
    refine pw_icmp_gt (tgt := 29) dc_Numbers_isDue_22 (by decide) (fun hc => ?_) (fun hc => ?_)
    · have h := ite_t h hc
      refine pw_iconst (v := 0) dc_Numbers_isDue_29 (by decide) ?_
      exact pw_iret dc_Numbers_isDue_30 rfl (bo_nar (Or.inl rfl)) h
    · have h := ite_f h hc
      refine pw_iconst (v := 1) dc_Numbers_isDue_25 (by decide) ?_
      refine pw_goto (tgt := 30) dc_Numbers_isDue_26 (by decide) ?_
      exact pw_iret dc_Numbers_isDue_30 rfl (bo_nar (Or.inr rfl)) h
theorem dc_Numbers_aheadOfLast_0 : decode M_Numbers_aheadOfLast.2.1 0 = .ok (.iload_n 1, 1) := by decide +kernel
theorem dc_Numbers_aheadOfLast_1 : decode M_Numbers_aheadOfLast.2.1 1 = .ok (.aload_n 0, 1) := by decide +kernel
theorem dc_Numbers_aheadOfLast_2 : decode M_Numbers_aheadOfLast.2.1 2 = .ok (.getfield 9, 3) := by decide +kernel
theorem dc_Numbers_aheadOfLast_5 : decode M_Numbers_aheadOfLast.2.1 5 = .ok (.isub, 1) := by decide +kernel
theorem dc_Numbers_aheadOfLast_6 : decode M_Numbers_aheadOfLast.2.1 6 = .ok (.istore_n 2, 1) := by decide +kernel
theorem dc_Numbers_aheadOfLast_7 : decode M_Numbers_aheadOfLast.2.1 7 = .ok (.iload_n 2, 1) := by decide +kernel
theorem dc_Numbers_aheadOfLast_8 : decode M_Numbers_aheadOfLast.2.1 8 = .ok (.ifCond .le 7, 3) := by decide +kernel
theorem dc_Numbers_aheadOfLast_11 : decode M_Numbers_aheadOfLast.2.1 11 = .ok (.iload_n 2, 1) := by decide +kernel
theorem dc_Numbers_aheadOfLast_12 : decode M_Numbers_aheadOfLast.2.1 12 = .ok (.goto 8, 3) := by decide +kernel
theorem dc_Numbers_aheadOfLast_15 : decode M_Numbers_aheadOfLast.2.1 15 = .ok (.iload_n 2, 1) := by decide +kernel
theorem dc_Numbers_aheadOfLast_16 : decode M_Numbers_aheadOfLast.2.1 16 = .ok (.sipush 999, 3) := by decide +kernel
theorem dc_Numbers_aheadOfLast_19 : decode M_Numbers_aheadOfLast.2.1 19 = .ok (.iadd, 1) := by decide +kernel
theorem dc_Numbers_aheadOfLast_20 : decode M_Numbers_aheadOfLast.2.1 20 = .ok (.ireturn, 1) := by decide +kernel
set_option maxRecDepth 20000 in
theorem e_Numbers_aheadOfLast_0 {d : Nat} {σ : PH} {K : PO → PH → Prop} (x0 : Nat) (x1 : Int32) (h : sh σ x0 = (1, 4) ∧ (if (x1 - (gI σ 256 x0)) ≤ 0 then K (.inl (some (.int ((x1 - (gI σ 256 x0)) + 999)))) σ else K (.inl (some (.int (x1 - (gI σ 256 x0))))) σ)) : PW d M_Numbers_aheadOfLast 0 [.ref x0, .int x1, uu] [] σ K := by
  refine pw_iload_n dc_Numbers_aheadOfLast_0 rfl ?_
  refine pw_aload_n dc_Numbers_aheadOfLast_1 rfl rfl ?_
  obtain ⟨hs1, h⟩ := h
  refine pw_getI (c := 4) (k := 0) (f := 256) dc_Numbers_aheadOfLast_2 fl_Numbers_9 rfl rfl hs1 ?_
  refine pw_isub dc_Numbers_aheadOfLast_5 ?_
  refine pw_istore_n dc_Numbers_aheadOfLast_6 (by decide) ?_
  refine pw_iload_n dc_Numbers_aheadOfLast_7 rfl ?_
  refine pw_if_le (tgt := 15) dc_Numbers_aheadOfLast_8 (by decide) (fun hc => ?_) (fun hc => ?_)
  · have h := ite_t h hc
    refine pw_iload_n dc_Numbers_aheadOfLast_15 rfl ?_
    refine pw_sipush (v := 999) dc_Numbers_aheadOfLast_16 (by decide) ?_
    refine pw_iadd dc_Numbers_aheadOfLast_19 ?_
    exact pw_iret dc_Numbers_aheadOfLast_20 rfl rfl h
  · have h := ite_f h hc
    refine pw_iload_n dc_Numbers_aheadOfLast_11 rfl ?_
    refine pw_goto (tgt := 20) dc_Numbers_aheadOfLast_12 (by decide) ?_
    exact pw_iret dc_Numbers_aheadOfLast_20 rfl rfl h
theorem dc_Numbers_missAllBefore_0 : decode M_Numbers_missAllBefore.2.1 0 = .ok (.aload_n 0, 1) := by decide +kernel
theorem dc_Numbers_missAllBefore_1 : decode M_Numbers_missAllBefore.2.1 1 = .ok (.iload_n 1, 1) := by decide +kernel
theorem dc_Numbers_missAllBefore_2 : decode M_Numbers_missAllBefore.2.1 2 = .ok (.invokevirtual 37, 3) := by decide +kernel
theorem dc_Numbers_missAllBefore_5 : decode M_Numbers_missAllBefore.2.1 5 = .ok (.iconst 1, 1) := by decide +kernel
theorem dc_Numbers_missAllBefore_6 : decode M_Numbers_missAllBefore.2.1 6 = .ok (.isub, 1) := by decide +kernel
theorem dc_Numbers_missAllBefore_7 : decode M_Numbers_missAllBefore.2.1 7 = .ok (.istore_n 2, 1) := by decide +kernel
theorem dc_Numbers_missAllBefore_8 : decode M_Numbers_missAllBefore.2.1 8 = .ok (.aload_n 0, 1) := by decide +kernel
theorem dc_Numbers_missAllBefore_9 : decode M_Numbers_missAllBefore.2.1 9 = .ok (.getfield 9, 3) := by decide +kernel
theorem dc_Numbers_missAllBefore_12 : decode M_Numbers_missAllBefore.2.1 12 = .ok (.istore_n 3, 1) := by decide +kernel
theorem dc_Numbers_missAllBefore_13 : decode M_Numbers_missAllBefore.2.1 13 = .ok (.iconst 0, 1) := by decide +kernel
theorem dc_Numbers_missAllBefore_14 : decode M_Numbers_missAllBefore.2.1 14 = .ok (.istore 4, 2) := by decide +kernel
theorem dc_Numbers_missAllBefore_16 : decode M_Numbers_missAllBefore.2.1 16 = .ok (.iload 4, 2) := by decide +kernel
theorem dc_Numbers_missAllBefore_18 : decode M_Numbers_missAllBefore.2.1 18 = .ok (.iload_n 2, 1) := by decide +kernel
theorem dc_Numbers_missAllBefore_19 : decode M_Numbers_missAllBefore.2.1 19 = .ok (.if_icmp .ge 43, 3) := by decide +kernel
theorem dc_Numbers_missAllBefore_22 : decode M_Numbers_missAllBefore.2.1 22 = .ok (.aload_n 0, 1) := by decide +kernel
theorem dc_Numbers_missAllBefore_23 : decode M_Numbers_missAllBefore.2.1 23 = .ok (.getfield 34, 3) := by decide +kernel
theorem dc_Numbers_missAllBefore_26 : decode M_Numbers_missAllBefore.2.1 26 = .ok (.bipush 30, 2) := by decide +kernel
theorem dc_Numbers_missAllBefore_28 : decode M_Numbers_missAllBefore.2.1 28 = .ok (.if_icmp .ge 34, 3) := by decide +kernel
theorem dc_Numbers_missAllBefore_31 : decode M_Numbers_missAllBefore.2.1 31 = .ok (.iload_n 3, 1) := by decide +kernel
theorem dc_Numbers_missAllBefore_32 : decode M_Numbers_missAllBefore.2.1 32 = .ok (.invokestatic 40, 3) := by decide +kernel
theorem dc_Numbers_missAllBefore_35 : decode M_Numbers_missAllBefore.2.1 35 = .ok (.istore_n 3, 1) := by decide +kernel
theorem dc_Numbers_missAllBefore_36 : decode M_Numbers_missAllBefore.2.1 36 = .ok (.aload_n 0, 1) := by decide +kernel
theorem dc_Numbers_missAllBefore_37 : decode M_Numbers_missAllBefore.2.1 37 = .ok (.getfield 15, 3) := by decide +kernel
theorem dc_Numbers_missAllBefore_40 : decode M_Numbers_missAllBefore.2.1 40 = .ok (.aload_n 0, 1) := by decide +kernel
theorem dc_Numbers_missAllBefore_41 : decode M_Numbers_missAllBefore.2.1 41 = .ok (.getfield 34, 3) := by decide +kernel
theorem dc_Numbers_missAllBefore_44 : decode M_Numbers_missAllBefore.2.1 44 = .ok (.iload_n 3, 1) := by decide +kernel
theorem dc_Numbers_missAllBefore_45 : decode M_Numbers_missAllBefore.2.1 45 = .ok (.iastore, 1) := by decide +kernel
theorem dc_Numbers_missAllBefore_46 : decode M_Numbers_missAllBefore.2.1 46 = .ok (.aload_n 0, 1) := by decide +kernel
theorem dc_Numbers_missAllBefore_47 : decode M_Numbers_missAllBefore.2.1 47 = .ok (.dup, 1) := by decide +kernel
theorem dc_Numbers_missAllBefore_48 : decode M_Numbers_missAllBefore.2.1 48 = .ok (.getfield 34, 3) := by decide +kernel
theorem dc_Numbers_missAllBefore_51 : decode M_Numbers_missAllBefore.2.1 51 = .ok (.iconst 1, 1) := by decide +kernel
theorem dc_Numbers_missAllBefore_52 : decode M_Numbers_missAllBefore.2.1 52 = .ok (.iadd, 1) := by decide +kernel
theorem dc_Numbers_missAllBefore_53 : decode M_Numbers_missAllBefore.2.1 53 = .ok (.putfield 34, 3) := by decide +kernel
theorem dc_Numbers_missAllBefore_56 : decode M_Numbers_missAllBefore.2.1 56 = .ok (.iinc 4 1, 3) := by decide +kernel
theorem dc_Numbers_missAllBefore_59 : decode M_Numbers_missAllBefore.2.1 59 = .ok (.goto (-43), 3) := by decide +kernel
theorem dc_Numbers_missAllBefore_62 : decode M_Numbers_missAllBefore.2.1 62 = .ok (.return_, 1) := by decide +kernel
set_option maxRecDepth 20000 in
theorem e_Numbers_missAllBefore_0 {d : Nat} {σ : PH} {K : PO → PH → Prop} (x0 : Nat) (x1 : Int32) (h : sh σ x0 = (1, 4) ∧ PW d M_Numbers_aheadOfLast 0 [.ref x0, .int x1, uu] [] σ (kI (fun r1 σ1 => sh σ1 x0 = (1, 4) ∧ PW (d + 1) M_Numbers_missAllBefore 16 [.ref x0, uu, .int (r1 - 1), .int (gI σ1 256 x0), .int 0] [] σ1 K) K)) : PW (d + 1) M_Numbers_missAllBefore 0 [.ref x0, .int x1, uu, uu, uu] [] σ K := by
  refine pw_aload_n dc_Numbers_missAllBefore_0 rfl rfl ?_
  refine pw_iload_n dc_Numbers_missAllBefore_1 rfl ?_
  obtain ⟨hs1, h⟩ := h
  refine pw_callV (vs := [.int x1]) (st := []) (b := x0) (cn := 4) dc_Numbers_missAllBefore_2 cq_Numbers_aheadOfLast (List.mem_of_getElem? (i := 610) (by decide +kernel)) (List.mem_of_getElem? (i := 13) (by decide +kernel)) (List.mem_of_getElem? (i := 608) (by decide +kernel)) rfl hs1 rfl rfl (by decide) (cat_cons rfl (cat_nil)) (Nat.le_of_ble_eq_true rfl) (PW.mono (kI_kN (fun r1 σ1 h => ?_)) h)
  refine pw_iconst (v := 1) dc_Numbers_missAllBefore_5 (by decide) ?_
  refine pw_isub dc_Numbers_missAllBefore_6 ?_
  refine pw_istore_n dc_Numbers_missAllBefore_7 (by decide) ?_
  refine pw_aload_n dc_Numbers_missAllBefore_8 rfl rfl ?_
  obtain ⟨hs2, h⟩ := h
  refine pw_getI (c := 4) (k := 0) (f := 256) dc_Numbers_missAllBefore_9 fl_Numbers_9 rfl rfl hs2 ?_
  refine pw_istore_n dc_Numbers_missAllBefore_12 (by decide) ?_
  refine pw_iconst (v := 0) dc_Numbers_missAllBefore_13 (by decide) ?_
  refine pw_istore dc_Numbers_missAllBefore_14 (by decide) ?_
  refine PW.drop (ls' := [.ref x0, uu, .int (r1 - 1), .int (gI σ1 256 x0), .int 0]) ⟨Or.inl rfl, Or.inr rfl, Or.inl rfl, Or.inl rfl, Or.inl rfl, trivial⟩ ?_
  exact h
set_option maxRecDepth 20000 in
theorem e_Numbers_missAllBefore_16 {d : Nat} {σ : PH} {K : PO → PH → Prop} (x0 : Nat) (x2 : Int32) (x3 : Int32) (x4 : Int32) (h : (if x2 ≤ x4 then K (.inl none) σ else sh σ x0 = (1, 4) ∧ (if 30 ≤ (gI σ 258 x0) then K (.inl none) σ else PW d M_Numbers_numberBehind 0 [.int x3] [] σ (kI (fun r1 σ1 => sh σ1 x0 = (1, 4) ∧ (∃ b1 : Nat, gR σ1 257 x0 = some b1 ∧ (∃ n1 : Nat, sh σ1 b1 = (2, n1) ∧ vp_in (gI σ1 258 x0) n1 ∧ (∀ σ2 : PH, σ2 = uI σ1 b1 (ix (gI σ1 258 x0)) r1 → sh σ2 x0 = (1, 4) ∧ (∀ σ3 : PH, σ3 = pI σ2 258 x0 ((gI σ2 258 x0) + 1) → PW (d + 1) M_Numbers_missAllBefore 16 [.ref x0, uu, .int x2, .int r1, .int (x4 + 1)] [] σ3 K))))) K)))) : PW (d + 1) M_Numbers_missAllBefore 16 [.ref x0, uu, .int x2, .int x3, .int x4] [] σ K := by
  refine pw_iload dc_Numbers_missAllBefore_16 rfl ?_
  refine pw_iload_n dc_Numbers_missAllBefore_18 rfl ?_
  refine pw_icmp_ge (tgt := 62) dc_Numbers_missAllBefore_19 (by decide) (fun hc => ?_) (fun hc => ?_)
  · have h := ite_t h hc
    exact pw_vret dc_Numbers_missAllBefore_62 rfl h
  · have h := ite_f h hc
    refine pw_aload_n dc_Numbers_missAllBefore_22 rfl rfl ?_
    obtain ⟨hs1, h⟩ := h
    refine pw_getI (c := 4) (k := 2) (f := 258) dc_Numbers_missAllBefore_23 fl_Numbers_34 rfl rfl hs1 ?_
    refine pw_bipush (v := 30) dc_Numbers_missAllBefore_26 (by decide) ?_
    refine pw_icmp_ge (tgt := 62) dc_Numbers_missAllBefore_28 (by decide) (fun hc => ?_) (fun hc => ?_)
    · have h := ite_t h hc
      exact pw_vret dc_Numbers_missAllBefore_62 rfl h
    · have h := ite_f h hc
      refine pw_iload_n dc_Numbers_missAllBefore_31 rfl ?_
      refine pw_callS (vs := [.int x3]) (st := []) dc_Numbers_missAllBefore_32 cq_Numbers_numberBehind (List.mem_of_getElem? (i := 625) (by decide +kernel)) (List.mem_of_getElem? (i := 624) (by decide +kernel)) rfl rfl (cat_cons rfl (cat_nil)) (Nat.le_of_ble_eq_true rfl) (PW.mono (kI_kN (fun r1 σ1 h => ?_)) h)
      refine pw_istore_n dc_Numbers_missAllBefore_35 (by decide) ?_
      refine pw_aload_n dc_Numbers_missAllBefore_36 rfl rfl ?_
      obtain ⟨hs2, h⟩ := h
      refine pw_getR (c := 4) (k := 1) (f := 257) dc_Numbers_missAllBefore_37 fl_Numbers_15 rfl rfl hs2 ?_
      obtain ⟨b1, hb1, h⟩ := h
      refine PW.top (v' := .ref b1) (congrArg va_rf hb1) ?_
      refine pw_aload_n dc_Numbers_missAllBefore_40 rfl rfl ?_
      refine pw_getI (c := 4) (k := 2) (f := 258) dc_Numbers_missAllBefore_41 fl_Numbers_34 rfl rfl hs2 ?_
      refine pw_iload_n dc_Numbers_missAllBefore_44 rfl ?_
      obtain ⟨n1, hs3, h⟩ := h
      obtain ⟨hi1, h⟩ := h
      have h := h _ rfl
      refine pw_iast dc_Numbers_missAllBefore_45 hs3 hi1 ?_
      refine pw_aload_n dc_Numbers_missAllBefore_46 rfl rfl ?_
      refine pw_dup dc_Numbers_missAllBefore_47 rfl ?_
      obtain ⟨hs4, h⟩ := h
      refine pw_getI (c := 4) (k := 2) (f := 258) dc_Numbers_missAllBefore_48 fl_Numbers_34 rfl rfl hs4 ?_
      refine pw_iconst (v := 1) dc_Numbers_missAllBefore_51 (by decide) ?_
      refine pw_iadd dc_Numbers_missAllBefore_52 ?_
      have h := h _ rfl
      refine pw_putI (c := 4) (k := 2) (f := 258) dc_Numbers_missAllBefore_53 fl_Numbers_34 (Or.inl rfl) rfl rfl hs4 ?_
      refine pw_iincv (v := 1) dc_Numbers_missAllBefore_56 (by decide) rfl (by decide) ?_
      refine pw_goto (tgt := 16) dc_Numbers_missAllBefore_59 (by decide) ?_
      exact h
theorem dc_Numbers_placeOf_0 : decode M_Numbers_placeOf.2.1 0 = .ok (.iconst 0, 1) := by decide +kernel
theorem dc_Numbers_placeOf_1 : decode M_Numbers_placeOf.2.1 1 = .ok (.istore_n 2, 1) := by decide +kernel
theorem dc_Numbers_placeOf_2 : decode M_Numbers_placeOf.2.1 2 = .ok (.iload_n 2, 1) := by decide +kernel
theorem dc_Numbers_placeOf_3 : decode M_Numbers_placeOf.2.1 3 = .ok (.aload_n 0, 1) := by decide +kernel
theorem dc_Numbers_placeOf_4 : decode M_Numbers_placeOf.2.1 4 = .ok (.getfield 34, 3) := by decide +kernel
theorem dc_Numbers_placeOf_7 : decode M_Numbers_placeOf.2.1 7 = .ok (.if_icmp .ge 21, 3) := by decide +kernel
theorem dc_Numbers_placeOf_10 : decode M_Numbers_placeOf.2.1 10 = .ok (.aload_n 0, 1) := by decide +kernel
theorem dc_Numbers_placeOf_11 : decode M_Numbers_placeOf.2.1 11 = .ok (.getfield 15, 3) := by decide +kernel
theorem dc_Numbers_placeOf_14 : decode M_Numbers_placeOf.2.1 14 = .ok (.iload_n 2, 1) := by decide +kernel
theorem dc_Numbers_placeOf_15 : decode M_Numbers_placeOf.2.1 15 = .ok (.iaload, 1) := by decide +kernel
theorem dc_Numbers_placeOf_16 : decode M_Numbers_placeOf.2.1 16 = .ok (.iload_n 1, 1) := by decide +kernel
theorem dc_Numbers_placeOf_17 : decode M_Numbers_placeOf.2.1 17 = .ok (.if_icmp .ne 5, 3) := by decide +kernel
theorem dc_Numbers_placeOf_20 : decode M_Numbers_placeOf.2.1 20 = .ok (.iload_n 2, 1) := by decide +kernel
theorem dc_Numbers_placeOf_21 : decode M_Numbers_placeOf.2.1 21 = .ok (.ireturn, 1) := by decide +kernel
theorem dc_Numbers_placeOf_22 : decode M_Numbers_placeOf.2.1 22 = .ok (.iinc 2 1, 3) := by decide +kernel
theorem dc_Numbers_placeOf_25 : decode M_Numbers_placeOf.2.1 25 = .ok (.goto (-23), 3) := by decide +kernel
theorem dc_Numbers_placeOf_28 : decode M_Numbers_placeOf.2.1 28 = .ok (.iconst (-1), 1) := by decide +kernel
theorem dc_Numbers_placeOf_29 : decode M_Numbers_placeOf.2.1 29 = .ok (.ireturn, 1) := by decide +kernel
set_option maxRecDepth 20000 in
theorem e_Numbers_placeOf_0 {d : Nat} {σ : PH} {K : PO → PH → Prop} (x0 : Nat) (x1 : Int32) (h : PW d M_Numbers_placeOf 2 [.ref x0, .int x1, .int 0] [] σ K) : PW d M_Numbers_placeOf 0 [.ref x0, .int x1, uu] [] σ K := by
  refine pw_iconst (v := 0) dc_Numbers_placeOf_0 (by decide) ?_
  refine pw_istore_n dc_Numbers_placeOf_1 (by decide) ?_
  exact h
set_option maxRecDepth 20000 in
theorem e_Numbers_placeOf_2 {d : Nat} {σ : PH} {K : PO → PH → Prop} (x0 : Nat) (x1 : Int32) (x2 : Int32) (h : sh σ x0 = (1, 4) ∧ (if (gI σ 258 x0) ≤ x2 then K (.inl (some (.int ((-1))))) σ else (∃ b1 : Nat, gR σ 257 x0 = some b1 ∧ (∃ n1 : Nat, sh σ b1 = (2, n1) ∧ vp_in x2 n1 ∧ (if (eI σ b1 (ix x2)) = x1 then K (.inl (some (.int x2))) σ else PW d M_Numbers_placeOf 2 [.ref x0, .int x1, .int (x2 + 1)] [] σ K))))) : PW d M_Numbers_placeOf 2 [.ref x0, .int x1, .int x2] [] σ K := by
  refine pw_iload_n dc_Numbers_placeOf_2 rfl ?_
  refine pw_aload_n dc_Numbers_placeOf_3 rfl rfl ?_
  obtain ⟨hs1, h⟩ := h
  refine pw_getI (c := 4) (k := 2) (f := 258) dc_Numbers_placeOf_4 fl_Numbers_34 rfl rfl hs1 ?_
  refine pw_icmp_ge (tgt := 28) dc_Numbers_placeOf_7 (by decide) (fun hc => ?_) (fun hc => ?_)
  · have h := ite_t h hc
    refine pw_iconst (v := (-1)) dc_Numbers_placeOf_28 (by decide) ?_
    exact pw_iret dc_Numbers_placeOf_29 rfl rfl h
  · have h := ite_f h hc
    refine pw_aload_n dc_Numbers_placeOf_10 rfl rfl ?_
    refine pw_getR (c := 4) (k := 1) (f := 257) dc_Numbers_placeOf_11 fl_Numbers_15 rfl rfl hs1 ?_
    obtain ⟨b1, hb1, h⟩ := h
    refine PW.top (v' := .ref b1) (congrArg va_rf hb1) ?_
    refine pw_iload_n dc_Numbers_placeOf_14 rfl ?_
    obtain ⟨n1, hs2, h⟩ := h
    obtain ⟨hi1, h⟩ := h
    refine pw_iald dc_Numbers_placeOf_15 hs2 hi1 ?_
    refine pw_iload_n dc_Numbers_placeOf_16 rfl ?_
    refine pw_icmp_ne (tgt := 22) dc_Numbers_placeOf_17 (by decide) (fun hc => ?_) (fun hc => ?_)
    · have h := ite_f h hc
      refine pw_iincv (v := 1) dc_Numbers_placeOf_22 (by decide) rfl (by decide) ?_
      refine pw_goto (tgt := 2) dc_Numbers_placeOf_25 (by decide) ?_
      exact h
    · have h := ite_t h hc
      refine pw_iload_n dc_Numbers_placeOf_20 rfl ?_
      exact pw_iret dc_Numbers_placeOf_21 rfl rfl h
theorem dc_Numbers_dropMissing_0 : decode M_Numbers_dropMissing.2.1 0 = .ok (.iload_n 1, 1) := by decide +kernel
theorem dc_Numbers_dropMissing_1 : decode M_Numbers_dropMissing.2.1 1 = .ok (.ifCond .lt 11, 3) := by decide +kernel
theorem dc_Numbers_dropMissing_4 : decode M_Numbers_dropMissing.2.1 4 = .ok (.iload_n 1, 1) := by decide +kernel
theorem dc_Numbers_dropMissing_5 : decode M_Numbers_dropMissing.2.1 5 = .ok (.aload_n 0, 1) := by decide +kernel
theorem dc_Numbers_dropMissing_6 : decode M_Numbers_dropMissing.2.1 6 = .ok (.getfield 34, 3) := by decide +kernel
theorem dc_Numbers_dropMissing_9 : decode M_Numbers_dropMissing.2.1 9 = .ok (.if_icmp .lt 4, 3) := by decide +kernel
theorem dc_Numbers_dropMissing_12 : decode M_Numbers_dropMissing.2.1 12 = .ok (.return_, 1) := by decide +kernel
theorem dc_Numbers_dropMissing_13 : decode M_Numbers_dropMissing.2.1 13 = .ok (.aload_n 0, 1) := by decide +kernel
theorem dc_Numbers_dropMissing_14 : decode M_Numbers_dropMissing.2.1 14 = .ok (.dup, 1) := by decide +kernel
theorem dc_Numbers_dropMissing_15 : decode M_Numbers_dropMissing.2.1 15 = .ok (.getfield 34, 3) := by decide +kernel
theorem dc_Numbers_dropMissing_18 : decode M_Numbers_dropMissing.2.1 18 = .ok (.iconst 1, 1) := by decide +kernel
theorem dc_Numbers_dropMissing_19 : decode M_Numbers_dropMissing.2.1 19 = .ok (.isub, 1) := by decide +kernel
theorem dc_Numbers_dropMissing_20 : decode M_Numbers_dropMissing.2.1 20 = .ok (.putfield 34, 3) := by decide +kernel
theorem dc_Numbers_dropMissing_23 : decode M_Numbers_dropMissing.2.1 23 = .ok (.iload_n 1, 1) := by decide +kernel
theorem dc_Numbers_dropMissing_24 : decode M_Numbers_dropMissing.2.1 24 = .ok (.istore_n 2, 1) := by decide +kernel
theorem dc_Numbers_dropMissing_25 : decode M_Numbers_dropMissing.2.1 25 = .ok (.iload_n 2, 1) := by decide +kernel
theorem dc_Numbers_dropMissing_26 : decode M_Numbers_dropMissing.2.1 26 = .ok (.aload_n 0, 1) := by decide +kernel
theorem dc_Numbers_dropMissing_27 : decode M_Numbers_dropMissing.2.1 27 = .ok (.getfield 34, 3) := by decide +kernel
theorem dc_Numbers_dropMissing_30 : decode M_Numbers_dropMissing.2.1 30 = .ok (.if_icmp .ge 23, 3) := by decide +kernel
theorem dc_Numbers_dropMissing_33 : decode M_Numbers_dropMissing.2.1 33 = .ok (.aload_n 0, 1) := by decide +kernel
theorem dc_Numbers_dropMissing_34 : decode M_Numbers_dropMissing.2.1 34 = .ok (.getfield 15, 3) := by decide +kernel
theorem dc_Numbers_dropMissing_37 : decode M_Numbers_dropMissing.2.1 37 = .ok (.iload_n 2, 1) := by decide +kernel
theorem dc_Numbers_dropMissing_38 : decode M_Numbers_dropMissing.2.1 38 = .ok (.aload_n 0, 1) := by decide +kernel
theorem dc_Numbers_dropMissing_39 : decode M_Numbers_dropMissing.2.1 39 = .ok (.getfield 15, 3) := by decide +kernel
theorem dc_Numbers_dropMissing_42 : decode M_Numbers_dropMissing.2.1 42 = .ok (.iload_n 2, 1) := by decide +kernel
theorem dc_Numbers_dropMissing_43 : decode M_Numbers_dropMissing.2.1 43 = .ok (.iconst 1, 1) := by decide +kernel
theorem dc_Numbers_dropMissing_44 : decode M_Numbers_dropMissing.2.1 44 = .ok (.iadd, 1) := by decide +kernel
theorem dc_Numbers_dropMissing_45 : decode M_Numbers_dropMissing.2.1 45 = .ok (.iaload, 1) := by decide +kernel
theorem dc_Numbers_dropMissing_46 : decode M_Numbers_dropMissing.2.1 46 = .ok (.iastore, 1) := by decide +kernel
theorem dc_Numbers_dropMissing_47 : decode M_Numbers_dropMissing.2.1 47 = .ok (.iinc 2 1, 3) := by decide +kernel
theorem dc_Numbers_dropMissing_50 : decode M_Numbers_dropMissing.2.1 50 = .ok (.goto (-25), 3) := by decide +kernel
theorem dc_Numbers_dropMissing_53 : decode M_Numbers_dropMissing.2.1 53 = .ok (.return_, 1) := by decide +kernel
set_option maxRecDepth 20000 in
theorem e_Numbers_dropMissing_0 {d : Nat} {σ : PH} {K : PO → PH → Prop} (x0 : Nat) (x1 : Int32) (h : (if x1 < 0 then K (.inl none) σ else sh σ x0 = (1, 4) ∧ (if x1 < (gI σ 258 x0) then (∀ σ1 : PH, σ1 = pI σ 258 x0 ((gI σ 258 x0) - 1) → PW d M_Numbers_dropMissing 25 [.ref x0, uu, .int x1] [] σ1 K) else K (.inl none) σ))) : PW d M_Numbers_dropMissing 0 [.ref x0, .int x1, uu] [] σ K := by
  refine pw_iload_n dc_Numbers_dropMissing_0 rfl ?_
  refine pw_if_lt (tgt := 12) dc_Numbers_dropMissing_1 (by decide) (fun hc => ?_) (fun hc => ?_)
  · have h := ite_t h hc
    exact pw_vret dc_Numbers_dropMissing_12 rfl h
  · have h := ite_f h hc
    refine pw_iload_n dc_Numbers_dropMissing_4 rfl ?_
    refine pw_aload_n dc_Numbers_dropMissing_5 rfl rfl ?_
    obtain ⟨hs1, h⟩ := h
    refine pw_getI (c := 4) (k := 2) (f := 258) dc_Numbers_dropMissing_6 fl_Numbers_34 rfl rfl hs1 ?_
    refine pw_icmp_lt (tgt := 13) dc_Numbers_dropMissing_9 (by decide) (fun hc => ?_) (fun hc => ?_)
    · have h := ite_t h hc
      refine pw_aload_n dc_Numbers_dropMissing_13 rfl rfl ?_
      refine pw_dup dc_Numbers_dropMissing_14 rfl ?_
      refine pw_getI (c := 4) (k := 2) (f := 258) dc_Numbers_dropMissing_15 fl_Numbers_34 rfl rfl hs1 ?_
      refine pw_iconst (v := 1) dc_Numbers_dropMissing_18 (by decide) ?_
      refine pw_isub dc_Numbers_dropMissing_19 ?_
      have h := h _ rfl
      refine pw_putI (c := 4) (k := 2) (f := 258) dc_Numbers_dropMissing_20 fl_Numbers_34 (Or.inl rfl) rfl rfl hs1 ?_
      refine pw_iload_n dc_Numbers_dropMissing_23 rfl ?_
      refine pw_istore_n dc_Numbers_dropMissing_24 (by decide) ?_
      refine PW.drop (ls' := [.ref x0, uu, .int x1]) ⟨Or.inl rfl, Or.inr rfl, Or.inl rfl, trivial⟩ ?_
      exact h
    · have h := ite_f h hc
      exact pw_vret dc_Numbers_dropMissing_12 rfl h
set_option maxRecDepth 20000 in
theorem e_Numbers_dropMissing_25 {d : Nat} {σ : PH} {K : PO → PH → Prop} (x0 : Nat) (x2 : Int32) (h : sh σ x0 = (1, 4) ∧ (if (gI σ 258 x0) ≤ x2 then K (.inl none) σ else (∃ b1 : Nat, gR σ 257 x0 = some b1 ∧ (∃ n1 : Nat, sh σ b1 = (2, n1) ∧ vp_in (x2 + 1) n1 ∧ vp_in x2 n1 ∧ (∀ σ1 : PH, σ1 = uI σ b1 (ix x2) (eI σ b1 (ix (x2 + 1))) → PW d M_Numbers_dropMissing 25 [.ref x0, uu, .int (x2 + 1)] [] σ1 K))))) : PW d M_Numbers_dropMissing 25 [.ref x0, uu, .int x2] [] σ K := by
  refine pw_iload_n dc_Numbers_dropMissing_25 rfl ?_
  refine pw_aload_n dc_Numbers_dropMissing_26 rfl rfl ?_
  obtain ⟨hs1, h⟩ := h
  refine pw_getI (c := 4) (k := 2) (f := 258) dc_Numbers_dropMissing_27 fl_Numbers_34 rfl rfl hs1 ?_
  refine pw_icmp_ge (tgt := 53) dc_Numbers_dropMissing_30 (by decide) (fun hc => ?_) (fun hc => ?_)
  · have h := ite_t h hc
    exact pw_vret dc_Numbers_dropMissing_53 rfl h
  · have h := ite_f h hc
    refine pw_aload_n dc_Numbers_dropMissing_33 rfl rfl ?_
    refine pw_getR (c := 4) (k := 1) (f := 257) dc_Numbers_dropMissing_34 fl_Numbers_15 rfl rfl hs1 ?_
    obtain ⟨b1, hb1, h⟩ := h
    refine PW.top (v' := .ref b1) (congrArg va_rf hb1) ?_
    refine pw_iload_n dc_Numbers_dropMissing_37 rfl ?_
    refine pw_aload_n dc_Numbers_dropMissing_38 rfl rfl ?_
    refine pw_getR (c := 4) (k := 1) (f := 257) dc_Numbers_dropMissing_39 fl_Numbers_15 rfl rfl hs1 ?_
    refine PW.top (v' := .ref b1) (congrArg va_rf hb1) ?_
    refine pw_iload_n dc_Numbers_dropMissing_42 rfl ?_
    refine pw_iconst (v := 1) dc_Numbers_dropMissing_43 (by decide) ?_
    refine pw_iadd dc_Numbers_dropMissing_44 ?_
    obtain ⟨n1, hs2, h⟩ := h
    obtain ⟨hi1, h⟩ := h
    refine pw_iald dc_Numbers_dropMissing_45 hs2 hi1 ?_
    obtain ⟨hi2, h⟩ := h
    have h := h _ rfl
    refine pw_iast dc_Numbers_dropMissing_46 hs2 hi2 ?_
    refine pw_iincv (v := 1) dc_Numbers_dropMissing_47 (by decide) rfl (by decide) ?_
    refine pw_goto (tgt := 25) dc_Numbers_dropMissing_50 (by decide) ?_
    exact h
theorem dc_Numbers_numberBehind_0 : decode M_Numbers_numberBehind.2.1 0 = .ok (.iload_n 0, 1) := by decide +kernel
theorem dc_Numbers_numberBehind_1 : decode M_Numbers_numberBehind.2.1 1 = .ok (.sipush 999, 3) := by decide +kernel
theorem dc_Numbers_numberBehind_4 : decode M_Numbers_numberBehind.2.1 4 = .ok (.if_icmp .lt 7, 3) := by decide +kernel
theorem dc_Numbers_numberBehind_7 : decode M_Numbers_numberBehind.2.1 7 = .ok (.iconst 1, 1) := by decide +kernel
theorem dc_Numbers_numberBehind_8 : decode M_Numbers_numberBehind.2.1 8 = .ok (.goto 6, 3) := by decide +kernel
theorem dc_Numbers_numberBehind_11 : decode M_Numbers_numberBehind.2.1 11 = .ok (.iload_n 0, 1) := by decide +kernel
theorem dc_Numbers_numberBehind_12 : decode M_Numbers_numberBehind.2.1 12 = .ok (.iconst 1, 1) := by decide +kernel
theorem dc_Numbers_numberBehind_13 : decode M_Numbers_numberBehind.2.1 13 = .ok (.iadd, 1) := by decide +kernel
theorem dc_Numbers_numberBehind_14 : decode M_Numbers_numberBehind.2.1 14 = .ok (.ireturn, 1) := by decide +kernel
set_option maxRecDepth 20000 in
theorem e_Numbers_numberBehind_0 {d : Nat} {σ : PH} {K : PO → PH → Prop} (x0 : Int32) (h : (if x0 < 999 then K (.inl (some (.int (x0 + 1)))) σ else K (.inl (some (.int 1))) σ)) : PW d M_Numbers_numberBehind 0 [.int x0] [] σ K := by
  refine pw_iload_n dc_Numbers_numberBehind_0 rfl ?_
  refine pw_sipush (v := 999) dc_Numbers_numberBehind_1 (by decide) ?_
  refine pw_icmp_lt (tgt := 11) dc_Numbers_numberBehind_4 (by decide) (fun hc => ?_) (fun hc => ?_)
  · have h := ite_t h hc
    refine pw_iload_n dc_Numbers_numberBehind_11 rfl ?_
    refine pw_iconst (v := 1) dc_Numbers_numberBehind_12 (by decide) ?_
    refine pw_iadd dc_Numbers_numberBehind_13 ?_
    exact pw_iret dc_Numbers_numberBehind_14 rfl rfl h
  · have h := ite_f h hc
    refine pw_iconst (v := 1) dc_Numbers_numberBehind_7 (by decide) ?_
    refine pw_goto (tgt := 14) dc_Numbers_numberBehind_8 (by decide) ?_
    exact pw_iret dc_Numbers_numberBehind_14 rfl rfl h
theorem dc_Route_init_0 : decode M_Route_init.2.1 0 = .ok (.aload_n 0, 1) := by decide +kernel
theorem dc_Route_init_1 : decode M_Route_init.2.1 1 = .ok (.invokespecial 3, 3) := by decide +kernel
theorem dc_Route_init_4 : decode M_Route_init.2.1 4 = .ok (.aload_n 0, 1) := by decide +kernel
theorem dc_Route_init_5 : decode M_Route_init.2.1 5 = .ok (.iconst 4, 1) := by decide +kernel
theorem dc_Route_init_6 : decode M_Route_init.2.1 6 = .ok (.newarray .int, 2) := by decide +kernel
theorem dc_Route_init_8 : decode M_Route_init.2.1 8 = .ok (.putfield 9, 3) := by decide +kernel
theorem dc_Route_init_11 : decode M_Route_init.2.1 11 = .ok (.return_, 1) := by decide +kernel
set_option maxRecDepth 20000 in
theorem e_Route_init_0 {d : Nat} {σ : PH} {K : PO → PH → Prop} (x0 : Nat) (h : cc σ + 1 ≤ 601024 ∧ cs σ + 4 ≤ 7293034 ∧ (∀ σ1 : PH, σ1 = mk σ (2, 4) 4 → sh σ1 x0 = (1, 8) ∧ (∀ σ2 : PH, σ2 = pR σ1 515 x0 (some (nx σ)) → K (.inl none) σ2))) : PW (d + 1) M_Route_init 0 [.ref x0] [] σ K := by
  refine pw_aload_n dc_Route_init_0 rfl rfl ?_
  refine pw_objInit dc_Route_init_1 (List.mem_of_getElem? (i := 111) (by decide +kernel)) (List.mem_of_getElem? (i := 91) (by decide +kernel)) (List.mem_of_getElem? (i := 92) (by decide +kernel)) (Nat.le_of_ble_eq_true rfl) ?_
  refine pw_aload_n dc_Route_init_4 rfl rfl ?_
  refine pw_iconst (v := 4) dc_Route_init_5 (by decide) ?_
  refine PW.top (v' := .int (nI 4)) rfl ?_
  obtain ⟨hr1, hr2, h⟩ := h
  have h := h _ rfl
  refine pw_newa (k := 2) (N := 4) dc_Route_init_6 (by unfold nk; decide) rfl (List.mem_of_getElem? (i := 131) (by decide +kernel)) (by decide) hr1 hr2 ?_
  obtain ⟨hs1, h⟩ := h
  have h := h _ rfl
  refine pw_putR (c := 8) (k := 3) (f := 515) (v := some (nx σ)) dc_Route_init_8 fl_Route_9 (Or.inr ⟨rfl, rfl, rfl, List.mem_of_getElem? (i := 115) (by decide +kernel)⟩) rfl rfl hs1 ?_
  exact pw_vret dc_Route_init_11 rfl h
theorem dc_Route_isGroup_0 : decode M_Route_isGroup.2.1 0 = .ok (.aload_n 0, 1) := by decide +kernel
theorem dc_Route_isGroup_1 : decode M_Route_isGroup.2.1 1 = .ok (.getfield 15, 3) := by decide +kernel
theorem dc_Route_isGroup_4 : decode M_Route_isGroup.2.1 4 = .ok (.ifCond .le 7, 3) := by decide +kernel
theorem dc_Route_isGroup_7 : decode M_Route_isGroup.2.1 7 = .ok (.iconst 1, 1) := by decide +kernel
theorem dc_Route_isGroup_8 : decode M_Route_isGroup.2.1 8 = .ok (.goto 4, 3) := by decide +kernel
theorem dc_Route_isGroup_11 : decode M_Route_isGroup.2.1 11 = .ok (.iconst 0, 1) := by decide +kernel
theorem dc_Route_isGroup_12 : decode M_Route_isGroup.2.1 12 = .ok (.ireturn, 1) := by decide +kernel
set_option maxRecDepth 20000 in
theorem e_Route_isGroup_0 {d : Nat} {σ : PH} {K : PO → PH → Prop} (x0 : Nat) (h : sh σ x0 = (1, 8) ∧ (if (gI σ 516 x0) ≤ 0 then K (.inl (some (.int 0))) σ else K (.inl (some (.int 1))) σ)) : PW d M_Route_isGroup 0 [.ref x0] [] σ K := by
  refine pw_aload_n dc_Route_isGroup_0 rfl rfl ?_
  obtain ⟨hs1, h⟩ := h
  refine pw_getI (c := 8) (k := 4) (f := 516) dc_Route_isGroup_1 fl_Route_15 rfl rfl hs1 ?_
  refine pw_if_le (tgt := 11) dc_Route_isGroup_4 (by decide) (fun hc => ?_) (fun hc => ?_)
  · have h := ite_t h hc
    refine pw_iconst (v := 0) dc_Route_isGroup_11 (by decide) ?_
    exact pw_iret dc_Route_isGroup_12 rfl (bo_nar (Or.inl rfl)) h
  · have h := ite_f h hc
    refine pw_iconst (v := 1) dc_Route_isGroup_7 (by decide) ?_
    refine pw_goto (tgt := 12) dc_Route_isGroup_8 (by decide) ?_
    exact pw_iret dc_Route_isGroup_12 rfl (bo_nar (Or.inr rfl)) h
theorem dc_Route_holds_0 : decode M_Route_holds.2.1 0 = .ok (.iconst 0, 1) := by decide +kernel
theorem dc_Route_holds_1 : decode M_Route_holds.2.1 1 = .ok (.istore_n 2, 1) := by decide +kernel
theorem dc_Route_holds_2 : decode M_Route_holds.2.1 2 = .ok (.iload_n 2, 1) := by decide +kernel
theorem dc_Route_holds_3 : decode M_Route_holds.2.1 3 = .ok (.aload_n 0, 1) := by decide +kernel
theorem dc_Route_holds_4 : decode M_Route_holds.2.1 4 = .ok (.getfield 15, 3) := by decide +kernel
theorem dc_Route_holds_7 : decode M_Route_holds.2.1 7 = .ok (.if_icmp .ge 21, 3) := by decide +kernel
theorem dc_Route_holds_10 : decode M_Route_holds.2.1 10 = .ok (.aload_n 0, 1) := by decide +kernel
theorem dc_Route_holds_11 : decode M_Route_holds.2.1 11 = .ok (.getfield 9, 3) := by decide +kernel
theorem dc_Route_holds_14 : decode M_Route_holds.2.1 14 = .ok (.iload_n 2, 1) := by decide +kernel
theorem dc_Route_holds_15 : decode M_Route_holds.2.1 15 = .ok (.iaload, 1) := by decide +kernel
theorem dc_Route_holds_16 : decode M_Route_holds.2.1 16 = .ok (.iload_n 1, 1) := by decide +kernel
theorem dc_Route_holds_17 : decode M_Route_holds.2.1 17 = .ok (.if_icmp .ne 5, 3) := by decide +kernel
theorem dc_Route_holds_20 : decode M_Route_holds.2.1 20 = .ok (.iconst 1, 1) := by decide +kernel
theorem dc_Route_holds_21 : decode M_Route_holds.2.1 21 = .ok (.ireturn, 1) := by decide +kernel
theorem dc_Route_holds_22 : decode M_Route_holds.2.1 22 = .ok (.iinc 2 1, 3) := by decide +kernel
theorem dc_Route_holds_25 : decode M_Route_holds.2.1 25 = .ok (.goto (-23), 3) := by decide +kernel
theorem dc_Route_holds_28 : decode M_Route_holds.2.1 28 = .ok (.iconst 0, 1) := by decide +kernel
theorem dc_Route_holds_29 : decode M_Route_holds.2.1 29 = .ok (.ireturn, 1) := by decide +kernel
set_option maxRecDepth 20000 in
theorem e_Route_holds_0 {d : Nat} {σ : PH} {K : PO → PH → Prop} (x0 : Nat) (x1 : Int32) (h : PW d M_Route_holds 2 [.ref x0, .int x1, .int 0] [] σ K) : PW d M_Route_holds 0 [.ref x0, .int x1, uu] [] σ K := by
  refine pw_iconst (v := 0) dc_Route_holds_0 (by decide) ?_
  refine pw_istore_n dc_Route_holds_1 (by decide) ?_
  exact h
set_option maxRecDepth 20000 in
theorem e_Route_holds_2 {d : Nat} {σ : PH} {K : PO → PH → Prop} (x0 : Nat) (x1 : Int32) (x2 : Int32) (h : sh σ x0 = (1, 8) ∧ (if (gI σ 516 x0) ≤ x2 then K (.inl (some (.int 0))) σ else (∃ b1 : Nat, gR σ 515 x0 = some b1 ∧ (∃ n1 : Nat, sh σ b1 = (2, n1) ∧ vp_in x2 n1 ∧ (if (eI σ b1 (ix x2)) = x1 then K (.inl (some (.int 1))) σ else PW d M_Route_holds 2 [.ref x0, .int x1, .int (x2 + 1)] [] σ K))))) : PW d M_Route_holds 2 [.ref x0, .int x1, .int x2] [] σ K := by
  refine pw_iload_n dc_Route_holds_2 rfl ?_
  refine pw_aload_n dc_Route_holds_3 rfl rfl ?_
  obtain ⟨hs1, h⟩ := h
  refine pw_getI (c := 8) (k := 4) (f := 516) dc_Route_holds_4 fl_Route_15 rfl rfl hs1 ?_
  refine pw_icmp_ge (tgt := 28) dc_Route_holds_7 (by decide) (fun hc => ?_) (fun hc => ?_)
  · have h := ite_t h hc
    refine pw_iconst (v := 0) dc_Route_holds_28 (by decide) ?_
    exact pw_iret dc_Route_holds_29 rfl (bo_nar (Or.inl rfl)) h
  · have h := ite_f h hc
    refine pw_aload_n dc_Route_holds_10 rfl rfl ?_
    refine pw_getR (c := 8) (k := 3) (f := 515) dc_Route_holds_11 fl_Route_9 rfl rfl hs1 ?_
    obtain ⟨b1, hb1, h⟩ := h
    refine PW.top (v' := .ref b1) (congrArg va_rf hb1) ?_
    refine pw_iload_n dc_Route_holds_14 rfl ?_
    obtain ⟨n1, hs2, h⟩ := h
    obtain ⟨hi1, h⟩ := h
    refine pw_iald dc_Route_holds_15 hs2 hi1 ?_
    refine pw_iload_n dc_Route_holds_16 rfl ?_
    refine pw_icmp_ne (tgt := 22) dc_Route_holds_17 (by decide) (fun hc => ?_) (fun hc => ?_)
    · have h := ite_f h hc
      refine pw_iincv (v := 1) dc_Route_holds_22 (by decide) rfl (by decide) ?_
      refine pw_goto (tgt := 2) dc_Route_holds_25 (by decide) ?_
      exact h
    · have h := ite_t h hc
      refine pw_iconst (v := 1) dc_Route_holds_20 (by decide) ?_
      exact pw_iret dc_Route_holds_21 rfl (bo_nar (Or.inr rfl)) h
theorem dc_Route_addMember_0 : decode M_Route_addMember.2.1 0 = .ok (.aload_n 0, 1) := by decide +kernel
theorem dc_Route_addMember_1 : decode M_Route_addMember.2.1 1 = .ok (.getfield 15, 3) := by decide +kernel
theorem dc_Route_addMember_4 : decode M_Route_addMember.2.1 4 = .ok (.iconst 4, 1) := by decide +kernel
theorem dc_Route_addMember_5 : decode M_Route_addMember.2.1 5 = .ok (.if_icmp .ge 23, 3) := by decide +kernel
theorem dc_Route_addMember_8 : decode M_Route_addMember.2.1 8 = .ok (.aload_n 0, 1) := by decide +kernel
theorem dc_Route_addMember_9 : decode M_Route_addMember.2.1 9 = .ok (.getfield 9, 3) := by decide +kernel
theorem dc_Route_addMember_12 : decode M_Route_addMember.2.1 12 = .ok (.aload_n 0, 1) := by decide +kernel
theorem dc_Route_addMember_13 : decode M_Route_addMember.2.1 13 = .ok (.getfield 15, 3) := by decide +kernel
theorem dc_Route_addMember_16 : decode M_Route_addMember.2.1 16 = .ok (.iload_n 1, 1) := by decide +kernel
theorem dc_Route_addMember_17 : decode M_Route_addMember.2.1 17 = .ok (.iastore, 1) := by decide +kernel
theorem dc_Route_addMember_18 : decode M_Route_addMember.2.1 18 = .ok (.aload_n 0, 1) := by decide +kernel
theorem dc_Route_addMember_19 : decode M_Route_addMember.2.1 19 = .ok (.dup, 1) := by decide +kernel
theorem dc_Route_addMember_20 : decode M_Route_addMember.2.1 20 = .ok (.getfield 15, 3) := by decide +kernel
theorem dc_Route_addMember_23 : decode M_Route_addMember.2.1 23 = .ok (.iconst 1, 1) := by decide +kernel
theorem dc_Route_addMember_24 : decode M_Route_addMember.2.1 24 = .ok (.iadd, 1) := by decide +kernel
theorem dc_Route_addMember_25 : decode M_Route_addMember.2.1 25 = .ok (.putfield 15, 3) := by decide +kernel
theorem dc_Route_addMember_28 : decode M_Route_addMember.2.1 28 = .ok (.aload_n 0, 1) := by decide +kernel
theorem dc_Route_addMember_29 : decode M_Route_addMember.2.1 29 = .ok (.getfield 15, 3) := by decide +kernel
theorem dc_Route_addMember_32 : decode M_Route_addMember.2.1 32 = .ok (.ireturn, 1) := by decide +kernel
set_option maxRecDepth 20000 in
theorem e_Route_addMember_0 {d : Nat} {σ : PH} {K : PO → PH → Prop} (x0 : Nat) (x1 : Int32) (h : sh σ x0 = (1, 8) ∧ (if 4 ≤ (gI σ 516 x0) then K (.inl (some (.int (gI σ 516 x0)))) σ else (∃ b1 : Nat, gR σ 515 x0 = some b1 ∧ (∃ n1 : Nat, sh σ b1 = (2, n1) ∧ vp_in (gI σ 516 x0) n1 ∧ (∀ σ1 : PH, σ1 = uI σ b1 (ix (gI σ 516 x0)) x1 → sh σ1 x0 = (1, 8) ∧ (∀ σ2 : PH, σ2 = pI σ1 516 x0 ((gI σ1 516 x0) + 1) → sh σ2 x0 = (1, 8) ∧ K (.inl (some (.int (gI σ2 516 x0)))) σ2)))))) : PW d M_Route_addMember 0 [.ref x0, .int x1] [] σ K := by
  refine pw_aload_n dc_Route_addMember_0 rfl rfl ?_
  obtain ⟨hs1, h⟩ := h
  refine pw_getI (c := 8) (k := 4) (f := 516) dc_Route_addMember_1 fl_Route_15 rfl rfl hs1 ?_
  refine pw_iconst (v := 4) dc_Route_addMember_4 (by decide) ?_
  refine pw_icmp_ge (tgt := 28) dc_Route_addMember_5 (by decide) (fun hc => ?_) (fun hc => ?_)
  · have h := ite_t h hc
    refine pw_aload_n dc_Route_addMember_28 rfl rfl ?_
    refine pw_getI (c := 8) (k := 4) (f := 516) dc_Route_addMember_29 fl_Route_15 rfl rfl hs1 ?_
    exact pw_iret dc_Route_addMember_32 rfl rfl h
  · have h := ite_f h hc
    refine pw_aload_n dc_Route_addMember_8 rfl rfl ?_
    refine pw_getR (c := 8) (k := 3) (f := 515) dc_Route_addMember_9 fl_Route_9 rfl rfl hs1 ?_
    obtain ⟨b1, hb1, h⟩ := h
    refine PW.top (v' := .ref b1) (congrArg va_rf hb1) ?_
    refine pw_aload_n dc_Route_addMember_12 rfl rfl ?_
    refine pw_getI (c := 8) (k := 4) (f := 516) dc_Route_addMember_13 fl_Route_15 rfl rfl hs1 ?_
    refine pw_iload_n dc_Route_addMember_16 rfl ?_
    obtain ⟨n1, hs2, h⟩ := h
    obtain ⟨hi1, h⟩ := h
    have h := h _ rfl
    refine pw_iast dc_Route_addMember_17 hs2 hi1 ?_
    refine pw_aload_n dc_Route_addMember_18 rfl rfl ?_
    refine pw_dup dc_Route_addMember_19 rfl ?_
    obtain ⟨hs3, h⟩ := h
    refine pw_getI (c := 8) (k := 4) (f := 516) dc_Route_addMember_20 fl_Route_15 rfl rfl hs3 ?_
    refine pw_iconst (v := 1) dc_Route_addMember_23 (by decide) ?_
    refine pw_iadd dc_Route_addMember_24 ?_
    have h := h _ rfl
    refine pw_putI (c := 8) (k := 4) (f := 516) dc_Route_addMember_25 fl_Route_15 (Or.inl rfl) rfl rfl hs3 ?_
    refine pw_aload_n dc_Route_addMember_28 rfl rfl ?_
    obtain ⟨hs4, h⟩ := h
    refine pw_getI (c := 8) (k := 4) (f := 516) dc_Route_addMember_29 fl_Route_15 rfl rfl hs4 ?_
    exact pw_iret dc_Route_addMember_32 rfl rfl h
end
section
theorem fl_Header_9 : FL "RelayDesk$Header" 9 10 2 := ⟨by decide, by decide, Or.inl (List.mem_of_getElem? (i := 151) (by decide +kernel))⟩
theorem fl_Header_21 : FL "RelayDesk$Header" 21 10 4 := ⟨by decide, by decide, Or.inl (List.mem_of_getElem? (i := 157) (by decide +kernel))⟩
theorem fl_Header_25 : FL "RelayDesk$Header" 25 10 6 := ⟨by decide, by decide, Or.inl (List.mem_of_getElem? (i := 159) (by decide +kernel))⟩
theorem fl_Header_38 : FL "RelayDesk$Header" 38 10 5 := ⟨by decide, by decide, Or.inl (List.mem_of_getElem? (i := 158) (by decide +kernel))⟩
theorem fl_Header_51 : FL "RelayDesk$Header" 51 10 0 := ⟨by decide, by decide, Or.inl (List.mem_of_getElem? (i := 147) (by decide +kernel))⟩
theorem fl_Header_60 : FL "RelayDesk$Header" 60 10 1 := ⟨by decide, by decide, Or.inl (List.mem_of_getElem? (i := 150) (by decide +kernel))⟩
theorem fl_Header_63 : FL "RelayDesk$Header" 63 10 3 := ⟨by decide, by decide, Or.inl (List.mem_of_getElem? (i := 156) (by decide +kernel))⟩
theorem fl_Intake_14 : FL "RelayDesk$Intake" 14 2 0 := ⟨by decide, by decide, Or.inl (List.mem_of_getElem? (i := 203) (by decide +kernel))⟩
theorem fl_Intake_23 : FL "RelayDesk$Intake" 23 2 1 := ⟨by decide, by decide, Or.inl (List.mem_of_getElem? (i := 204) (by decide +kernel))⟩
theorem fl_Intake_27 : FL "RelayDesk$Intake" 27 2 2 := ⟨by decide, by decide, Or.inl (List.mem_of_getElem? (i := 205) (by decide +kernel))⟩
theorem fl_Intake_31 : FL "RelayDesk$Intake" 31 2 3 := ⟨by decide, by decide, Or.inl (List.mem_of_getElem? (i := 206) (by decide +kernel))⟩
theorem fl_Intake_34 : FL "RelayDesk$Intake" 34 2 4 := ⟨by decide, by decide, Or.inl (List.mem_of_getElem? (i := 207) (by decide +kernel))⟩
theorem fl_Routes_11 : FL "RelayDesk$Routes" 11 9 0 := ⟨by decide, by decide, Or.inl (List.mem_of_getElem? (i := 132) (by decide +kernel))⟩
theorem fl_Routes_18 : FL "RelayDesk$Routes" 18 9 1 := ⟨by decide, by decide, Or.inl (List.mem_of_getElem? (i := 134) (by decide +kernel))⟩
theorem fl_Routes_22 : FL "RelayDesk$Routes" 22 8 0 := ⟨by decide, by decide, Or.inr ⟨"RelayDesk", List.mem_of_getElem? (i := 112) (by decide +kernel)⟩⟩
theorem fl_Routes_31 : FL "RelayDesk$Routes" 31 10 3 := ⟨by decide, by decide, Or.inr ⟨"RelayDesk", List.mem_of_getElem? (i := 155) (by decide +kernel)⟩⟩
theorem fl_Routes_36 : FL "RelayDesk$Routes" 36 10 2 := ⟨by decide, by decide, Or.inr ⟨"RelayDesk", List.mem_of_getElem? (i := 153) (by decide +kernel)⟩⟩
theorem fl_Routes_58 : FL "RelayDesk$Routes" 58 8 4 := ⟨by decide, by decide, Or.inr ⟨"RelayDesk", List.mem_of_getElem? (i := 119) (by decide +kernel)⟩⟩
theorem fl_Routes_61 : FL "RelayDesk$Routes" 61 8 3 := ⟨by decide, by decide, Or.inr ⟨"RelayDesk", List.mem_of_getElem? (i := 116) (by decide +kernel)⟩⟩
theorem dc_Header_init_0 : decode M_Header_init.2.1 0 = .ok (.aload_n 0, 1) := by decide +kernel
theorem dc_Header_init_1 : decode M_Header_init.2.1 1 = .ok (.invokespecial 3, 3) := by decide +kernel
theorem dc_Header_init_4 : decode M_Header_init.2.1 4 = .ok (.aload_n 0, 1) := by decide +kernel
theorem dc_Header_init_5 : decode M_Header_init.2.1 5 = .ok (.iconst 4, 1) := by decide +kernel
theorem dc_Header_init_6 : decode M_Header_init.2.1 6 = .ok (.newarray .int, 2) := by decide +kernel
theorem dc_Header_init_8 : decode M_Header_init.2.1 8 = .ok (.putfield 9, 3) := by decide +kernel
theorem dc_Header_init_11 : decode M_Header_init.2.1 11 = .ok (.return_, 1) := by decide +kernel
set_option maxRecDepth 20000 in
theorem e_Header_init_0 {d : Nat} {σ : PH} {K : PO → PH → Prop} (x0 : Nat) (h : cc σ + 1 ≤ 601024 ∧ cs σ + 4 ≤ 7293034 ∧ (∀ σ1 : PH, σ1 = mk σ (2, 4) 4 → sh σ1 x0 = (1, 10) ∧ (∀ σ2 : PH, σ2 = pR σ1 642 x0 (some (nx σ)) → K (.inl none) σ2))) : PW (d + 1) M_Header_init 0 [.ref x0] [] σ K := by
  refine pw_aload_n dc_Header_init_0 rfl rfl ?_
  refine pw_objInit dc_Header_init_1 (List.mem_of_getElem? (i := 146) (by decide +kernel)) (List.mem_of_getElem? (i := 91) (by decide +kernel)) (List.mem_of_getElem? (i := 92) (by decide +kernel)) (Nat.le_of_ble_eq_true rfl) ?_
  refine pw_aload_n dc_Header_init_4 rfl rfl ?_
  refine pw_iconst (v := 4) dc_Header_init_5 (by decide) ?_
  refine PW.top (v' := .int (nI 4)) rfl ?_
  obtain ⟨hr1, hr2, h⟩ := h
  have h := h _ rfl
  refine pw_newa (k := 2) (N := 4) dc_Header_init_6 (by unfold nk; decide) rfl (List.mem_of_getElem? (i := 131) (by decide +kernel)) (by decide) hr1 hr2 ?_
  obtain ⟨hs1, h⟩ := h
  have h := h _ rfl
  refine pw_putR (c := 10) (k := 2) (f := 642) (v := some (nx σ)) dc_Header_init_8 fl_Header_9 (Or.inr ⟨rfl, rfl, rfl, List.mem_of_getElem? (i := 151) (by decide +kernel)⟩) rfl rfl hs1 ?_
  exact pw_vret dc_Header_init_11 rfl h
theorem dc_Header_faultIn_0 : decode M_Header_faultIn.2.1 0 = .ok (.aload_n 0, 1) := by decide +kernel
theorem dc_Header_faultIn_1 : decode M_Header_faultIn.2.1 1 = .ok (.aload_n 1, 1) := by decide +kernel
theorem dc_Header_faultIn_2 : decode M_Header_faultIn.2.1 2 = .ok (.invokevirtual 15, 3) := by decide +kernel
theorem dc_Header_faultIn_5 : decode M_Header_faultIn.2.1 5 = .ok (.putfield 21, 3) := by decide +kernel
theorem dc_Header_faultIn_8 : decode M_Header_faultIn.2.1 8 = .ok (.aload_n 0, 1) := by decide +kernel
theorem dc_Header_faultIn_9 : decode M_Header_faultIn.2.1 9 = .ok (.iconst 0, 1) := by decide +kernel
theorem dc_Header_faultIn_10 : decode M_Header_faultIn.2.1 10 = .ok (.putfield 25, 3) := by decide +kernel
theorem dc_Header_faultIn_13 : decode M_Header_faultIn.2.1 13 = .ok (.aload_n 0, 1) := by decide +kernel
theorem dc_Header_faultIn_14 : decode M_Header_faultIn.2.1 14 = .ok (.aload_n 1, 1) := by decide +kernel
theorem dc_Header_faultIn_15 : decode M_Header_faultIn.2.1 15 = .ok (.invokevirtual 28, 3) := by decide +kernel
theorem dc_Header_faultIn_18 : decode M_Header_faultIn.2.1 18 = .ok (.ifCond .eq 11, 3) := by decide +kernel
theorem dc_Header_faultIn_21 : decode M_Header_faultIn.2.1 21 = .ok (.aload_n 0, 1) := by decide +kernel
theorem dc_Header_faultIn_22 : decode M_Header_faultIn.2.1 22 = .ok (.aload_n 1, 1) := by decide +kernel
theorem dc_Header_faultIn_23 : decode M_Header_faultIn.2.1 23 = .ok (.invokevirtual 32, 3) := by decide +kernel
theorem dc_Header_faultIn_26 : decode M_Header_faultIn.2.1 26 = .ok (.ifCond .ne 5, 3) := by decide +kernel
theorem dc_Header_faultIn_29 : decode M_Header_faultIn.2.1 29 = .ok (.iconst 1, 1) := by decide +kernel
theorem dc_Header_faultIn_30 : decode M_Header_faultIn.2.1 30 = .ok (.ireturn, 1) := by decide +kernel
theorem dc_Header_faultIn_31 : decode M_Header_faultIn.2.1 31 = .ok (.iload_n 2, 1) := by decide +kernel
theorem dc_Header_faultIn_32 : decode M_Header_faultIn.2.1 32 = .ok (.ifCond .eq 5, 3) := by decide +kernel
theorem dc_Header_faultIn_35 : decode M_Header_faultIn.2.1 35 = .ok (.iconst 2, 1) := by decide +kernel
theorem dc_Header_faultIn_36 : decode M_Header_faultIn.2.1 36 = .ok (.ireturn, 1) := by decide +kernel
theorem dc_Header_faultIn_37 : decode M_Header_faultIn.2.1 37 = .ok (.aload_n 0, 1) := by decide +kernel
theorem dc_Header_faultIn_38 : decode M_Header_faultIn.2.1 38 = .ok (.aload_n 1, 1) := by decide +kernel
theorem dc_Header_faultIn_39 : decode M_Header_faultIn.2.1 39 = .ok (.invokevirtual 28, 3) := by decide +kernel
theorem dc_Header_faultIn_42 : decode M_Header_faultIn.2.1 42 = .ok (.istore_n 3, 1) := by decide +kernel
theorem dc_Header_faultIn_43 : decode M_Header_faultIn.2.1 43 = .ok (.iload_n 3, 1) := by decide +kernel
theorem dc_Header_faultIn_44 : decode M_Header_faultIn.2.1 44 = .ok (.ifCond .eq 30, 3) := by decide +kernel
theorem dc_Header_faultIn_47 : decode M_Header_faultIn.2.1 47 = .ok (.aload_n 0, 1) := by decide +kernel
theorem dc_Header_faultIn_48 : decode M_Header_faultIn.2.1 48 = .ok (.invokevirtual 35, 3) := by decide +kernel
theorem dc_Header_faultIn_51 : decode M_Header_faultIn.2.1 51 = .ok (.iconst 1, 1) := by decide +kernel
theorem dc_Header_faultIn_52 : decode M_Header_faultIn.2.1 52 = .ok (.if_icmp .ne 22, 3) := by decide +kernel
theorem dc_Header_faultIn_55 : decode M_Header_faultIn.2.1 55 = .ok (.aload_n 1, 1) := by decide +kernel
theorem dc_Header_faultIn_56 : decode M_Header_faultIn.2.1 56 = .ok (.aload_n 0, 1) := by decide +kernel
theorem dc_Header_faultIn_57 : decode M_Header_faultIn.2.1 57 = .ok (.getfield 38, 3) := by decide +kernel
theorem dc_Header_faultIn_60 : decode M_Header_faultIn.2.1 60 = .ok (.invokevirtual 41, 3) := by decide +kernel
theorem dc_Header_faultIn_63 : decode M_Header_faultIn.2.1 63 = .ok (.bipush 82, 2) := by decide +kernel
theorem dc_Header_faultIn_65 : decode M_Header_faultIn.2.1 65 = .ok (.if_icmp .ne 9, 3) := by decide +kernel
theorem dc_Header_faultIn_68 : decode M_Header_faultIn.2.1 68 = .ok (.aload_n 0, 1) := by decide +kernel
theorem dc_Header_faultIn_69 : decode M_Header_faultIn.2.1 69 = .ok (.aload_n 1, 1) := by decide +kernel
theorem dc_Header_faultIn_70 : decode M_Header_faultIn.2.1 70 = .ok (.invokevirtual 28, 3) := by decide +kernel
theorem dc_Header_faultIn_73 : decode M_Header_faultIn.2.1 73 = .ok (.istore_n 3, 1) := by decide +kernel
theorem dc_Header_faultIn_74 : decode M_Header_faultIn.2.1 74 = .ok (.iload_n 3, 1) := by decide +kernel
theorem dc_Header_faultIn_75 : decode M_Header_faultIn.2.1 75 = .ok (.ifCond .eq 11, 3) := by decide +kernel
theorem dc_Header_faultIn_78 : decode M_Header_faultIn.2.1 78 = .ok (.aload_n 0, 1) := by decide +kernel
theorem dc_Header_faultIn_79 : decode M_Header_faultIn.2.1 79 = .ok (.aload_n 1, 1) := by decide +kernel
theorem dc_Header_faultIn_80 : decode M_Header_faultIn.2.1 80 = .ok (.invokevirtual 45, 3) := by decide +kernel
theorem dc_Header_faultIn_83 : decode M_Header_faultIn.2.1 83 = .ok (.ifCond .ne 5, 3) := by decide +kernel
theorem dc_Header_faultIn_86 : decode M_Header_faultIn.2.1 86 = .ok (.iconst 3, 1) := by decide +kernel
theorem dc_Header_faultIn_87 : decode M_Header_faultIn.2.1 87 = .ok (.ireturn, 1) := by decide +kernel
theorem dc_Header_faultIn_88 : decode M_Header_faultIn.2.1 88 = .ok (.aload_n 0, 1) := by decide +kernel
theorem dc_Header_faultIn_89 : decode M_Header_faultIn.2.1 89 = .ok (.aload_n 1, 1) := by decide +kernel
theorem dc_Header_faultIn_90 : decode M_Header_faultIn.2.1 90 = .ok (.invokevirtual 48, 3) := by decide +kernel
theorem dc_Header_faultIn_93 : decode M_Header_faultIn.2.1 93 = .ok (.ifCond .eq 7, 3) := by decide +kernel
theorem dc_Header_faultIn_96 : decode M_Header_faultIn.2.1 96 = .ok (.iconst 0, 1) := by decide +kernel
theorem dc_Header_faultIn_97 : decode M_Header_faultIn.2.1 97 = .ok (.goto 4, 3) := by decide +kernel
theorem dc_Header_faultIn_100 : decode M_Header_faultIn.2.1 100 = .ok (.iconst 4, 1) := by decide +kernel
theorem dc_Header_faultIn_101 : decode M_Header_faultIn.2.1 101 = .ok (.ireturn, 1) := by decide +kernel
set_option maxRecDepth 20000 in
theorem e_Header_faultIn_0 {d : Nat} {σ : PH} {K : PO → PH → Prop} (x0 : Nat) (x1 : Nat) (x2 : Int32) (h : sh σ x1 = (1, 3) ∧ PW d M_Text_firstLineEnd 0 [.ref x1, uu] [] σ (kI (fun r1 σ1 => sh σ1 x0 = (1, 10) ∧ (∀ σ2 : PH, σ2 = pI σ1 644 x0 r1 → sh σ2 x0 = (1, 10) ∧ (∀ σ3 : PH, σ3 = pI σ2 646 x0 0 → sh σ3 x0 = (1, 10) ∧ PW d M_Header_hasNextWord 0 [.ref x0, .ref x1] [] σ3 (kI (fun r2 σ4 => (if r2 = 0 then K (.inl (some (.int 1))) σ4 else sh σ4 x0 = (1, 10) ∧ PW d M_Header_isNumber 0 [.ref x0, .ref x1, uu] [] σ4 (kI (fun r3 σ5 => (if r3 = 0 then K (.inl (some (.int 1))) σ5 else (if x2 = 0 then sh σ5 x0 = (1, 10) ∧ PW d M_Header_hasNextWord 0 [.ref x0, .ref x1] [] σ5 (kI (fun r4 σ6 => (if r4 = 0 then PW (d + 1) M_Header_faultIn 74 [.ref x0, .ref x1, uu, .int r4] [] σ6 K else sh σ6 x0 = (1, 10) ∧ PW d M_Header_wordLength 0 [.ref x0] [] σ6 (kI (fun r5 σ7 => (if r5 = 1 then sh σ7 x0 = (1, 10) ∧ sh σ7 x1 = (1, 3) ∧ PW d M_Text_at 0 [.ref x1, .int (gI σ7 645 x0)] [] σ7 (kI (fun r6 σ8 => (if r6 = 82 then sh σ8 x0 = (1, 10) ∧ PW d M_Header_hasNextWord 0 [.ref x0, .ref x1] [] σ8 (kI (fun r7 σ9 => PW (d + 1) M_Header_faultIn 74 [.ref x0, .ref x1, uu, .int r7] [] σ9 K) K) else PW (d + 1) M_Header_faultIn 74 [.ref x0, .ref x1, uu, .int r4] [] σ8 K)) K) else PW (d + 1) M_Header_faultIn 74 [.ref x0, .ref x1, uu, .int r4] [] σ7 K)) K))) K) else K (.inl (some (.int 2))) σ5))) K))) K)))) K)) : PW (d + 1) M_Header_faultIn 0 [.ref x0, .ref x1, .int x2, uu] [] σ K := by
  refine pw_aload_n dc_Header_faultIn_0 rfl rfl ?_
  refine pw_aload_n dc_Header_faultIn_1 rfl rfl ?_
  obtain ⟨hs1, h⟩ := h
  refine pw_callV (vs := []) (st := [.ref x0]) (b := x1) (cn := 3) dc_Header_faultIn_2 cq_Text_firstLineEnd (List.mem_of_getElem? (i := 555) (by decide +kernel)) (List.mem_of_getElem? (i := 556) (by decide +kernel)) (List.mem_of_getElem? (i := 554) (by decide +kernel)) rfl hs1 rfl rfl (by decide) (cat_nil) (Nat.le_of_ble_eq_true rfl) (PW.mono (kI_kN (fun r1 σ1 h => ?_)) h)
  obtain ⟨hs2, h⟩ := h
  have h := h _ rfl
  refine pw_putI (c := 10) (k := 4) (f := 644) dc_Header_faultIn_5 fl_Header_21 (Or.inl rfl) rfl rfl hs2 ?_
  refine pw_aload_n dc_Header_faultIn_8 rfl rfl ?_
  refine pw_iconst (v := 0) dc_Header_faultIn_9 (by decide) ?_
  obtain ⟨hs3, h⟩ := h
  have h := h _ rfl
  refine pw_putI (c := 10) (k := 6) (f := 646) dc_Header_faultIn_10 fl_Header_25 (Or.inl rfl) rfl rfl hs3 ?_
  refine pw_aload_n dc_Header_faultIn_13 rfl rfl ?_
  refine pw_aload_n dc_Header_faultIn_14 rfl rfl ?_
  obtain ⟨hs4, h⟩ := h
  refine pw_callV (vs := [.ref x1]) (st := []) (b := x0) (cn := 10) dc_Header_faultIn_15 cq_Header_hasNextWord (List.mem_of_getElem? (i := 560) (by decide +kernel)) (List.mem_of_getElem? (i := 4) (by decide +kernel)) (List.mem_of_getElem? (i := 558) (by decide +kernel)) rfl hs4 rfl rfl (by decide) (cat_cons rfl (cat_nil)) (Nat.le_of_ble_eq_true rfl) (PW.mono (kI_kN (fun r2 σ4 h => ?_)) h)
  refine pw_if_eq (tgt := 29) dc_Header_faultIn_18 (by decide) (fun hc => ?_) (fun hc => ?_)
  · have h := ite_t h hc
    refine pw_iconst (v := 1) dc_Header_faultIn_29 (by decide) ?_
    exact pw_iret dc_Header_faultIn_30 rfl rfl h
  · have h := ite_f h hc
    refine pw_aload_n dc_Header_faultIn_21 rfl rfl ?_
    refine pw_aload_n dc_Header_faultIn_22 rfl rfl ?_
    obtain ⟨hs5, h⟩ := h
    refine pw_callV (vs := [.ref x1]) (st := []) (b := x0) (cn := 10) dc_Header_faultIn_23 cq_Header_isNumber (List.mem_of_getElem? (i := 568) (by decide +kernel)) (List.mem_of_getElem? (i := 5) (by decide +kernel)) (List.mem_of_getElem? (i := 566) (by decide +kernel)) rfl hs5 rfl rfl (by decide) (cat_cons rfl (cat_nil)) (Nat.le_of_ble_eq_true rfl) (PW.mono (kI_kN (fun r3 σ5 h => ?_)) h)
    refine pw_if_ne (tgt := 31) dc_Header_faultIn_26 (by decide) (fun hc => ?_) (fun hc => ?_)
    · have h := ite_f h hc
      refine pw_iload_n dc_Header_faultIn_31 rfl ?_
      refine pw_if_eq (tgt := 37) dc_Header_faultIn_32 (by decide) (fun hc => ?_) (fun hc => ?_)
      · have h := ite_t h hc
        refine pw_aload_n dc_Header_faultIn_37 rfl rfl ?_
        refine pw_aload_n dc_Header_faultIn_38 rfl rfl ?_
        obtain ⟨hs6, h⟩ := h
        refine pw_callV (vs := [.ref x1]) (st := []) (b := x0) (cn := 10) dc_Header_faultIn_39 cq_Header_hasNextWord (List.mem_of_getElem? (i := 560) (by decide +kernel)) (List.mem_of_getElem? (i := 4) (by decide +kernel)) (List.mem_of_getElem? (i := 558) (by decide +kernel)) rfl hs6 rfl rfl (by decide) (cat_cons rfl (cat_nil)) (Nat.le_of_ble_eq_true rfl) (PW.mono (kI_kN (fun r4 σ6 h => ?_)) h)
        refine pw_istore_n dc_Header_faultIn_42 (by decide) ?_
        refine pw_iload_n dc_Header_faultIn_43 rfl ?_
        refine pw_if_eq (tgt := 74) dc_Header_faultIn_44 (by decide) (fun hc => ?_) (fun hc => ?_)
        · have h := ite_t h hc
          refine PW.drop (ls' := [.ref x0, .ref x1, uu, .int r4]) ⟨Or.inl rfl, Or.inl rfl, Or.inr rfl, Or.inl rfl, trivial⟩ ?_
          exact h
        · have h := ite_f h hc
          refine pw_aload_n dc_Header_faultIn_47 rfl rfl ?_
          obtain ⟨hs7, h⟩ := h
          refine pw_callV (vs := []) (st := []) (b := x0) (cn := 10) dc_Header_faultIn_48 cq_Header_wordLength (List.mem_of_getElem? (i := 572) (by decide +kernel)) (List.mem_of_getElem? (i := 6) (by decide +kernel)) (List.mem_of_getElem? (i := 570) (by decide +kernel)) rfl hs7 rfl rfl (by decide) (cat_nil) (Nat.le_of_ble_eq_true rfl) (PW.mono (kI_kN (fun r5 σ7 h => ?_)) h)
          refine pw_iconst (v := 1) dc_Header_faultIn_51 (by decide) ?_
          refine pw_icmp_ne (tgt := 74) dc_Header_faultIn_52 (by decide) (fun hc => ?_) (fun hc => ?_)
          · have h := ite_f h hc
            refine PW.drop (ls' := [.ref x0, .ref x1, uu, .int r4]) ⟨Or.inl rfl, Or.inl rfl, Or.inr rfl, Or.inl rfl, trivial⟩ ?_
            exact h
          · have h := ite_t h hc
            refine pw_aload_n dc_Header_faultIn_55 rfl rfl ?_
            refine pw_aload_n dc_Header_faultIn_56 rfl rfl ?_
            obtain ⟨hs8, h⟩ := h
            refine pw_getI (c := 10) (k := 5) (f := 645) dc_Header_faultIn_57 fl_Header_38 rfl rfl hs8 ?_
            obtain ⟨hs9, h⟩ := h
            refine pw_callV (vs := [.int (gI σ7 645 x0)]) (st := []) (b := x1) (cn := 3) dc_Header_faultIn_60 cq_Text_at (List.mem_of_getElem? (i := 563) (by decide +kernel)) (List.mem_of_getElem? (i := 564) (by decide +kernel)) (List.mem_of_getElem? (i := 562) (by decide +kernel)) rfl hs9 rfl rfl (by decide) (cat_cons rfl (cat_nil)) (Nat.le_of_ble_eq_true rfl) (PW.mono (kI_kN (fun r6 σ8 h => ?_)) h)
            refine pw_bipush (v := 82) dc_Header_faultIn_63 (by decide) ?_
            refine pw_icmp_ne (tgt := 74) dc_Header_faultIn_65 (by decide) (fun hc => ?_) (fun hc => ?_)
            · have h := ite_f h hc
              refine PW.drop (ls' := [.ref x0, .ref x1, uu, .int r4]) ⟨Or.inl rfl, Or.inl rfl, Or.inr rfl, Or.inl rfl, trivial⟩ ?_
              exact h
            · have h := ite_t h hc
              refine pw_aload_n dc_Header_faultIn_68 rfl rfl ?_
              refine pw_aload_n dc_Header_faultIn_69 rfl rfl ?_
              obtain ⟨hs10, h⟩ := h
              refine pw_callV (vs := [.ref x1]) (st := []) (b := x0) (cn := 10) dc_Header_faultIn_70 cq_Header_hasNextWord (List.mem_of_getElem? (i := 560) (by decide +kernel)) (List.mem_of_getElem? (i := 4) (by decide +kernel)) (List.mem_of_getElem? (i := 558) (by decide +kernel)) rfl hs10 rfl rfl (by decide) (cat_cons rfl (cat_nil)) (Nat.le_of_ble_eq_true rfl) (PW.mono (kI_kN (fun r7 σ9 h => ?_)) h)
              refine pw_istore_n dc_Header_faultIn_73 (by decide) ?_
              refine PW.drop (ls' := [.ref x0, .ref x1, uu, .int r7]) ⟨Or.inl rfl, Or.inl rfl, Or.inr rfl, Or.inl rfl, trivial⟩ ?_
              exact h
      · have h := ite_f h hc
        refine pw_iconst (v := 2) dc_Header_faultIn_35 (by decide) ?_
        exact pw_iret dc_Header_faultIn_36 rfl rfl h
    · have h := ite_t h hc
      refine pw_iconst (v := 1) dc_Header_faultIn_29 (by decide) ?_
      exact pw_iret dc_Header_faultIn_30 rfl rfl h
set_option maxRecDepth 20000 in
theorem e_Header_faultIn_74 {d : Nat} {σ : PH} {K : PO → PH → Prop} (x0 : Nat) (x1 : Nat) (x3 : Int32) (h : (if x3 = 0 then K (.inl (some (.int 3))) σ else sh σ x0 = (1, 10) ∧ PW d M_Header_isPrecedence 0 [.ref x0, .ref x1] [] σ (kI (fun r1 σ1 => (if r1 = 0 then K (.inl (some (.int 3))) σ1 else sh σ1 x0 = (1, 10) ∧ PW d M_Header_readsIndicators 0 [.ref x0, .ref x1, uu] [] σ1 (kI (fun r2 σ2 => (if r2 = 0 then K (.inl (some (.int 4))) σ2 else K (.inl (some (.int 0))) σ2)) K))) K))) : PW (d + 1) M_Header_faultIn 74 [.ref x0, .ref x1, uu, .int x3] [] σ K := by
  refine pw_iload_n dc_Header_faultIn_74 rfl ?_
  refine pw_if_eq (tgt := 86) dc_Header_faultIn_75 (by decide) (fun hc => ?_) (fun hc => ?_)
  · have h := ite_t h hc
    refine pw_iconst (v := 3) dc_Header_faultIn_86 (by decide) ?_
    exact pw_iret dc_Header_faultIn_87 rfl rfl h
  · have h := ite_f h hc
    refine pw_aload_n dc_Header_faultIn_78 rfl rfl ?_
    refine pw_aload_n dc_Header_faultIn_79 rfl rfl ?_
    obtain ⟨hs1, h⟩ := h
    refine pw_callV (vs := [.ref x1]) (st := []) (b := x0) (cn := 10) dc_Header_faultIn_80 cq_Header_isPrecedence (List.mem_of_getElem? (i := 579) (by decide +kernel)) (List.mem_of_getElem? (i := 7) (by decide +kernel)) (List.mem_of_getElem? (i := 577) (by decide +kernel)) rfl hs1 rfl rfl (by decide) (cat_cons rfl (cat_nil)) (Nat.le_of_ble_eq_true rfl) (PW.mono (kI_kN (fun r1 σ1 h => ?_)) h)
    refine pw_if_ne (tgt := 88) dc_Header_faultIn_83 (by decide) (fun hc => ?_) (fun hc => ?_)
    · have h := ite_f h hc
      refine pw_aload_n dc_Header_faultIn_88 rfl rfl ?_
      refine pw_aload_n dc_Header_faultIn_89 rfl rfl ?_
      obtain ⟨hs2, h⟩ := h
      refine pw_callV (vs := [.ref x1]) (st := []) (b := x0) (cn := 10) dc_Header_faultIn_90 cq_Header_readsIndicators (List.mem_of_getElem? (i := 583) (by decide +kernel)) (List.mem_of_getElem? (i := 8) (by decide +kernel)) (List.mem_of_getElem? (i := 581) (by decide +kernel)) rfl hs2 rfl rfl (by decide) (cat_cons rfl (cat_nil)) (Nat.le_of_ble_eq_true rfl) (PW.mono (kI_kN (fun r2 σ2 h => ?_)) h)
      refine pw_if_eq (tgt := 100) dc_Header_faultIn_93 (by decide) (fun hc => ?_) (fun hc => ?_)
      · have h := ite_t h hc
        refine pw_iconst (v := 4) dc_Header_faultIn_100 (by decide) ?_
        exact pw_iret dc_Header_faultIn_101 rfl rfl h
      · have h := ite_f h hc
        refine pw_iconst (v := 0) dc_Header_faultIn_96 (by decide) ?_
        refine pw_goto (tgt := 101) dc_Header_faultIn_97 (by decide) ?_
        exact pw_iret dc_Header_faultIn_101 rfl rfl h
    · have h := ite_t h hc
      refine pw_iconst (v := 3) dc_Header_faultIn_86 (by decide) ?_
      exact pw_iret dc_Header_faultIn_87 rfl rfl h
theorem dc_Header_bodyStart_0 : decode M_Header_bodyStart.2.1 0 = .ok (.aload_n 0, 1) := by decide +kernel
theorem dc_Header_bodyStart_1 : decode M_Header_bodyStart.2.1 1 = .ok (.getfield 21, 3) := by decide +kernel
theorem dc_Header_bodyStart_4 : decode M_Header_bodyStart.2.1 4 = .ok (.iconst 1, 1) := by decide +kernel
theorem dc_Header_bodyStart_5 : decode M_Header_bodyStart.2.1 5 = .ok (.iadd, 1) := by decide +kernel
theorem dc_Header_bodyStart_6 : decode M_Header_bodyStart.2.1 6 = .ok (.ireturn, 1) := by decide +kernel
set_option maxRecDepth 20000 in
theorem e_Header_bodyStart_0 {d : Nat} {σ : PH} {K : PO → PH → Prop} (x0 : Nat) (h : sh σ x0 = (1, 10) ∧ K (.inl (some (.int ((gI σ 644 x0) + 1)))) σ) : PW d M_Header_bodyStart 0 [.ref x0] [] σ K := by
  refine pw_aload_n dc_Header_bodyStart_0 rfl rfl ?_
  obtain ⟨hs1, h⟩ := h
  refine pw_getI (c := 10) (k := 4) (f := 644) dc_Header_bodyStart_1 fl_Header_21 rfl rfl hs1 ?_
  refine pw_iconst (v := 1) dc_Header_bodyStart_4 (by decide) ?_
  refine pw_iadd dc_Header_bodyStart_5 ?_
  exact pw_iret dc_Header_bodyStart_6 rfl rfl h
theorem dc_Header_hasNextWord_0 : decode M_Header_hasNextWord.2.1 0 = .ok (.aload_n 0, 1) := by decide +kernel
theorem dc_Header_hasNextWord_1 : decode M_Header_hasNextWord.2.1 1 = .ok (.aload_n 0, 1) := by decide +kernel
theorem dc_Header_hasNextWord_2 : decode M_Header_hasNextWord.2.1 2 = .ok (.getfield 25, 3) := by decide +kernel
theorem dc_Header_hasNextWord_5 : decode M_Header_hasNextWord.2.1 5 = .ok (.putfield 38, 3) := by decide +kernel
theorem dc_Header_hasNextWord_8 : decode M_Header_hasNextWord.2.1 8 = .ok (.aload_n 0, 1) := by decide +kernel
theorem dc_Header_hasNextWord_9 : decode M_Header_hasNextWord.2.1 9 = .ok (.getfield 38, 3) := by decide +kernel
theorem dc_Header_hasNextWord_12 : decode M_Header_hasNextWord.2.1 12 = .ok (.aload_n 0, 1) := by decide +kernel
theorem dc_Header_hasNextWord_13 : decode M_Header_hasNextWord.2.1 13 = .ok (.getfield 21, 3) := by decide +kernel
theorem dc_Header_hasNextWord_16 : decode M_Header_hasNextWord.2.1 16 = .ok (.if_icmp .ge 29, 3) := by decide +kernel
theorem dc_Header_hasNextWord_19 : decode M_Header_hasNextWord.2.1 19 = .ok (.aload_n 1, 1) := by decide +kernel
theorem dc_Header_hasNextWord_20 : decode M_Header_hasNextWord.2.1 20 = .ok (.aload_n 0, 1) := by decide +kernel
theorem dc_Header_hasNextWord_21 : decode M_Header_hasNextWord.2.1 21 = .ok (.getfield 38, 3) := by decide +kernel
theorem dc_Header_hasNextWord_24 : decode M_Header_hasNextWord.2.1 24 = .ok (.invokevirtual 41, 3) := by decide +kernel
theorem dc_Header_hasNextWord_27 : decode M_Header_hasNextWord.2.1 27 = .ok (.bipush 32, 2) := by decide +kernel
theorem dc_Header_hasNextWord_29 : decode M_Header_hasNextWord.2.1 29 = .ok (.if_icmp .ne 16, 3) := by decide +kernel
theorem dc_Header_hasNextWord_32 : decode M_Header_hasNextWord.2.1 32 = .ok (.aload_n 0, 1) := by decide +kernel
theorem dc_Header_hasNextWord_33 : decode M_Header_hasNextWord.2.1 33 = .ok (.dup, 1) := by decide +kernel
theorem dc_Header_hasNextWord_34 : decode M_Header_hasNextWord.2.1 34 = .ok (.getfield 38, 3) := by decide +kernel
theorem dc_Header_hasNextWord_37 : decode M_Header_hasNextWord.2.1 37 = .ok (.iconst 1, 1) := by decide +kernel
theorem dc_Header_hasNextWord_38 : decode M_Header_hasNextWord.2.1 38 = .ok (.iadd, 1) := by decide +kernel
theorem dc_Header_hasNextWord_39 : decode M_Header_hasNextWord.2.1 39 = .ok (.putfield 38, 3) := by decide +kernel
theorem dc_Header_hasNextWord_42 : decode M_Header_hasNextWord.2.1 42 = .ok (.goto (-34), 3) := by decide +kernel
theorem dc_Header_hasNextWord_45 : decode M_Header_hasNextWord.2.1 45 = .ok (.aload_n 0, 1) := by decide +kernel
theorem dc_Header_hasNextWord_46 : decode M_Header_hasNextWord.2.1 46 = .ok (.aload_n 0, 1) := by decide +kernel
theorem dc_Header_hasNextWord_47 : decode M_Header_hasNextWord.2.1 47 = .ok (.getfield 38, 3) := by decide +kernel
theorem dc_Header_hasNextWord_50 : decode M_Header_hasNextWord.2.1 50 = .ok (.putfield 25, 3) := by decide +kernel
theorem dc_Header_hasNextWord_53 : decode M_Header_hasNextWord.2.1 53 = .ok (.aload_n 0, 1) := by decide +kernel
theorem dc_Header_hasNextWord_54 : decode M_Header_hasNextWord.2.1 54 = .ok (.getfield 25, 3) := by decide +kernel
theorem dc_Header_hasNextWord_57 : decode M_Header_hasNextWord.2.1 57 = .ok (.aload_n 0, 1) := by decide +kernel
theorem dc_Header_hasNextWord_58 : decode M_Header_hasNextWord.2.1 58 = .ok (.getfield 21, 3) := by decide +kernel
theorem dc_Header_hasNextWord_61 : decode M_Header_hasNextWord.2.1 61 = .ok (.if_icmp .ge 29, 3) := by decide +kernel
theorem dc_Header_hasNextWord_64 : decode M_Header_hasNextWord.2.1 64 = .ok (.aload_n 1, 1) := by decide +kernel
theorem dc_Header_hasNextWord_65 : decode M_Header_hasNextWord.2.1 65 = .ok (.aload_n 0, 1) := by decide +kernel
theorem dc_Header_hasNextWord_66 : decode M_Header_hasNextWord.2.1 66 = .ok (.getfield 25, 3) := by decide +kernel
theorem dc_Header_hasNextWord_69 : decode M_Header_hasNextWord.2.1 69 = .ok (.invokevirtual 41, 3) := by decide +kernel
theorem dc_Header_hasNextWord_72 : decode M_Header_hasNextWord.2.1 72 = .ok (.bipush 32, 2) := by decide +kernel
theorem dc_Header_hasNextWord_74 : decode M_Header_hasNextWord.2.1 74 = .ok (.if_icmp .eq 16, 3) := by decide +kernel
theorem dc_Header_hasNextWord_77 : decode M_Header_hasNextWord.2.1 77 = .ok (.aload_n 0, 1) := by decide +kernel
theorem dc_Header_hasNextWord_78 : decode M_Header_hasNextWord.2.1 78 = .ok (.dup, 1) := by decide +kernel
theorem dc_Header_hasNextWord_79 : decode M_Header_hasNextWord.2.1 79 = .ok (.getfield 25, 3) := by decide +kernel
theorem dc_Header_hasNextWord_82 : decode M_Header_hasNextWord.2.1 82 = .ok (.iconst 1, 1) := by decide +kernel
theorem dc_Header_hasNextWord_83 : decode M_Header_hasNextWord.2.1 83 = .ok (.iadd, 1) := by decide +kernel
theorem dc_Header_hasNextWord_84 : decode M_Header_hasNextWord.2.1 84 = .ok (.putfield 25, 3) := by decide +kernel
theorem dc_Header_hasNextWord_87 : decode M_Header_hasNextWord.2.1 87 = .ok (.goto (-34), 3) := by decide +kernel
theorem dc_Header_hasNextWord_90 : decode M_Header_hasNextWord.2.1 90 = .ok (.aload_n 0, 1) := by decide +kernel
theorem dc_Header_hasNextWord_91 : decode M_Header_hasNextWord.2.1 91 = .ok (.getfield 25, 3) := by decide +kernel
theorem dc_Header_hasNextWord_94 : decode M_Header_hasNextWord.2.1 94 = .ok (.aload_n 0, 1) := by decide +kernel
theorem dc_Header_hasNextWord_95 : decode M_Header_hasNextWord.2.1 95 = .ok (.getfield 38, 3) := by decide +kernel
theorem dc_Header_hasNextWord_98 : decode M_Header_hasNextWord.2.1 98 = .ok (.if_icmp .le 7, 3) := by decide +kernel
theorem dc_Header_hasNextWord_101 : decode M_Header_hasNextWord.2.1 101 = .ok (.iconst 1, 1) := by decide +kernel
theorem dc_Header_hasNextWord_102 : decode M_Header_hasNextWord.2.1 102 = .ok (.goto 4, 3) := by decide +kernel
theorem dc_Header_hasNextWord_105 : decode M_Header_hasNextWord.2.1 105 = .ok (.iconst 0, 1) := by decide +kernel
theorem dc_Header_hasNextWord_106 : decode M_Header_hasNextWord.2.1 106 = .ok (.ireturn, 1) := by decide +kernel
set_option maxRecDepth 20000 in
theorem e_Header_hasNextWord_0 {d : Nat} {σ : PH} {K : PO → PH → Prop} (x0 : Nat) (x1 : Nat) (h : sh σ x0 = (1, 10) ∧ (∀ σ1 : PH, σ1 = pI σ 645 x0 (gI σ 646 x0) → PW (d + 1) M_Header_hasNextWord 8 [.ref x0, .ref x1] [] σ1 K)) : PW (d + 1) M_Header_hasNextWord 0 [.ref x0, .ref x1] [] σ K := by
  refine pw_aload_n dc_Header_hasNextWord_0 rfl rfl ?_
  refine pw_aload_n dc_Header_hasNextWord_1 rfl rfl ?_
  obtain ⟨hs1, h⟩ := h
  refine pw_getI (c := 10) (k := 6) (f := 646) dc_Header_hasNextWord_2 fl_Header_25 rfl rfl hs1 ?_
  have h := h _ rfl
  refine pw_putI (c := 10) (k := 5) (f := 645) dc_Header_hasNextWord_5 fl_Header_38 (Or.inl rfl) rfl rfl hs1 ?_
  exact h
set_option maxRecDepth 20000 in
theorem e_Header_hasNextWord_8 {d : Nat} {σ : PH} {K : PO → PH → Prop} (x0 : Nat) (x1 : Nat) (h : sh σ x0 = (1, 10) ∧ (if (gI σ 644 x0) ≤ (gI σ 645 x0) then PW (d + 1) M_Header_hasNextWord 45 [.ref x0, .ref x1] [] σ K else sh σ x1 = (1, 3) ∧ PW d M_Text_at 0 [.ref x1, .int (gI σ 645 x0)] [] σ (kI (fun r1 σ1 => (if r1 = 32 then sh σ1 x0 = (1, 10) ∧ (∀ σ2 : PH, σ2 = pI σ1 645 x0 ((gI σ1 645 x0) + 1) → PW (d + 1) M_Header_hasNextWord 8 [.ref x0, .ref x1] [] σ2 K) else PW (d + 1) M_Header_hasNextWord 45 [.ref x0, .ref x1] [] σ1 K)) K))) : PW (d + 1) M_Header_hasNextWord 8 [.ref x0, .ref x1] [] σ K := by
  refine pw_aload_n dc_Header_hasNextWord_8 rfl rfl ?_
  obtain ⟨hs1, h⟩ := h
  refine pw_getI (c := 10) (k := 5) (f := 645) dc_Header_hasNextWord_9 fl_Header_38 rfl rfl hs1 ?_
  refine pw_aload_n dc_Header_hasNextWord_12 rfl rfl ?_
  refine pw_getI (c := 10) (k := 4) (f := 644) dc_Header_hasNextWord_13 fl_Header_21 rfl rfl hs1 ?_
  refine pw_icmp_ge (tgt := 45) dc_Header_hasNextWord_16 (by decide) (fun hc => ?_) (fun hc => ?_)
  · have h := ite_t h hc
    exact h
  · have h := ite_f h hc
    refine pw_aload_n dc_Header_hasNextWord_19 rfl rfl ?_
    refine pw_aload_n dc_Header_hasNextWord_20 rfl rfl ?_
    refine pw_getI (c := 10) (k := 5) (f := 645) dc_Header_hasNextWord_21 fl_Header_38 rfl rfl hs1 ?_
    obtain ⟨hs2, h⟩ := h
    refine pw_callV (vs := [.int (gI σ 645 x0)]) (st := []) (b := x1) (cn := 3) dc_Header_hasNextWord_24 cq_Text_at (List.mem_of_getElem? (i := 563) (by decide +kernel)) (List.mem_of_getElem? (i := 564) (by decide +kernel)) (List.mem_of_getElem? (i := 562) (by decide +kernel)) rfl hs2 rfl rfl (by decide) (cat_cons rfl (cat_nil)) (Nat.le_of_ble_eq_true rfl) (PW.mono (kI_kN (fun r1 σ1 h => ?_)) h)
    refine pw_bipush (v := 32) dc_Header_hasNextWord_27 (by decide) ?_
    refine pw_icmp_ne (tgt := 45) dc_Header_hasNextWord_29 (by decide) (fun hc => ?_) (fun hc => ?_)
    · have h := ite_f h hc
      exact h
    · have h := ite_t h hc
      refine pw_aload_n dc_Header_hasNextWord_32 rfl rfl ?_
      refine pw_dup dc_Header_hasNextWord_33 rfl ?_
      obtain ⟨hs3, h⟩ := h
      refine pw_getI (c := 10) (k := 5) (f := 645) dc_Header_hasNextWord_34 fl_Header_38 rfl rfl hs3 ?_
      refine pw_iconst (v := 1) dc_Header_hasNextWord_37 (by decide) ?_
      refine pw_iadd dc_Header_hasNextWord_38 ?_
      have h := h _ rfl
      refine pw_putI (c := 10) (k := 5) (f := 645) dc_Header_hasNextWord_39 fl_Header_38 (Or.inl rfl) rfl rfl hs3 ?_
      refine pw_goto (tgt := 8) dc_Header_hasNextWord_42 (by decide) ?_
      exact h
set_option maxRecDepth 20000 in
theorem e_Header_hasNextWord_45 {d : Nat} {σ : PH} {K : PO → PH → Prop} (x0 : Nat) (x1 : Nat) (h : sh σ x0 = (1, 10) ∧ (∀ σ1 : PH, σ1 = pI σ 646 x0 (gI σ 645 x0) → PW (d + 1) M_Header_hasNextWord 53 [.ref x0, .ref x1] [] σ1 K)) : PW (d + 1) M_Header_hasNextWord 45 [.ref x0, .ref x1] [] σ K := by
  refine pw_aload_n dc_Header_hasNextWord_45 rfl rfl ?_
  refine pw_aload_n dc_Header_hasNextWord_46 rfl rfl ?_
  obtain ⟨hs1, h⟩ := h
  refine pw_getI (c := 10) (k := 5) (f := 645) dc_Header_hasNextWord_47 fl_Header_38 rfl rfl hs1 ?_
  have h := h _ rfl
  refine pw_putI (c := 10) (k := 6) (f := 646) dc_Header_hasNextWord_50 fl_Header_25 (Or.inl rfl) rfl rfl hs1 ?_
  exact h
set_option maxRecDepth 20000 in
theorem e_Header_hasNextWord_53 {d : Nat} {σ : PH} {K : PO → PH → Prop} (x0 : Nat) (x1 : Nat) (h : sh σ x0 = (1, 10) ∧ (if (gI σ 644 x0) ≤ (gI σ 646 x0) then PW (d + 1) M_Header_hasNextWord 90 [.ref x0, uu] [] σ K else sh σ x1 = (1, 3) ∧ PW d M_Text_at 0 [.ref x1, .int (gI σ 646 x0)] [] σ (kI (fun r1 σ1 => (if r1 = 32 then PW (d + 1) M_Header_hasNextWord 90 [.ref x0, uu] [] σ1 K else sh σ1 x0 = (1, 10) ∧ (∀ σ2 : PH, σ2 = pI σ1 646 x0 ((gI σ1 646 x0) + 1) → PW (d + 1) M_Header_hasNextWord 53 [.ref x0, .ref x1] [] σ2 K))) K))) : PW (d + 1) M_Header_hasNextWord 53 [.ref x0, .ref x1] [] σ K := by
  refine pw_aload_n dc_Header_hasNextWord_53 rfl rfl ?_
  obtain ⟨hs1, h⟩ := h
  refine pw_getI (c := 10) (k := 6) (f := 646) dc_Header_hasNextWord_54 fl_Header_25 rfl rfl hs1 ?_
  refine pw_aload_n dc_Header_hasNextWord_57 rfl rfl ?_
  refine pw_getI (c := 10) (k := 4) (f := 644) dc_Header_hasNextWord_58 fl_Header_21 rfl rfl hs1 ?_
  refine pw_icmp_ge (tgt := 90) dc_Header_hasNextWord_61 (by decide) (fun hc => ?_) (fun hc => ?_)
  · have h := ite_t h hc
    refine PW.drop (ls' := [.ref x0, uu]) ⟨Or.inl rfl, Or.inr rfl, trivial⟩ ?_
    exact h
  · have h := ite_f h hc
    refine pw_aload_n dc_Header_hasNextWord_64 rfl rfl ?_
    refine pw_aload_n dc_Header_hasNextWord_65 rfl rfl ?_
    refine pw_getI (c := 10) (k := 6) (f := 646) dc_Header_hasNextWord_66 fl_Header_25 rfl rfl hs1 ?_
    obtain ⟨hs2, h⟩ := h
    refine pw_callV (vs := [.int (gI σ 646 x0)]) (st := []) (b := x1) (cn := 3) dc_Header_hasNextWord_69 cq_Text_at (List.mem_of_getElem? (i := 563) (by decide +kernel)) (List.mem_of_getElem? (i := 564) (by decide +kernel)) (List.mem_of_getElem? (i := 562) (by decide +kernel)) rfl hs2 rfl rfl (by decide) (cat_cons rfl (cat_nil)) (Nat.le_of_ble_eq_true rfl) (PW.mono (kI_kN (fun r1 σ1 h => ?_)) h)
    refine pw_bipush (v := 32) dc_Header_hasNextWord_72 (by decide) ?_
    refine pw_icmp_eq (tgt := 90) dc_Header_hasNextWord_74 (by decide) (fun hc => ?_) (fun hc => ?_)
    · have h := ite_t h hc
      refine PW.drop (ls' := [.ref x0, uu]) ⟨Or.inl rfl, Or.inr rfl, trivial⟩ ?_
      exact h
    · have h := ite_f h hc
      refine pw_aload_n dc_Header_hasNextWord_77 rfl rfl ?_
      refine pw_dup dc_Header_hasNextWord_78 rfl ?_
      obtain ⟨hs3, h⟩ := h
      refine pw_getI (c := 10) (k := 6) (f := 646) dc_Header_hasNextWord_79 fl_Header_25 rfl rfl hs3 ?_
      refine pw_iconst (v := 1) dc_Header_hasNextWord_82 (by decide) ?_
      refine pw_iadd dc_Header_hasNextWord_83 ?_
      have h := h _ rfl
      refine pw_putI (c := 10) (k := 6) (f := 646) dc_Header_hasNextWord_84 fl_Header_25 (Or.inl rfl) rfl rfl hs3 ?_
      refine pw_goto (tgt := 53) dc_Header_hasNextWord_87 (by decide) ?_
      exact h
set_option maxRecDepth 20000 in
theorem e_Header_hasNextWord_90 {d : Nat} {σ : PH} {K : PO → PH → Prop} (x0 : Nat) (h : sh σ x0 = (1, 10) ∧ (if (gI σ 646 x0) ≤ (gI σ 645 x0) then K (.inl (some (.int 0))) σ else K (.inl (some (.int 1))) σ)) : PW (d + 1) M_Header_hasNextWord 90 [.ref x0, uu] [] σ K := by
  refine pw_aload_n dc_Header_hasNextWord_90 rfl rfl ?_
  obtain ⟨hs1, h⟩ := h
  refine pw_getI (c := 10) (k := 6) (f := 646) dc_Header_hasNextWord_91 fl_Header_25 rfl rfl hs1 ?_
  refine pw_aload_n dc_Header_hasNextWord_94 rfl rfl ?_
  refine pw_getI (c := 10) (k := 5) (f := 645) dc_Header_hasNextWord_95 fl_Header_38 rfl rfl hs1 ?_
  refine pw_icmp_le (tgt := 105) dc_Header_hasNextWord_98 (by decide) (fun hc => ?_) (fun hc => ?_)
  · have h := ite_t h hc
    refine pw_iconst (v := 0) dc_Header_hasNextWord_105 (by decide) ?_
    exact pw_iret dc_Header_hasNextWord_106 rfl (bo_nar (Or.inl rfl)) h
  · have h := ite_f h hc
    refine pw_iconst (v := 1) dc_Header_hasNextWord_101 (by decide) ?_
    refine pw_goto (tgt := 106) dc_Header_hasNextWord_102 (by decide) ?_
    exact pw_iret dc_Header_hasNextWord_106 rfl (bo_nar (Or.inr rfl)) h
theorem dc_Header_wordLength_0 : decode M_Header_wordLength.2.1 0 = .ok (.aload_n 0, 1) := by decide +kernel
theorem dc_Header_wordLength_1 : decode M_Header_wordLength.2.1 1 = .ok (.getfield 25, 3) := by decide +kernel
theorem dc_Header_wordLength_4 : decode M_Header_wordLength.2.1 4 = .ok (.aload_n 0, 1) := by decide +kernel
theorem dc_Header_wordLength_5 : decode M_Header_wordLength.2.1 5 = .ok (.getfield 38, 3) := by decide +kernel
theorem dc_Header_wordLength_8 : decode M_Header_wordLength.2.1 8 = .ok (.isub, 1) := by decide +kernel
theorem dc_Header_wordLength_9 : decode M_Header_wordLength.2.1 9 = .ok (.ireturn, 1) := by decide +kernel
set_option maxRecDepth 20000 in
theorem e_Header_wordLength_0 {d : Nat} {σ : PH} {K : PO → PH → Prop} (x0 : Nat) (h : sh σ x0 = (1, 10) ∧ K (.inl (some (.int ((gI σ 646 x0) - (gI σ 645 x0))))) σ) : PW d M_Header_wordLength 0 [.ref x0] [] σ K := by
  refine pw_aload_n dc_Header_wordLength_0 rfl rfl ?_
  obtain ⟨hs1, h⟩ := h
  refine pw_getI (c := 10) (k := 6) (f := 646) dc_Header_wordLength_1 fl_Header_25 rfl rfl hs1 ?_
  refine pw_aload_n dc_Header_wordLength_4 rfl rfl ?_
  refine pw_getI (c := 10) (k := 5) (f := 645) dc_Header_wordLength_5 fl_Header_38 rfl rfl hs1 ?_
  refine pw_isub dc_Header_wordLength_8 ?_
  exact pw_iret dc_Header_wordLength_9 rfl rfl h
theorem dc_Header_isNumber_0 : decode M_Header_isNumber.2.1 0 = .ok (.aload_n 0, 1) := by decide +kernel
theorem dc_Header_isNumber_1 : decode M_Header_isNumber.2.1 1 = .ok (.iconst 0, 1) := by decide +kernel
theorem dc_Header_isNumber_2 : decode M_Header_isNumber.2.1 2 = .ok (.putfield 51, 3) := by decide +kernel
theorem dc_Header_isNumber_5 : decode M_Header_isNumber.2.1 5 = .ok (.aload_n 0, 1) := by decide +kernel
theorem dc_Header_isNumber_6 : decode M_Header_isNumber.2.1 6 = .ok (.invokevirtual 35, 3) := by decide +kernel
theorem dc_Header_isNumber_9 : decode M_Header_isNumber.2.1 9 = .ok (.iconst 3, 1) := by decide +kernel
theorem dc_Header_isNumber_10 : decode M_Header_isNumber.2.1 10 = .ok (.if_icmp .eq 5, 3) := by decide +kernel
theorem dc_Header_isNumber_13 : decode M_Header_isNumber.2.1 13 = .ok (.iconst 0, 1) := by decide +kernel
theorem dc_Header_isNumber_14 : decode M_Header_isNumber.2.1 14 = .ok (.ireturn, 1) := by decide +kernel
theorem dc_Header_isNumber_15 : decode M_Header_isNumber.2.1 15 = .ok (.aload_n 0, 1) := by decide +kernel
theorem dc_Header_isNumber_16 : decode M_Header_isNumber.2.1 16 = .ok (.getfield 38, 3) := by decide +kernel
theorem dc_Header_isNumber_19 : decode M_Header_isNumber.2.1 19 = .ok (.istore_n 2, 1) := by decide +kernel
theorem dc_Header_isNumber_20 : decode M_Header_isNumber.2.1 20 = .ok (.iload_n 2, 1) := by decide +kernel
theorem dc_Header_isNumber_21 : decode M_Header_isNumber.2.1 21 = .ok (.aload_n 0, 1) := by decide +kernel
theorem dc_Header_isNumber_22 : decode M_Header_isNumber.2.1 22 = .ok (.getfield 25, 3) := by decide +kernel
theorem dc_Header_isNumber_25 : decode M_Header_isNumber.2.1 25 = .ok (.if_icmp .ge 42, 3) := by decide +kernel
theorem dc_Header_isNumber_28 : decode M_Header_isNumber.2.1 28 = .ok (.aload_n 1, 1) := by decide +kernel
theorem dc_Header_isNumber_29 : decode M_Header_isNumber.2.1 29 = .ok (.iload_n 2, 1) := by decide +kernel
theorem dc_Header_isNumber_30 : decode M_Header_isNumber.2.1 30 = .ok (.invokevirtual 41, 3) := by decide +kernel
theorem dc_Header_isNumber_33 : decode M_Header_isNumber.2.1 33 = .ok (.invokestatic 54, 3) := by decide +kernel
theorem dc_Header_isNumber_36 : decode M_Header_isNumber.2.1 36 = .ok (.ifCond .ne 5, 3) := by decide +kernel
theorem dc_Header_isNumber_39 : decode M_Header_isNumber.2.1 39 = .ok (.iconst 0, 1) := by decide +kernel
theorem dc_Header_isNumber_40 : decode M_Header_isNumber.2.1 40 = .ok (.ireturn, 1) := by decide +kernel
theorem dc_Header_isNumber_41 : decode M_Header_isNumber.2.1 41 = .ok (.aload_n 0, 1) := by decide +kernel
theorem dc_Header_isNumber_42 : decode M_Header_isNumber.2.1 42 = .ok (.aload_n 0, 1) := by decide +kernel
theorem dc_Header_isNumber_43 : decode M_Header_isNumber.2.1 43 = .ok (.getfield 51, 3) := by decide +kernel
theorem dc_Header_isNumber_46 : decode M_Header_isNumber.2.1 46 = .ok (.bipush 10, 2) := by decide +kernel
theorem dc_Header_isNumber_48 : decode M_Header_isNumber.2.1 48 = .ok (.imul, 1) := by decide +kernel
theorem dc_Header_isNumber_49 : decode M_Header_isNumber.2.1 49 = .ok (.aload_n 1, 1) := by decide +kernel
theorem dc_Header_isNumber_50 : decode M_Header_isNumber.2.1 50 = .ok (.iload_n 2, 1) := by decide +kernel
theorem dc_Header_isNumber_51 : decode M_Header_isNumber.2.1 51 = .ok (.invokevirtual 41, 3) := by decide +kernel
theorem dc_Header_isNumber_54 : decode M_Header_isNumber.2.1 54 = .ok (.iadd, 1) := by decide +kernel
theorem dc_Header_isNumber_55 : decode M_Header_isNumber.2.1 55 = .ok (.bipush 48, 2) := by decide +kernel
theorem dc_Header_isNumber_57 : decode M_Header_isNumber.2.1 57 = .ok (.isub, 1) := by decide +kernel
theorem dc_Header_isNumber_58 : decode M_Header_isNumber.2.1 58 = .ok (.putfield 51, 3) := by decide +kernel
theorem dc_Header_isNumber_61 : decode M_Header_isNumber.2.1 61 = .ok (.iinc 2 1, 3) := by decide +kernel
theorem dc_Header_isNumber_64 : decode M_Header_isNumber.2.1 64 = .ok (.goto (-44), 3) := by decide +kernel
theorem dc_Header_isNumber_67 : decode M_Header_isNumber.2.1 67 = .ok (.aload_n 0, 1) := by decide +kernel
theorem dc_Header_isNumber_68 : decode M_Header_isNumber.2.1 68 = .ok (.getfield 51, 3) := by decide +kernel
theorem dc_Header_isNumber_71 : decode M_Header_isNumber.2.1 71 = .ok (.ifCond .le 7, 3) := by decide +kernel
theorem dc_Header_isNumber_74 : decode M_Header_isNumber.2.1 74 = .ok (.iconst 1, 1) := by decide +kernel
theorem dc_Header_isNumber_75 : decode M_Header_isNumber.2.1 75 = .ok (.goto 4, 3) := by decide +kernel
theorem dc_Header_isNumber_78 : decode M_Header_isNumber.2.1 78 = .ok (.iconst 0, 1) := by decide +kernel
theorem dc_Header_isNumber_79 : decode M_Header_isNumber.2.1 79 = .ok (.ireturn, 1) := by decide +kernel
set_option maxRecDepth 20000 in
theorem e_Header_isNumber_0 {d : Nat} {σ : PH} {K : PO → PH → Prop} (x0 : Nat) (x1 : Nat) (h : sh σ x0 = (1, 10) ∧ (∀ σ1 : PH, σ1 = pI σ 640 x0 0 → sh σ1 x0 = (1, 10) ∧ PW d M_Header_wordLength 0 [.ref x0] [] σ1 (kI (fun r1 σ2 => (if r1 = 3 then sh σ2 x0 = (1, 10) ∧ PW (d + 1) M_Header_isNumber 20 [.ref x0, .ref x1, .int (gI σ2 645 x0)] [] σ2 K else K (.inl (some (.int 0))) σ2)) K))) : PW (d + 1) M_Header_isNumber 0 [.ref x0, .ref x1, uu] [] σ K := by
  refine pw_aload_n dc_Header_isNumber_0 rfl rfl ?_
  refine pw_iconst (v := 0) dc_Header_isNumber_1 (by decide) ?_
  obtain ⟨hs1, h⟩ := h
  have h := h _ rfl
  refine pw_putI (c := 10) (k := 0) (f := 640) dc_Header_isNumber_2 fl_Header_51 (Or.inl rfl) rfl rfl hs1 ?_
  refine pw_aload_n dc_Header_isNumber_5 rfl rfl ?_
  obtain ⟨hs2, h⟩ := h
  refine pw_callV (vs := []) (st := []) (b := x0) (cn := 10) dc_Header_isNumber_6 cq_Header_wordLength (List.mem_of_getElem? (i := 572) (by decide +kernel)) (List.mem_of_getElem? (i := 6) (by decide +kernel)) (List.mem_of_getElem? (i := 570) (by decide +kernel)) rfl hs2 rfl rfl (by decide) (cat_nil) (Nat.le_of_ble_eq_true rfl) (PW.mono (kI_kN (fun r1 σ2 h => ?_)) h)
  refine pw_iconst (v := 3) dc_Header_isNumber_9 (by decide) ?_
  refine pw_icmp_eq (tgt := 15) dc_Header_isNumber_10 (by decide) (fun hc => ?_) (fun hc => ?_)
  · have h := ite_t h hc
    refine pw_aload_n dc_Header_isNumber_15 rfl rfl ?_
    obtain ⟨hs3, h⟩ := h
    refine pw_getI (c := 10) (k := 5) (f := 645) dc_Header_isNumber_16 fl_Header_38 rfl rfl hs3 ?_
    refine pw_istore_n dc_Header_isNumber_19 (by decide) ?_
    exact h
  · have h := ite_f h hc
    refine pw_iconst (v := 0) dc_Header_isNumber_13 (by decide) ?_
    exact pw_iret dc_Header_isNumber_14 rfl (bo_nar (Or.inl rfl)) h
set_option maxRecDepth 20000 in
theorem e_Header_isNumber_20 {d : Nat} {σ : PH} {K : PO → PH → Prop} (x0 : Nat) (x1 : Nat) (x2 : Int32) (h : sh σ x0 = (1, 10) ∧ (if (gI σ 646 x0) ≤ x2 then (if (gI σ 640 x0) ≤ 0 then K (.inl (some (.int 0))) σ else K (.inl (some (.int 1))) σ) else sh σ x1 = (1, 3) ∧ PW d M_Text_at 0 [.ref x1, .int x2] [] σ (kI (fun r1 σ1 => PW d M_Signs_isDigit 0 [.int r1] [] σ1 (kI (fun r2 σ2 => (if r2 = 0 then K (.inl (some (.int 0))) σ2 else sh σ2 x0 = (1, 10) ∧ sh σ2 x1 = (1, 3) ∧ PW d M_Text_at 0 [.ref x1, .int x2] [] σ2 (kI (fun r3 σ3 => sh σ3 x0 = (1, 10) ∧ (∀ σ4 : PH, σ4 = pI σ3 640 x0 ((((gI σ2 640 x0) * 10) + r3) - 48) → PW (d + 1) M_Header_isNumber 20 [.ref x0, .ref x1, .int (x2 + 1)] [] σ4 K)) K))) K)) K))) : PW (d + 1) M_Header_isNumber 20 [.ref x0, .ref x1, .int x2] [] σ K := by
  refine pw_iload_n dc_Header_isNumber_20 rfl ?_
  refine pw_aload_n dc_Header_isNumber_21 rfl rfl ?_
  obtain ⟨hs1, h⟩ := h
  refine pw_getI (c := 10) (k := 6) (f := 646) dc_Header_isNumber_22 fl_Header_25 rfl rfl hs1 ?_
  refine pw_icmp_ge (tgt := 67) dc_Header_isNumber_25 (by decide) (fun hc => ?_) (fun hc => ?_)
  · have h := ite_t h hc
    refine pw_aload_n dc_Header_isNumber_67 rfl rfl ?_
    refine pw_getI (c := 10) (k := 0) (f := 640) dc_Header_isNumber_68 fl_Header_51 rfl rfl hs1 ?_
    refine pw_if_le (tgt := 78) dc_Header_isNumber_71 (by decide) (fun hc => ?_) (fun hc => ?_)
    · have h := ite_t h hc
      refine pw_iconst (v := 0) dc_Header_isNumber_78 (by decide) ?_
      exact pw_iret dc_Header_isNumber_79 rfl (bo_nar (Or.inl rfl)) h
    · have h := ite_f h hc
      refine pw_iconst (v := 1) dc_Header_isNumber_74 (by decide) ?_
      refine pw_goto (tgt := 79) dc_Header_isNumber_75 (by decide) ?_
      exact pw_iret dc_Header_isNumber_79 rfl (bo_nar (Or.inr rfl)) h
  · have h := ite_f h hc
    refine pw_aload_n dc_Header_isNumber_28 rfl rfl ?_
    refine pw_iload_n dc_Header_isNumber_29 rfl ?_
    obtain ⟨hs2, h⟩ := h
    refine pw_callV (vs := [.int x2]) (st := []) (b := x1) (cn := 3) dc_Header_isNumber_30 cq_Text_at (List.mem_of_getElem? (i := 563) (by decide +kernel)) (List.mem_of_getElem? (i := 564) (by decide +kernel)) (List.mem_of_getElem? (i := 562) (by decide +kernel)) rfl hs2 rfl rfl (by decide) (cat_cons rfl (cat_nil)) (Nat.le_of_ble_eq_true rfl) (PW.mono (kI_kN (fun r1 σ1 h => ?_)) h)
    refine pw_callS (vs := [.int r1]) (st := []) dc_Header_isNumber_33 cq_Signs_isDigit (List.mem_of_getElem? (i := 575) (by decide +kernel)) (List.mem_of_getElem? (i := 574) (by decide +kernel)) rfl rfl (cat_cons rfl (cat_nil)) (Nat.le_of_ble_eq_true rfl) (PW.mono (kI_kN (fun r2 σ2 h => ?_)) h)
    refine pw_if_ne (tgt := 41) dc_Header_isNumber_36 (by decide) (fun hc => ?_) (fun hc => ?_)
    · have h := ite_f h hc
      refine pw_aload_n dc_Header_isNumber_41 rfl rfl ?_
      refine pw_aload_n dc_Header_isNumber_42 rfl rfl ?_
      obtain ⟨hs3, h⟩ := h
      refine pw_getI (c := 10) (k := 0) (f := 640) dc_Header_isNumber_43 fl_Header_51 rfl rfl hs3 ?_
      refine pw_bipush (v := 10) dc_Header_isNumber_46 (by decide) ?_
      refine pw_imul dc_Header_isNumber_48 ?_
      refine pw_aload_n dc_Header_isNumber_49 rfl rfl ?_
      refine pw_iload_n dc_Header_isNumber_50 rfl ?_
      obtain ⟨hs4, h⟩ := h
      refine pw_callV (vs := [.int x2]) (st := [.int ((gI σ2 640 x0) * 10), .ref x0]) (b := x1) (cn := 3) dc_Header_isNumber_51 cq_Text_at (List.mem_of_getElem? (i := 563) (by decide +kernel)) (List.mem_of_getElem? (i := 564) (by decide +kernel)) (List.mem_of_getElem? (i := 562) (by decide +kernel)) rfl hs4 rfl rfl (by decide) (cat_cons rfl (cat_nil)) (Nat.le_of_ble_eq_true rfl) (PW.mono (kI_kN (fun r3 σ3 h => ?_)) h)
      refine pw_iadd dc_Header_isNumber_54 ?_
      refine pw_bipush (v := 48) dc_Header_isNumber_55 (by decide) ?_
      refine pw_isub dc_Header_isNumber_57 ?_
      obtain ⟨hs5, h⟩ := h
      have h := h _ rfl
      refine pw_putI (c := 10) (k := 0) (f := 640) dc_Header_isNumber_58 fl_Header_51 (Or.inl rfl) rfl rfl hs5 ?_
      refine pw_iincv (v := 1) dc_Header_isNumber_61 (by decide) rfl (by decide) ?_
      refine pw_goto (tgt := 20) dc_Header_isNumber_64 (by decide) ?_
      exact h
    · have h := ite_t h hc
      refine pw_iconst (v := 0) dc_Header_isNumber_39 (by decide) ?_
      exact pw_iret dc_Header_isNumber_40 rfl (bo_nar (Or.inl rfl)) h
theorem dc_Header_isPrecedence_0 : decode M_Header_isPrecedence.2.1 0 = .ok (.aload_n 0, 1) := by decide +kernel
theorem dc_Header_isPrecedence_1 : decode M_Header_isPrecedence.2.1 1 = .ok (.aload_n 1, 1) := by decide +kernel
theorem dc_Header_isPrecedence_2 : decode M_Header_isPrecedence.2.1 2 = .ok (.aload_n 0, 1) := by decide +kernel
theorem dc_Header_isPrecedence_3 : decode M_Header_isPrecedence.2.1 3 = .ok (.getfield 38, 3) := by decide +kernel
theorem dc_Header_isPrecedence_6 : decode M_Header_isPrecedence.2.1 6 = .ok (.invokevirtual 41, 3) := by decide +kernel
theorem dc_Header_isPrecedence_9 : decode M_Header_isPrecedence.2.1 9 = .ok (.bipush 48, 2) := by decide +kernel
theorem dc_Header_isPrecedence_11 : decode M_Header_isPrecedence.2.1 11 = .ok (.isub, 1) := by decide +kernel
theorem dc_Header_isPrecedence_12 : decode M_Header_isPrecedence.2.1 12 = .ok (.putfield 60, 3) := by decide +kernel
theorem dc_Header_isPrecedence_15 : decode M_Header_isPrecedence.2.1 15 = .ok (.aload_n 0, 1) := by decide +kernel
theorem dc_Header_isPrecedence_16 : decode M_Header_isPrecedence.2.1 16 = .ok (.invokevirtual 35, 3) := by decide +kernel
theorem dc_Header_isPrecedence_19 : decode M_Header_isPrecedence.2.1 19 = .ok (.iconst 1, 1) := by decide +kernel
theorem dc_Header_isPrecedence_20 : decode M_Header_isPrecedence.2.1 20 = .ok (.if_icmp .ne 23, 3) := by decide +kernel
theorem dc_Header_isPrecedence_23 : decode M_Header_isPrecedence.2.1 23 = .ok (.aload_n 0, 1) := by decide +kernel
theorem dc_Header_isPrecedence_24 : decode M_Header_isPrecedence.2.1 24 = .ok (.getfield 60, 3) := by decide +kernel
theorem dc_Header_isPrecedence_27 : decode M_Header_isPrecedence.2.1 27 = .ok (.iconst 1, 1) := by decide +kernel
theorem dc_Header_isPrecedence_28 : decode M_Header_isPrecedence.2.1 28 = .ok (.if_icmp .lt 15, 3) := by decide +kernel
theorem dc_Header_isPrecedence_31 : decode M_Header_isPrecedence.2.1 31 = .ok (.aload_n 0, 1) := by decide +kernel
theorem dc_Header_isPrecedence_32 : decode M_Header_isPrecedence.2.1 32 = .ok (.getfield 60, 3) := by decide +kernel
theorem dc_Header_isPrecedence_35 : decode M_Header_isPrecedence.2.1 35 = .ok (.iconst 4, 1) := by decide +kernel
theorem dc_Header_isPrecedence_36 : decode M_Header_isPrecedence.2.1 36 = .ok (.if_icmp .gt 7, 3) := by decide +kernel
theorem dc_Header_isPrecedence_39 : decode M_Header_isPrecedence.2.1 39 = .ok (.iconst 1, 1) := by decide +kernel
theorem dc_Header_isPrecedence_40 : decode M_Header_isPrecedence.2.1 40 = .ok (.goto 4, 3) := by decide +kernel
theorem dc_Header_isPrecedence_43 : decode M_Header_isPrecedence.2.1 43 = .ok (.iconst 0, 1) := by decide +kernel
theorem dc_Header_isPrecedence_44 : decode M_Header_isPrecedence.2.1 44 = .ok (.ireturn, 1) := by decide +kernel
set_option maxRecDepth 20000 in
theorem e_Header_isPrecedence_0 {d : Nat} {σ : PH} {K : PO → PH → Prop} (x0 : Nat) (x1 : Nat) (h : sh σ x0 = (1, 10) ∧ sh σ x1 = (1, 3) ∧ PW d M_Text_at 0 [.ref x1, .int (gI σ 645 x0)] [] σ (kI (fun r1 σ1 => sh σ1 x0 = (1, 10) ∧ (∀ σ2 : PH, σ2 = pI σ1 641 x0 (r1 - 48) → sh σ2 x0 = (1, 10) ∧ PW d M_Header_wordLength 0 [.ref x0] [] σ2 (kI (fun r2 σ3 => (if r2 = 1 then sh σ3 x0 = (1, 10) ∧ (if (gI σ3 641 x0) < 1 then K (.inl (some (.int 0))) σ3 else (if 4 < (gI σ3 641 x0) then K (.inl (some (.int 0))) σ3 else K (.inl (some (.int 1))) σ3)) else K (.inl (some (.int 0))) σ3)) K))) K)) : PW (d + 1) M_Header_isPrecedence 0 [.ref x0, .ref x1] [] σ K := by
  refine pw_aload_n dc_Header_isPrecedence_0 rfl rfl ?_
  refine pw_aload_n dc_Header_isPrecedence_1 rfl rfl ?_
  refine pw_aload_n dc_Header_isPrecedence_2 rfl rfl ?_
  obtain ⟨hs1, h⟩ := h
  refine pw_getI (c := 10) (k := 5) (f := 645) dc_Header_isPrecedence_3 fl_Header_38 rfl rfl hs1 ?_
  obtain ⟨hs2, h⟩ := h
  refine pw_callV (vs := [.int (gI σ 645 x0)]) (st := [.ref x0]) (b := x1) (cn := 3) dc_Header_isPrecedence_6 cq_Text_at (List.mem_of_getElem? (i := 563) (by decide +kernel)) (List.mem_of_getElem? (i := 564) (by decide +kernel)) (List.mem_of_getElem? (i := 562) (by decide +kernel)) rfl hs2 rfl rfl (by decide) (cat_cons rfl (cat_nil)) (Nat.le_of_ble_eq_true rfl) (PW.mono (kI_kN (fun r1 σ1 h => ?_)) h)
  refine pw_bipush (v := 48) dc_Header_isPrecedence_9 (by decide) ?_
  refine pw_isub dc_Header_isPrecedence_11 ?_
  obtain ⟨hs3, h⟩ := h
  have h := h _ rfl
  refine pw_putI (c := 10) (k := 1) (f := 641) dc_Header_isPrecedence_12 fl_Header_60 (Or.inl rfl) rfl rfl hs3 ?_
  refine pw_aload_n dc_Header_isPrecedence_15 rfl rfl ?_
  obtain ⟨hs4, h⟩ := h
  refine pw_callV (vs := []) (st := []) (b := x0) (cn := 10) dc_Header_isPrecedence_16 cq_Header_wordLength (List.mem_of_getElem? (i := 572) (by decide +kernel)) (List.mem_of_getElem? (i := 6) (by decide +kernel)) (List.mem_of_getElem? (i := 570) (by decide +kernel)) rfl hs4 rfl rfl (by decide) (cat_nil) (Nat.le_of_ble_eq_true rfl) (PW.mono (kI_kN (fun r2 σ3 h => ?_)) h)
  refine pw_iconst (v := 1) dc_Header_isPrecedence_19 (by decide) ?_
  refine pw_icmp_ne (tgt := 43) dc_Header_isPrecedence_20 (by decide) (fun hc => ?_) (fun hc => ?_)
  · have h := ite_f h hc
    refine pw_iconst (v := 0) dc_Header_isPrecedence_43 (by decide) ?_
    exact pw_iret dc_Header_isPrecedence_44 rfl (bo_nar (Or.inl rfl)) h
  · have h := ite_t h hc
    refine pw_aload_n dc_Header_isPrecedence_23 rfl rfl ?_
    obtain ⟨hs5, h⟩ := h
    refine pw_getI (c := 10) (k := 1) (f := 641) dc_Header_isPrecedence_24 fl_Header_60 rfl rfl hs5 ?_
    refine pw_iconst (v := 1) dc_Header_isPrecedence_27 (by decide) ?_
    refine pw_icmp_lt (tgt := 43) dc_Header_isPrecedence_28 (by decide) (fun hc => ?_) (fun hc => ?_)
    · have h := ite_t h hc
      refine pw_iconst (v := 0) dc_Header_isPrecedence_43 (by decide) ?_
      exact pw_iret dc_Header_isPrecedence_44 rfl (bo_nar (Or.inl rfl)) h
    · have h := ite_f h hc
      refine pw_aload_n dc_Header_isPrecedence_31 rfl rfl ?_
      refine pw_getI (c := 10) (k := 1) (f := 641) dc_Header_isPrecedence_32 fl_Header_60 rfl rfl hs5 ?_
      refine pw_iconst (v := 4) dc_Header_isPrecedence_35 (by decide) ?_
      refine pw_icmp_gt (tgt := 43) dc_Header_isPrecedence_36 (by decide) (fun hc => ?_) (fun hc => ?_)
      · have h := ite_t h hc
        refine pw_iconst (v := 0) dc_Header_isPrecedence_43 (by decide) ?_
        exact pw_iret dc_Header_isPrecedence_44 rfl (bo_nar (Or.inl rfl)) h
      · have h := ite_f h hc
        refine pw_iconst (v := 1) dc_Header_isPrecedence_39 (by decide) ?_
        refine pw_goto (tgt := 44) dc_Header_isPrecedence_40 (by decide) ?_
        exact pw_iret dc_Header_isPrecedence_44 rfl (bo_nar (Or.inr rfl)) h
theorem dc_Header_readsIndicators_0 : decode M_Header_readsIndicators.2.1 0 = .ok (.aload_n 0, 1) := by decide +kernel
theorem dc_Header_readsIndicators_1 : decode M_Header_readsIndicators.2.1 1 = .ok (.iconst 0, 1) := by decide +kernel
theorem dc_Header_readsIndicators_2 : decode M_Header_readsIndicators.2.1 2 = .ok (.putfield 63, 3) := by decide +kernel
theorem dc_Header_readsIndicators_5 : decode M_Header_readsIndicators.2.1 5 = .ok (.aload_n 0, 1) := by decide +kernel
theorem dc_Header_readsIndicators_6 : decode M_Header_readsIndicators.2.1 6 = .ok (.aload_n 1, 1) := by decide +kernel
theorem dc_Header_readsIndicators_7 : decode M_Header_readsIndicators.2.1 7 = .ok (.invokevirtual 28, 3) := by decide +kernel
theorem dc_Header_readsIndicators_10 : decode M_Header_readsIndicators.2.1 10 = .ok (.istore_n 2, 1) := by decide +kernel
theorem dc_Header_readsIndicators_11 : decode M_Header_readsIndicators.2.1 11 = .ok (.iload_n 2, 1) := by decide +kernel
theorem dc_Header_readsIndicators_12 : decode M_Header_readsIndicators.2.1 12 = .ok (.ifCond .eq 54, 3) := by decide +kernel
theorem dc_Header_readsIndicators_15 : decode M_Header_readsIndicators.2.1 15 = .ok (.aload_n 0, 1) := by decide +kernel
theorem dc_Header_readsIndicators_16 : decode M_Header_readsIndicators.2.1 16 = .ok (.getfield 63, 3) := by decide +kernel
theorem dc_Header_readsIndicators_19 : decode M_Header_readsIndicators.2.1 19 = .ok (.iconst 4, 1) := by decide +kernel
theorem dc_Header_readsIndicators_20 : decode M_Header_readsIndicators.2.1 20 = .ok (.if_icmp .ge 46, 3) := by decide +kernel
theorem dc_Header_readsIndicators_23 : decode M_Header_readsIndicators.2.1 23 = .ok (.aload_n 0, 1) := by decide +kernel
theorem dc_Header_readsIndicators_24 : decode M_Header_readsIndicators.2.1 24 = .ok (.aload_n 1, 1) := by decide +kernel
theorem dc_Header_readsIndicators_25 : decode M_Header_readsIndicators.2.1 25 = .ok (.invokevirtual 66, 3) := by decide +kernel
theorem dc_Header_readsIndicators_28 : decode M_Header_readsIndicators.2.1 28 = .ok (.ifCond .ne 5, 3) := by decide +kernel
theorem dc_Header_readsIndicators_31 : decode M_Header_readsIndicators.2.1 31 = .ok (.iconst 0, 1) := by decide +kernel
theorem dc_Header_readsIndicators_32 : decode M_Header_readsIndicators.2.1 32 = .ok (.ireturn, 1) := by decide +kernel
theorem dc_Header_readsIndicators_33 : decode M_Header_readsIndicators.2.1 33 = .ok (.aload_n 0, 1) := by decide +kernel
theorem dc_Header_readsIndicators_34 : decode M_Header_readsIndicators.2.1 34 = .ok (.getfield 9, 3) := by decide +kernel
theorem dc_Header_readsIndicators_37 : decode M_Header_readsIndicators.2.1 37 = .ok (.aload_n 0, 1) := by decide +kernel
theorem dc_Header_readsIndicators_38 : decode M_Header_readsIndicators.2.1 38 = .ok (.getfield 63, 3) := by decide +kernel
theorem dc_Header_readsIndicators_41 : decode M_Header_readsIndicators.2.1 41 = .ok (.aload_n 0, 1) := by decide +kernel
theorem dc_Header_readsIndicators_42 : decode M_Header_readsIndicators.2.1 42 = .ok (.aload_n 1, 1) := by decide +kernel
theorem dc_Header_readsIndicators_43 : decode M_Header_readsIndicators.2.1 43 = .ok (.invokevirtual 69, 3) := by decide +kernel
theorem dc_Header_readsIndicators_46 : decode M_Header_readsIndicators.2.1 46 = .ok (.iastore, 1) := by decide +kernel
theorem dc_Header_readsIndicators_47 : decode M_Header_readsIndicators.2.1 47 = .ok (.aload_n 0, 1) := by decide +kernel
theorem dc_Header_readsIndicators_48 : decode M_Header_readsIndicators.2.1 48 = .ok (.dup, 1) := by decide +kernel
theorem dc_Header_readsIndicators_49 : decode M_Header_readsIndicators.2.1 49 = .ok (.getfield 63, 3) := by decide +kernel
theorem dc_Header_readsIndicators_52 : decode M_Header_readsIndicators.2.1 52 = .ok (.iconst 1, 1) := by decide +kernel
theorem dc_Header_readsIndicators_53 : decode M_Header_readsIndicators.2.1 53 = .ok (.iadd, 1) := by decide +kernel
theorem dc_Header_readsIndicators_54 : decode M_Header_readsIndicators.2.1 54 = .ok (.putfield 63, 3) := by decide +kernel
theorem dc_Header_readsIndicators_57 : decode M_Header_readsIndicators.2.1 57 = .ok (.aload_n 0, 1) := by decide +kernel
theorem dc_Header_readsIndicators_58 : decode M_Header_readsIndicators.2.1 58 = .ok (.aload_n 1, 1) := by decide +kernel
theorem dc_Header_readsIndicators_59 : decode M_Header_readsIndicators.2.1 59 = .ok (.invokevirtual 28, 3) := by decide +kernel
theorem dc_Header_readsIndicators_62 : decode M_Header_readsIndicators.2.1 62 = .ok (.istore_n 2, 1) := by decide +kernel
theorem dc_Header_readsIndicators_63 : decode M_Header_readsIndicators.2.1 63 = .ok (.goto (-52), 3) := by decide +kernel
theorem dc_Header_readsIndicators_66 : decode M_Header_readsIndicators.2.1 66 = .ok (.aload_n 0, 1) := by decide +kernel
theorem dc_Header_readsIndicators_67 : decode M_Header_readsIndicators.2.1 67 = .ok (.getfield 63, 3) := by decide +kernel
theorem dc_Header_readsIndicators_70 : decode M_Header_readsIndicators.2.1 70 = .ok (.ifCond .le 11, 3) := by decide +kernel
theorem dc_Header_readsIndicators_73 : decode M_Header_readsIndicators.2.1 73 = .ok (.iload_n 2, 1) := by decide +kernel
theorem dc_Header_readsIndicators_74 : decode M_Header_readsIndicators.2.1 74 = .ok (.ifCond .ne 7, 3) := by decide +kernel
theorem dc_Header_readsIndicators_77 : decode M_Header_readsIndicators.2.1 77 = .ok (.iconst 1, 1) := by decide +kernel
theorem dc_Header_readsIndicators_78 : decode M_Header_readsIndicators.2.1 78 = .ok (.goto 4, 3) := by decide +kernel
theorem dc_Header_readsIndicators_81 : decode M_Header_readsIndicators.2.1 81 = .ok (.iconst 0, 1) := by decide +kernel
theorem dc_Header_readsIndicators_82 : decode M_Header_readsIndicators.2.1 82 = .ok (.ireturn, 1) := by decide +kernel
set_option maxRecDepth 20000 in
theorem e_Header_readsIndicators_0 {d : Nat} {σ : PH} {K : PO → PH → Prop} (x0 : Nat) (x1 : Nat) (h : sh σ x0 = (1, 10) ∧ (∀ σ1 : PH, σ1 = pI σ 643 x0 0 → sh σ1 x0 = (1, 10) ∧ PW d M_Header_hasNextWord 0 [.ref x0, .ref x1] [] σ1 (kI (fun r1 σ2 => PW (d + 1) M_Header_readsIndicators 11 [.ref x0, .ref x1, .int r1] [] σ2 K) K))) : PW (d + 1) M_Header_readsIndicators 0 [.ref x0, .ref x1, uu] [] σ K := by
  refine pw_aload_n dc_Header_readsIndicators_0 rfl rfl ?_
  refine pw_iconst (v := 0) dc_Header_readsIndicators_1 (by decide) ?_
  obtain ⟨hs1, h⟩ := h
  have h := h _ rfl
  refine pw_putI (c := 10) (k := 3) (f := 643) dc_Header_readsIndicators_2 fl_Header_63 (Or.inl rfl) rfl rfl hs1 ?_
  refine pw_aload_n dc_Header_readsIndicators_5 rfl rfl ?_
  refine pw_aload_n dc_Header_readsIndicators_6 rfl rfl ?_
  obtain ⟨hs2, h⟩ := h
  refine pw_callV (vs := [.ref x1]) (st := []) (b := x0) (cn := 10) dc_Header_readsIndicators_7 cq_Header_hasNextWord (List.mem_of_getElem? (i := 560) (by decide +kernel)) (List.mem_of_getElem? (i := 4) (by decide +kernel)) (List.mem_of_getElem? (i := 558) (by decide +kernel)) rfl hs2 rfl rfl (by decide) (cat_cons rfl (cat_nil)) (Nat.le_of_ble_eq_true rfl) (PW.mono (kI_kN (fun r1 σ2 h => ?_)) h)
  refine pw_istore_n dc_Header_readsIndicators_10 (by decide) ?_
  exact h
set_option maxRecDepth 20000 in
theorem e_Header_readsIndicators_11 {d : Nat} {σ : PH} {K : PO → PH → Prop} (x0 : Nat) (x1 : Nat) (x2 : Int32) (h : (if x2 = 0 then PW (d + 1) M_Header_readsIndicators 66 [.ref x0, uu, .int x2] [] σ K else sh σ x0 = (1, 10) ∧ (if 4 ≤ (gI σ 643 x0) then PW (d + 1) M_Header_readsIndicators 66 [.ref x0, uu, .int x2] [] σ K else PW d M_Header_isIndicator 0 [.ref x0, .ref x1, uu] [] σ (kI (fun r1 σ1 => (if r1 = 0 then K (.inl (some (.int 0))) σ1 else sh σ1 x0 = (1, 10) ∧ (∃ b1 : Nat, gR σ1 642 x0 = some b1 ∧ PW d M_Header_indicatorOf 0 [.ref x0, .ref x1, uu, uu] [] σ1 (kI (fun r2 σ2 => (∃ n1 : Nat, sh σ2 b1 = (2, n1) ∧ vp_in (gI σ1 643 x0) n1 ∧ (∀ σ3 : PH, σ3 = uI σ2 b1 (ix (gI σ1 643 x0)) r2 → sh σ3 x0 = (1, 10) ∧ (∀ σ4 : PH, σ4 = pI σ3 643 x0 ((gI σ3 643 x0) + 1) → sh σ4 x0 = (1, 10) ∧ PW d M_Header_hasNextWord 0 [.ref x0, .ref x1] [] σ4 (kI (fun r3 σ5 => PW (d + 1) M_Header_readsIndicators 11 [.ref x0, .ref x1, .int r3] [] σ5 K) K))))) K)))) K)))) : PW (d + 1) M_Header_readsIndicators 11 [.ref x0, .ref x1, .int x2] [] σ K := by
  refine pw_iload_n dc_Header_readsIndicators_11 rfl ?_
  refine pw_if_eq (tgt := 66) dc_Header_readsIndicators_12 (by decide) (fun hc => ?_) (fun hc => ?_)
  · have h := ite_t h hc
    refine PW.drop (ls' := [.ref x0, uu, .int x2]) ⟨Or.inl rfl, Or.inr rfl, Or.inl rfl, trivial⟩ ?_
    exact h
  · have h := ite_f h hc
    refine pw_aload_n dc_Header_readsIndicators_15 rfl rfl ?_
    obtain ⟨hs1, h⟩ := h
    refine pw_getI (c := 10) (k := 3) (f := 643) dc_Header_readsIndicators_16 fl_Header_63 rfl rfl hs1 ?_
    refine pw_iconst (v := 4) dc_Header_readsIndicators_19 (by decide) ?_
    refine pw_icmp_ge (tgt := 66) dc_Header_readsIndicators_20 (by decide) (fun hc => ?_) (fun hc => ?_)
    · have h := ite_t h hc
      refine PW.drop (ls' := [.ref x0, uu, .int x2]) ⟨Or.inl rfl, Or.inr rfl, Or.inl rfl, trivial⟩ ?_
      exact h
    · have h := ite_f h hc
      refine pw_aload_n dc_Header_readsIndicators_23 rfl rfl ?_
      refine pw_aload_n dc_Header_readsIndicators_24 rfl rfl ?_
      refine pw_callV (vs := [.ref x1]) (st := []) (b := x0) (cn := 10) dc_Header_readsIndicators_25 cq_Header_isIndicator (List.mem_of_getElem? (i := 587) (by decide +kernel)) (List.mem_of_getElem? (i := 9) (by decide +kernel)) (List.mem_of_getElem? (i := 585) (by decide +kernel)) rfl hs1 rfl rfl (by decide) (cat_cons rfl (cat_nil)) (Nat.le_of_ble_eq_true rfl) (PW.mono (kI_kN (fun r1 σ1 h => ?_)) h)
      refine pw_if_ne (tgt := 33) dc_Header_readsIndicators_28 (by decide) (fun hc => ?_) (fun hc => ?_)
      · have h := ite_f h hc
        refine pw_aload_n dc_Header_readsIndicators_33 rfl rfl ?_
        obtain ⟨hs2, h⟩ := h
        refine pw_getR (c := 10) (k := 2) (f := 642) dc_Header_readsIndicators_34 fl_Header_9 rfl rfl hs2 ?_
        obtain ⟨b1, hb1, h⟩ := h
        refine PW.top (v' := .ref b1) (congrArg va_rf hb1) ?_
        refine pw_aload_n dc_Header_readsIndicators_37 rfl rfl ?_
        refine pw_getI (c := 10) (k := 3) (f := 643) dc_Header_readsIndicators_38 fl_Header_63 rfl rfl hs2 ?_
        refine pw_aload_n dc_Header_readsIndicators_41 rfl rfl ?_
        refine pw_aload_n dc_Header_readsIndicators_42 rfl rfl ?_
        refine pw_callV (vs := [.ref x1]) (st := [.int (gI σ1 643 x0), .ref b1]) (b := x0) (cn := 10) dc_Header_readsIndicators_43 cq_Header_indicatorOf (List.mem_of_getElem? (i := 594) (by decide +kernel)) (List.mem_of_getElem? (i := 10) (by decide +kernel)) (List.mem_of_getElem? (i := 592) (by decide +kernel)) rfl hs2 rfl rfl (by decide) (cat_cons rfl (cat_nil)) (Nat.le_of_ble_eq_true rfl) (PW.mono (kI_kN (fun r2 σ2 h => ?_)) h)
        obtain ⟨n1, hs3, h⟩ := h
        obtain ⟨hi1, h⟩ := h
        have h := h _ rfl
        refine pw_iast dc_Header_readsIndicators_46 hs3 hi1 ?_
        refine pw_aload_n dc_Header_readsIndicators_47 rfl rfl ?_
        refine pw_dup dc_Header_readsIndicators_48 rfl ?_
        obtain ⟨hs4, h⟩ := h
        refine pw_getI (c := 10) (k := 3) (f := 643) dc_Header_readsIndicators_49 fl_Header_63 rfl rfl hs4 ?_
        refine pw_iconst (v := 1) dc_Header_readsIndicators_52 (by decide) ?_
        refine pw_iadd dc_Header_readsIndicators_53 ?_
        have h := h _ rfl
        refine pw_putI (c := 10) (k := 3) (f := 643) dc_Header_readsIndicators_54 fl_Header_63 (Or.inl rfl) rfl rfl hs4 ?_
        refine pw_aload_n dc_Header_readsIndicators_57 rfl rfl ?_
        refine pw_aload_n dc_Header_readsIndicators_58 rfl rfl ?_
        obtain ⟨hs5, h⟩ := h
        refine pw_callV (vs := [.ref x1]) (st := []) (b := x0) (cn := 10) dc_Header_readsIndicators_59 cq_Header_hasNextWord (List.mem_of_getElem? (i := 560) (by decide +kernel)) (List.mem_of_getElem? (i := 4) (by decide +kernel)) (List.mem_of_getElem? (i := 558) (by decide +kernel)) rfl hs5 rfl rfl (by decide) (cat_cons rfl (cat_nil)) (Nat.le_of_ble_eq_true rfl) (PW.mono (kI_kN (fun r3 σ5 h => ?_)) h)
        refine pw_istore_n dc_Header_readsIndicators_62 (by decide) ?_
        refine pw_goto (tgt := 11) dc_Header_readsIndicators_63 (by decide) ?_
        exact h
      · have h := ite_t h hc
        refine pw_iconst (v := 0) dc_Header_readsIndicators_31 (by decide) ?_
        exact pw_iret dc_Header_readsIndicators_32 rfl (bo_nar (Or.inl rfl)) h
set_option maxRecDepth 20000 in
theorem e_Header_readsIndicators_66 {d : Nat} {σ : PH} {K : PO → PH → Prop} (x0 : Nat) (x2 : Int32) (h : sh σ x0 = (1, 10) ∧ (if (gI σ 643 x0) ≤ 0 then K (.inl (some (.int 0))) σ else (if x2 = 0 then K (.inl (some (.int 1))) σ else K (.inl (some (.int 0))) σ))) : PW (d + 1) M_Header_readsIndicators 66 [.ref x0, uu, .int x2] [] σ K := by
  refine pw_aload_n dc_Header_readsIndicators_66 rfl rfl ?_
  obtain ⟨hs1, h⟩ := h
  refine pw_getI (c := 10) (k := 3) (f := 643) dc_Header_readsIndicators_67 fl_Header_63 rfl rfl hs1 ?_
  refine pw_if_le (tgt := 81) dc_Header_readsIndicators_70 (by decide) (fun hc => ?_) (fun hc => ?_)
  · have h := ite_t h hc
    refine pw_iconst (v := 0) dc_Header_readsIndicators_81 (by decide) ?_
    exact pw_iret dc_Header_readsIndicators_82 rfl (bo_nar (Or.inl rfl)) h
  · have h := ite_f h hc
    refine pw_iload_n dc_Header_readsIndicators_73 rfl ?_
    refine pw_if_ne (tgt := 81) dc_Header_readsIndicators_74 (by decide) (fun hc => ?_) (fun hc => ?_)
    · have h := ite_f h hc
      refine pw_iconst (v := 0) dc_Header_readsIndicators_81 (by decide) ?_
      exact pw_iret dc_Header_readsIndicators_82 rfl (bo_nar (Or.inl rfl)) h
    · have h := ite_t h hc
      refine pw_iconst (v := 1) dc_Header_readsIndicators_77 (by decide) ?_
      refine pw_goto (tgt := 82) dc_Header_readsIndicators_78 (by decide) ?_
      exact pw_iret dc_Header_readsIndicators_82 rfl (bo_nar (Or.inr rfl)) h
theorem dc_Header_isIndicator_0 : decode M_Header_isIndicator.2.1 0 = .ok (.aload_n 0, 1) := by decide +kernel
theorem dc_Header_isIndicator_1 : decode M_Header_isIndicator.2.1 1 = .ok (.getfield 38, 3) := by decide +kernel
theorem dc_Header_isIndicator_4 : decode M_Header_isIndicator.2.1 4 = .ok (.istore_n 2, 1) := by decide +kernel
theorem dc_Header_isIndicator_5 : decode M_Header_isIndicator.2.1 5 = .ok (.iload_n 2, 1) := by decide +kernel
theorem dc_Header_isIndicator_6 : decode M_Header_isIndicator.2.1 6 = .ok (.aload_n 0, 1) := by decide +kernel
theorem dc_Header_isIndicator_7 : decode M_Header_isIndicator.2.1 7 = .ok (.getfield 25, 3) := by decide +kernel
theorem dc_Header_isIndicator_10 : decode M_Header_isIndicator.2.1 10 = .ok (.if_icmp .ge 22, 3) := by decide +kernel
theorem dc_Header_isIndicator_13 : decode M_Header_isIndicator.2.1 13 = .ok (.aload_n 1, 1) := by decide +kernel
theorem dc_Header_isIndicator_14 : decode M_Header_isIndicator.2.1 14 = .ok (.iload_n 2, 1) := by decide +kernel
theorem dc_Header_isIndicator_15 : decode M_Header_isIndicator.2.1 15 = .ok (.invokevirtual 41, 3) := by decide +kernel
theorem dc_Header_isIndicator_18 : decode M_Header_isIndicator.2.1 18 = .ok (.invokestatic 73, 3) := by decide +kernel
theorem dc_Header_isIndicator_21 : decode M_Header_isIndicator.2.1 21 = .ok (.ifCond .ne 5, 3) := by decide +kernel
theorem dc_Header_isIndicator_24 : decode M_Header_isIndicator.2.1 24 = .ok (.iconst 0, 1) := by decide +kernel
theorem dc_Header_isIndicator_25 : decode M_Header_isIndicator.2.1 25 = .ok (.ireturn, 1) := by decide +kernel
theorem dc_Header_isIndicator_26 : decode M_Header_isIndicator.2.1 26 = .ok (.iinc 2 1, 3) := by decide +kernel
theorem dc_Header_isIndicator_29 : decode M_Header_isIndicator.2.1 29 = .ok (.goto (-24), 3) := by decide +kernel
theorem dc_Header_isIndicator_32 : decode M_Header_isIndicator.2.1 32 = .ok (.aload_n 0, 1) := by decide +kernel
theorem dc_Header_isIndicator_33 : decode M_Header_isIndicator.2.1 33 = .ok (.invokevirtual 35, 3) := by decide +kernel
theorem dc_Header_isIndicator_36 : decode M_Header_isIndicator.2.1 36 = .ok (.iconst 4, 1) := by decide +kernel
theorem dc_Header_isIndicator_37 : decode M_Header_isIndicator.2.1 37 = .ok (.if_icmp .ne 7, 3) := by decide +kernel
theorem dc_Header_isIndicator_40 : decode M_Header_isIndicator.2.1 40 = .ok (.iconst 1, 1) := by decide +kernel
theorem dc_Header_isIndicator_41 : decode M_Header_isIndicator.2.1 41 = .ok (.goto 4, 3) := by decide +kernel
theorem dc_Header_isIndicator_44 : decode M_Header_isIndicator.2.1 44 = .ok (.iconst 0, 1) := by decide +kernel
theorem dc_Header_isIndicator_45 : decode M_Header_isIndicator.2.1 45 = .ok (.ireturn, 1) := by decide +kernel
set_option maxRecDepth 20000 in
theorem e_Header_isIndicator_0 {d : Nat} {σ : PH} {K : PO → PH → Prop} (x0 : Nat) (x1 : Nat) (h : sh σ x0 = (1, 10) ∧ PW (d + 1) M_Header_isIndicator 5 [.ref x0, .ref x1, .int (gI σ 645 x0)] [] σ K) : PW (d + 1) M_Header_isIndicator 0 [.ref x0, .ref x1, uu] [] σ K := by
  refine pw_aload_n dc_Header_isIndicator_0 rfl rfl ?_
  obtain ⟨hs1, h⟩ := h
  refine pw_getI (c := 10) (k := 5) (f := 645) dc_Header_isIndicator_1 fl_Header_38 rfl rfl hs1 ?_
  refine pw_istore_n dc_Header_isIndicator_4 (by decide) ?_
  exact h
set_option maxRecDepth 20000 in
theorem e_Header_isIndicator_5 {d : Nat} {σ : PH} {K : PO → PH → Prop} (x0 : Nat) (x1 : Nat) (x2 : Int32) (h : sh σ x0 = (1, 10) ∧ (if (gI σ 646 x0) ≤ x2 then PW d M_Header_wordLength 0 [.ref x0] [] σ (kI (fun r1 σ1 => (if r1 = 4 then K (.inl (some (.int 1))) σ1 else K (.inl (some (.int 0))) σ1)) K) else sh σ x1 = (1, 3) ∧ PW d M_Text_at 0 [.ref x1, .int x2] [] σ (kI (fun r2 σ2 => PW d M_Signs_isLetter 0 [.int r2] [] σ2 (kI (fun r3 σ3 => (if r3 = 0 then K (.inl (some (.int 0))) σ3 else PW (d + 1) M_Header_isIndicator 5 [.ref x0, .ref x1, .int (x2 + 1)] [] σ3 K)) K)) K))) : PW (d + 1) M_Header_isIndicator 5 [.ref x0, .ref x1, .int x2] [] σ K := by
  refine pw_iload_n dc_Header_isIndicator_5 rfl ?_
  refine pw_aload_n dc_Header_isIndicator_6 rfl rfl ?_
  obtain ⟨hs1, h⟩ := h
  refine pw_getI (c := 10) (k := 6) (f := 646) dc_Header_isIndicator_7 fl_Header_25 rfl rfl hs1 ?_
  refine pw_icmp_ge (tgt := 32) dc_Header_isIndicator_10 (by decide) (fun hc => ?_) (fun hc => ?_)
  · have h := ite_t h hc
    refine pw_aload_n dc_Header_isIndicator_32 rfl rfl ?_
    refine pw_callV (vs := []) (st := []) (b := x0) (cn := 10) dc_Header_isIndicator_33 cq_Header_wordLength (List.mem_of_getElem? (i := 572) (by decide +kernel)) (List.mem_of_getElem? (i := 6) (by decide +kernel)) (List.mem_of_getElem? (i := 570) (by decide +kernel)) rfl hs1 rfl rfl (by decide) (cat_nil) (Nat.le_of_ble_eq_true rfl) (PW.mono (kI_kN (fun r1 σ1 h => ?_)) h)
    refine pw_iconst (v := 4) dc_Header_isIndicator_36 (by decide) ?_
    refine pw_icmp_ne (tgt := 44) dc_Header_isIndicator_37 (by decide) (fun hc => ?_) (fun hc => ?_)
    · have h := ite_f h hc
      refine pw_iconst (v := 0) dc_Header_isIndicator_44 (by decide) ?_
      exact pw_iret dc_Header_isIndicator_45 rfl (bo_nar (Or.inl rfl)) h
    · have h := ite_t h hc
      refine pw_iconst (v := 1) dc_Header_isIndicator_40 (by decide) ?_
      refine pw_goto (tgt := 45) dc_Header_isIndicator_41 (by decide) ?_
      exact pw_iret dc_Header_isIndicator_45 rfl (bo_nar (Or.inr rfl)) h
  · have h := ite_f h hc
    refine pw_aload_n dc_Header_isIndicator_13 rfl rfl ?_
    refine pw_iload_n dc_Header_isIndicator_14 rfl ?_
    obtain ⟨hs2, h⟩ := h
    refine pw_callV (vs := [.int x2]) (st := []) (b := x1) (cn := 3) dc_Header_isIndicator_15 cq_Text_at (List.mem_of_getElem? (i := 563) (by decide +kernel)) (List.mem_of_getElem? (i := 564) (by decide +kernel)) (List.mem_of_getElem? (i := 562) (by decide +kernel)) rfl hs2 rfl rfl (by decide) (cat_cons rfl (cat_nil)) (Nat.le_of_ble_eq_true rfl) (PW.mono (kI_kN (fun r2 σ2 h => ?_)) h)
    refine pw_callS (vs := [.int r2]) (st := []) dc_Header_isIndicator_18 cq_Signs_isLetter (List.mem_of_getElem? (i := 590) (by decide +kernel)) (List.mem_of_getElem? (i := 589) (by decide +kernel)) rfl rfl (cat_cons rfl (cat_nil)) (Nat.le_of_ble_eq_true rfl) (PW.mono (kI_kN (fun r3 σ3 h => ?_)) h)
    refine pw_if_ne (tgt := 26) dc_Header_isIndicator_21 (by decide) (fun hc => ?_) (fun hc => ?_)
    · have h := ite_f h hc
      refine pw_iincv (v := 1) dc_Header_isIndicator_26 (by decide) rfl (by decide) ?_
      refine pw_goto (tgt := 5) dc_Header_isIndicator_29 (by decide) ?_
      exact h
    · have h := ite_t h hc
      refine pw_iconst (v := 0) dc_Header_isIndicator_24 (by decide) ?_
      exact pw_iret dc_Header_isIndicator_25 rfl (bo_nar (Or.inl rfl)) h
theorem dc_Header_indicatorOf_0 : decode M_Header_indicatorOf.2.1 0 = .ok (.iconst 0, 1) := by decide +kernel
theorem dc_Header_indicatorOf_1 : decode M_Header_indicatorOf.2.1 1 = .ok (.istore_n 2, 1) := by decide +kernel
theorem dc_Header_indicatorOf_2 : decode M_Header_indicatorOf.2.1 2 = .ok (.aload_n 0, 1) := by decide +kernel
theorem dc_Header_indicatorOf_3 : decode M_Header_indicatorOf.2.1 3 = .ok (.getfield 38, 3) := by decide +kernel
theorem dc_Header_indicatorOf_6 : decode M_Header_indicatorOf.2.1 6 = .ok (.istore_n 3, 1) := by decide +kernel
theorem dc_Header_indicatorOf_7 : decode M_Header_indicatorOf.2.1 7 = .ok (.iload_n 3, 1) := by decide +kernel
theorem dc_Header_indicatorOf_8 : decode M_Header_indicatorOf.2.1 8 = .ok (.aload_n 0, 1) := by decide +kernel
theorem dc_Header_indicatorOf_9 : decode M_Header_indicatorOf.2.1 9 = .ok (.getfield 25, 3) := by decide +kernel
theorem dc_Header_indicatorOf_12 : decode M_Header_indicatorOf.2.1 12 = .ok (.if_icmp .ge 23, 3) := by decide +kernel
theorem dc_Header_indicatorOf_15 : decode M_Header_indicatorOf.2.1 15 = .ok (.iload_n 2, 1) := by decide +kernel
theorem dc_Header_indicatorOf_16 : decode M_Header_indicatorOf.2.1 16 = .ok (.bipush 26, 2) := by decide +kernel
theorem dc_Header_indicatorOf_18 : decode M_Header_indicatorOf.2.1 18 = .ok (.imul, 1) := by decide +kernel
theorem dc_Header_indicatorOf_19 : decode M_Header_indicatorOf.2.1 19 = .ok (.aload_n 1, 1) := by decide +kernel
theorem dc_Header_indicatorOf_20 : decode M_Header_indicatorOf.2.1 20 = .ok (.iload_n 3, 1) := by decide +kernel
theorem dc_Header_indicatorOf_21 : decode M_Header_indicatorOf.2.1 21 = .ok (.invokevirtual 41, 3) := by decide +kernel
theorem dc_Header_indicatorOf_24 : decode M_Header_indicatorOf.2.1 24 = .ok (.iadd, 1) := by decide +kernel
theorem dc_Header_indicatorOf_25 : decode M_Header_indicatorOf.2.1 25 = .ok (.bipush 65, 2) := by decide +kernel
theorem dc_Header_indicatorOf_27 : decode M_Header_indicatorOf.2.1 27 = .ok (.isub, 1) := by decide +kernel
theorem dc_Header_indicatorOf_28 : decode M_Header_indicatorOf.2.1 28 = .ok (.istore_n 2, 1) := by decide +kernel
theorem dc_Header_indicatorOf_29 : decode M_Header_indicatorOf.2.1 29 = .ok (.iinc 3 1, 3) := by decide +kernel
theorem dc_Header_indicatorOf_32 : decode M_Header_indicatorOf.2.1 32 = .ok (.goto (-25), 3) := by decide +kernel
theorem dc_Header_indicatorOf_35 : decode M_Header_indicatorOf.2.1 35 = .ok (.iload_n 2, 1) := by decide +kernel
theorem dc_Header_indicatorOf_36 : decode M_Header_indicatorOf.2.1 36 = .ok (.ireturn, 1) := by decide +kernel
set_option maxRecDepth 20000 in
theorem e_Header_indicatorOf_0 {d : Nat} {σ : PH} {K : PO → PH → Prop} (x0 : Nat) (x1 : Nat) (h : sh σ x0 = (1, 10) ∧ PW (d + 1) M_Header_indicatorOf 7 [.ref x0, .ref x1, .int 0, .int (gI σ 645 x0)] [] σ K) : PW (d + 1) M_Header_indicatorOf 0 [.ref x0, .ref x1, uu, uu] [] σ K := by
  refine pw_iconst (v := 0) dc_Header_indicatorOf_0 (by decide) ?_
  refine pw_istore_n dc_Header_indicatorOf_1 (by decide) ?_
  refine pw_aload_n dc_Header_indicatorOf_2 rfl rfl ?_
  obtain ⟨hs1, h⟩ := h
  refine pw_getI (c := 10) (k := 5) (f := 645) dc_Header_indicatorOf_3 fl_Header_38 rfl rfl hs1 ?_
  refine pw_istore_n dc_Header_indicatorOf_6 (by decide) ?_
  exact h
set_option maxRecDepth 20000 in
theorem e_Header_indicatorOf_7 {d : Nat} {σ : PH} {K : PO → PH → Prop} (x0 : Nat) (x1 : Nat) (x2 : Int32) (x3 : Int32) (h : sh σ x0 = (1, 10) ∧ (if (gI σ 646 x0) ≤ x3 then K (.inl (some (.int x2))) σ else sh σ x1 = (1, 3) ∧ PW d M_Text_at 0 [.ref x1, .int x3] [] σ (kI (fun r1 σ1 => PW (d + 1) M_Header_indicatorOf 7 [.ref x0, .ref x1, .int (((x2 * 26) + r1) - 65), .int (x3 + 1)] [] σ1 K) K))) : PW (d + 1) M_Header_indicatorOf 7 [.ref x0, .ref x1, .int x2, .int x3] [] σ K := by
  refine pw_iload_n dc_Header_indicatorOf_7 rfl ?_
  refine pw_aload_n dc_Header_indicatorOf_8 rfl rfl ?_
  obtain ⟨hs1, h⟩ := h
  refine pw_getI (c := 10) (k := 6) (f := 646) dc_Header_indicatorOf_9 fl_Header_25 rfl rfl hs1 ?_
  refine pw_icmp_ge (tgt := 35) dc_Header_indicatorOf_12 (by decide) (fun hc => ?_) (fun hc => ?_)
  · have h := ite_t h hc
    refine pw_iload_n dc_Header_indicatorOf_35 rfl ?_
    exact pw_iret dc_Header_indicatorOf_36 rfl rfl h
  · have h := ite_f h hc
    refine pw_iload_n dc_Header_indicatorOf_15 rfl ?_
    refine pw_bipush (v := 26) dc_Header_indicatorOf_16 (by decide) ?_
    refine pw_imul dc_Header_indicatorOf_18 ?_
    refine pw_aload_n dc_Header_indicatorOf_19 rfl rfl ?_
    refine pw_iload_n dc_Header_indicatorOf_20 rfl ?_
    obtain ⟨hs2, h⟩ := h
    refine pw_callV (vs := [.int x3]) (st := [.int (x2 * 26)]) (b := x1) (cn := 3) dc_Header_indicatorOf_21 cq_Text_at (List.mem_of_getElem? (i := 563) (by decide +kernel)) (List.mem_of_getElem? (i := 564) (by decide +kernel)) (List.mem_of_getElem? (i := 562) (by decide +kernel)) rfl hs2 rfl rfl (by decide) (cat_cons rfl (cat_nil)) (Nat.le_of_ble_eq_true rfl) (PW.mono (kI_kN (fun r1 σ1 h => ?_)) h)
    refine pw_iadd dc_Header_indicatorOf_24 ?_
    refine pw_bipush (v := 65) dc_Header_indicatorOf_25 (by decide) ?_
    refine pw_isub dc_Header_indicatorOf_27 ?_
    refine pw_istore_n dc_Header_indicatorOf_28 (by decide) ?_
    refine pw_iincv (v := 1) dc_Header_indicatorOf_29 (by decide) rfl (by decide) ?_
    refine pw_goto (tgt := 7) dc_Header_indicatorOf_32 (by decide) ?_
    exact h
theorem dc_Intake_init_0 : decode M_Intake_init.2.1 0 = .ok (.aload_n 0, 1) := by decide +kernel
theorem dc_Intake_init_1 : decode M_Intake_init.2.1 1 = .ok (.invokespecial 3, 3) := by decide +kernel
theorem dc_Intake_init_4 : decode M_Intake_init.2.1 4 = .ok (.aload_n 0, 1) := by decide +kernel
theorem dc_Intake_init_5 : decode M_Intake_init.2.1 5 = .ok (.new 9, 3) := by decide +kernel
theorem dc_Intake_init_8 : decode M_Intake_init.2.1 8 = .ok (.dup, 1) := by decide +kernel
theorem dc_Intake_init_9 : decode M_Intake_init.2.1 9 = .ok (.bipush 60, 2) := by decide +kernel
theorem dc_Intake_init_11 : decode M_Intake_init.2.1 11 = .ok (.invokespecial 11, 3) := by decide +kernel
theorem dc_Intake_init_14 : decode M_Intake_init.2.1 14 = .ok (.putfield 14, 3) := by decide +kernel
theorem dc_Intake_init_17 : decode M_Intake_init.2.1 17 = .ok (.return_, 1) := by decide +kernel
set_option maxRecDepth 20000 in
theorem e_Intake_init_0 {d : Nat} {σ : PH} {K : PO → PH → Prop} (x0 : Nat) (h : cc σ + 1 ≤ 601024 ∧ cs σ + 2 ≤ 7293034 ∧ (∀ σ1 : PH, σ1 = mk σ (1, 3) 2 → PW d M_Text_init 0 [.ref (nx σ), .int 60] [] σ1 (kV (fun σ2 => sh σ2 x0 = (1, 2) ∧ (∀ σ3 : PH, σ3 = pR σ2 128 x0 (some (nx σ)) → K (.inl none) σ3)) K))) : PW (d + 1) M_Intake_init 0 [.ref x0] [] σ K := by
  refine pw_aload_n dc_Intake_init_0 rfl rfl ?_
  refine pw_objInit dc_Intake_init_1 (List.mem_of_getElem? (i := 185) (by decide +kernel)) (List.mem_of_getElem? (i := 91) (by decide +kernel)) (List.mem_of_getElem? (i := 92) (by decide +kernel)) (Nat.le_of_ble_eq_true rfl) ?_
  refine pw_aload_n dc_Intake_init_4 rfl rfl ?_
  obtain ⟨hr1, hr2, h⟩ := h
  have h := h _ rfl
  refine pw_new (c := 3) dc_Intake_init_5 (by decide) (List.mem_of_getElem? (i := 186) (by decide +kernel)) rfl hr1 hr2 ?_
  refine pw_dup dc_Intake_init_8 rfl ?_
  refine pw_bipush (v := 60) dc_Intake_init_9 (by decide) ?_
  refine pw_callI (vs := [.int 60]) (st := [.ref (nx σ), .ref x0]) (b := (nx σ)) dc_Intake_init_11 cq_Text_init rfl rfl (List.mem_of_getElem? (i := 190) (by decide +kernel)) (List.mem_of_getElem? (i := 189) (by decide +kernel)) (Or.inl (List.mem_of_getElem? (i := 188) (by decide +kernel))) rfl rfl (by decide) (cat_cons rfl (cat_nil)) (Nat.le_of_ble_eq_true rfl) (PW.mono (kV_kN (fun σ2 h => ?_)) h)
  obtain ⟨hs1, h⟩ := h
  have h := h _ rfl
  refine pw_putR (c := 2) (k := 0) (f := 128) (v := some (nx σ)) dc_Intake_init_14 fl_Intake_14 (Or.inr ⟨rfl, rfl, rfl, List.mem_of_getElem? (i := 203) (by decide +kernel)⟩) rfl rfl hs1 ?_
  exact pw_vret dc_Intake_init_17 rfl h
theorem dc_Intake_begin_0 : decode M_Intake_begin.2.1 0 = .ok (.aload_n 0, 1) := by decide +kernel
theorem dc_Intake_begin_1 : decode M_Intake_begin.2.1 1 = .ok (.getfield 14, 3) := by decide +kernel
theorem dc_Intake_begin_4 : decode M_Intake_begin.2.1 4 = .ok (.invokevirtual 20, 3) := by decide +kernel
theorem dc_Intake_begin_7 : decode M_Intake_begin.2.1 7 = .ok (.aload_n 0, 1) := by decide +kernel
theorem dc_Intake_begin_8 : decode M_Intake_begin.2.1 8 = .ok (.iconst 0, 1) := by decide +kernel
theorem dc_Intake_begin_9 : decode M_Intake_begin.2.1 9 = .ok (.putfield 23, 3) := by decide +kernel
theorem dc_Intake_begin_12 : decode M_Intake_begin.2.1 12 = .ok (.aload_n 0, 1) := by decide +kernel
theorem dc_Intake_begin_13 : decode M_Intake_begin.2.1 13 = .ok (.iconst 0, 1) := by decide +kernel
theorem dc_Intake_begin_14 : decode M_Intake_begin.2.1 14 = .ok (.putfield 27, 3) := by decide +kernel
theorem dc_Intake_begin_17 : decode M_Intake_begin.2.1 17 = .ok (.aload_n 0, 1) := by decide +kernel
theorem dc_Intake_begin_18 : decode M_Intake_begin.2.1 18 = .ok (.iconst 0, 1) := by decide +kernel
theorem dc_Intake_begin_19 : decode M_Intake_begin.2.1 19 = .ok (.putfield 31, 3) := by decide +kernel
theorem dc_Intake_begin_22 : decode M_Intake_begin.2.1 22 = .ok (.aload_n 0, 1) := by decide +kernel
theorem dc_Intake_begin_23 : decode M_Intake_begin.2.1 23 = .ok (.iconst 0, 1) := by decide +kernel
theorem dc_Intake_begin_24 : decode M_Intake_begin.2.1 24 = .ok (.putfield 34, 3) := by decide +kernel
theorem dc_Intake_begin_27 : decode M_Intake_begin.2.1 27 = .ok (.return_, 1) := by decide +kernel
set_option maxRecDepth 20000 in
theorem e_Intake_begin_0 {d : Nat} {σ : PH} {K : PO → PH → Prop} (x0 : Nat) (h : sh σ x0 = (1, 2) ∧ (∃ b1 : Nat, gR σ 128 x0 = some b1 ∧ sh σ b1 = (1, 3) ∧ PW d M_Text_clear 0 [.ref b1] [] σ (kV (fun σ1 => sh σ1 x0 = (1, 2) ∧ (∀ σ2 : PH, σ2 = pI σ1 129 x0 0 → sh σ2 x0 = (1, 2) ∧ (∀ σ3 : PH, σ3 = pI σ2 130 x0 0 → sh σ3 x0 = (1, 2) ∧ (∀ σ4 : PH, σ4 = pI σ3 131 x0 0 → sh σ4 x0 = (1, 2) ∧ (∀ σ5 : PH, σ5 = pI σ4 132 x0 0 → K (.inl none) σ5))))) K))) : PW (d + 1) M_Intake_begin 0 [.ref x0] [] σ K := by
  refine pw_aload_n dc_Intake_begin_0 rfl rfl ?_
  obtain ⟨hs1, h⟩ := h
  refine pw_getR (c := 2) (k := 0) (f := 128) dc_Intake_begin_1 fl_Intake_14 rfl rfl hs1 ?_
  obtain ⟨b1, hb1, h⟩ := h
  refine PW.top (v' := .ref b1) (congrArg va_rf hb1) ?_
  obtain ⟨hs2, h⟩ := h
  refine pw_callV (vs := []) (st := []) (b := b1) (cn := 3) dc_Intake_begin_4 cq_Text_clear (List.mem_of_getElem? (i := 374) (by decide +kernel)) (List.mem_of_getElem? (i := 375) (by decide +kernel)) (List.mem_of_getElem? (i := 373) (by decide +kernel)) rfl hs2 rfl rfl (by decide) (cat_nil) (Nat.le_of_ble_eq_true rfl) (PW.mono (kV_kN (fun σ1 h => ?_)) h)
  refine pw_aload_n dc_Intake_begin_7 rfl rfl ?_
  refine pw_iconst (v := 0) dc_Intake_begin_8 (by decide) ?_
  obtain ⟨hs3, h⟩ := h
  have h := h _ rfl
  refine pw_putZ (c := 2) (k := 1) (f := 129) dc_Intake_begin_9 fl_Intake_23 (Or.inl rfl) rfl rfl hs3 (Or.inl rfl) ?_
  refine pw_aload_n dc_Intake_begin_12 rfl rfl ?_
  refine pw_iconst (v := 0) dc_Intake_begin_13 (by decide) ?_
  obtain ⟨hs4, h⟩ := h
  have h := h _ rfl
  refine pw_putI (c := 2) (k := 2) (f := 130) dc_Intake_begin_14 fl_Intake_27 (Or.inl rfl) rfl rfl hs4 ?_
  refine pw_aload_n dc_Intake_begin_17 rfl rfl ?_
  refine pw_iconst (v := 0) dc_Intake_begin_18 (by decide) ?_
  obtain ⟨hs5, h⟩ := h
  have h := h _ rfl
  refine pw_putI (c := 2) (k := 3) (f := 131) dc_Intake_begin_19 fl_Intake_31 (Or.inl rfl) rfl rfl hs5 ?_
  refine pw_aload_n dc_Intake_begin_22 rfl rfl ?_
  refine pw_iconst (v := 0) dc_Intake_begin_23 (by decide) ?_
  obtain ⟨hs6, h⟩ := h
  have h := h _ rfl
  refine pw_putI (c := 2) (k := 4) (f := 132) dc_Intake_begin_24 fl_Intake_34 (Or.inl rfl) rfl rfl hs6 ?_
  exact pw_vret dc_Intake_begin_27 rfl h
theorem dc_Intake_takesEnd_0 : decode M_Intake_takesEnd.2.1 0 = .ok (.iload_n 1, 1) := by decide +kernel
theorem dc_Intake_takesEnd_1 : decode M_Intake_takesEnd.2.1 1 = .ok (.bipush 28, 2) := by decide +kernel
theorem dc_Intake_takesEnd_3 : decode M_Intake_takesEnd.2.1 3 = .ok (.if_icmp .eq 9, 3) := by decide +kernel
theorem dc_Intake_takesEnd_6 : decode M_Intake_takesEnd.2.1 6 = .ok (.iload_n 1, 1) := by decide +kernel
theorem dc_Intake_takesEnd_7 : decode M_Intake_takesEnd.2.1 7 = .ok (.bipush 29, 2) := by decide +kernel
theorem dc_Intake_takesEnd_9 : decode M_Intake_takesEnd.2.1 9 = .ok (.if_icmp .ne 20, 3) := by decide +kernel
theorem dc_Intake_takesEnd_12 : decode M_Intake_takesEnd.2.1 12 = .ok (.aload_n 0, 1) := by decide +kernel
theorem dc_Intake_takesEnd_13 : decode M_Intake_takesEnd.2.1 13 = .ok (.iload_n 1, 1) := by decide +kernel
theorem dc_Intake_takesEnd_14 : decode M_Intake_takesEnd.2.1 14 = .ok (.bipush 29, 2) := by decide +kernel
theorem dc_Intake_takesEnd_16 : decode M_Intake_takesEnd.2.1 16 = .ok (.if_icmp .ne 7, 3) := by decide +kernel
theorem dc_Intake_takesEnd_19 : decode M_Intake_takesEnd.2.1 19 = .ok (.iconst 1, 1) := by decide +kernel
theorem dc_Intake_takesEnd_20 : decode M_Intake_takesEnd.2.1 20 = .ok (.goto 4, 3) := by decide +kernel
theorem dc_Intake_takesEnd_23 : decode M_Intake_takesEnd.2.1 23 = .ok (.iconst 0, 1) := by decide +kernel
theorem dc_Intake_takesEnd_24 : decode M_Intake_takesEnd.2.1 24 = .ok (.putfield 23, 3) := by decide +kernel
theorem dc_Intake_takesEnd_27 : decode M_Intake_takesEnd.2.1 27 = .ok (.iconst 0, 1) := by decide +kernel
theorem dc_Intake_takesEnd_28 : decode M_Intake_takesEnd.2.1 28 = .ok (.ireturn, 1) := by decide +kernel
theorem dc_Intake_takesEnd_29 : decode M_Intake_takesEnd.2.1 29 = .ok (.iload_n 1, 1) := by decide +kernel
theorem dc_Intake_takesEnd_30 : decode M_Intake_takesEnd.2.1 30 = .ok (.aload_n 0, 1) := by decide +kernel
theorem dc_Intake_takesEnd_31 : decode M_Intake_takesEnd.2.1 31 = .ok (.getfield 23, 3) := by decide +kernel
theorem dc_Intake_takesEnd_34 : decode M_Intake_takesEnd.2.1 34 = .ok (.invokestatic 37, 3) := by decide +kernel
theorem dc_Intake_takesEnd_37 : decode M_Intake_takesEnd.2.1 37 = .ok (.istore_n 2, 1) := by decide +kernel
theorem dc_Intake_takesEnd_38 : decode M_Intake_takesEnd.2.1 38 = .ok (.iload_n 2, 1) := by decide +kernel
theorem dc_Intake_takesEnd_39 : decode M_Intake_takesEnd.2.1 39 = .ok (.bipush 10, 2) := by decide +kernel
theorem dc_Intake_takesEnd_41 : decode M_Intake_takesEnd.2.1 41 = .ok (.if_icmp .ne 13, 3) := by decide +kernel
theorem dc_Intake_takesEnd_44 : decode M_Intake_takesEnd.2.1 44 = .ok (.aload_n 0, 1) := by decide +kernel
theorem dc_Intake_takesEnd_45 : decode M_Intake_takesEnd.2.1 45 = .ok (.getfield 34, 3) := by decide +kernel
theorem dc_Intake_takesEnd_48 : decode M_Intake_takesEnd.2.1 48 = .ok (.iconst 4, 1) := by decide +kernel
theorem dc_Intake_takesEnd_49 : decode M_Intake_takesEnd.2.1 49 = .ok (.if_icmp .ne 5, 3) := by decide +kernel
theorem dc_Intake_takesEnd_52 : decode M_Intake_takesEnd.2.1 52 = .ok (.iconst 1, 1) := by decide +kernel
theorem dc_Intake_takesEnd_53 : decode M_Intake_takesEnd.2.1 53 = .ok (.ireturn, 1) := by decide +kernel
theorem dc_Intake_takesEnd_54 : decode M_Intake_takesEnd.2.1 54 = .ok (.iload_n 2, 1) := by decide +kernel
theorem dc_Intake_takesEnd_55 : decode M_Intake_takesEnd.2.1 55 = .ok (.ifCond .eq 8, 3) := by decide +kernel
theorem dc_Intake_takesEnd_58 : decode M_Intake_takesEnd.2.1 58 = .ok (.aload_n 0, 1) := by decide +kernel
theorem dc_Intake_takesEnd_59 : decode M_Intake_takesEnd.2.1 59 = .ok (.iload_n 2, 1) := by decide +kernel
theorem dc_Intake_takesEnd_60 : decode M_Intake_takesEnd.2.1 60 = .ok (.invokevirtual 43, 3) := by decide +kernel
theorem dc_Intake_takesEnd_63 : decode M_Intake_takesEnd.2.1 63 = .ok (.iconst 0, 1) := by decide +kernel
theorem dc_Intake_takesEnd_64 : decode M_Intake_takesEnd.2.1 64 = .ok (.ireturn, 1) := by decide +kernel
set_option maxRecDepth 20000 in
theorem e_Intake_takesEnd_0 {d : Nat} {σ : PH} {K : PO → PH → Prop} (x0 : Nat) (x1 : Int32) (h : (if x1 = 28 then PW (d + 1) M_Intake_takesEnd 12 [.ref x0, .int x1, uu] [] σ K else (if x1 = 29 then PW (d + 1) M_Intake_takesEnd 12 [.ref x0, .int x1, uu] [] σ K else sh σ x0 = (1, 2) ∧ PW d M_Signs_characterOf 0 [.int x1, .int (gI σ 129 x0)] [] σ (kI (fun r1 σ1 => (if r1 = 10 then sh σ1 x0 = (1, 2) ∧ (if (gI σ1 132 x0) = 4 then K (.inl (some (.int 1))) σ1 else PW (d + 1) M_Intake_takesEnd 54 [.ref x0, uu, .int r1] [] σ1 K) else PW (d + 1) M_Intake_takesEnd 54 [.ref x0, uu, .int r1] [] σ1 K)) K)))) : PW (d + 1) M_Intake_takesEnd 0 [.ref x0, .int x1, uu] [] σ K := by
  refine pw_iload_n dc_Intake_takesEnd_0 rfl ?_
  refine pw_bipush (v := 28) dc_Intake_takesEnd_1 (by decide) ?_
  refine pw_icmp_eq (tgt := 12) dc_Intake_takesEnd_3 (by decide) (fun hc => ?_) (fun hc => ?_)
  · have h := ite_t h hc
    exact h
  · have h := ite_f h hc
    refine pw_iload_n dc_Intake_takesEnd_6 rfl ?_
    refine pw_bipush (v := 29) dc_Intake_takesEnd_7 (by decide) ?_
    refine pw_icmp_ne (tgt := 29) dc_Intake_takesEnd_9 (by decide) (fun hc => ?_) (fun hc => ?_)
    · have h := ite_f h hc
      refine pw_iload_n dc_Intake_takesEnd_29 rfl ?_
      refine pw_aload_n dc_Intake_takesEnd_30 rfl rfl ?_
      obtain ⟨hs1, h⟩ := h
      refine pw_getI (c := 2) (k := 1) (f := 129) dc_Intake_takesEnd_31 fl_Intake_23 rfl rfl hs1 ?_
      refine pw_callS (vs := [.int x1, .int (gI σ 129 x0)]) (st := []) dc_Intake_takesEnd_34 cq_Signs_characterOf (List.mem_of_getElem? (i := 471) (by decide +kernel)) (List.mem_of_getElem? (i := 470) (by decide +kernel)) rfl rfl (cat_cons rfl (cat_cons rfl (cat_nil))) (Nat.le_of_ble_eq_true rfl) (PW.mono (kI_kN (fun r1 σ1 h => ?_)) h)
      refine pw_istore_n dc_Intake_takesEnd_37 (by decide) ?_
      refine pw_iload_n dc_Intake_takesEnd_38 rfl ?_
      refine pw_bipush (v := 10) dc_Intake_takesEnd_39 (by decide) ?_
      refine pw_icmp_ne (tgt := 54) dc_Intake_takesEnd_41 (by decide) (fun hc => ?_) (fun hc => ?_)
      · have h := ite_f h hc
        refine PW.drop (ls' := [.ref x0, uu, .int r1]) ⟨Or.inl rfl, Or.inr rfl, Or.inl rfl, trivial⟩ ?_
        exact h
      · have h := ite_t h hc
        refine pw_aload_n dc_Intake_takesEnd_44 rfl rfl ?_
        obtain ⟨hs2, h⟩ := h
        refine pw_getI (c := 2) (k := 4) (f := 132) dc_Intake_takesEnd_45 fl_Intake_34 rfl rfl hs2 ?_
        refine pw_iconst (v := 4) dc_Intake_takesEnd_48 (by decide) ?_
        refine pw_icmp_ne (tgt := 54) dc_Intake_takesEnd_49 (by decide) (fun hc => ?_) (fun hc => ?_)
        · have h := ite_f h hc
          refine PW.drop (ls' := [.ref x0, uu, .int r1]) ⟨Or.inl rfl, Or.inr rfl, Or.inl rfl, trivial⟩ ?_
          exact h
        · have h := ite_t h hc
          refine pw_iconst (v := 1) dc_Intake_takesEnd_52 (by decide) ?_
          exact pw_iret dc_Intake_takesEnd_53 rfl (bo_nar (Or.inr rfl)) h
    · have h := ite_t h hc
      exact h
set_option maxRecDepth 20000 in
theorem e_Intake_takesEnd_12 {d : Nat} {σ : PH} {K : PO → PH → Prop} (x0 : Nat) (x1 : Int32) (h : (if x1 = 29 then sh σ x0 = (1, 2) ∧ (∀ σ2 : PH, σ2 = pI σ 129 x0 1 → K (.inl (some (.int 0))) σ2) else sh σ x0 = (1, 2) ∧ (∀ σ1 : PH, σ1 = pI σ 129 x0 0 → K (.inl (some (.int 0))) σ1))) : PW (d + 1) M_Intake_takesEnd 12 [.ref x0, .int x1, uu] [] σ K := by
  refine pw_aload_n dc_Intake_takesEnd_12 rfl rfl ?_
  refine pw_iload_n dc_Intake_takesEnd_13 rfl ?_
  refine pw_bipush (v := 29) dc_Intake_takesEnd_14 (by decide) ?_
  refine pw_icmp_ne (tgt := 23) dc_Intake_takesEnd_16 (by decide) (fun hc => ?_) (fun hc => ?_)
  · have h := ite_f h hc
    refine pw_iconst (v := 0) dc_Intake_takesEnd_23 (by decide) ?_
    obtain ⟨hs1, h⟩ := h
    have h := h _ rfl
    refine pw_putZ (c := 2) (k := 1) (f := 129) dc_Intake_takesEnd_24 fl_Intake_23 (Or.inl rfl) rfl rfl hs1 (Or.inl rfl) ?_
    refine pw_iconst (v := 0) dc_Intake_takesEnd_27 (by decide) ?_
    exact pw_iret dc_Intake_takesEnd_28 rfl (bo_nar (Or.inl rfl)) h
  · have h := ite_t h hc
    refine pw_iconst (v := 1) dc_Intake_takesEnd_19 (by decide) ?_
    refine pw_goto (tgt := 24) dc_Intake_takesEnd_20 (by decide) ?_
    obtain ⟨hs2, h⟩ := h
    have h := h _ rfl
    refine pw_putZ (c := 2) (k := 1) (f := 129) dc_Intake_takesEnd_24 fl_Intake_23 (Or.inl rfl) rfl rfl hs2 (Or.inr rfl) ?_
    refine pw_iconst (v := 0) dc_Intake_takesEnd_27 (by decide) ?_
    exact pw_iret dc_Intake_takesEnd_28 rfl (bo_nar (Or.inl rfl)) h
set_option maxRecDepth 20000 in
theorem e_Intake_takesEnd_54 {d : Nat} {σ : PH} {K : PO → PH → Prop} (x0 : Nat) (x2 : Int32) (h : (if x2 = 0 then K (.inl (some (.int 0))) σ else sh σ x0 = (1, 2) ∧ PW d M_Intake_gather 0 [.ref x0, .int x2] [] σ (kV (fun σ1 => K (.inl (some (.int 0))) σ1) K))) : PW (d + 1) M_Intake_takesEnd 54 [.ref x0, uu, .int x2] [] σ K := by
  refine pw_iload_n dc_Intake_takesEnd_54 rfl ?_
  refine pw_if_eq (tgt := 63) dc_Intake_takesEnd_55 (by decide) (fun hc => ?_) (fun hc => ?_)
  · have h := ite_t h hc
    refine pw_iconst (v := 0) dc_Intake_takesEnd_63 (by decide) ?_
    exact pw_iret dc_Intake_takesEnd_64 rfl (bo_nar (Or.inl rfl)) h
  · have h := ite_f h hc
    refine pw_aload_n dc_Intake_takesEnd_58 rfl rfl ?_
    refine pw_iload_n dc_Intake_takesEnd_59 rfl ?_
    obtain ⟨hs1, h⟩ := h
    refine pw_callV (vs := [.int x2]) (st := []) (b := x0) (cn := 2) dc_Intake_takesEnd_60 cq_Intake_gather (List.mem_of_getElem? (i := 524) (by decide +kernel)) (List.mem_of_getElem? (i := 2) (by decide +kernel)) (List.mem_of_getElem? (i := 522) (by decide +kernel)) rfl hs1 rfl rfl (by decide) (cat_cons rfl (cat_nil)) (Nat.le_of_ble_eq_true rfl) (PW.mono (kV_kN (fun σ1 h => ?_)) h)
    refine pw_iconst (v := 0) dc_Intake_takesEnd_63 (by decide) ?_
    exact pw_iret dc_Intake_takesEnd_64 rfl (bo_nar (Or.inl rfl)) h
theorem dc_Intake_gather_0 : decode M_Intake_gather.2.1 0 = .ok (.aload_n 0, 1) := by decide +kernel
theorem dc_Intake_gather_1 : decode M_Intake_gather.2.1 1 = .ok (.getfield 14, 3) := by decide +kernel
theorem dc_Intake_gather_4 : decode M_Intake_gather.2.1 4 = .ok (.iload_n 1, 1) := by decide +kernel
theorem dc_Intake_gather_5 : decode M_Intake_gather.2.1 5 = .ok (.invokevirtual 47, 3) := by decide +kernel
theorem dc_Intake_gather_8 : decode M_Intake_gather.2.1 8 = .ok (.aload_n 0, 1) := by decide +kernel
theorem dc_Intake_gather_9 : decode M_Intake_gather.2.1 9 = .ok (.aload_n 0, 1) := by decide +kernel
theorem dc_Intake_gather_10 : decode M_Intake_gather.2.1 10 = .ok (.getfield 27, 3) := by decide +kernel
theorem dc_Intake_gather_13 : decode M_Intake_gather.2.1 13 = .ok (.iconst 1, 1) := by decide +kernel
theorem dc_Intake_gather_14 : decode M_Intake_gather.2.1 14 = .ok (.iadd, 1) := by decide +kernel
theorem dc_Intake_gather_15 : decode M_Intake_gather.2.1 15 = .ok (.bipush 61, 2) := by decide +kernel
theorem dc_Intake_gather_17 : decode M_Intake_gather.2.1 17 = .ok (.invokestatic 50, 3) := by decide +kernel
theorem dc_Intake_gather_20 : decode M_Intake_gather.2.1 20 = .ok (.putfield 27, 3) := by decide +kernel
theorem dc_Intake_gather_23 : decode M_Intake_gather.2.1 23 = .ok (.iload_n 1, 1) := by decide +kernel
theorem dc_Intake_gather_24 : decode M_Intake_gather.2.1 24 = .ok (.bipush 10, 2) := by decide +kernel
theorem dc_Intake_gather_26 : decode M_Intake_gather.2.1 26 = .ok (.if_icmp .ne 19, 3) := by decide +kernel
theorem dc_Intake_gather_29 : decode M_Intake_gather.2.1 29 = .ok (.aload_n 0, 1) := by decide +kernel
theorem dc_Intake_gather_30 : decode M_Intake_gather.2.1 30 = .ok (.aload_n 0, 1) := by decide +kernel
theorem dc_Intake_gather_31 : decode M_Intake_gather.2.1 31 = .ok (.getfield 27, 3) := by decide +kernel
theorem dc_Intake_gather_34 : decode M_Intake_gather.2.1 34 = .ok (.putfield 31, 3) := by decide +kernel
theorem dc_Intake_gather_37 : decode M_Intake_gather.2.1 37 = .ok (.aload_n 0, 1) := by decide +kernel
theorem dc_Intake_gather_38 : decode M_Intake_gather.2.1 38 = .ok (.iconst 0, 1) := by decide +kernel
theorem dc_Intake_gather_39 : decode M_Intake_gather.2.1 39 = .ok (.putfield 34, 3) := by decide +kernel
theorem dc_Intake_gather_42 : decode M_Intake_gather.2.1 42 = .ok (.goto 31, 3) := by decide +kernel
theorem dc_Intake_gather_45 : decode M_Intake_gather.2.1 45 = .ok (.aload_n 0, 1) := by decide +kernel
theorem dc_Intake_gather_46 : decode M_Intake_gather.2.1 46 = .ok (.iload_n 1, 1) := by decide +kernel
theorem dc_Intake_gather_47 : decode M_Intake_gather.2.1 47 = .ok (.bipush 78, 2) := by decide +kernel
theorem dc_Intake_gather_49 : decode M_Intake_gather.2.1 49 = .ok (.if_icmp .ne 20, 3) := by decide +kernel
theorem dc_Intake_gather_52 : decode M_Intake_gather.2.1 52 = .ok (.aload_n 0, 1) := by decide +kernel
theorem dc_Intake_gather_53 : decode M_Intake_gather.2.1 53 = .ok (.getfield 34, 3) := by decide +kernel
theorem dc_Intake_gather_56 : decode M_Intake_gather.2.1 56 = .ok (.iconst 4, 1) := by decide +kernel
theorem dc_Intake_gather_57 : decode M_Intake_gather.2.1 57 = .ok (.if_icmp .ge 12, 3) := by decide +kernel
theorem dc_Intake_gather_60 : decode M_Intake_gather.2.1 60 = .ok (.aload_n 0, 1) := by decide +kernel
theorem dc_Intake_gather_61 : decode M_Intake_gather.2.1 61 = .ok (.getfield 34, 3) := by decide +kernel
theorem dc_Intake_gather_64 : decode M_Intake_gather.2.1 64 = .ok (.iconst 1, 1) := by decide +kernel
theorem dc_Intake_gather_65 : decode M_Intake_gather.2.1 65 = .ok (.iadd, 1) := by decide +kernel
theorem dc_Intake_gather_66 : decode M_Intake_gather.2.1 66 = .ok (.goto 4, 3) := by decide +kernel
theorem dc_Intake_gather_69 : decode M_Intake_gather.2.1 69 = .ok (.iconst 5, 1) := by decide +kernel
theorem dc_Intake_gather_70 : decode M_Intake_gather.2.1 70 = .ok (.putfield 34, 3) := by decide +kernel
theorem dc_Intake_gather_73 : decode M_Intake_gather.2.1 73 = .ok (.return_, 1) := by decide +kernel
set_option maxRecDepth 20000 in
theorem e_Intake_gather_0 {d : Nat} {σ : PH} {K : PO → PH → Prop} (x0 : Nat) (x1 : Int32) (h : sh σ x0 = (1, 2) ∧ (∃ b1 : Nat, gR σ 128 x0 = some b1 ∧ sh σ b1 = (1, 3) ∧ PW d M_Text_add 0 [.ref b1, .int x1] [] σ (kV (fun σ1 => sh σ1 x0 = (1, 2) ∧ (∀ σ2 : PH, σ2 = pI σ1 130 x0 (if 61 < ((gI σ1 130 x0) + 1) then 61 else (gI σ1 130 x0) + 1) → (if x1 = 10 then sh σ2 x0 = (1, 2) ∧ (∀ σ6 : PH, σ6 = pI σ2 131 x0 (gI σ2 130 x0) → sh σ6 x0 = (1, 2) ∧ (∀ σ7 : PH, σ7 = pI σ6 132 x0 0 → K (.inl none) σ7)) else (if x1 = 78 then sh σ2 x0 = (1, 2) ∧ (if 4 ≤ (gI σ2 132 x0) then (∀ σ4 : PH, σ4 = pI σ2 132 x0 5 → K (.inl none) σ4) else (∀ σ5 : PH, σ5 = pI σ2 132 x0 ((gI σ2 132 x0) + 1) → K (.inl none) σ5)) else sh σ2 x0 = (1, 2) ∧ (∀ σ3 : PH, σ3 = pI σ2 132 x0 5 → K (.inl none) σ3))))) K))) : PW (d + 1) M_Intake_gather 0 [.ref x0, .int x1] [] σ K := by
  refine pw_aload_n dc_Intake_gather_0 rfl rfl ?_
  obtain ⟨hs1, h⟩ := h
  refine pw_getR (c := 2) (k := 0) (f := 128) dc_Intake_gather_1 fl_Intake_14 rfl rfl hs1 ?_
  obtain ⟨b1, hb1, h⟩ := h
  refine PW.top (v' := .ref b1) (congrArg va_rf hb1) ?_
  refine pw_iload_n dc_Intake_gather_4 rfl ?_
  obtain ⟨hs2, h⟩ := h
  refine pw_callV (vs := [.int x1]) (st := []) (b := b1) (cn := 3) dc_Intake_gather_5 cq_Text_add (List.mem_of_getElem? (i := 527) (by decide +kernel)) (List.mem_of_getElem? (i := 528) (by decide +kernel)) (List.mem_of_getElem? (i := 526) (by decide +kernel)) rfl hs2 rfl rfl (by decide) (cat_cons rfl (cat_nil)) (Nat.le_of_ble_eq_true rfl) (PW.mono (kV_kN (fun σ1 h => ?_)) h)
  refine pw_aload_n dc_Intake_gather_8 rfl rfl ?_
  refine pw_aload_n dc_Intake_gather_9 rfl rfl ?_
  obtain ⟨hs3, h⟩ := h
  refine pw_getI (c := 2) (k := 2) (f := 130) dc_Intake_gather_10 fl_Intake_27 rfl rfl hs3 ?_
  refine pw_iconst (v := 1) dc_Intake_gather_13 (by decide) ?_
  refine pw_iadd dc_Intake_gather_14 ?_
  refine pw_bipush (v := 61) dc_Intake_gather_15 (by decide) ?_
  refine pw_mmin dc_Intake_gather_17 (List.mem_of_getElem? (i := 530) (by decide +kernel)) (Nat.le_of_ble_eq_true rfl) ?_
  have h := h _ rfl
  refine pw_putI (c := 2) (k := 2) (f := 130) dc_Intake_gather_20 fl_Intake_27 (Or.inl rfl) rfl rfl hs3 ?_
  refine pw_iload_n dc_Intake_gather_23 rfl ?_
  refine pw_bipush (v := 10) dc_Intake_gather_24 (by decide) ?_
  refine pw_icmp_ne (tgt := 45) dc_Intake_gather_26 (by decide) (fun hc => ?_) (fun hc => ?_)
  · have h := ite_f h hc
    refine pw_aload_n dc_Intake_gather_45 rfl rfl ?_
    refine pw_iload_n dc_Intake_gather_46 rfl ?_
    refine pw_bipush (v := 78) dc_Intake_gather_47 (by decide) ?_
    refine pw_icmp_ne (tgt := 69) dc_Intake_gather_49 (by decide) (fun hc => ?_) (fun hc => ?_)
    · have h := ite_f h hc
      refine pw_iconst (v := 5) dc_Intake_gather_69 (by decide) ?_
      obtain ⟨hs4, h⟩ := h
      have h := h _ rfl
      refine pw_putI (c := 2) (k := 4) (f := 132) dc_Intake_gather_70 fl_Intake_34 (Or.inl rfl) rfl rfl hs4 ?_
      exact pw_vret dc_Intake_gather_73 rfl h
    · have h := ite_t h hc
      refine pw_aload_n dc_Intake_gather_52 rfl rfl ?_
      obtain ⟨hs5, h⟩ := h
      refine pw_getI (c := 2) (k := 4) (f := 132) dc_Intake_gather_53 fl_Intake_34 rfl rfl hs5 ?_
      refine pw_iconst (v := 4) dc_Intake_gather_56 (by decide) ?_
      refine pw_icmp_ge (tgt := 69) dc_Intake_gather_57 (by decide) (fun hc => ?_) (fun hc => ?_)
      · have h := ite_t h hc
        refine pw_iconst (v := 5) dc_Intake_gather_69 (by decide) ?_
        have h := h _ rfl
        refine pw_putI (c := 2) (k := 4) (f := 132) dc_Intake_gather_70 fl_Intake_34 (Or.inl rfl) rfl rfl hs5 ?_
        exact pw_vret dc_Intake_gather_73 rfl h
      · have h := ite_f h hc
        refine pw_aload_n dc_Intake_gather_60 rfl rfl ?_
        refine pw_getI (c := 2) (k := 4) (f := 132) dc_Intake_gather_61 fl_Intake_34 rfl rfl hs5 ?_
        refine pw_iconst (v := 1) dc_Intake_gather_64 (by decide) ?_
        refine pw_iadd dc_Intake_gather_65 ?_
        refine pw_goto (tgt := 70) dc_Intake_gather_66 (by decide) ?_
        have h := h _ rfl
        refine pw_putI (c := 2) (k := 4) (f := 132) dc_Intake_gather_70 fl_Intake_34 (Or.inl rfl) rfl rfl hs5 ?_
        exact pw_vret dc_Intake_gather_73 rfl h
  · have h := ite_t h hc
    refine pw_aload_n dc_Intake_gather_29 rfl rfl ?_
    refine pw_aload_n dc_Intake_gather_30 rfl rfl ?_
    obtain ⟨hs6, h⟩ := h
    refine pw_getI (c := 2) (k := 2) (f := 130) dc_Intake_gather_31 fl_Intake_27 rfl rfl hs6 ?_
    have h := h _ rfl
    refine pw_putI (c := 2) (k := 3) (f := 131) dc_Intake_gather_34 fl_Intake_31 (Or.inl rfl) rfl rfl hs6 ?_
    refine pw_aload_n dc_Intake_gather_37 rfl rfl ?_
    refine pw_iconst (v := 0) dc_Intake_gather_38 (by decide) ?_
    obtain ⟨hs7, h⟩ := h
    have h := h _ rfl
    refine pw_putI (c := 2) (k := 4) (f := 132) dc_Intake_gather_39 fl_Intake_34 (Or.inl rfl) rfl rfl hs7 ?_
    refine pw_goto (tgt := 73) dc_Intake_gather_42 (by decide) ?_
    exact pw_vret dc_Intake_gather_73 rfl h
theorem dc_Intake_textBeforeEnd_0 : decode M_Intake_textBeforeEnd.2.1 0 = .ok (.aload_n 0, 1) := by decide +kernel
theorem dc_Intake_textBeforeEnd_1 : decode M_Intake_textBeforeEnd.2.1 1 = .ok (.getfield 14, 3) := by decide +kernel
theorem dc_Intake_textBeforeEnd_4 : decode M_Intake_textBeforeEnd.2.1 4 = .ok (.aload_n 0, 1) := by decide +kernel
theorem dc_Intake_textBeforeEnd_5 : decode M_Intake_textBeforeEnd.2.1 5 = .ok (.getfield 31, 3) := by decide +kernel
theorem dc_Intake_textBeforeEnd_8 : decode M_Intake_textBeforeEnd.2.1 8 = .ok (.invokevirtual 56, 3) := by decide +kernel
theorem dc_Intake_textBeforeEnd_11 : decode M_Intake_textBeforeEnd.2.1 11 = .ok (.aload_n 0, 1) := by decide +kernel
theorem dc_Intake_textBeforeEnd_12 : decode M_Intake_textBeforeEnd.2.1 12 = .ok (.getfield 14, 3) := by decide +kernel
theorem dc_Intake_textBeforeEnd_15 : decode M_Intake_textBeforeEnd.2.1 15 = .ok (.areturn, 1) := by decide +kernel
set_option maxRecDepth 20000 in
theorem e_Intake_textBeforeEnd_0 {d : Nat} {σ : PH} {K : PO → PH → Prop} (x0 : Nat) (h : sh σ x0 = (1, 2) ∧ (∃ b1 : Nat, gR σ 128 x0 = some b1 ∧ sh σ b1 = (1, 3) ∧ PW d M_Text_shortenTo 0 [.ref b1, .int (gI σ 131 x0)] [] σ (kV (fun σ1 => sh σ1 x0 = (1, 2) ∧ K (.inl (some (va_rf (gR σ1 128 x0)))) σ1) K))) : PW (d + 1) M_Intake_textBeforeEnd 0 [.ref x0] [] σ K := by
  refine pw_aload_n dc_Intake_textBeforeEnd_0 rfl rfl ?_
  obtain ⟨hs1, h⟩ := h
  refine pw_getR (c := 2) (k := 0) (f := 128) dc_Intake_textBeforeEnd_1 fl_Intake_14 rfl rfl hs1 ?_
  obtain ⟨b1, hb1, h⟩ := h
  refine PW.top (v' := .ref b1) (congrArg va_rf hb1) ?_
  refine pw_aload_n dc_Intake_textBeforeEnd_4 rfl rfl ?_
  refine pw_getI (c := 2) (k := 3) (f := 131) dc_Intake_textBeforeEnd_5 fl_Intake_31 rfl rfl hs1 ?_
  obtain ⟨hs2, h⟩ := h
  refine pw_callV (vs := [.int (gI σ 131 x0)]) (st := []) (b := b1) (cn := 3) dc_Intake_textBeforeEnd_8 cq_Text_shortenTo (List.mem_of_getElem? (i := 542) (by decide +kernel)) (List.mem_of_getElem? (i := 543) (by decide +kernel)) (List.mem_of_getElem? (i := 541) (by decide +kernel)) rfl hs2 rfl rfl (by decide) (cat_cons rfl (cat_nil)) (Nat.le_of_ble_eq_true rfl) (PW.mono (kV_kN (fun σ1 h => ?_)) h)
  refine pw_aload_n dc_Intake_textBeforeEnd_11 rfl rfl ?_
  obtain ⟨hs3, h⟩ := h
  refine pw_getR (c := 2) (k := 0) (f := 128) dc_Intake_textBeforeEnd_12 fl_Intake_14 rfl rfl hs3 ?_
  exact pw_aret (v := gR σ1 128 x0) dc_Intake_textBeforeEnd_15 rfl h
theorem dc_Intake_isLong_0 : decode M_Intake_isLong.2.1 0 = .ok (.aload_n 0, 1) := by decide +kernel
theorem dc_Intake_isLong_1 : decode M_Intake_isLong.2.1 1 = .ok (.getfield 31, 3) := by decide +kernel
theorem dc_Intake_isLong_4 : decode M_Intake_isLong.2.1 4 = .ok (.bipush 60, 2) := by decide +kernel
theorem dc_Intake_isLong_6 : decode M_Intake_isLong.2.1 6 = .ok (.if_icmp .le 7, 3) := by decide +kernel
theorem dc_Intake_isLong_9 : decode M_Intake_isLong.2.1 9 = .ok (.iconst 1, 1) := by decide +kernel
theorem dc_Intake_isLong_10 : decode M_Intake_isLong.2.1 10 = .ok (.goto 4, 3) := by decide +kernel
theorem dc_Intake_isLong_13 : decode M_Intake_isLong.2.1 13 = .ok (.iconst 0, 1) := by decide +kernel
theorem dc_Intake_isLong_14 : decode M_Intake_isLong.2.1 14 = .ok (.ireturn, 1) := by decide +kernel
set_option maxRecDepth 20000 in
theorem e_Intake_isLong_0 {d : Nat} {σ : PH} {K : PO → PH → Prop} (x0 : Nat) (h : sh σ x0 = (1, 2) ∧ (if (gI σ 131 x0) ≤ 60 then K (.inl (some (.int 0))) σ else K (.inl (some (.int 1))) σ)) : PW d M_Intake_isLong 0 [.ref x0] [] σ K := by
  refine pw_aload_n dc_Intake_isLong_0 rfl rfl ?_
  obtain ⟨hs1, h⟩ := h
  refine pw_getI (c := 2) (k := 3) (f := 131) dc_Intake_isLong_1 fl_Intake_31 rfl rfl hs1 ?_
  refine pw_bipush (v := 60) dc_Intake_isLong_4 (by decide) ?_
  refine pw_icmp_le (tgt := 13) dc_Intake_isLong_6 (by decide) (fun hc => ?_) (fun hc => ?_)
  · have h := ite_t h hc
    refine pw_iconst (v := 0) dc_Intake_isLong_13 (by decide) ?_
    exact pw_iret dc_Intake_isLong_14 rfl (bo_nar (Or.inl rfl)) h
  · have h := ite_f h hc
    refine pw_iconst (v := 1) dc_Intake_isLong_9 (by decide) ?_
    refine pw_goto (tgt := 14) dc_Intake_isLong_10 (by decide) ?_
    exact pw_iret dc_Intake_isLong_14 rfl (bo_nar (Or.inr rfl)) h
theorem dc_Routes_init_0 : decode M_Routes_init.2.1 0 = .ok (.aload_n 0, 1) := by decide +kernel
theorem dc_Routes_init_1 : decode M_Routes_init.2.1 1 = .ok (.invokespecial 3, 3) := by decide +kernel
theorem dc_Routes_init_4 : decode M_Routes_init.2.1 4 = .ok (.aload_n 0, 1) := by decide +kernel
theorem dc_Routes_init_5 : decode M_Routes_init.2.1 5 = .ok (.bipush 12, 2) := by decide +kernel
theorem dc_Routes_init_7 : decode M_Routes_init.2.1 7 = .ok (.anewarray 9, 3) := by decide +kernel
theorem dc_Routes_init_10 : decode M_Routes_init.2.1 10 = .ok (.putfield 11, 3) := by decide +kernel
theorem dc_Routes_init_13 : decode M_Routes_init.2.1 13 = .ok (.iconst 0, 1) := by decide +kernel
theorem dc_Routes_init_14 : decode M_Routes_init.2.1 14 = .ok (.istore_n 1, 1) := by decide +kernel
theorem dc_Routes_init_15 : decode M_Routes_init.2.1 15 = .ok (.iload_n 1, 1) := by decide +kernel
theorem dc_Routes_init_16 : decode M_Routes_init.2.1 16 = .ok (.bipush 12, 2) := by decide +kernel
theorem dc_Routes_init_18 : decode M_Routes_init.2.1 18 = .ok (.if_icmp .ge 22, 3) := by decide +kernel
theorem dc_Routes_init_21 : decode M_Routes_init.2.1 21 = .ok (.aload_n 0, 1) := by decide +kernel
theorem dc_Routes_init_22 : decode M_Routes_init.2.1 22 = .ok (.getfield 11, 3) := by decide +kernel
theorem dc_Routes_init_25 : decode M_Routes_init.2.1 25 = .ok (.iload_n 1, 1) := by decide +kernel
theorem dc_Routes_init_26 : decode M_Routes_init.2.1 26 = .ok (.new 9, 3) := by decide +kernel
theorem dc_Routes_init_29 : decode M_Routes_init.2.1 29 = .ok (.dup, 1) := by decide +kernel
theorem dc_Routes_init_30 : decode M_Routes_init.2.1 30 = .ok (.invokespecial 17, 3) := by decide +kernel
theorem dc_Routes_init_33 : decode M_Routes_init.2.1 33 = .ok (.aastore, 1) := by decide +kernel
theorem dc_Routes_init_34 : decode M_Routes_init.2.1 34 = .ok (.iinc 1 1, 3) := by decide +kernel
theorem dc_Routes_init_37 : decode M_Routes_init.2.1 37 = .ok (.goto (-22), 3) := by decide +kernel
theorem dc_Routes_init_40 : decode M_Routes_init.2.1 40 = .ok (.return_, 1) := by decide +kernel
set_option maxRecDepth 20000 in
theorem e_Routes_init_0 {d : Nat} {σ : PH} {K : PO → PH → Prop} (x0 : Nat) (h : cc σ + 1 ≤ 601024 ∧ cs σ + 12 ≤ 7293034 ∧ (∀ σ1 : PH, σ1 = mk σ (9, 12) 12 → sh σ1 x0 = (1, 9) ∧ (∀ σ2 : PH, σ2 = pR σ1 576 x0 (some (nx σ)) → PW (d + 1) M_Routes_init 15 [.ref x0, .int 0] [] σ2 K))) : PW (d + 1) M_Routes_init 0 [.ref x0, uu] [] σ K := by
  refine pw_aload_n dc_Routes_init_0 rfl rfl ?_
  refine pw_objInit dc_Routes_init_1 (List.mem_of_getElem? (i := 104) (by decide +kernel)) (List.mem_of_getElem? (i := 91) (by decide +kernel)) (List.mem_of_getElem? (i := 92) (by decide +kernel)) (Nat.le_of_ble_eq_true rfl) ?_
  refine pw_aload_n dc_Routes_init_4 rfl rfl ?_
  refine pw_bipush (v := 12) dc_Routes_init_5 (by decide) ?_
  refine PW.top (v' := .int (nI 12)) rfl ?_
  obtain ⟨hr1, hr2, h⟩ := h
  have h := h _ rfl
  refine pw_anew (k := 9) (N := 12) dc_Routes_init_7 (by unfold rk; decide) (List.mem_of_getElem? (i := 105) (by decide +kernel)) (List.mem_of_getElem? (i := 106) (by decide +kernel)) (by decide) hr1 hr2 ?_
  obtain ⟨hs1, h⟩ := h
  have h := h _ rfl
  refine pw_putR (c := 9) (k := 0) (f := 576) (v := some (nx σ)) dc_Routes_init_10 fl_Routes_11 (Or.inr ⟨rfl, rfl, rfl, List.mem_of_getElem? (i := 132) (by decide +kernel)⟩) rfl rfl hs1 ?_
  refine pw_iconst (v := 0) dc_Routes_init_13 (by decide) ?_
  refine pw_istore_n dc_Routes_init_14 (by decide) ?_
  exact h
set_option maxRecDepth 20000 in
theorem e_Routes_init_15 {d : Nat} {σ : PH} {K : PO → PH → Prop} (x0 : Nat) (x1 : Int32) (h : (if 12 ≤ x1 then K (.inl none) σ else sh σ x0 = (1, 9) ∧ (∃ b1 : Nat, gR σ 576 x0 = some b1 ∧ cc σ + 1 ≤ 601024 ∧ cs σ + 5 ≤ 7293034 ∧ (∀ σ1 : PH, σ1 = mk σ (1, 8) 5 → PW d M_Route_init 0 [.ref (nx σ)] [] σ1 (kV (fun σ2 => (∃ n1 : Nat, sh σ2 b1 = (9, n1) ∧ vp_in x1 n1 ∧ (∀ b : Nat, some (nx σ) = some b → sh σ2 b = (1, 8)) ∧ (∀ σ3 : PH, σ3 = uR σ2 b1 (ix x1) (some (nx σ)) → PW (d + 1) M_Routes_init 15 [.ref x0, .int (x1 + 1)] [] σ3 K))) K))))) : PW (d + 1) M_Routes_init 15 [.ref x0, .int x1] [] σ K := by
  refine pw_iload_n dc_Routes_init_15 rfl ?_
  refine pw_bipush (v := 12) dc_Routes_init_16 (by decide) ?_
  refine pw_icmp_ge (tgt := 40) dc_Routes_init_18 (by decide) (fun hc => ?_) (fun hc => ?_)
  · have h := ite_t h hc
    exact pw_vret dc_Routes_init_40 rfl h
  · have h := ite_f h hc
    refine pw_aload_n dc_Routes_init_21 rfl rfl ?_
    obtain ⟨hs1, h⟩ := h
    refine pw_getR (c := 9) (k := 0) (f := 576) dc_Routes_init_22 fl_Routes_11 rfl rfl hs1 ?_
    obtain ⟨b1, hb1, h⟩ := h
    refine PW.top (v' := .ref b1) (congrArg va_rf hb1) ?_
    refine pw_iload_n dc_Routes_init_25 rfl ?_
    obtain ⟨hr1, hr2, h⟩ := h
    have h := h _ rfl
    refine pw_new (c := 8) dc_Routes_init_26 (by decide) (List.mem_of_getElem? (i := 105) (by decide +kernel)) rfl hr1 hr2 ?_
    refine pw_dup dc_Routes_init_29 rfl ?_
    refine pw_callI (vs := []) (st := [.ref (nx σ), .int x1, .ref b1]) (b := (nx σ)) dc_Routes_init_30 cq_Route_init rfl rfl (List.mem_of_getElem? (i := 110) (by decide +kernel)) (List.mem_of_getElem? (i := 109) (by decide +kernel)) (Or.inr ⟨"RelayDesk", List.mem_of_getElem? (i := 108) (by decide +kernel)⟩) rfl rfl (by decide) (cat_nil) (Nat.le_of_ble_eq_true rfl) (PW.mono (kV_kN (fun σ2 h => ?_)) h)
    obtain ⟨n1, hs2, h⟩ := h
    obtain ⟨hi1, h⟩ := h
    obtain ⟨hv1, h⟩ := h
    have h := h _ rfl
    refine pw_aast (k := 9) (v := some (nx σ)) dc_Routes_init_33 (by unfold rk; decide) hs2 hi1 hv1 ?_
    refine pw_iincv (v := 1) dc_Routes_init_34 (by decide) rfl (by decide) ?_
    refine pw_goto (tgt := 15) dc_Routes_init_37 (by decide) ?_
    exact h
theorem dc_Routes_has_0 : decode M_Routes_has.2.1 0 = .ok (.iload_n 0, 1) := by decide +kernel
theorem dc_Routes_has_1 : decode M_Routes_has.2.1 1 = .ok (.iload_n 1, 1) := by decide +kernel
theorem dc_Routes_has_2 : decode M_Routes_has.2.1 2 = .ok (.ishr, 1) := by decide +kernel
theorem dc_Routes_has_3 : decode M_Routes_has.2.1 3 = .ok (.iconst 1, 1) := by decide +kernel
theorem dc_Routes_has_4 : decode M_Routes_has.2.1 4 = .ok (.iand, 1) := by decide +kernel
theorem dc_Routes_has_5 : decode M_Routes_has.2.1 5 = .ok (.ifCond .eq 7, 3) := by decide +kernel
theorem dc_Routes_has_8 : decode M_Routes_has.2.1 8 = .ok (.iconst 1, 1) := by decide +kernel
theorem dc_Routes_has_9 : decode M_Routes_has.2.1 9 = .ok (.goto 4, 3) := by decide +kernel
theorem dc_Routes_has_12 : decode M_Routes_has.2.1 12 = .ok (.iconst 0, 1) := by decide +kernel
theorem dc_Routes_has_13 : decode M_Routes_has.2.1 13 = .ok (.ireturn, 1) := by decide +kernel
set_option maxRecDepth 20000 in
theorem e_Routes_has_0 {d : Nat} {σ : PH} {K : PO → PH → Prop} (x0 : Int32) (x1 : Int32) (h : (if ((x0 >>> (x1 &&& 31)) &&& 1) = 0 then K (.inl (some (.int 0))) σ else K (.inl (some (.int 1))) σ)) : PW d M_Routes_has 0 [.int x0, .int x1] [] σ K := by
  refine pw_iload_n dc_Routes_has_0 rfl ?_
  refine pw_iload_n dc_Routes_has_1 rfl ?_
  refine pw_ishr dc_Routes_has_2 ?_
  refine pw_iconst (v := 1) dc_Routes_has_3 (by decide) ?_
  refine pw_iand dc_Routes_has_4 ?_
  refine pw_if_eq (tgt := 12) dc_Routes_has_5 (by decide) (fun hc => ?_) (fun hc => ?_)
  · have h := ite_t h hc
    refine pw_iconst (v := 0) dc_Routes_has_12 (by decide) ?_
    exact pw_iret dc_Routes_has_13 rfl (bo_nar (Or.inl rfl)) h
  · have h := ite_f h hc
    refine pw_iconst (v := 1) dc_Routes_has_8 (by decide) ?_
    refine pw_goto (tgt := 13) dc_Routes_has_9 (by decide) ?_
    exact pw_iret dc_Routes_has_13 rfl (bo_nar (Or.inr rfl)) h
theorem dc_Routes_leadNowhere_0 : decode M_Routes_leadNowhere.2.1 0 = .ok (.iload_n 0, 1) := by decide +kernel
theorem dc_Routes_leadNowhere_1 : decode M_Routes_leadNowhere.2.1 1 = .ok (.sipush 4096, 3) := by decide +kernel
theorem dc_Routes_leadNowhere_4 : decode M_Routes_leadNowhere.2.1 4 = .ok (.iand, 1) := by decide +kernel
theorem dc_Routes_leadNowhere_5 : decode M_Routes_leadNowhere.2.1 5 = .ok (.ifCond .eq 7, 3) := by decide +kernel
theorem dc_Routes_leadNowhere_8 : decode M_Routes_leadNowhere.2.1 8 = .ok (.iconst 1, 1) := by decide +kernel
theorem dc_Routes_leadNowhere_9 : decode M_Routes_leadNowhere.2.1 9 = .ok (.goto 4, 3) := by decide +kernel
theorem dc_Routes_leadNowhere_12 : decode M_Routes_leadNowhere.2.1 12 = .ok (.iconst 0, 1) := by decide +kernel
theorem dc_Routes_leadNowhere_13 : decode M_Routes_leadNowhere.2.1 13 = .ok (.ireturn, 1) := by decide +kernel
set_option maxRecDepth 20000 in
theorem e_Routes_leadNowhere_0 {d : Nat} {σ : PH} {K : PO → PH → Prop} (x0 : Int32) (h : (if (x0 &&& 4096) = 0 then K (.inl (some (.int 0))) σ else K (.inl (some (.int 1))) σ)) : PW d M_Routes_leadNowhere 0 [.int x0] [] σ K := by
  refine pw_iload_n dc_Routes_leadNowhere_0 rfl ?_
  refine pw_sipush (v := 4096) dc_Routes_leadNowhere_1 (by decide) ?_
  refine pw_iand dc_Routes_leadNowhere_4 ?_
  refine pw_if_eq (tgt := 12) dc_Routes_leadNowhere_5 (by decide) (fun hc => ?_) (fun hc => ?_)
  · have h := ite_t h hc
    refine pw_iconst (v := 0) dc_Routes_leadNowhere_12 (by decide) ?_
    exact pw_iret dc_Routes_leadNowhere_13 rfl (bo_nar (Or.inl rfl)) h
  · have h := ite_f h hc
    refine pw_iconst (v := 1) dc_Routes_leadNowhere_8 (by decide) ?_
    refine pw_goto (tgt := 13) dc_Routes_leadNowhere_9 (by decide) ?_
    exact pw_iret dc_Routes_leadNowhere_13 rfl (bo_nar (Or.inr rfl)) h
theorem dc_Routes_isFull_0 : decode M_Routes_isFull.2.1 0 = .ok (.aload_n 0, 1) := by decide +kernel
theorem dc_Routes_isFull_1 : decode M_Routes_isFull.2.1 1 = .ok (.getfield 18, 3) := by decide +kernel
theorem dc_Routes_isFull_4 : decode M_Routes_isFull.2.1 4 = .ok (.bipush 12, 2) := by decide +kernel
theorem dc_Routes_isFull_6 : decode M_Routes_isFull.2.1 6 = .ok (.if_icmp .lt 7, 3) := by decide +kernel
theorem dc_Routes_isFull_9 : decode M_Routes_isFull.2.1 9 = .ok (.iconst 1, 1) := by decide +kernel
theorem dc_Routes_isFull_10 : decode M_Routes_isFull.2.1 10 = .ok (.goto 4, 3) := by decide +kernel
theorem dc_Routes_isFull_13 : decode M_Routes_isFull.2.1 13 = .ok (.iconst 0, 1) := by decide +kernel
theorem dc_Routes_isFull_14 : decode M_Routes_isFull.2.1 14 = .ok (.ireturn, 1) := by decide +kernel
set_option maxRecDepth 20000 in
theorem e_Routes_isFull_0 {d : Nat} {σ : PH} {K : PO → PH → Prop} (x0 : Nat) (h : sh σ x0 = (1, 9) ∧ (if (gI σ 577 x0) < 12 then K (.inl (some (.int 0))) σ else K (.inl (some (.int 1))) σ)) : PW d M_Routes_isFull 0 [.ref x0] [] σ K := by
  refine pw_aload_n dc_Routes_isFull_0 rfl rfl ?_
  obtain ⟨hs1, h⟩ := h
  refine pw_getI (c := 9) (k := 1) (f := 577) dc_Routes_isFull_1 fl_Routes_18 rfl rfl hs1 ?_
  refine pw_bipush (v := 12) dc_Routes_isFull_4 (by decide) ?_
  refine pw_icmp_lt (tgt := 13) dc_Routes_isFull_6 (by decide) (fun hc => ?_) (fun hc => ?_)
  · have h := ite_t h hc
    refine pw_iconst (v := 0) dc_Routes_isFull_13 (by decide) ?_
    exact pw_iret dc_Routes_isFull_14 rfl (bo_nar (Or.inl rfl)) h
  · have h := ite_f h hc
    refine pw_iconst (v := 1) dc_Routes_isFull_9 (by decide) ?_
    refine pw_goto (tgt := 14) dc_Routes_isFull_10 (by decide) ?_
    exact pw_iret dc_Routes_isFull_14 rfl (bo_nar (Or.inr rfl)) h
theorem dc_Routes_rowOf_0 : decode M_Routes_rowOf.2.1 0 = .ok (.iconst 0, 1) := by decide +kernel
theorem dc_Routes_rowOf_1 : decode M_Routes_rowOf.2.1 1 = .ok (.istore_n 2, 1) := by decide +kernel
theorem dc_Routes_rowOf_2 : decode M_Routes_rowOf.2.1 2 = .ok (.iload_n 2, 1) := by decide +kernel
theorem dc_Routes_rowOf_3 : decode M_Routes_rowOf.2.1 3 = .ok (.aload_n 0, 1) := by decide +kernel
theorem dc_Routes_rowOf_4 : decode M_Routes_rowOf.2.1 4 = .ok (.getfield 18, 3) := by decide +kernel
theorem dc_Routes_rowOf_7 : decode M_Routes_rowOf.2.1 7 = .ok (.if_icmp .ge 24, 3) := by decide +kernel
theorem dc_Routes_rowOf_10 : decode M_Routes_rowOf.2.1 10 = .ok (.aload_n 0, 1) := by decide +kernel
theorem dc_Routes_rowOf_11 : decode M_Routes_rowOf.2.1 11 = .ok (.getfield 11, 3) := by decide +kernel
theorem dc_Routes_rowOf_14 : decode M_Routes_rowOf.2.1 14 = .ok (.iload_n 2, 1) := by decide +kernel
theorem dc_Routes_rowOf_15 : decode M_Routes_rowOf.2.1 15 = .ok (.aaload, 1) := by decide +kernel
theorem dc_Routes_rowOf_16 : decode M_Routes_rowOf.2.1 16 = .ok (.getfield 22, 3) := by decide +kernel
theorem dc_Routes_rowOf_19 : decode M_Routes_rowOf.2.1 19 = .ok (.iload_n 1, 1) := by decide +kernel
theorem dc_Routes_rowOf_20 : decode M_Routes_rowOf.2.1 20 = .ok (.if_icmp .ne 5, 3) := by decide +kernel
theorem dc_Routes_rowOf_23 : decode M_Routes_rowOf.2.1 23 = .ok (.iload_n 2, 1) := by decide +kernel
theorem dc_Routes_rowOf_24 : decode M_Routes_rowOf.2.1 24 = .ok (.ireturn, 1) := by decide +kernel
theorem dc_Routes_rowOf_25 : decode M_Routes_rowOf.2.1 25 = .ok (.iinc 2 1, 3) := by decide +kernel
theorem dc_Routes_rowOf_28 : decode M_Routes_rowOf.2.1 28 = .ok (.goto (-26), 3) := by decide +kernel
theorem dc_Routes_rowOf_31 : decode M_Routes_rowOf.2.1 31 = .ok (.iconst (-1), 1) := by decide +kernel
theorem dc_Routes_rowOf_32 : decode M_Routes_rowOf.2.1 32 = .ok (.ireturn, 1) := by decide +kernel
set_option maxRecDepth 20000 in
theorem e_Routes_rowOf_0 {d : Nat} {σ : PH} {K : PO → PH → Prop} (x0 : Nat) (x1 : Int32) (h : PW d M_Routes_rowOf 2 [.ref x0, .int x1, .int 0] [] σ K) : PW d M_Routes_rowOf 0 [.ref x0, .int x1, uu] [] σ K := by
  refine pw_iconst (v := 0) dc_Routes_rowOf_0 (by decide) ?_
  refine pw_istore_n dc_Routes_rowOf_1 (by decide) ?_
  exact h
set_option maxRecDepth 20000 in
theorem e_Routes_rowOf_2 {d : Nat} {σ : PH} {K : PO → PH → Prop} (x0 : Nat) (x1 : Int32) (x2 : Int32) (h : sh σ x0 = (1, 9) ∧ (if (gI σ 577 x0) ≤ x2 then K (.inl (some (.int ((-1))))) σ else (∃ b1 : Nat, gR σ 576 x0 = some b1 ∧ (∃ n1 : Nat, sh σ b1 = (9, n1) ∧ vp_in x2 n1 ∧ (∃ b2 : Nat, eR σ b1 (ix x2) = some b2 ∧ sh σ b2 = (1, 8) ∧ (if (gI σ 512 b2) = x1 then K (.inl (some (.int x2))) σ else PW d M_Routes_rowOf 2 [.ref x0, .int x1, .int (x2 + 1)] [] σ K)))))) : PW d M_Routes_rowOf 2 [.ref x0, .int x1, .int x2] [] σ K := by
  refine pw_iload_n dc_Routes_rowOf_2 rfl ?_
  refine pw_aload_n dc_Routes_rowOf_3 rfl rfl ?_
  obtain ⟨hs1, h⟩ := h
  refine pw_getI (c := 9) (k := 1) (f := 577) dc_Routes_rowOf_4 fl_Routes_18 rfl rfl hs1 ?_
  refine pw_icmp_ge (tgt := 31) dc_Routes_rowOf_7 (by decide) (fun hc => ?_) (fun hc => ?_)
  · have h := ite_t h hc
    refine pw_iconst (v := (-1)) dc_Routes_rowOf_31 (by decide) ?_
    exact pw_iret dc_Routes_rowOf_32 rfl rfl h
  · have h := ite_f h hc
    refine pw_aload_n dc_Routes_rowOf_10 rfl rfl ?_
    refine pw_getR (c := 9) (k := 0) (f := 576) dc_Routes_rowOf_11 fl_Routes_11 rfl rfl hs1 ?_
    obtain ⟨b1, hb1, h⟩ := h
    refine PW.top (v' := .ref b1) (congrArg va_rf hb1) ?_
    refine pw_iload_n dc_Routes_rowOf_14 rfl ?_
    obtain ⟨n1, hs2, h⟩ := h
    obtain ⟨hi1, h⟩ := h
    refine pw_aald (k := 9) dc_Routes_rowOf_15 (by unfold rk; decide) hs2 hi1 ?_
    obtain ⟨b2, hb2, h⟩ := h
    refine PW.top (v' := .ref b2) (congrArg va_rf hb2) ?_
    obtain ⟨hs3, h⟩ := h
    refine pw_getI (c := 8) (k := 0) (f := 512) dc_Routes_rowOf_16 fl_Routes_22 rfl rfl hs3 ?_
    refine pw_iload_n dc_Routes_rowOf_19 rfl ?_
    refine pw_icmp_ne (tgt := 25) dc_Routes_rowOf_20 (by decide) (fun hc => ?_) (fun hc => ?_)
    · have h := ite_f h hc
      refine pw_iincv (v := 1) dc_Routes_rowOf_25 (by decide) rfl (by decide) ?_
      refine pw_goto (tgt := 2) dc_Routes_rowOf_28 (by decide) ?_
      exact h
    · have h := ite_t h hc
      refine pw_iload_n dc_Routes_rowOf_23 rfl ?_
      exact pw_iret dc_Routes_rowOf_24 rfl rfl h
theorem dc_Routes_newRow_0 : decode M_Routes_newRow.2.1 0 = .ok (.aload_n 0, 1) := by decide +kernel
theorem dc_Routes_newRow_1 : decode M_Routes_newRow.2.1 1 = .ok (.getfield 18, 3) := by decide +kernel
theorem dc_Routes_newRow_4 : decode M_Routes_newRow.2.1 4 = .ok (.bipush 11, 2) := by decide +kernel
theorem dc_Routes_newRow_6 : decode M_Routes_newRow.2.1 6 = .ok (.invokestatic 25, 3) := by decide +kernel
theorem dc_Routes_newRow_9 : decode M_Routes_newRow.2.1 9 = .ok (.istore_n 2, 1) := by decide +kernel
theorem dc_Routes_newRow_10 : decode M_Routes_newRow.2.1 10 = .ok (.aload_n 0, 1) := by decide +kernel
theorem dc_Routes_newRow_11 : decode M_Routes_newRow.2.1 11 = .ok (.getfield 11, 3) := by decide +kernel
theorem dc_Routes_newRow_14 : decode M_Routes_newRow.2.1 14 = .ok (.iload_n 2, 1) := by decide +kernel
theorem dc_Routes_newRow_15 : decode M_Routes_newRow.2.1 15 = .ok (.aaload, 1) := by decide +kernel
theorem dc_Routes_newRow_16 : decode M_Routes_newRow.2.1 16 = .ok (.iload_n 1, 1) := by decide +kernel
theorem dc_Routes_newRow_17 : decode M_Routes_newRow.2.1 17 = .ok (.putfield 22, 3) := by decide +kernel
theorem dc_Routes_newRow_20 : decode M_Routes_newRow.2.1 20 = .ok (.aload_n 0, 1) := by decide +kernel
theorem dc_Routes_newRow_21 : decode M_Routes_newRow.2.1 21 = .ok (.iload_n 2, 1) := by decide +kernel
theorem dc_Routes_newRow_22 : decode M_Routes_newRow.2.1 22 = .ok (.iconst 1, 1) := by decide +kernel
theorem dc_Routes_newRow_23 : decode M_Routes_newRow.2.1 23 = .ok (.iadd, 1) := by decide +kernel
theorem dc_Routes_newRow_24 : decode M_Routes_newRow.2.1 24 = .ok (.putfield 18, 3) := by decide +kernel
theorem dc_Routes_newRow_27 : decode M_Routes_newRow.2.1 27 = .ok (.iload_n 2, 1) := by decide +kernel
theorem dc_Routes_newRow_28 : decode M_Routes_newRow.2.1 28 = .ok (.ireturn, 1) := by decide +kernel
set_option maxRecDepth 20000 in
theorem e_Routes_newRow_0 {d : Nat} {σ : PH} {K : PO → PH → Prop} (x0 : Nat) (x1 : Int32) (h : sh σ x0 = (1, 9) ∧ (∃ b1 : Nat, gR σ 576 x0 = some b1 ∧ (∃ n1 : Nat, sh σ b1 = (9, n1) ∧ vp_in (if 11 < (gI σ 577 x0) then 11 else gI σ 577 x0) n1 ∧ (∃ b2 : Nat, eR σ b1 (ix (if 11 < (gI σ 577 x0) then 11 else gI σ 577 x0)) = some b2 ∧ sh σ b2 = (1, 8) ∧ (∀ σ1 : PH, σ1 = pI σ 512 b2 x1 → sh σ1 x0 = (1, 9) ∧ (∀ σ2 : PH, σ2 = pI σ1 577 x0 ((if 11 < (gI σ 577 x0) then 11 else gI σ 577 x0) + 1) → K (.inl (some (.int (if 11 < (gI σ 577 x0) then 11 else gI σ 577 x0)))) σ2)))))) : PW (d + 1) M_Routes_newRow 0 [.ref x0, .int x1, uu] [] σ K := by
  refine pw_aload_n dc_Routes_newRow_0 rfl rfl ?_
  obtain ⟨hs1, h⟩ := h
  refine pw_getI (c := 9) (k := 1) (f := 577) dc_Routes_newRow_1 fl_Routes_18 rfl rfl hs1 ?_
  refine pw_bipush (v := 11) dc_Routes_newRow_4 (by decide) ?_
  refine pw_mmin dc_Routes_newRow_6 (List.mem_of_getElem? (i := 738) (by decide +kernel)) (Nat.le_of_ble_eq_true rfl) ?_
  refine pw_istore_n dc_Routes_newRow_9 (by decide) ?_
  refine pw_aload_n dc_Routes_newRow_10 rfl rfl ?_
  refine pw_getR (c := 9) (k := 0) (f := 576) dc_Routes_newRow_11 fl_Routes_11 rfl rfl hs1 ?_
  obtain ⟨b1, hb1, h⟩ := h
  refine PW.top (v' := .ref b1) (congrArg va_rf hb1) ?_
  refine pw_iload_n dc_Routes_newRow_14 rfl ?_
  obtain ⟨n1, hs2, h⟩ := h
  obtain ⟨hi1, h⟩ := h
  refine pw_aald (k := 9) dc_Routes_newRow_15 (by unfold rk; decide) hs2 hi1 ?_
  obtain ⟨b2, hb2, h⟩ := h
  refine PW.top (v' := .ref b2) (congrArg va_rf hb2) ?_
  refine pw_iload_n dc_Routes_newRow_16 rfl ?_
  obtain ⟨hs3, h⟩ := h
  have h := h _ rfl
  refine pw_putI (c := 8) (k := 0) (f := 512) dc_Routes_newRow_17 fl_Routes_22 (Or.inl rfl) rfl rfl hs3 ?_
  refine pw_aload_n dc_Routes_newRow_20 rfl rfl ?_
  refine pw_iload_n dc_Routes_newRow_21 rfl ?_
  refine pw_iconst (v := 1) dc_Routes_newRow_22 (by decide) ?_
  refine pw_iadd dc_Routes_newRow_23 ?_
  obtain ⟨hs4, h⟩ := h
  have h := h _ rfl
  refine pw_putI (c := 9) (k := 1) (f := 577) dc_Routes_newRow_24 fl_Routes_18 (Or.inl rfl) rfl rfl hs4 ?_
  refine pw_iload_n dc_Routes_newRow_27 rfl ?_
  exact pw_iret dc_Routes_newRow_28 rfl rfl h
theorem dc_Routes_rowsBehind_0 : decode M_Routes_rowsBehind.2.1 0 = .ok (.iconst 0, 1) := by decide +kernel
theorem dc_Routes_rowsBehind_1 : decode M_Routes_rowsBehind.2.1 1 = .ok (.istore_n 2, 1) := by decide +kernel
theorem dc_Routes_rowsBehind_2 : decode M_Routes_rowsBehind.2.1 2 = .ok (.iconst 0, 1) := by decide +kernel
theorem dc_Routes_rowsBehind_3 : decode M_Routes_rowsBehind.2.1 3 = .ok (.istore_n 3, 1) := by decide +kernel
theorem dc_Routes_rowsBehind_4 : decode M_Routes_rowsBehind.2.1 4 = .ok (.iload_n 3, 1) := by decide +kernel
theorem dc_Routes_rowsBehind_5 : decode M_Routes_rowsBehind.2.1 5 = .ok (.aload_n 1, 1) := by decide +kernel
theorem dc_Routes_rowsBehind_6 : decode M_Routes_rowsBehind.2.1 6 = .ok (.getfield 31, 3) := by decide +kernel
theorem dc_Routes_rowsBehind_9 : decode M_Routes_rowsBehind.2.1 9 = .ok (.if_icmp .ge 22, 3) := by decide +kernel
theorem dc_Routes_rowsBehind_12 : decode M_Routes_rowsBehind.2.1 12 = .ok (.iload_n 2, 1) := by decide +kernel
theorem dc_Routes_rowsBehind_13 : decode M_Routes_rowsBehind.2.1 13 = .ok (.aload_n 0, 1) := by decide +kernel
theorem dc_Routes_rowsBehind_14 : decode M_Routes_rowsBehind.2.1 14 = .ok (.aload_n 1, 1) := by decide +kernel
theorem dc_Routes_rowsBehind_15 : decode M_Routes_rowsBehind.2.1 15 = .ok (.getfield 36, 3) := by decide +kernel
theorem dc_Routes_rowsBehind_18 : decode M_Routes_rowsBehind.2.1 18 = .ok (.iload_n 3, 1) := by decide +kernel
theorem dc_Routes_rowsBehind_19 : decode M_Routes_rowsBehind.2.1 19 = .ok (.iaload, 1) := by decide +kernel
theorem dc_Routes_rowsBehind_20 : decode M_Routes_rowsBehind.2.1 20 = .ok (.invokevirtual 40, 3) := by decide +kernel
theorem dc_Routes_rowsBehind_23 : decode M_Routes_rowsBehind.2.1 23 = .ok (.ior, 1) := by decide +kernel
theorem dc_Routes_rowsBehind_24 : decode M_Routes_rowsBehind.2.1 24 = .ok (.istore_n 2, 1) := by decide +kernel
theorem dc_Routes_rowsBehind_25 : decode M_Routes_rowsBehind.2.1 25 = .ok (.iinc 3 1, 3) := by decide +kernel
theorem dc_Routes_rowsBehind_28 : decode M_Routes_rowsBehind.2.1 28 = .ok (.goto (-24), 3) := by decide +kernel
theorem dc_Routes_rowsBehind_31 : decode M_Routes_rowsBehind.2.1 31 = .ok (.aload_n 0, 1) := by decide +kernel
theorem dc_Routes_rowsBehind_32 : decode M_Routes_rowsBehind.2.1 32 = .ok (.iload_n 2, 1) := by decide +kernel
theorem dc_Routes_rowsBehind_33 : decode M_Routes_rowsBehind.2.1 33 = .ok (.invokevirtual 44, 3) := by decide +kernel
theorem dc_Routes_rowsBehind_36 : decode M_Routes_rowsBehind.2.1 36 = .ok (.ireturn, 1) := by decide +kernel
set_option maxRecDepth 20000 in
theorem e_Routes_rowsBehind_0 {d : Nat} {σ : PH} {K : PO → PH → Prop} (x0 : Nat) (x1 : Nat) (h : PW (d + 1) M_Routes_rowsBehind 4 [.ref x0, .ref x1, .int 0, .int 0] [] σ K) : PW (d + 1) M_Routes_rowsBehind 0 [.ref x0, .ref x1, uu, uu] [] σ K := by
  refine pw_iconst (v := 0) dc_Routes_rowsBehind_0 (by decide) ?_
  refine pw_istore_n dc_Routes_rowsBehind_1 (by decide) ?_
  refine pw_iconst (v := 0) dc_Routes_rowsBehind_2 (by decide) ?_
  refine pw_istore_n dc_Routes_rowsBehind_3 (by decide) ?_
  exact h
set_option maxRecDepth 20000 in
theorem e_Routes_rowsBehind_4 {d : Nat} {σ : PH} {K : PO → PH → Prop} (x0 : Nat) (x1 : Nat) (x2 : Int32) (x3 : Int32) (h : sh σ x1 = (1, 10) ∧ (if (gI σ 643 x1) ≤ x3 then sh σ x0 = (1, 9) ∧ PW d M_Routes_withMembers 0 [.ref x0, .int x2, uu, uu] [] σ (kI (fun r1 σ1 => K (.inl (some (.int r1))) σ1) K) else (∃ b1 : Nat, gR σ 642 x1 = some b1 ∧ (∃ n1 : Nat, sh σ b1 = (2, n1) ∧ vp_in x3 n1 ∧ sh σ x0 = (1, 9) ∧ PW d M_Routes_bitOf 0 [.ref x0, .int (eI σ b1 (ix x3)), uu] [] σ (kI (fun r2 σ2 => PW (d + 1) M_Routes_rowsBehind 4 [.ref x0, .ref x1, .int (x2 ||| r2), .int (x3 + 1)] [] σ2 K) K))))) : PW (d + 1) M_Routes_rowsBehind 4 [.ref x0, .ref x1, .int x2, .int x3] [] σ K := by
  refine pw_iload_n dc_Routes_rowsBehind_4 rfl ?_
  refine pw_aload_n dc_Routes_rowsBehind_5 rfl rfl ?_
  obtain ⟨hs1, h⟩ := h
  refine pw_getI (c := 10) (k := 3) (f := 643) dc_Routes_rowsBehind_6 fl_Routes_31 rfl rfl hs1 ?_
  refine pw_icmp_ge (tgt := 31) dc_Routes_rowsBehind_9 (by decide) (fun hc => ?_) (fun hc => ?_)
  · have h := ite_t h hc
    refine pw_aload_n dc_Routes_rowsBehind_31 rfl rfl ?_
    refine pw_iload_n dc_Routes_rowsBehind_32 rfl ?_
    obtain ⟨hs2, h⟩ := h
    refine pw_callV (vs := [.int x2]) (st := []) (b := x0) (cn := 9) dc_Routes_rowsBehind_33 cq_Routes_withMembers (List.mem_of_getElem? (i := 645) (by decide +kernel)) (List.mem_of_getElem? (i := 18) (by decide +kernel)) (List.mem_of_getElem? (i := 643) (by decide +kernel)) rfl hs2 rfl rfl (by decide) (cat_cons rfl (cat_nil)) (Nat.le_of_ble_eq_true rfl) (PW.mono (kI_kN (fun r1 σ1 h => ?_)) h)
    exact pw_iret dc_Routes_rowsBehind_36 rfl rfl h
  · have h := ite_f h hc
    refine pw_iload_n dc_Routes_rowsBehind_12 rfl ?_
    refine pw_aload_n dc_Routes_rowsBehind_13 rfl rfl ?_
    refine pw_aload_n dc_Routes_rowsBehind_14 rfl rfl ?_
    refine pw_getR (c := 10) (k := 2) (f := 642) dc_Routes_rowsBehind_15 fl_Routes_36 rfl rfl hs1 ?_
    obtain ⟨b1, hb1, h⟩ := h
    refine PW.top (v' := .ref b1) (congrArg va_rf hb1) ?_
    refine pw_iload_n dc_Routes_rowsBehind_18 rfl ?_
    obtain ⟨n1, hs3, h⟩ := h
    obtain ⟨hi1, h⟩ := h
    refine pw_iald dc_Routes_rowsBehind_19 hs3 hi1 ?_
    obtain ⟨hs4, h⟩ := h
    refine pw_callV (vs := [.int (eI σ b1 (ix x3))]) (st := [.int x2]) (b := x0) (cn := 9) dc_Routes_rowsBehind_20 cq_Routes_bitOf (List.mem_of_getElem? (i := 637) (by decide +kernel)) (List.mem_of_getElem? (i := 17) (by decide +kernel)) (List.mem_of_getElem? (i := 635) (by decide +kernel)) rfl hs4 rfl rfl (by decide) (cat_cons rfl (cat_nil)) (Nat.le_of_ble_eq_true rfl) (PW.mono (kI_kN (fun r2 σ2 h => ?_)) h)
    refine pw_ior dc_Routes_rowsBehind_23 ?_
    refine pw_istore_n dc_Routes_rowsBehind_24 (by decide) ?_
    refine pw_iincv (v := 1) dc_Routes_rowsBehind_25 (by decide) rfl (by decide) ?_
    refine pw_goto (tgt := 4) dc_Routes_rowsBehind_28 (by decide) ?_
    exact h
theorem dc_Routes_leadsTo_0 : decode M_Routes_leadsTo.2.1 0 = .ok (.aload_n 0, 1) := by decide +kernel
theorem dc_Routes_leadsTo_1 : decode M_Routes_leadsTo.2.1 1 = .ok (.aload_n 0, 1) := by decide +kernel
theorem dc_Routes_leadsTo_2 : decode M_Routes_leadsTo.2.1 2 = .ok (.iload_n 1, 1) := by decide +kernel
theorem dc_Routes_leadsTo_3 : decode M_Routes_leadsTo.2.1 3 = .ok (.invokevirtual 40, 3) := by decide +kernel
theorem dc_Routes_leadsTo_6 : decode M_Routes_leadsTo.2.1 6 = .ok (.invokevirtual 44, 3) := by decide +kernel
theorem dc_Routes_leadsTo_9 : decode M_Routes_leadsTo.2.1 9 = .ok (.istore_n 3, 1) := by decide +kernel
theorem dc_Routes_leadsTo_10 : decode M_Routes_leadsTo.2.1 10 = .ok (.iconst 0, 1) := by decide +kernel
theorem dc_Routes_leadsTo_11 : decode M_Routes_leadsTo.2.1 11 = .ok (.istore 4, 2) := by decide +kernel
theorem dc_Routes_leadsTo_13 : decode M_Routes_leadsTo.2.1 13 = .ok (.iload 4, 2) := by decide +kernel
theorem dc_Routes_leadsTo_15 : decode M_Routes_leadsTo.2.1 15 = .ok (.aload_n 0, 1) := by decide +kernel
theorem dc_Routes_leadsTo_16 : decode M_Routes_leadsTo.2.1 16 = .ok (.getfield 18, 3) := by decide +kernel
theorem dc_Routes_leadsTo_19 : decode M_Routes_leadsTo.2.1 19 = .ok (.if_icmp .ge 34, 3) := by decide +kernel
theorem dc_Routes_leadsTo_22 : decode M_Routes_leadsTo.2.1 22 = .ok (.iload_n 3, 1) := by decide +kernel
theorem dc_Routes_leadsTo_23 : decode M_Routes_leadsTo.2.1 23 = .ok (.iload 4, 2) := by decide +kernel
theorem dc_Routes_leadsTo_25 : decode M_Routes_leadsTo.2.1 25 = .ok (.invokestatic 47, 3) := by decide +kernel
theorem dc_Routes_leadsTo_28 : decode M_Routes_leadsTo.2.1 28 = .ok (.ifCond .eq 19, 3) := by decide +kernel
theorem dc_Routes_leadsTo_31 : decode M_Routes_leadsTo.2.1 31 = .ok (.aload_n 0, 1) := by decide +kernel
theorem dc_Routes_leadsTo_32 : decode M_Routes_leadsTo.2.1 32 = .ok (.getfield 11, 3) := by decide +kernel
theorem dc_Routes_leadsTo_35 : decode M_Routes_leadsTo.2.1 35 = .ok (.iload 4, 2) := by decide +kernel
theorem dc_Routes_leadsTo_37 : decode M_Routes_leadsTo.2.1 37 = .ok (.aaload, 1) := by decide +kernel
theorem dc_Routes_leadsTo_38 : decode M_Routes_leadsTo.2.1 38 = .ok (.iload_n 2, 1) := by decide +kernel
theorem dc_Routes_leadsTo_39 : decode M_Routes_leadsTo.2.1 39 = .ok (.invokevirtual 51, 3) := by decide +kernel
theorem dc_Routes_leadsTo_42 : decode M_Routes_leadsTo.2.1 42 = .ok (.ifCond .eq 5, 3) := by decide +kernel
theorem dc_Routes_leadsTo_45 : decode M_Routes_leadsTo.2.1 45 = .ok (.iconst 1, 1) := by decide +kernel
theorem dc_Routes_leadsTo_46 : decode M_Routes_leadsTo.2.1 46 = .ok (.ireturn, 1) := by decide +kernel
theorem dc_Routes_leadsTo_47 : decode M_Routes_leadsTo.2.1 47 = .ok (.iinc 4 1, 3) := by decide +kernel
theorem dc_Routes_leadsTo_50 : decode M_Routes_leadsTo.2.1 50 = .ok (.goto (-37), 3) := by decide +kernel
theorem dc_Routes_leadsTo_53 : decode M_Routes_leadsTo.2.1 53 = .ok (.iconst 0, 1) := by decide +kernel
theorem dc_Routes_leadsTo_54 : decode M_Routes_leadsTo.2.1 54 = .ok (.ireturn, 1) := by decide +kernel
set_option maxRecDepth 20000 in
theorem e_Routes_leadsTo_0 {d : Nat} {σ : PH} {K : PO → PH → Prop} (x0 : Nat) (x1 : Int32) (x2 : Int32) (h : sh σ x0 = (1, 9) ∧ PW d M_Routes_bitOf 0 [.ref x0, .int x1, uu] [] σ (kI (fun r1 σ1 => sh σ1 x0 = (1, 9) ∧ PW d M_Routes_withMembers 0 [.ref x0, .int r1, uu, uu] [] σ1 (kI (fun r2 σ2 => PW (d + 1) M_Routes_leadsTo 13 [.ref x0, uu, .int x2, .int r2, .int 0] [] σ2 K) K)) K)) : PW (d + 1) M_Routes_leadsTo 0 [.ref x0, .int x1, .int x2, uu, uu] [] σ K := by
  refine pw_aload_n dc_Routes_leadsTo_0 rfl rfl ?_
  refine pw_aload_n dc_Routes_leadsTo_1 rfl rfl ?_
  refine pw_iload_n dc_Routes_leadsTo_2 rfl ?_
  obtain ⟨hs1, h⟩ := h
  refine pw_callV (vs := [.int x1]) (st := [.ref x0]) (b := x0) (cn := 9) dc_Routes_leadsTo_3 cq_Routes_bitOf (List.mem_of_getElem? (i := 637) (by decide +kernel)) (List.mem_of_getElem? (i := 17) (by decide +kernel)) (List.mem_of_getElem? (i := 635) (by decide +kernel)) rfl hs1 rfl rfl (by decide) (cat_cons rfl (cat_nil)) (Nat.le_of_ble_eq_true rfl) (PW.mono (kI_kN (fun r1 σ1 h => ?_)) h)
  obtain ⟨hs2, h⟩ := h
  refine pw_callV (vs := [.int r1]) (st := []) (b := x0) (cn := 9) dc_Routes_leadsTo_6 cq_Routes_withMembers (List.mem_of_getElem? (i := 645) (by decide +kernel)) (List.mem_of_getElem? (i := 18) (by decide +kernel)) (List.mem_of_getElem? (i := 643) (by decide +kernel)) rfl hs2 rfl rfl (by decide) (cat_cons rfl (cat_nil)) (Nat.le_of_ble_eq_true rfl) (PW.mono (kI_kN (fun r2 σ2 h => ?_)) h)
  refine pw_istore_n dc_Routes_leadsTo_9 (by decide) ?_
  refine pw_iconst (v := 0) dc_Routes_leadsTo_10 (by decide) ?_
  refine pw_istore dc_Routes_leadsTo_11 (by decide) ?_
  refine PW.drop (ls' := [.ref x0, uu, .int x2, .int r2, .int 0]) ⟨Or.inl rfl, Or.inr rfl, Or.inl rfl, Or.inl rfl, Or.inl rfl, trivial⟩ ?_
  exact h
set_option maxRecDepth 20000 in
theorem e_Routes_leadsTo_13 {d : Nat} {σ : PH} {K : PO → PH → Prop} (x0 : Nat) (x2 : Int32) (x3 : Int32) (x4 : Int32) (h : sh σ x0 = (1, 9) ∧ (if (gI σ 577 x0) ≤ x4 then K (.inl (some (.int 0))) σ else PW d M_Routes_has 0 [.int x3, .int x4] [] σ (kI (fun r1 σ1 => (if r1 = 0 then PW (d + 1) M_Routes_leadsTo 47 [.ref x0, uu, .int x2, .int x3, .int x4] [] σ1 K else sh σ1 x0 = (1, 9) ∧ (∃ b1 : Nat, gR σ1 576 x0 = some b1 ∧ (∃ n1 : Nat, sh σ1 b1 = (9, n1) ∧ vp_in x4 n1 ∧ (∃ b2 : Nat, eR σ1 b1 (ix x4) = some b2 ∧ sh σ1 b2 = (1, 8) ∧ PW d M_Route_holds 0 [.ref b2, .int x2, uu] [] σ1 (kI (fun r2 σ2 => (if r2 = 0 then PW (d + 1) M_Routes_leadsTo 47 [.ref x0, uu, .int x2, .int x3, .int x4] [] σ2 K else K (.inl (some (.int 1))) σ2)) K)))))) K))) : PW (d + 1) M_Routes_leadsTo 13 [.ref x0, uu, .int x2, .int x3, .int x4] [] σ K := by
  refine pw_iload dc_Routes_leadsTo_13 rfl ?_
  refine pw_aload_n dc_Routes_leadsTo_15 rfl rfl ?_
  obtain ⟨hs1, h⟩ := h
  refine pw_getI (c := 9) (k := 1) (f := 577) dc_Routes_leadsTo_16 fl_Routes_18 rfl rfl hs1 ?_
  refine pw_icmp_ge (tgt := 53) dc_Routes_leadsTo_19 (by decide) (fun hc => ?_) (fun hc => ?_)
  · have h := ite_t h hc
    refine pw_iconst (v := 0) dc_Routes_leadsTo_53 (by decide) ?_
    exact pw_iret dc_Routes_leadsTo_54 rfl (bo_nar (Or.inl rfl)) h
  · have h := ite_f h hc
    refine pw_iload_n dc_Routes_leadsTo_22 rfl ?_
    refine pw_iload dc_Routes_leadsTo_23 rfl ?_
    refine pw_callS (vs := [.int x3, .int x4]) (st := []) dc_Routes_leadsTo_25 cq_Routes_has (List.mem_of_getElem? (i := 652) (by decide +kernel)) (List.mem_of_getElem? (i := 651) (by decide +kernel)) rfl rfl (cat_cons rfl (cat_cons rfl (cat_nil))) (Nat.le_of_ble_eq_true rfl) (PW.mono (kI_kN (fun r1 σ1 h => ?_)) h)
    refine pw_if_eq (tgt := 47) dc_Routes_leadsTo_28 (by decide) (fun hc => ?_) (fun hc => ?_)
    · have h := ite_t h hc
      exact h
    · have h := ite_f h hc
      refine pw_aload_n dc_Routes_leadsTo_31 rfl rfl ?_
      obtain ⟨hs2, h⟩ := h
      refine pw_getR (c := 9) (k := 0) (f := 576) dc_Routes_leadsTo_32 fl_Routes_11 rfl rfl hs2 ?_
      obtain ⟨b1, hb1, h⟩ := h
      refine PW.top (v' := .ref b1) (congrArg va_rf hb1) ?_
      refine pw_iload dc_Routes_leadsTo_35 rfl ?_
      obtain ⟨n1, hs3, h⟩ := h
      obtain ⟨hi1, h⟩ := h
      refine pw_aald (k := 9) dc_Routes_leadsTo_37 (by unfold rk; decide) hs3 hi1 ?_
      obtain ⟨b2, hb2, h⟩ := h
      refine PW.top (v' := .ref b2) (congrArg va_rf hb2) ?_
      refine pw_iload_n dc_Routes_leadsTo_38 rfl ?_
      obtain ⟨hs4, h⟩ := h
      refine pw_callV (vs := [.int x2]) (st := []) (b := b2) (cn := 8) dc_Routes_leadsTo_39 cq_Route_holds (List.mem_of_getElem? (i := 751) (by decide +kernel)) (List.mem_of_getElem? (i := 752) (by decide +kernel)) (List.mem_of_getElem? (i := 750) (by decide +kernel)) rfl hs4 rfl rfl (by decide) (cat_cons rfl (cat_nil)) (Nat.le_of_ble_eq_true rfl) (PW.mono (kI_kN (fun r2 σ2 h => ?_)) h)
      refine pw_if_eq (tgt := 47) dc_Routes_leadsTo_42 (by decide) (fun hc => ?_) (fun hc => ?_)
      · have h := ite_t h hc
        exact h
      · have h := ite_f h hc
        refine pw_iconst (v := 1) dc_Routes_leadsTo_45 (by decide) ?_
        exact pw_iret dc_Routes_leadsTo_46 rfl (bo_nar (Or.inr rfl)) h
set_option maxRecDepth 20000 in
theorem e_Routes_leadsTo_47 {d : Nat} {σ : PH} {K : PO → PH → Prop} (x0 : Nat) (x2 : Int32) (x3 : Int32) (x4 : Int32) (h : PW (d + 1) M_Routes_leadsTo 13 [.ref x0, uu, .int x2, .int x3, .int (x4 + 1)] [] σ K) : PW (d + 1) M_Routes_leadsTo 47 [.ref x0, uu, .int x2, .int x3, .int x4] [] σ K := by
  refine pw_iincv (v := 1) dc_Routes_leadsTo_47 (by decide) rfl (by decide) ?_
  refine pw_goto (tgt := 13) dc_Routes_leadsTo_50 (by decide) ?_
  exact h
theorem dc_Routes_withMembers_0 : decode M_Routes_withMembers.2.1 0 = .ok (.iload_n 1, 1) := by decide +kernel
theorem dc_Routes_withMembers_1 : decode M_Routes_withMembers.2.1 1 = .ok (.istore_n 2, 1) := by decide +kernel
theorem dc_Routes_withMembers_2 : decode M_Routes_withMembers.2.1 2 = .ok (.iconst 0, 1) := by decide +kernel
theorem dc_Routes_withMembers_3 : decode M_Routes_withMembers.2.1 3 = .ok (.istore_n 3, 1) := by decide +kernel
theorem dc_Routes_withMembers_4 : decode M_Routes_withMembers.2.1 4 = .ok (.iload_n 3, 1) := by decide +kernel
theorem dc_Routes_withMembers_5 : decode M_Routes_withMembers.2.1 5 = .ok (.bipush 12, 2) := by decide +kernel
theorem dc_Routes_withMembers_7 : decode M_Routes_withMembers.2.1 7 = .ok (.if_icmp .ge 17, 3) := by decide +kernel
theorem dc_Routes_withMembers_10 : decode M_Routes_withMembers.2.1 10 = .ok (.iload_n 2, 1) := by decide +kernel
theorem dc_Routes_withMembers_11 : decode M_Routes_withMembers.2.1 11 = .ok (.aload_n 0, 1) := by decide +kernel
theorem dc_Routes_withMembers_12 : decode M_Routes_withMembers.2.1 12 = .ok (.iload_n 2, 1) := by decide +kernel
theorem dc_Routes_withMembers_13 : decode M_Routes_withMembers.2.1 13 = .ok (.invokevirtual 55, 3) := by decide +kernel
theorem dc_Routes_withMembers_16 : decode M_Routes_withMembers.2.1 16 = .ok (.ior, 1) := by decide +kernel
theorem dc_Routes_withMembers_17 : decode M_Routes_withMembers.2.1 17 = .ok (.istore_n 2, 1) := by decide +kernel
theorem dc_Routes_withMembers_18 : decode M_Routes_withMembers.2.1 18 = .ok (.iinc 3 1, 3) := by decide +kernel
theorem dc_Routes_withMembers_21 : decode M_Routes_withMembers.2.1 21 = .ok (.goto (-17), 3) := by decide +kernel
theorem dc_Routes_withMembers_24 : decode M_Routes_withMembers.2.1 24 = .ok (.iload_n 2, 1) := by decide +kernel
theorem dc_Routes_withMembers_25 : decode M_Routes_withMembers.2.1 25 = .ok (.ireturn, 1) := by decide +kernel
set_option maxRecDepth 20000 in
theorem e_Routes_withMembers_0 {d : Nat} {σ : PH} {K : PO → PH → Prop} (x0 : Nat) (x1 : Int32) (h : PW (d + 1) M_Routes_withMembers 4 [.ref x0, uu, .int x1, .int 0] [] σ K) : PW (d + 1) M_Routes_withMembers 0 [.ref x0, .int x1, uu, uu] [] σ K := by
  refine pw_iload_n dc_Routes_withMembers_0 rfl ?_
  refine pw_istore_n dc_Routes_withMembers_1 (by decide) ?_
  refine pw_iconst (v := 0) dc_Routes_withMembers_2 (by decide) ?_
  refine pw_istore_n dc_Routes_withMembers_3 (by decide) ?_
  refine PW.drop (ls' := [.ref x0, uu, .int x1, .int 0]) ⟨Or.inl rfl, Or.inr rfl, Or.inl rfl, Or.inl rfl, trivial⟩ ?_
  exact h
set_option maxRecDepth 20000 in
theorem e_Routes_withMembers_4 {d : Nat} {σ : PH} {K : PO → PH → Prop} (x0 : Nat) (x2 : Int32) (x3 : Int32) (h : (if 12 ≤ x3 then K (.inl (some (.int x2))) σ else sh σ x0 = (1, 9) ∧ PW d M_Routes_membersOf 0 [.ref x0, .int x2, uu, uu, uu] [] σ (kI (fun r1 σ1 => PW (d + 1) M_Routes_withMembers 4 [.ref x0, uu, .int (x2 ||| r1), .int (x3 + 1)] [] σ1 K) K))) : PW (d + 1) M_Routes_withMembers 4 [.ref x0, uu, .int x2, .int x3] [] σ K := by
  refine pw_iload_n dc_Routes_withMembers_4 rfl ?_
  refine pw_bipush (v := 12) dc_Routes_withMembers_5 (by decide) ?_
  refine pw_icmp_ge (tgt := 24) dc_Routes_withMembers_7 (by decide) (fun hc => ?_) (fun hc => ?_)
  · have h := ite_t h hc
    refine pw_iload_n dc_Routes_withMembers_24 rfl ?_
    exact pw_iret dc_Routes_withMembers_25 rfl rfl h
  · have h := ite_f h hc
    refine pw_iload_n dc_Routes_withMembers_10 rfl ?_
    refine pw_aload_n dc_Routes_withMembers_11 rfl rfl ?_
    refine pw_iload_n dc_Routes_withMembers_12 rfl ?_
    obtain ⟨hs1, h⟩ := h
    refine pw_callV (vs := [.int x2]) (st := [.int x2]) (b := x0) (cn := 9) dc_Routes_withMembers_13 cq_Routes_membersOf (List.mem_of_getElem? (i := 649) (by decide +kernel)) (List.mem_of_getElem? (i := 19) (by decide +kernel)) (List.mem_of_getElem? (i := 647) (by decide +kernel)) rfl hs1 rfl rfl (by decide) (cat_cons rfl (cat_nil)) (Nat.le_of_ble_eq_true rfl) (PW.mono (kI_kN (fun r1 σ1 h => ?_)) h)
    refine pw_ior dc_Routes_withMembers_16 ?_
    refine pw_istore_n dc_Routes_withMembers_17 (by decide) ?_
    refine pw_iincv (v := 1) dc_Routes_withMembers_18 (by decide) rfl (by decide) ?_
    refine pw_goto (tgt := 4) dc_Routes_withMembers_21 (by decide) ?_
    exact h
theorem dc_Routes_membersOf_0 : decode M_Routes_membersOf.2.1 0 = .ok (.iconst 0, 1) := by decide +kernel
theorem dc_Routes_membersOf_1 : decode M_Routes_membersOf.2.1 1 = .ok (.istore_n 2, 1) := by decide +kernel
theorem dc_Routes_membersOf_2 : decode M_Routes_membersOf.2.1 2 = .ok (.iconst 0, 1) := by decide +kernel
theorem dc_Routes_membersOf_3 : decode M_Routes_membersOf.2.1 3 = .ok (.istore_n 3, 1) := by decide +kernel
theorem dc_Routes_membersOf_4 : decode M_Routes_membersOf.2.1 4 = .ok (.iload_n 3, 1) := by decide +kernel
theorem dc_Routes_membersOf_5 : decode M_Routes_membersOf.2.1 5 = .ok (.aload_n 0, 1) := by decide +kernel
theorem dc_Routes_membersOf_6 : decode M_Routes_membersOf.2.1 6 = .ok (.getfield 18, 3) := by decide +kernel
theorem dc_Routes_membersOf_9 : decode M_Routes_membersOf.2.1 9 = .ok (.if_icmp .ge 59, 3) := by decide +kernel
theorem dc_Routes_membersOf_12 : decode M_Routes_membersOf.2.1 12 = .ok (.iconst 0, 1) := by decide +kernel
theorem dc_Routes_membersOf_13 : decode M_Routes_membersOf.2.1 13 = .ok (.istore 4, 2) := by decide +kernel
theorem dc_Routes_membersOf_15 : decode M_Routes_membersOf.2.1 15 = .ok (.iload_n 1, 1) := by decide +kernel
theorem dc_Routes_membersOf_16 : decode M_Routes_membersOf.2.1 16 = .ok (.iload_n 3, 1) := by decide +kernel
theorem dc_Routes_membersOf_17 : decode M_Routes_membersOf.2.1 17 = .ok (.invokestatic 47, 3) := by decide +kernel
theorem dc_Routes_membersOf_20 : decode M_Routes_membersOf.2.1 20 = .ok (.ifCond .eq 42, 3) := by decide +kernel
theorem dc_Routes_membersOf_23 : decode M_Routes_membersOf.2.1 23 = .ok (.iload 4, 2) := by decide +kernel
theorem dc_Routes_membersOf_25 : decode M_Routes_membersOf.2.1 25 = .ok (.aload_n 0, 1) := by decide +kernel
theorem dc_Routes_membersOf_26 : decode M_Routes_membersOf.2.1 26 = .ok (.getfield 11, 3) := by decide +kernel
theorem dc_Routes_membersOf_29 : decode M_Routes_membersOf.2.1 29 = .ok (.iload_n 3, 1) := by decide +kernel
theorem dc_Routes_membersOf_30 : decode M_Routes_membersOf.2.1 30 = .ok (.aaload, 1) := by decide +kernel
theorem dc_Routes_membersOf_31 : decode M_Routes_membersOf.2.1 31 = .ok (.getfield 58, 3) := by decide +kernel
theorem dc_Routes_membersOf_34 : decode M_Routes_membersOf.2.1 34 = .ok (.if_icmp .ge 28, 3) := by decide +kernel
theorem dc_Routes_membersOf_37 : decode M_Routes_membersOf.2.1 37 = .ok (.iload_n 2, 1) := by decide +kernel
theorem dc_Routes_membersOf_38 : decode M_Routes_membersOf.2.1 38 = .ok (.aload_n 0, 1) := by decide +kernel
theorem dc_Routes_membersOf_39 : decode M_Routes_membersOf.2.1 39 = .ok (.aload_n 0, 1) := by decide +kernel
theorem dc_Routes_membersOf_40 : decode M_Routes_membersOf.2.1 40 = .ok (.getfield 11, 3) := by decide +kernel
theorem dc_Routes_membersOf_43 : decode M_Routes_membersOf.2.1 43 = .ok (.iload_n 3, 1) := by decide +kernel
theorem dc_Routes_membersOf_44 : decode M_Routes_membersOf.2.1 44 = .ok (.aaload, 1) := by decide +kernel
theorem dc_Routes_membersOf_45 : decode M_Routes_membersOf.2.1 45 = .ok (.getfield 61, 3) := by decide +kernel
theorem dc_Routes_membersOf_48 : decode M_Routes_membersOf.2.1 48 = .ok (.iload 4, 2) := by decide +kernel
theorem dc_Routes_membersOf_50 : decode M_Routes_membersOf.2.1 50 = .ok (.iaload, 1) := by decide +kernel
theorem dc_Routes_membersOf_51 : decode M_Routes_membersOf.2.1 51 = .ok (.invokevirtual 40, 3) := by decide +kernel
theorem dc_Routes_membersOf_54 : decode M_Routes_membersOf.2.1 54 = .ok (.ior, 1) := by decide +kernel
theorem dc_Routes_membersOf_55 : decode M_Routes_membersOf.2.1 55 = .ok (.istore_n 2, 1) := by decide +kernel
theorem dc_Routes_membersOf_56 : decode M_Routes_membersOf.2.1 56 = .ok (.iinc 4 1, 3) := by decide +kernel
theorem dc_Routes_membersOf_59 : decode M_Routes_membersOf.2.1 59 = .ok (.goto (-44), 3) := by decide +kernel
theorem dc_Routes_membersOf_62 : decode M_Routes_membersOf.2.1 62 = .ok (.iinc 3 1, 3) := by decide +kernel
theorem dc_Routes_membersOf_65 : decode M_Routes_membersOf.2.1 65 = .ok (.goto (-61), 3) := by decide +kernel
theorem dc_Routes_membersOf_68 : decode M_Routes_membersOf.2.1 68 = .ok (.iload_n 2, 1) := by decide +kernel
theorem dc_Routes_membersOf_69 : decode M_Routes_membersOf.2.1 69 = .ok (.ireturn, 1) := by decide +kernel
set_option maxRecDepth 20000 in
theorem e_Routes_membersOf_0 {d : Nat} {σ : PH} {K : PO → PH → Prop} (x0 : Nat) (x1 : Int32) (h : PW (d + 1) M_Routes_membersOf 4 [.ref x0, .int x1, .int 0, .int 0, uu] [] σ K) : PW (d + 1) M_Routes_membersOf 0 [.ref x0, .int x1, uu, uu, uu] [] σ K := by
  refine pw_iconst (v := 0) dc_Routes_membersOf_0 (by decide) ?_
  refine pw_istore_n dc_Routes_membersOf_1 (by decide) ?_
  refine pw_iconst (v := 0) dc_Routes_membersOf_2 (by decide) ?_
  refine pw_istore_n dc_Routes_membersOf_3 (by decide) ?_
  exact h
set_option maxRecDepth 20000 in
theorem e_Routes_membersOf_4 {d : Nat} {σ : PH} {K : PO → PH → Prop} (x0 : Nat) (x1 : Int32) (x2 : Int32) (x3 : Int32) (h : sh σ x0 = (1, 9) ∧ (if (gI σ 577 x0) ≤ x3 then K (.inl (some (.int x2))) σ else PW (d + 1) M_Routes_membersOf 15 [.ref x0, .int x1, .int x2, .int x3, .int 0] [] σ K)) : PW (d + 1) M_Routes_membersOf 4 [.ref x0, .int x1, .int x2, .int x3, uu] [] σ K := by
  refine pw_iload_n dc_Routes_membersOf_4 rfl ?_
  refine pw_aload_n dc_Routes_membersOf_5 rfl rfl ?_
  obtain ⟨hs1, h⟩ := h
  refine pw_getI (c := 9) (k := 1) (f := 577) dc_Routes_membersOf_6 fl_Routes_18 rfl rfl hs1 ?_
  refine pw_icmp_ge (tgt := 68) dc_Routes_membersOf_9 (by decide) (fun hc => ?_) (fun hc => ?_)
  · have h := ite_t h hc
    refine pw_iload_n dc_Routes_membersOf_68 rfl ?_
    exact pw_iret dc_Routes_membersOf_69 rfl rfl h
  · have h := ite_f h hc
    refine pw_iconst (v := 0) dc_Routes_membersOf_12 (by decide) ?_
    refine pw_istore dc_Routes_membersOf_13 (by decide) ?_
    exact h
set_option maxRecDepth 20000 in
theorem e_Routes_membersOf_15 {d : Nat} {σ : PH} {K : PO → PH → Prop} (x0 : Nat) (x1 : Int32) (x2 : Int32) (x3 : Int32) (x4 : Int32) (h : PW d M_Routes_has 0 [.int x1, .int x3] [] σ (kI (fun r1 σ1 => (if r1 = 0 then PW (d + 1) M_Routes_membersOf 62 [.ref x0, .int x1, .int x2, .int x3, uu] [] σ1 K else sh σ1 x0 = (1, 9) ∧ (∃ b1 : Nat, gR σ1 576 x0 = some b1 ∧ (∃ n1 : Nat, sh σ1 b1 = (9, n1) ∧ vp_in x3 n1 ∧ (∃ b2 : Nat, eR σ1 b1 (ix x3) = some b2 ∧ sh σ1 b2 = (1, 8) ∧ (if (gI σ1 516 b2) ≤ x4 then PW (d + 1) M_Routes_membersOf 62 [.ref x0, .int x1, .int x2, .int x3, uu] [] σ1 K else vp_in x3 n1 ∧ (∃ b3 : Nat, gR σ1 515 b2 = some b3 ∧ (∃ n2 : Nat, sh σ1 b3 = (2, n2) ∧ vp_in x4 n2 ∧ PW d M_Routes_bitOf 0 [.ref x0, .int (eI σ1 b3 (ix x4)), uu] [] σ1 (kI (fun r2 σ2 => PW (d + 1) M_Routes_membersOf 15 [.ref x0, .int x1, .int (x2 ||| r2), .int x3, .int (x4 + 1)] [] σ2 K) K))))))))) K)) : PW (d + 1) M_Routes_membersOf 15 [.ref x0, .int x1, .int x2, .int x3, .int x4] [] σ K := by
  refine pw_iload_n dc_Routes_membersOf_15 rfl ?_
  refine pw_iload_n dc_Routes_membersOf_16 rfl ?_
  refine pw_callS (vs := [.int x1, .int x3]) (st := []) dc_Routes_membersOf_17 cq_Routes_has (List.mem_of_getElem? (i := 652) (by decide +kernel)) (List.mem_of_getElem? (i := 651) (by decide +kernel)) rfl rfl (cat_cons rfl (cat_cons rfl (cat_nil))) (Nat.le_of_ble_eq_true rfl) (PW.mono (kI_kN (fun r1 σ1 h => ?_)) h)
  refine pw_if_eq (tgt := 62) dc_Routes_membersOf_20 (by decide) (fun hc => ?_) (fun hc => ?_)
  · have h := ite_t h hc
    refine PW.drop (ls' := [.ref x0, .int x1, .int x2, .int x3, uu]) ⟨Or.inl rfl, Or.inl rfl, Or.inl rfl, Or.inl rfl, Or.inr rfl, trivial⟩ ?_
    exact h
  · have h := ite_f h hc
    refine pw_iload dc_Routes_membersOf_23 rfl ?_
    refine pw_aload_n dc_Routes_membersOf_25 rfl rfl ?_
    obtain ⟨hs1, h⟩ := h
    refine pw_getR (c := 9) (k := 0) (f := 576) dc_Routes_membersOf_26 fl_Routes_11 rfl rfl hs1 ?_
    obtain ⟨b1, hb1, h⟩ := h
    refine PW.top (v' := .ref b1) (congrArg va_rf hb1) ?_
    refine pw_iload_n dc_Routes_membersOf_29 rfl ?_
    obtain ⟨n1, hs2, h⟩ := h
    obtain ⟨hi1, h⟩ := h
    refine pw_aald (k := 9) dc_Routes_membersOf_30 (by unfold rk; decide) hs2 hi1 ?_
    obtain ⟨b2, hb2, h⟩ := h
    refine PW.top (v' := .ref b2) (congrArg va_rf hb2) ?_
    obtain ⟨hs3, h⟩ := h
    refine pw_getI (c := 8) (k := 4) (f := 516) dc_Routes_membersOf_31 fl_Routes_58 rfl rfl hs3 ?_
    refine pw_icmp_ge (tgt := 62) dc_Routes_membersOf_34 (by decide) (fun hc => ?_) (fun hc => ?_)
    · have h := ite_t h hc
      refine PW.drop (ls' := [.ref x0, .int x1, .int x2, .int x3, uu]) ⟨Or.inl rfl, Or.inl rfl, Or.inl rfl, Or.inl rfl, Or.inr rfl, trivial⟩ ?_
      exact h
    · have h := ite_f h hc
      refine pw_iload_n dc_Routes_membersOf_37 rfl ?_
      refine pw_aload_n dc_Routes_membersOf_38 rfl rfl ?_
      refine pw_aload_n dc_Routes_membersOf_39 rfl rfl ?_
      refine pw_getR (c := 9) (k := 0) (f := 576) dc_Routes_membersOf_40 fl_Routes_11 rfl rfl hs1 ?_
      refine PW.top (v' := .ref b1) (congrArg va_rf hb1) ?_
      refine pw_iload_n dc_Routes_membersOf_43 rfl ?_
      obtain ⟨hi2, h⟩ := h
      refine pw_aald (k := 9) dc_Routes_membersOf_44 (by unfold rk; decide) hs2 hi2 ?_
      refine PW.top (v' := .ref b2) (congrArg va_rf hb2) ?_
      refine pw_getR (c := 8) (k := 3) (f := 515) dc_Routes_membersOf_45 fl_Routes_61 rfl rfl hs3 ?_
      obtain ⟨b3, hb3, h⟩ := h
      refine PW.top (v' := .ref b3) (congrArg va_rf hb3) ?_
      refine pw_iload dc_Routes_membersOf_48 rfl ?_
      obtain ⟨n2, hs4, h⟩ := h
      obtain ⟨hi3, h⟩ := h
      refine pw_iald dc_Routes_membersOf_50 hs4 hi3 ?_
      refine pw_callV (vs := [.int (eI σ1 b3 (ix x4))]) (st := [.int x2]) (b := x0) (cn := 9) dc_Routes_membersOf_51 cq_Routes_bitOf (List.mem_of_getElem? (i := 637) (by decide +kernel)) (List.mem_of_getElem? (i := 17) (by decide +kernel)) (List.mem_of_getElem? (i := 635) (by decide +kernel)) rfl hs1 rfl rfl (by decide) (cat_cons rfl (cat_nil)) (Nat.le_of_ble_eq_true rfl) (PW.mono (kI_kN (fun r2 σ2 h => ?_)) h)
      refine pw_ior dc_Routes_membersOf_54 ?_
      refine pw_istore_n dc_Routes_membersOf_55 (by decide) ?_
      refine pw_iincv (v := 1) dc_Routes_membersOf_56 (by decide) rfl (by decide) ?_
      refine pw_goto (tgt := 15) dc_Routes_membersOf_59 (by decide) ?_
      exact h
set_option maxRecDepth 20000 in
theorem e_Routes_membersOf_62 {d : Nat} {σ : PH} {K : PO → PH → Prop} (x0 : Nat) (x1 : Int32) (x2 : Int32) (x3 : Int32) (h : PW (d + 1) M_Routes_membersOf 4 [.ref x0, .int x1, .int x2, .int (x3 + 1), uu] [] σ K) : PW (d + 1) M_Routes_membersOf 62 [.ref x0, .int x1, .int x2, .int x3, uu] [] σ K := by
  refine pw_iincv (v := 1) dc_Routes_membersOf_62 (by decide) rfl (by decide) ?_
  refine pw_goto (tgt := 4) dc_Routes_membersOf_65 (by decide) ?_
  exact h
theorem dc_Routes_bitOf_0 : decode M_Routes_bitOf.2.1 0 = .ok (.aload_n 0, 1) := by decide +kernel
theorem dc_Routes_bitOf_1 : decode M_Routes_bitOf.2.1 1 = .ok (.iload_n 1, 1) := by decide +kernel
theorem dc_Routes_bitOf_2 : decode M_Routes_bitOf.2.1 2 = .ok (.invokevirtual 64, 3) := by decide +kernel
theorem dc_Routes_bitOf_5 : decode M_Routes_bitOf.2.1 5 = .ok (.istore_n 2, 1) := by decide +kernel
theorem dc_Routes_bitOf_6 : decode M_Routes_bitOf.2.1 6 = .ok (.iload_n 2, 1) := by decide +kernel
theorem dc_Routes_bitOf_7 : decode M_Routes_bitOf.2.1 7 = .ok (.iconst (-1), 1) := by decide +kernel
theorem dc_Routes_bitOf_8 : decode M_Routes_bitOf.2.1 8 = .ok (.if_icmp .ne 9, 3) := by decide +kernel
theorem dc_Routes_bitOf_11 : decode M_Routes_bitOf.2.1 11 = .ok (.sipush 4096, 3) := by decide +kernel
theorem dc_Routes_bitOf_14 : decode M_Routes_bitOf.2.1 14 = .ok (.goto 6, 3) := by decide +kernel
theorem dc_Routes_bitOf_17 : decode M_Routes_bitOf.2.1 17 = .ok (.iconst 1, 1) := by decide +kernel
theorem dc_Routes_bitOf_18 : decode M_Routes_bitOf.2.1 18 = .ok (.iload_n 2, 1) := by decide +kernel
theorem dc_Routes_bitOf_19 : decode M_Routes_bitOf.2.1 19 = .ok (.ishl, 1) := by decide +kernel
theorem dc_Routes_bitOf_20 : decode M_Routes_bitOf.2.1 20 = .ok (.ireturn, 1) := by decide +kernel
set_option maxRecDepth 20000 in
theorem e_Routes_bitOf_0 {d : Nat} {σ : PH} {K : PO → PH → Prop} (x0 : Nat) (x1 : Int32) (h : sh σ x0 = (1, 9) ∧ PW d M_Routes_rowOf 0 [.ref x0, .int x1, uu] [] σ (kI (fun r1 σ1 => (if r1 = (-1) then K (.inl (some (.int 4096))) σ1 else K (.inl (some (.int (1 <<< (r1 &&& 31))))) σ1)) K)) : PW (d + 1) M_Routes_bitOf 0 [.ref x0, .int x1, uu] [] σ K := by
  refine pw_aload_n dc_Routes_bitOf_0 rfl rfl ?_
  refine pw_iload_n dc_Routes_bitOf_1 rfl ?_
  obtain ⟨hs1, h⟩ := h
  refine pw_callV (vs := [.int x1]) (st := []) (b := x0) (cn := 9) dc_Routes_bitOf_2 cq_Routes_rowOf (List.mem_of_getElem? (i := 640) (by decide +kernel)) (List.mem_of_getElem? (i := 641) (by decide +kernel)) (List.mem_of_getElem? (i := 639) (by decide +kernel)) rfl hs1 rfl rfl (by decide) (cat_cons rfl (cat_nil)) (Nat.le_of_ble_eq_true rfl) (PW.mono (kI_kN (fun r1 σ1 h => ?_)) h)
  refine pw_istore_n dc_Routes_bitOf_5 (by decide) ?_
  refine pw_iload_n dc_Routes_bitOf_6 rfl ?_
  refine pw_iconst (v := (-1)) dc_Routes_bitOf_7 (by decide) ?_
  refine pw_icmp_ne (tgt := 17) dc_Routes_bitOf_8 (by decide) (fun hc => ?_) (fun hc => ?_)
  · have h := ite_f h hc
    refine pw_iconst (v := 1) dc_Routes_bitOf_17 (by decide) ?_
    refine pw_iload_n dc_Routes_bitOf_18 rfl ?_
    refine pw_ishl dc_Routes_bitOf_19 ?_
    exact pw_iret dc_Routes_bitOf_20 rfl rfl h
  · have h := ite_t h hc
    refine pw_sipush (v := 4096) dc_Routes_bitOf_11 (by decide) ?_
    refine pw_goto (tgt := 20) dc_Routes_bitOf_14 (by decide) ?_
    exact pw_iret dc_Routes_bitOf_20 rfl rfl h
end
section
theorem fl_Message_9 : FL "RelayDesk$Message" 9 6 1 := ⟨by decide, by decide, Or.inl (List.mem_of_getElem? (i := 306) (by decide +kernel))⟩
theorem fl_Message_20 : FL "RelayDesk$Message" 20 6 3 := ⟨by decide, by decide, Or.inl (List.mem_of_getElem? (i := 308) (by decide +kernel))⟩
theorem fl_Message_24 : FL "RelayDesk$Message" 24 6 4 := ⟨by decide, by decide, Or.inl (List.mem_of_getElem? (i := 309) (by decide +kernel))⟩
theorem fl_Message_27 : FL "RelayDesk$Message" 27 10 1 := ⟨by decide, by decide, Or.inr ⟨"RelayDesk", List.mem_of_getElem? (i := 149) (by decide +kernel)⟩⟩
theorem fl_Message_33 : FL "RelayDesk$Message" 33 6 0 := ⟨by decide, by decide, Or.inl (List.mem_of_getElem? (i := 304) (by decide +kernel))⟩
theorem fl_Message_34 : FL "RelayDesk$Message" 34 10 3 := ⟨by decide, by decide, Or.inr ⟨"RelayDesk", List.mem_of_getElem? (i := 154) (by decide +kernel)⟩⟩
theorem fl_Message_43 : FL "RelayDesk$Message" 43 6 2 := ⟨by decide, by decide, Or.inl (List.mem_of_getElem? (i := 307) (by decide +kernel))⟩
theorem fl_Message_44 : FL "RelayDesk$Message" 44 10 2 := ⟨by decide, by decide, Or.inr ⟨"RelayDesk", List.mem_of_getElem? (i := 152) (by decide +kernel)⟩⟩
theorem fl_Message_66 : FL "RelayDesk$Message" 66 3 1 := ⟨by decide, by decide, Or.inr ⟨"RelayDesk", List.mem_of_getElem? (i := 194) (by decide +kernel)⟩⟩
theorem fl_Outlet_14 : FL "RelayDesk$Outlet" 14 5 1 := ⟨by decide, by decide, Or.inl (List.mem_of_getElem? (i := 246) (by decide +kernel))⟩
theorem fl_Outlet_22 : FL "RelayDesk$Outlet" 22 5 8 := ⟨by decide, by decide, Or.inl (List.mem_of_getElem? (i := 253) (by decide +kernel))⟩
theorem fl_Outlet_26 : FL "RelayDesk$Outlet" 26 5 10 := ⟨by decide, by decide, Or.inl (List.mem_of_getElem? (i := 256) (by decide +kernel))⟩
theorem fl_Outlet_29 : FL "RelayDesk$Outlet" 29 5 0 := ⟨by decide, by decide, Or.inl (List.mem_of_getElem? (i := 245) (by decide +kernel))⟩
theorem fl_Outlet_33 : FL "RelayDesk$Outlet" 33 5 4 := ⟨by decide, by decide, Or.inl (List.mem_of_getElem? (i := 249) (by decide +kernel))⟩
theorem fl_Outlet_37 : FL "RelayDesk$Outlet" 37 5 2 := ⟨by decide, by decide, Or.inl (List.mem_of_getElem? (i := 247) (by decide +kernel))⟩
theorem fl_Outlet_40 : FL "RelayDesk$Outlet" 40 5 3 := ⟨by decide, by decide, Or.inl (List.mem_of_getElem? (i := 248) (by decide +kernel))⟩
theorem fl_Outlet_44 : FL "RelayDesk$Outlet" 44 6 4 := ⟨by decide, by decide, Or.inr ⟨"RelayDesk", List.mem_of_getElem? (i := 310) (by decide +kernel)⟩⟩
theorem fl_Outlet_48 : FL "RelayDesk$Outlet" 48 5 9 := ⟨by decide, by decide, Or.inl (List.mem_of_getElem? (i := 254) (by decide +kernel))⟩
theorem fl_Outlet_55 : FL "RelayDesk$Outlet" 55 5 7 := ⟨by decide, by decide, Or.inl (List.mem_of_getElem? (i := 252) (by decide +kernel))⟩
theorem fl_Outlet_64 : FL "RelayDesk$Outlet" 64 5 5 := ⟨by decide, by decide, Or.inl (List.mem_of_getElem? (i := 250) (by decide +kernel))⟩
theorem fl_Outlet_67 : FL "RelayDesk$Outlet" 67 5 6 := ⟨by decide, by decide, Or.inl (List.mem_of_getElem? (i := 251) (by decide +kernel))⟩
theorem fl_Outlet_90 : FL "RelayDesk$Outlet" 90 3 1 := ⟨by decide, by decide, Or.inr ⟨"RelayDesk", List.mem_of_getElem? (i := 195) (by decide +kernel)⟩⟩
theorem dc_Message_init_0 : decode M_Message_init.2.1 0 = .ok (.aload_n 0, 1) := by decide +kernel
theorem dc_Message_init_1 : decode M_Message_init.2.1 1 = .ok (.invokespecial 3, 3) := by decide +kernel
theorem dc_Message_init_4 : decode M_Message_init.2.1 4 = .ok (.aload_n 0, 1) := by decide +kernel
theorem dc_Message_init_5 : decode M_Message_init.2.1 5 = .ok (.iconst 4, 1) := by decide +kernel
theorem dc_Message_init_6 : decode M_Message_init.2.1 6 = .ok (.newarray .int, 2) := by decide +kernel
theorem dc_Message_init_8 : decode M_Message_init.2.1 8 = .ok (.putfield 9, 3) := by decide +kernel
theorem dc_Message_init_11 : decode M_Message_init.2.1 11 = .ok (.aload_n 0, 1) := by decide +kernel
theorem dc_Message_init_12 : decode M_Message_init.2.1 12 = .ok (.new 15, 3) := by decide +kernel
theorem dc_Message_init_15 : decode M_Message_init.2.1 15 = .ok (.dup, 1) := by decide +kernel
theorem dc_Message_init_16 : decode M_Message_init.2.1 16 = .ok (.bipush 60, 2) := by decide +kernel
theorem dc_Message_init_18 : decode M_Message_init.2.1 18 = .ok (.invokespecial 17, 3) := by decide +kernel
theorem dc_Message_init_21 : decode M_Message_init.2.1 21 = .ok (.putfield 20, 3) := by decide +kernel
theorem dc_Message_init_24 : decode M_Message_init.2.1 24 = .ok (.aload_n 0, 1) := by decide +kernel
theorem dc_Message_init_25 : decode M_Message_init.2.1 25 = .ok (.bipush 8, 2) := by decide +kernel
theorem dc_Message_init_27 : decode M_Message_init.2.1 27 = .ok (.newarray .int, 2) := by decide +kernel
theorem dc_Message_init_29 : decode M_Message_init.2.1 29 = .ok (.putfield 24, 3) := by decide +kernel
theorem dc_Message_init_32 : decode M_Message_init.2.1 32 = .ok (.return_, 1) := by decide +kernel
set_option maxRecDepth 20000 in
theorem e_Message_init_0 {d : Nat} {σ : PH} {K : PO → PH → Prop} (x0 : Nat) (h : cc σ + 1 ≤ 601024 ∧ cs σ + 4 ≤ 7293034 ∧ (∀ σ1 : PH, σ1 = mk σ (2, 4) 4 → sh σ1 x0 = (1, 6) ∧ (∀ σ2 : PH, σ2 = pR σ1 385 x0 (some (nx σ)) → cc σ2 + 1 ≤ 601024 ∧ cs σ2 + 2 ≤ 7293034 ∧ (∀ σ3 : PH, σ3 = mk σ2 (1, 3) 2 → PW d M_Text_init 0 [.ref (nx σ2), .int 60] [] σ3 (kV (fun σ4 => sh σ4 x0 = (1, 6) ∧ (∀ σ5 : PH, σ5 = pR σ4 387 x0 (some (nx σ2)) → cc σ5 + 1 ≤ 601024 ∧ cs σ5 + 8 ≤ 7293034 ∧ (∀ σ6 : PH, σ6 = mk σ5 (2, 8) 8 → sh σ6 x0 = (1, 6) ∧ (∀ σ7 : PH, σ7 = pR σ6 388 x0 (some (nx σ5)) → K (.inl none) σ7)))) K))))) : PW (d + 1) M_Message_init 0 [.ref x0] [] σ K := by
  refine pw_aload_n dc_Message_init_0 rfl rfl ?_
  refine pw_objInit dc_Message_init_1 (List.mem_of_getElem? (i := 301) (by decide +kernel)) (List.mem_of_getElem? (i := 91) (by decide +kernel)) (List.mem_of_getElem? (i := 92) (by decide +kernel)) (Nat.le_of_ble_eq_true rfl) ?_
  refine pw_aload_n dc_Message_init_4 rfl rfl ?_
  refine pw_iconst (v := 4) dc_Message_init_5 (by decide) ?_
  refine PW.top (v' := .int (nI 4)) rfl ?_
  obtain ⟨hr1, hr2, h⟩ := h
  have h := h _ rfl
  refine pw_newa (k := 2) (N := 4) dc_Message_init_6 (by unfold nk; decide) rfl (List.mem_of_getElem? (i := 131) (by decide +kernel)) (by decide) hr1 hr2 ?_
  obtain ⟨hs1, h⟩ := h
  have h := h _ rfl
  refine pw_putR (c := 6) (k := 1) (f := 385) (v := some (nx σ)) dc_Message_init_8 fl_Message_9 (Or.inr ⟨rfl, rfl, rfl, List.mem_of_getElem? (i := 306) (by decide +kernel)⟩) rfl rfl hs1 ?_
  refine pw_aload_n dc_Message_init_11 rfl rfl ?_
  obtain ⟨hr3, hr4, h⟩ := h
  have h := h _ rfl
  refine pw_new (c := 3) dc_Message_init_12 (by decide) (List.mem_of_getElem? (i := 302) (by decide +kernel)) rfl hr3 hr4 ?_
  refine pw_dup dc_Message_init_15 rfl ?_
  refine pw_bipush (v := 60) dc_Message_init_16 (by decide) ?_
  refine pw_callI (vs := [.int 60]) (st := [.ref _, .ref x0]) (b := _) dc_Message_init_18 cq_Text_init rfl rfl (List.mem_of_getElem? (i := 190) (by decide +kernel)) (List.mem_of_getElem? (i := 189) (by decide +kernel)) (Or.inl (List.mem_of_getElem? (i := 303) (by decide +kernel))) rfl rfl (by decide) (cat_cons rfl (cat_nil)) (Nat.le_of_ble_eq_true rfl) (PW.mono (kV_kN (fun σ4 h => ?_)) h)
  obtain ⟨hs2, h⟩ := h
  have h := h _ rfl
  refine pw_putR (c := 6) (k := 3) (f := 387) (v := some _) dc_Message_init_21 fl_Message_20 (Or.inr ⟨rfl, rfl, rfl, List.mem_of_getElem? (i := 308) (by decide +kernel)⟩) rfl rfl hs2 ?_
  refine pw_aload_n dc_Message_init_24 rfl rfl ?_
  refine pw_bipush (v := 8) dc_Message_init_25 (by decide) ?_
  refine PW.top (v' := .int (nI 8)) rfl ?_
  obtain ⟨hr5, hr6, h⟩ := h
  have h := h _ rfl
  refine pw_newa (k := 2) (N := 8) dc_Message_init_27 (by unfold nk; decide) rfl (List.mem_of_getElem? (i := 131) (by decide +kernel)) (by decide) hr5 hr6 ?_
  obtain ⟨hs3, h⟩ := h
  have h := h _ rfl
  refine pw_putR (c := 6) (k := 4) (f := 388) (v := some _) dc_Message_init_29 fl_Message_24 (Or.inr ⟨rfl, rfl, rfl, List.mem_of_getElem? (i := 309) (by decide +kernel)⟩) rfl rfl hs3 ?_
  exact pw_vret dc_Message_init_32 rfl h
theorem dc_Message_fill_0 : decode M_Message_fill.2.1 0 = .ok (.aload_n 0, 1) := by decide +kernel
theorem dc_Message_fill_1 : decode M_Message_fill.2.1 1 = .ok (.aload_n 1, 1) := by decide +kernel
theorem dc_Message_fill_2 : decode M_Message_fill.2.1 2 = .ok (.getfield 27, 3) := by decide +kernel
theorem dc_Message_fill_5 : decode M_Message_fill.2.1 5 = .ok (.putfield 33, 3) := by decide +kernel
theorem dc_Message_fill_8 : decode M_Message_fill.2.1 8 = .ok (.aload_n 0, 1) := by decide +kernel
theorem dc_Message_fill_9 : decode M_Message_fill.2.1 9 = .ok (.aload_n 1, 1) := by decide +kernel
theorem dc_Message_fill_10 : decode M_Message_fill.2.1 10 = .ok (.getfield 34, 3) := by decide +kernel
theorem dc_Message_fill_13 : decode M_Message_fill.2.1 13 = .ok (.iconst 4, 1) := by decide +kernel
theorem dc_Message_fill_14 : decode M_Message_fill.2.1 14 = .ok (.invokestatic 37, 3) := by decide +kernel
theorem dc_Message_fill_17 : decode M_Message_fill.2.1 17 = .ok (.putfield 43, 3) := by decide +kernel
theorem dc_Message_fill_20 : decode M_Message_fill.2.1 20 = .ok (.iconst 0, 1) := by decide +kernel
theorem dc_Message_fill_21 : decode M_Message_fill.2.1 21 = .ok (.istore_n 3, 1) := by decide +kernel
theorem dc_Message_fill_22 : decode M_Message_fill.2.1 22 = .ok (.iload_n 3, 1) := by decide +kernel
theorem dc_Message_fill_23 : decode M_Message_fill.2.1 23 = .ok (.aload_n 0, 1) := by decide +kernel
theorem dc_Message_fill_24 : decode M_Message_fill.2.1 24 = .ok (.getfield 43, 3) := by decide +kernel
theorem dc_Message_fill_27 : decode M_Message_fill.2.1 27 = .ok (.if_icmp .ge 21, 3) := by decide +kernel
theorem dc_Message_fill_30 : decode M_Message_fill.2.1 30 = .ok (.aload_n 0, 1) := by decide +kernel
theorem dc_Message_fill_31 : decode M_Message_fill.2.1 31 = .ok (.getfield 9, 3) := by decide +kernel
theorem dc_Message_fill_34 : decode M_Message_fill.2.1 34 = .ok (.iload_n 3, 1) := by decide +kernel
theorem dc_Message_fill_35 : decode M_Message_fill.2.1 35 = .ok (.aload_n 1, 1) := by decide +kernel
theorem dc_Message_fill_36 : decode M_Message_fill.2.1 36 = .ok (.getfield 44, 3) := by decide +kernel
theorem dc_Message_fill_39 : decode M_Message_fill.2.1 39 = .ok (.iload_n 3, 1) := by decide +kernel
theorem dc_Message_fill_40 : decode M_Message_fill.2.1 40 = .ok (.iaload, 1) := by decide +kernel
theorem dc_Message_fill_41 : decode M_Message_fill.2.1 41 = .ok (.iastore, 1) := by decide +kernel
theorem dc_Message_fill_42 : decode M_Message_fill.2.1 42 = .ok (.iinc 3 1, 3) := by decide +kernel
theorem dc_Message_fill_45 : decode M_Message_fill.2.1 45 = .ok (.goto (-23), 3) := by decide +kernel
theorem dc_Message_fill_48 : decode M_Message_fill.2.1 48 = .ok (.aload_n 0, 1) := by decide +kernel
theorem dc_Message_fill_49 : decode M_Message_fill.2.1 49 = .ok (.getfield 20, 3) := by decide +kernel
theorem dc_Message_fill_52 : decode M_Message_fill.2.1 52 = .ok (.aload_n 2, 1) := by decide +kernel
theorem dc_Message_fill_53 : decode M_Message_fill.2.1 53 = .ok (.aload_n 1, 1) := by decide +kernel
theorem dc_Message_fill_54 : decode M_Message_fill.2.1 54 = .ok (.invokevirtual 45, 3) := by decide +kernel
theorem dc_Message_fill_57 : decode M_Message_fill.2.1 57 = .ok (.invokevirtual 49, 3) := by decide +kernel
theorem dc_Message_fill_60 : decode M_Message_fill.2.1 60 = .ok (.return_, 1) := by decide +kernel
set_option maxRecDepth 20000 in
theorem e_Message_fill_0 {d : Nat} {σ : PH} {K : PO → PH → Prop} (x0 : Nat) (x1 : Nat) (x2 : Nat) (h : sh σ x1 = (1, 10) ∧ sh σ x0 = (1, 6) ∧ (∀ σ1 : PH, σ1 = pI σ 384 x0 (gI σ 641 x1) → sh σ1 x1 = (1, 10) ∧ sh σ1 x0 = (1, 6) ∧ (∀ σ2 : PH, σ2 = pI σ1 386 x0 (if 4 < (gI σ1 643 x1) then 4 else gI σ1 643 x1) → PW (d + 1) M_Message_fill 22 [.ref x0, .ref x1, .ref x2, .int 0] [] σ2 K))) : PW (d + 1) M_Message_fill 0 [.ref x0, .ref x1, .ref x2, uu] [] σ K := by
  refine pw_aload_n dc_Message_fill_0 rfl rfl ?_
  refine pw_aload_n dc_Message_fill_1 rfl rfl ?_
  obtain ⟨hs1, h⟩ := h
  refine pw_getI (c := 10) (k := 1) (f := 641) dc_Message_fill_2 fl_Message_27 rfl rfl hs1 ?_
  obtain ⟨hs2, h⟩ := h
  have h := h _ rfl
  refine pw_putI (c := 6) (k := 0) (f := 384) dc_Message_fill_5 fl_Message_33 (Or.inl rfl) rfl rfl hs2 ?_
  refine pw_aload_n dc_Message_fill_8 rfl rfl ?_
  refine pw_aload_n dc_Message_fill_9 rfl rfl ?_
  obtain ⟨hs3, h⟩ := h
  refine pw_getI (c := 10) (k := 3) (f := 643) dc_Message_fill_10 fl_Message_34 rfl rfl hs3 ?_
  refine pw_iconst (v := 4) dc_Message_fill_13 (by decide) ?_
  refine pw_mmin dc_Message_fill_14 (List.mem_of_getElem? (i := 662) (by decide +kernel)) (Nat.le_of_ble_eq_true rfl) ?_
  obtain ⟨hs4, h⟩ := h
  have h := h _ rfl
  refine pw_putI (c := 6) (k := 2) (f := 386) dc_Message_fill_17 fl_Message_43 (Or.inl rfl) rfl rfl hs4 ?_
  refine pw_iconst (v := 0) dc_Message_fill_20 (by decide) ?_
  refine pw_istore_n dc_Message_fill_21 (by decide) ?_
  exact h
set_option maxRecDepth 20000 in
theorem e_Message_fill_22 {d : Nat} {σ : PH} {K : PO → PH → Prop} (x0 : Nat) (x1 : Nat) (x2 : Nat) (x3 : Int32) (h : sh σ x0 = (1, 6) ∧ (if (gI σ 386 x0) ≤ x3 then (∃ b1 : Nat, gR σ 387 x0 = some b1 ∧ sh σ x1 = (1, 10) ∧ PW d M_Header_bodyStart 0 [.ref x1] [] σ (kI (fun r1 σ1 => sh σ1 b1 = (1, 3) ∧ PW d M_Text_addFrom 0 [.ref b1, .ref x2, .int r1, uu] [] σ1 (kV (fun σ2 => K (.inl none) σ2) K)) K)) else (∃ b2 : Nat, gR σ 385 x0 = some b2 ∧ sh σ x1 = (1, 10) ∧ (∃ b3 : Nat, gR σ 642 x1 = some b3 ∧ (∃ n1 : Nat, sh σ b3 = (2, n1) ∧ vp_in x3 n1 ∧ (∃ n2 : Nat, sh σ b2 = (2, n2) ∧ vp_in x3 n2 ∧ (∀ σ3 : PH, σ3 = uI σ b2 (ix x3) (eI σ b3 (ix x3)) → PW (d + 1) M_Message_fill 22 [.ref x0, .ref x1, .ref x2, .int (x3 + 1)] [] σ3 K))))))) : PW (d + 1) M_Message_fill 22 [.ref x0, .ref x1, .ref x2, .int x3] [] σ K := by
  refine pw_iload_n dc_Message_fill_22 rfl ?_
  refine pw_aload_n dc_Message_fill_23 rfl rfl ?_
  obtain ⟨hs1, h⟩ := h
  refine pw_getI (c := 6) (k := 2) (f := 386) dc_Message_fill_24 fl_Message_43 rfl rfl hs1 ?_
  refine pw_icmp_ge (tgt := 48) dc_Message_fill_27 (by decide) (fun hc => ?_) (fun hc => ?_)
  · have h := ite_t h hc
    refine pw_aload_n dc_Message_fill_48 rfl rfl ?_
    refine pw_getR (c := 6) (k := 3) (f := 387) dc_Message_fill_49 fl_Message_20 rfl rfl hs1 ?_
    obtain ⟨b1, hb1, h⟩ := h
    refine PW.top (v' := .ref b1) (congrArg va_rf hb1) ?_
    refine pw_aload_n dc_Message_fill_52 rfl rfl ?_
    refine pw_aload_n dc_Message_fill_53 rfl rfl ?_
    obtain ⟨hs2, h⟩ := h
    refine pw_callV (vs := []) (st := [.ref x2, .ref b1]) (b := x1) (cn := 10) dc_Message_fill_54 cq_Header_bodyStart (List.mem_of_getElem? (i := 664) (by decide +kernel)) (List.mem_of_getElem? (i := 665) (by decide +kernel)) (List.mem_of_getElem? (i := 663) (by decide +kernel)) rfl hs2 rfl rfl (by decide) (cat_nil) (Nat.le_of_ble_eq_true rfl) (PW.mono (kI_kN (fun r1 σ1 h => ?_)) h)
    obtain ⟨hs3, h⟩ := h
    refine pw_callV (vs := [.ref x2, .int r1]) (st := []) (b := b1) (cn := 3) dc_Message_fill_57 cq_Text_addFrom (List.mem_of_getElem? (i := 668) (by decide +kernel)) (List.mem_of_getElem? (i := 669) (by decide +kernel)) (List.mem_of_getElem? (i := 667) (by decide +kernel)) rfl hs3 rfl rfl (by decide) (cat_cons rfl (cat_cons rfl (cat_nil))) (Nat.le_of_ble_eq_true rfl) (PW.mono (kV_kN (fun σ2 h => ?_)) h)
    exact pw_vret dc_Message_fill_60 rfl h
  · have h := ite_f h hc
    refine pw_aload_n dc_Message_fill_30 rfl rfl ?_
    refine pw_getR (c := 6) (k := 1) (f := 385) dc_Message_fill_31 fl_Message_9 rfl rfl hs1 ?_
    obtain ⟨b2, hb2, h⟩ := h
    refine PW.top (v' := .ref b2) (congrArg va_rf hb2) ?_
    refine pw_iload_n dc_Message_fill_34 rfl ?_
    refine pw_aload_n dc_Message_fill_35 rfl rfl ?_
    obtain ⟨hs4, h⟩ := h
    refine pw_getR (c := 10) (k := 2) (f := 642) dc_Message_fill_36 fl_Message_44 rfl rfl hs4 ?_
    obtain ⟨b3, hb3, h⟩ := h
    refine PW.top (v' := .ref b3) (congrArg va_rf hb3) ?_
    refine pw_iload_n dc_Message_fill_39 rfl ?_
    obtain ⟨n1, hs5, h⟩ := h
    obtain ⟨hi1, h⟩ := h
    refine pw_iald dc_Message_fill_40 hs5 hi1 ?_
    obtain ⟨n2, hs6, h⟩ := h
    obtain ⟨hi2, h⟩ := h
    have h := h _ rfl
    refine pw_iast dc_Message_fill_41 hs6 hi2 ?_
    refine pw_iincv (v := 1) dc_Message_fill_42 (by decide) rfl (by decide) ?_
    refine pw_goto (tgt := 22) dc_Message_fill_45 (by decide) ?_
    exact h
theorem dc_Message_waitsOn_0 : decode M_Message_waitsOn.2.1 0 = .ok (.aload_n 0, 1) := by decide +kernel
theorem dc_Message_waitsOn_1 : decode M_Message_waitsOn.2.1 1 = .ok (.getfield 24, 3) := by decide +kernel
theorem dc_Message_waitsOn_4 : decode M_Message_waitsOn.2.1 4 = .ok (.iload_n 1, 1) := by decide +kernel
theorem dc_Message_waitsOn_5 : decode M_Message_waitsOn.2.1 5 = .ok (.iaload, 1) := by decide +kernel
theorem dc_Message_waitsOn_6 : decode M_Message_waitsOn.2.1 6 = .ok (.iconst (-1), 1) := by decide +kernel
theorem dc_Message_waitsOn_7 : decode M_Message_waitsOn.2.1 7 = .ok (.if_icmp .ne 7, 3) := by decide +kernel
theorem dc_Message_waitsOn_10 : decode M_Message_waitsOn.2.1 10 = .ok (.iconst 1, 1) := by decide +kernel
theorem dc_Message_waitsOn_11 : decode M_Message_waitsOn.2.1 11 = .ok (.goto 4, 3) := by decide +kernel
theorem dc_Message_waitsOn_14 : decode M_Message_waitsOn.2.1 14 = .ok (.iconst 0, 1) := by decide +kernel
theorem dc_Message_waitsOn_15 : decode M_Message_waitsOn.2.1 15 = .ok (.ireturn, 1) := by decide +kernel
set_option maxRecDepth 20000 in
theorem e_Message_waitsOn_0 {d : Nat} {σ : PH} {K : PO → PH → Prop} (x0 : Nat) (x1 : Int32) (h : sh σ x0 = (1, 6) ∧ (∃ b1 : Nat, gR σ 388 x0 = some b1 ∧ (∃ n1 : Nat, sh σ b1 = (2, n1) ∧ vp_in x1 n1 ∧ (if (eI σ b1 (ix x1)) = (-1) then K (.inl (some (.int 1))) σ else K (.inl (some (.int 0))) σ)))) : PW d M_Message_waitsOn 0 [.ref x0, .int x1] [] σ K := by
  refine pw_aload_n dc_Message_waitsOn_0 rfl rfl ?_
  obtain ⟨hs1, h⟩ := h
  refine pw_getR (c := 6) (k := 4) (f := 388) dc_Message_waitsOn_1 fl_Message_24 rfl rfl hs1 ?_
  obtain ⟨b1, hb1, h⟩ := h
  refine PW.top (v' := .ref b1) (congrArg va_rf hb1) ?_
  refine pw_iload_n dc_Message_waitsOn_4 rfl ?_
  obtain ⟨n1, hs2, h⟩ := h
  obtain ⟨hi1, h⟩ := h
  refine pw_iald dc_Message_waitsOn_5 hs2 hi1 ?_
  refine pw_iconst (v := (-1)) dc_Message_waitsOn_6 (by decide) ?_
  refine pw_icmp_ne (tgt := 14) dc_Message_waitsOn_7 (by decide) (fun hc => ?_) (fun hc => ?_)
  · have h := ite_f h hc
    refine pw_iconst (v := 0) dc_Message_waitsOn_14 (by decide) ?_
    exact pw_iret dc_Message_waitsOn_15 rfl (bo_nar (Or.inl rfl)) h
  · have h := ite_t h hc
    refine pw_iconst (v := 1) dc_Message_waitsOn_10 (by decide) ?_
    refine pw_goto (tgt := 15) dc_Message_waitsOn_11 (by decide) ?_
    exact pw_iret dc_Message_waitsOn_15 rfl (bo_nar (Or.inr rfl)) h
theorem dc_Message_writeOn_0 : decode M_Message_writeOn.2.1 0 = .ok (.aload_n 1, 1) := by decide +kernel
theorem dc_Message_writeOn_1 : decode M_Message_writeOn.2.1 1 = .ok (.invokevirtual 53, 3) := by decide +kernel
theorem dc_Message_writeOn_4 : decode M_Message_writeOn.2.1 4 = .ok (.aload_n 1, 1) := by decide +kernel
theorem dc_Message_writeOn_5 : decode M_Message_writeOn.2.1 5 = .ok (.iload_n 2, 1) := by decide +kernel
theorem dc_Message_writeOn_6 : decode M_Message_writeOn.2.1 6 = .ok (.invokevirtual 56, 3) := by decide +kernel
theorem dc_Message_writeOn_9 : decode M_Message_writeOn.2.1 9 = .ok (.aload_n 1, 1) := by decide +kernel
theorem dc_Message_writeOn_10 : decode M_Message_writeOn.2.1 10 = .ok (.bipush 32, 2) := by decide +kernel
theorem dc_Message_writeOn_12 : decode M_Message_writeOn.2.1 12 = .ok (.invokevirtual 59, 3) := by decide +kernel
theorem dc_Message_writeOn_15 : decode M_Message_writeOn.2.1 15 = .ok (.iload_n 3, 1) := by decide +kernel
theorem dc_Message_writeOn_16 : decode M_Message_writeOn.2.1 16 = .ok (.ifCond .eq 15, 3) := by decide +kernel
theorem dc_Message_writeOn_19 : decode M_Message_writeOn.2.1 19 = .ok (.aload_n 1, 1) := by decide +kernel
theorem dc_Message_writeOn_20 : decode M_Message_writeOn.2.1 20 = .ok (.bipush 82, 2) := by decide +kernel
theorem dc_Message_writeOn_22 : decode M_Message_writeOn.2.1 22 = .ok (.invokevirtual 59, 3) := by decide +kernel
theorem dc_Message_writeOn_25 : decode M_Message_writeOn.2.1 25 = .ok (.aload_n 1, 1) := by decide +kernel
theorem dc_Message_writeOn_26 : decode M_Message_writeOn.2.1 26 = .ok (.bipush 32, 2) := by decide +kernel
theorem dc_Message_writeOn_28 : decode M_Message_writeOn.2.1 28 = .ok (.invokevirtual 59, 3) := by decide +kernel
theorem dc_Message_writeOn_31 : decode M_Message_writeOn.2.1 31 = .ok (.aload_n 1, 1) := by decide +kernel
theorem dc_Message_writeOn_32 : decode M_Message_writeOn.2.1 32 = .ok (.bipush 48, 2) := by decide +kernel
theorem dc_Message_writeOn_34 : decode M_Message_writeOn.2.1 34 = .ok (.aload_n 0, 1) := by decide +kernel
theorem dc_Message_writeOn_35 : decode M_Message_writeOn.2.1 35 = .ok (.getfield 33, 3) := by decide +kernel
theorem dc_Message_writeOn_38 : decode M_Message_writeOn.2.1 38 = .ok (.iadd, 1) := by decide +kernel
theorem dc_Message_writeOn_39 : decode M_Message_writeOn.2.1 39 = .ok (.i2c, 1) := by decide +kernel
theorem dc_Message_writeOn_40 : decode M_Message_writeOn.2.1 40 = .ok (.invokevirtual 59, 3) := by decide +kernel
theorem dc_Message_writeOn_43 : decode M_Message_writeOn.2.1 43 = .ok (.iconst 0, 1) := by decide +kernel
theorem dc_Message_writeOn_44 : decode M_Message_writeOn.2.1 44 = .ok (.istore 4, 2) := by decide +kernel
theorem dc_Message_writeOn_46 : decode M_Message_writeOn.2.1 46 = .ok (.iload 4, 2) := by decide +kernel
theorem dc_Message_writeOn_48 : decode M_Message_writeOn.2.1 48 = .ok (.aload_n 0, 1) := by decide +kernel
theorem dc_Message_writeOn_49 : decode M_Message_writeOn.2.1 49 = .ok (.getfield 43, 3) := by decide +kernel
theorem dc_Message_writeOn_52 : decode M_Message_writeOn.2.1 52 = .ok (.if_icmp .ge 26, 3) := by decide +kernel
theorem dc_Message_writeOn_55 : decode M_Message_writeOn.2.1 55 = .ok (.aload_n 1, 1) := by decide +kernel
theorem dc_Message_writeOn_56 : decode M_Message_writeOn.2.1 56 = .ok (.bipush 32, 2) := by decide +kernel
theorem dc_Message_writeOn_58 : decode M_Message_writeOn.2.1 58 = .ok (.invokevirtual 59, 3) := by decide +kernel
theorem dc_Message_writeOn_61 : decode M_Message_writeOn.2.1 61 = .ok (.aload_n 1, 1) := by decide +kernel
theorem dc_Message_writeOn_62 : decode M_Message_writeOn.2.1 62 = .ok (.aload_n 0, 1) := by decide +kernel
theorem dc_Message_writeOn_63 : decode M_Message_writeOn.2.1 63 = .ok (.getfield 9, 3) := by decide +kernel
theorem dc_Message_writeOn_66 : decode M_Message_writeOn.2.1 66 = .ok (.iload 4, 2) := by decide +kernel
theorem dc_Message_writeOn_68 : decode M_Message_writeOn.2.1 68 = .ok (.iaload, 1) := by decide +kernel
theorem dc_Message_writeOn_69 : decode M_Message_writeOn.2.1 69 = .ok (.invokevirtual 63, 3) := by decide +kernel
theorem dc_Message_writeOn_72 : decode M_Message_writeOn.2.1 72 = .ok (.iinc 4 1, 3) := by decide +kernel
theorem dc_Message_writeOn_75 : decode M_Message_writeOn.2.1 75 = .ok (.goto (-29), 3) := by decide +kernel
theorem dc_Message_writeOn_78 : decode M_Message_writeOn.2.1 78 = .ok (.aload_n 1, 1) := by decide +kernel
theorem dc_Message_writeOn_79 : decode M_Message_writeOn.2.1 79 = .ok (.bipush 10, 2) := by decide +kernel
theorem dc_Message_writeOn_81 : decode M_Message_writeOn.2.1 81 = .ok (.invokevirtual 59, 3) := by decide +kernel
theorem dc_Message_writeOn_84 : decode M_Message_writeOn.2.1 84 = .ok (.aload_n 1, 1) := by decide +kernel
theorem dc_Message_writeOn_85 : decode M_Message_writeOn.2.1 85 = .ok (.aload_n 0, 1) := by decide +kernel
theorem dc_Message_writeOn_86 : decode M_Message_writeOn.2.1 86 = .ok (.getfield 20, 3) := by decide +kernel
theorem dc_Message_writeOn_89 : decode M_Message_writeOn.2.1 89 = .ok (.iconst 0, 1) := by decide +kernel
theorem dc_Message_writeOn_90 : decode M_Message_writeOn.2.1 90 = .ok (.invokevirtual 49, 3) := by decide +kernel
theorem dc_Message_writeOn_93 : decode M_Message_writeOn.2.1 93 = .ok (.aload_n 0, 1) := by decide +kernel
theorem dc_Message_writeOn_94 : decode M_Message_writeOn.2.1 94 = .ok (.getfield 20, 3) := by decide +kernel
theorem dc_Message_writeOn_97 : decode M_Message_writeOn.2.1 97 = .ok (.getfield 66, 3) := by decide +kernel
theorem dc_Message_writeOn_100 : decode M_Message_writeOn.2.1 100 = .ok (.ifCond .le 30, 3) := by decide +kernel
theorem dc_Message_writeOn_103 : decode M_Message_writeOn.2.1 103 = .ok (.aload_n 0, 1) := by decide +kernel
theorem dc_Message_writeOn_104 : decode M_Message_writeOn.2.1 104 = .ok (.getfield 20, 3) := by decide +kernel
theorem dc_Message_writeOn_107 : decode M_Message_writeOn.2.1 107 = .ok (.aload_n 0, 1) := by decide +kernel
theorem dc_Message_writeOn_108 : decode M_Message_writeOn.2.1 108 = .ok (.getfield 20, 3) := by decide +kernel
theorem dc_Message_writeOn_111 : decode M_Message_writeOn.2.1 111 = .ok (.getfield 66, 3) := by decide +kernel
theorem dc_Message_writeOn_114 : decode M_Message_writeOn.2.1 114 = .ok (.iconst 1, 1) := by decide +kernel
theorem dc_Message_writeOn_115 : decode M_Message_writeOn.2.1 115 = .ok (.isub, 1) := by decide +kernel
theorem dc_Message_writeOn_116 : decode M_Message_writeOn.2.1 116 = .ok (.invokevirtual 69, 3) := by decide +kernel
theorem dc_Message_writeOn_119 : decode M_Message_writeOn.2.1 119 = .ok (.bipush 10, 2) := by decide +kernel
theorem dc_Message_writeOn_121 : decode M_Message_writeOn.2.1 121 = .ok (.if_icmp .eq 9, 3) := by decide +kernel
theorem dc_Message_writeOn_124 : decode M_Message_writeOn.2.1 124 = .ok (.aload_n 1, 1) := by decide +kernel
theorem dc_Message_writeOn_125 : decode M_Message_writeOn.2.1 125 = .ok (.bipush 10, 2) := by decide +kernel
theorem dc_Message_writeOn_127 : decode M_Message_writeOn.2.1 127 = .ok (.invokevirtual 59, 3) := by decide +kernel
theorem dc_Message_writeOn_130 : decode M_Message_writeOn.2.1 130 = .ok (.iconst 0, 1) := by decide +kernel
theorem dc_Message_writeOn_131 : decode M_Message_writeOn.2.1 131 = .ok (.istore 4, 2) := by decide +kernel
theorem dc_Message_writeOn_133 : decode M_Message_writeOn.2.1 133 = .ok (.iload 4, 2) := by decide +kernel
theorem dc_Message_writeOn_135 : decode M_Message_writeOn.2.1 135 = .ok (.iconst 4, 1) := by decide +kernel
theorem dc_Message_writeOn_136 : decode M_Message_writeOn.2.1 136 = .ok (.if_icmp .ge 15, 3) := by decide +kernel
theorem dc_Message_writeOn_139 : decode M_Message_writeOn.2.1 139 = .ok (.aload_n 1, 1) := by decide +kernel
theorem dc_Message_writeOn_140 : decode M_Message_writeOn.2.1 140 = .ok (.bipush 78, 2) := by decide +kernel
theorem dc_Message_writeOn_142 : decode M_Message_writeOn.2.1 142 = .ok (.invokevirtual 59, 3) := by decide +kernel
theorem dc_Message_writeOn_145 : decode M_Message_writeOn.2.1 145 = .ok (.iinc 4 1, 3) := by decide +kernel
theorem dc_Message_writeOn_148 : decode M_Message_writeOn.2.1 148 = .ok (.goto (-15), 3) := by decide +kernel
theorem dc_Message_writeOn_151 : decode M_Message_writeOn.2.1 151 = .ok (.aload_n 1, 1) := by decide +kernel
theorem dc_Message_writeOn_152 : decode M_Message_writeOn.2.1 152 = .ok (.bipush 10, 2) := by decide +kernel
theorem dc_Message_writeOn_154 : decode M_Message_writeOn.2.1 154 = .ok (.invokevirtual 59, 3) := by decide +kernel
theorem dc_Message_writeOn_157 : decode M_Message_writeOn.2.1 157 = .ok (.return_, 1) := by decide +kernel
set_option maxRecDepth 20000 in
theorem e_Message_writeOn_0 {d : Nat} {σ : PH} {K : PO → PH → Prop} (x0 : Nat) (x1 : Nat) (x2 : Int32) (x3 : Int32) (h : sh σ x1 = (1, 3) ∧ PW d M_Text_clear 0 [.ref x1] [] σ (kV (fun σ1 => sh σ1 x1 = (1, 3) ∧ PW d M_Text_addNumber 0 [.ref x1, .int x2] [] σ1 (kV (fun σ2 => sh σ2 x1 = (1, 3) ∧ PW d M_Text_add 0 [.ref x1, .int 32] [] σ2 (kV (fun σ3 => (if x3 = 0 then PW (d + 1) M_Message_writeOn 31 [.ref x0, .ref x1, uu, uu, uu] [] σ3 K else sh σ3 x1 = (1, 3) ∧ PW d M_Text_add 0 [.ref x1, .int 82] [] σ3 (kV (fun σ4 => sh σ4 x1 = (1, 3) ∧ PW d M_Text_add 0 [.ref x1, .int 32] [] σ4 (kV (fun σ5 => PW (d + 1) M_Message_writeOn 31 [.ref x0, .ref x1, uu, uu, uu] [] σ5 K) K)) K))) K)) K)) K)) : PW (d + 1) M_Message_writeOn 0 [.ref x0, .ref x1, .int x2, .int x3, uu] [] σ K := by
  refine pw_aload_n dc_Message_writeOn_0 rfl rfl ?_
  obtain ⟨hs1, h⟩ := h
  refine pw_callV (vs := []) (st := []) (b := x1) (cn := 3) dc_Message_writeOn_1 cq_Text_clear (List.mem_of_getElem? (i := 374) (by decide +kernel)) (List.mem_of_getElem? (i := 375) (by decide +kernel)) (List.mem_of_getElem? (i := 793) (by decide +kernel)) rfl hs1 rfl rfl (by decide) (cat_nil) (Nat.le_of_ble_eq_true rfl) (PW.mono (kV_kN (fun σ1 h => ?_)) h)
  refine pw_aload_n dc_Message_writeOn_4 rfl rfl ?_
  refine pw_iload_n dc_Message_writeOn_5 rfl ?_
  obtain ⟨hs2, h⟩ := h
  refine pw_callV (vs := [.int x2]) (st := []) (b := x1) (cn := 3) dc_Message_writeOn_6 cq_Text_addNumber (List.mem_of_getElem? (i := 795) (by decide +kernel)) (List.mem_of_getElem? (i := 796) (by decide +kernel)) (List.mem_of_getElem? (i := 794) (by decide +kernel)) rfl hs2 rfl rfl (by decide) (cat_cons rfl (cat_nil)) (Nat.le_of_ble_eq_true rfl) (PW.mono (kV_kN (fun σ2 h => ?_)) h)
  refine pw_aload_n dc_Message_writeOn_9 rfl rfl ?_
  refine pw_bipush (v := 32) dc_Message_writeOn_10 (by decide) ?_
  obtain ⟨hs3, h⟩ := h
  refine pw_callV (vs := [.int 32]) (st := []) (b := x1) (cn := 3) dc_Message_writeOn_12 cq_Text_add (List.mem_of_getElem? (i := 527) (by decide +kernel)) (List.mem_of_getElem? (i := 528) (by decide +kernel)) (List.mem_of_getElem? (i := 798) (by decide +kernel)) rfl hs3 rfl rfl (by decide) (cat_cons rfl (cat_nil)) (Nat.le_of_ble_eq_true rfl) (PW.mono (kV_kN (fun σ3 h => ?_)) h)
  refine pw_iload_n dc_Message_writeOn_15 rfl ?_
  refine pw_if_eq (tgt := 31) dc_Message_writeOn_16 (by decide) (fun hc => ?_) (fun hc => ?_)
  · have h := ite_t h hc
    refine PW.drop (ls' := [.ref x0, .ref x1, uu, uu, uu]) ⟨Or.inl rfl, Or.inl rfl, Or.inr rfl, Or.inr rfl, Or.inl rfl, trivial⟩ ?_
    exact h
  · have h := ite_f h hc
    refine pw_aload_n dc_Message_writeOn_19 rfl rfl ?_
    refine pw_bipush (v := 82) dc_Message_writeOn_20 (by decide) ?_
    obtain ⟨hs4, h⟩ := h
    refine pw_callV (vs := [.int 82]) (st := []) (b := x1) (cn := 3) dc_Message_writeOn_22 cq_Text_add (List.mem_of_getElem? (i := 527) (by decide +kernel)) (List.mem_of_getElem? (i := 528) (by decide +kernel)) (List.mem_of_getElem? (i := 798) (by decide +kernel)) rfl hs4 rfl rfl (by decide) (cat_cons rfl (cat_nil)) (Nat.le_of_ble_eq_true rfl) (PW.mono (kV_kN (fun σ4 h => ?_)) h)
    refine pw_aload_n dc_Message_writeOn_25 rfl rfl ?_
    refine pw_bipush (v := 32) dc_Message_writeOn_26 (by decide) ?_
    obtain ⟨hs5, h⟩ := h
    refine pw_callV (vs := [.int 32]) (st := []) (b := x1) (cn := 3) dc_Message_writeOn_28 cq_Text_add (List.mem_of_getElem? (i := 527) (by decide +kernel)) (List.mem_of_getElem? (i := 528) (by decide +kernel)) (List.mem_of_getElem? (i := 798) (by decide +kernel)) rfl hs5 rfl rfl (by decide) (cat_cons rfl (cat_nil)) (Nat.le_of_ble_eq_true rfl) (PW.mono (kV_kN (fun σ5 h => ?_)) h)
    refine PW.drop (ls' := [.ref x0, .ref x1, uu, uu, uu]) ⟨Or.inl rfl, Or.inl rfl, Or.inr rfl, Or.inr rfl, Or.inl rfl, trivial⟩ ?_
    exact h
set_option maxRecDepth 20000 in
theorem e_Message_writeOn_31 {d : Nat} {σ : PH} {K : PO → PH → Prop} (x0 : Nat) (x1 : Nat) (h : sh σ x0 = (1, 6) ∧ sh σ x1 = (1, 3) ∧ PW d M_Text_add 0 [.ref x1, .int (((48 + (gI σ 384 x0)).toUInt32 % 65536).toInt32)] [] σ (kV (fun σ1 => PW (d + 1) M_Message_writeOn 46 [.ref x0, .ref x1, uu, uu, .int 0] [] σ1 K) K)) : PW (d + 1) M_Message_writeOn 31 [.ref x0, .ref x1, uu, uu, uu] [] σ K := by
  refine pw_aload_n dc_Message_writeOn_31 rfl rfl ?_
  refine pw_bipush (v := 48) dc_Message_writeOn_32 (by decide) ?_
  refine pw_aload_n dc_Message_writeOn_34 rfl rfl ?_
  obtain ⟨hs1, h⟩ := h
  refine pw_getI (c := 6) (k := 0) (f := 384) dc_Message_writeOn_35 fl_Message_33 rfl rfl hs1 ?_
  refine pw_iadd dc_Message_writeOn_38 ?_
  refine pw_i2c dc_Message_writeOn_39 ?_
  obtain ⟨hs2, h⟩ := h
  refine pw_callV (vs := [.int (((48 + (gI σ 384 x0)).toUInt32 % 65536).toInt32)]) (st := []) (b := x1) (cn := 3) dc_Message_writeOn_40 cq_Text_add (List.mem_of_getElem? (i := 527) (by decide +kernel)) (List.mem_of_getElem? (i := 528) (by decide +kernel)) (List.mem_of_getElem? (i := 798) (by decide +kernel)) rfl hs2 rfl rfl (by decide) (cat_cons rfl (cat_nil)) (Nat.le_of_ble_eq_true rfl) (PW.mono (kV_kN (fun σ1 h => ?_)) h)
  refine pw_iconst (v := 0) dc_Message_writeOn_43 (by decide) ?_
  refine pw_istore dc_Message_writeOn_44 (by decide) ?_
  exact h
set_option maxRecDepth 20000 in
theorem e_Message_writeOn_46 {d : Nat} {σ : PH} {K : PO → PH → Prop} (x0 : Nat) (x1 : Nat) (x4 : Int32) (h : sh σ x0 = (1, 6) ∧ (if (gI σ 386 x0) ≤ x4 then sh σ x1 = (1, 3) ∧ PW d M_Text_add 0 [.ref x1, .int 10] [] σ (kV (fun σ1 => sh σ1 x0 = (1, 6) ∧ (∃ b1 : Nat, gR σ1 387 x0 = some b1 ∧ sh σ1 x1 = (1, 3) ∧ PW d M_Text_addFrom 0 [.ref x1, .ref b1, .int 0, uu] [] σ1 (kV (fun σ2 => sh σ2 x0 = (1, 6) ∧ (∃ b2 : Nat, gR σ2 387 x0 = some b2 ∧ sh σ2 b2 = (1, 3) ∧ (if (gI σ2 193 b2) ≤ 0 then PW (d + 1) M_Message_writeOn 130 [uu, .ref x1, uu, uu, uu] [] σ2 K else PW d M_Text_at 0 [.ref b2, .int ((gI σ2 193 b2) - 1)] [] σ2 (kI (fun r1 σ3 => (if r1 = 10 then PW (d + 1) M_Message_writeOn 130 [uu, .ref x1, uu, uu, uu] [] σ3 K else sh σ3 x1 = (1, 3) ∧ PW d M_Text_add 0 [.ref x1, .int 10] [] σ3 (kV (fun σ4 => PW (d + 1) M_Message_writeOn 130 [uu, .ref x1, uu, uu, uu] [] σ4 K) K))) K)))) K))) K) else sh σ x1 = (1, 3) ∧ PW d M_Text_add 0 [.ref x1, .int 32] [] σ (kV (fun σ5 => sh σ5 x0 = (1, 6) ∧ (∃ b3 : Nat, gR σ5 385 x0 = some b3 ∧ (∃ n1 : Nat, sh σ5 b3 = (2, n1) ∧ vp_in x4 n1 ∧ sh σ5 x1 = (1, 3) ∧ PW d M_Text_addIndicator 0 [.ref x1, .int (eI σ5 b3 (ix x4)), uu, uu] [] σ5 (kV (fun σ6 => PW (d + 1) M_Message_writeOn 46 [.ref x0, .ref x1, uu, uu, .int (x4 + 1)] [] σ6 K) K)))) K))) : PW (d + 1) M_Message_writeOn 46 [.ref x0, .ref x1, uu, uu, .int x4] [] σ K := by
  refine pw_iload dc_Message_writeOn_46 rfl ?_
  refine pw_aload_n dc_Message_writeOn_48 rfl rfl ?_
  obtain ⟨hs1, h⟩ := h
  refine pw_getI (c := 6) (k := 2) (f := 386) dc_Message_writeOn_49 fl_Message_43 rfl rfl hs1 ?_
  refine pw_icmp_ge (tgt := 78) dc_Message_writeOn_52 (by decide) (fun hc => ?_) (fun hc => ?_)
  · have h := ite_t h hc
    refine pw_aload_n dc_Message_writeOn_78 rfl rfl ?_
    refine pw_bipush (v := 10) dc_Message_writeOn_79 (by decide) ?_
    obtain ⟨hs2, h⟩ := h
    refine pw_callV (vs := [.int 10]) (st := []) (b := x1) (cn := 3) dc_Message_writeOn_81 cq_Text_add (List.mem_of_getElem? (i := 527) (by decide +kernel)) (List.mem_of_getElem? (i := 528) (by decide +kernel)) (List.mem_of_getElem? (i := 798) (by decide +kernel)) rfl hs2 rfl rfl (by decide) (cat_cons rfl (cat_nil)) (Nat.le_of_ble_eq_true rfl) (PW.mono (kV_kN (fun σ1 h => ?_)) h)
    refine pw_aload_n dc_Message_writeOn_84 rfl rfl ?_
    refine pw_aload_n dc_Message_writeOn_85 rfl rfl ?_
    obtain ⟨hs3, h⟩ := h
    refine pw_getR (c := 6) (k := 3) (f := 387) dc_Message_writeOn_86 fl_Message_20 rfl rfl hs3 ?_
    obtain ⟨b1, hb1, h⟩ := h
    refine PW.top (v' := .ref b1) (congrArg va_rf hb1) ?_
    refine pw_iconst (v := 0) dc_Message_writeOn_89 (by decide) ?_
    obtain ⟨hs4, h⟩ := h
    refine pw_callV (vs := [.ref b1, .int 0]) (st := []) (b := x1) (cn := 3) dc_Message_writeOn_90 cq_Text_addFrom (List.mem_of_getElem? (i := 668) (by decide +kernel)) (List.mem_of_getElem? (i := 669) (by decide +kernel)) (List.mem_of_getElem? (i := 667) (by decide +kernel)) rfl hs4 rfl rfl (by decide) (cat_cons rfl (cat_cons rfl (cat_nil))) (Nat.le_of_ble_eq_true rfl) (PW.mono (kV_kN (fun σ2 h => ?_)) h)
    refine pw_aload_n dc_Message_writeOn_93 rfl rfl ?_
    obtain ⟨hs5, h⟩ := h
    refine pw_getR (c := 6) (k := 3) (f := 387) dc_Message_writeOn_94 fl_Message_20 rfl rfl hs5 ?_
    obtain ⟨b2, hb2, h⟩ := h
    refine PW.top (v' := .ref b2) (congrArg va_rf hb2) ?_
    obtain ⟨hs6, h⟩ := h
    refine pw_getI (c := 3) (k := 1) (f := 193) dc_Message_writeOn_97 fl_Message_66 rfl rfl hs6 ?_
    refine pw_if_le (tgt := 130) dc_Message_writeOn_100 (by decide) (fun hc => ?_) (fun hc => ?_)
    · have h := ite_t h hc
      refine PW.drop (ls' := [uu, .ref x1, uu, uu, uu]) ⟨Or.inr rfl, Or.inl rfl, Or.inl rfl, Or.inl rfl, Or.inr rfl, trivial⟩ ?_
      exact h
    · have h := ite_f h hc
      refine pw_aload_n dc_Message_writeOn_103 rfl rfl ?_
      refine pw_getR (c := 6) (k := 3) (f := 387) dc_Message_writeOn_104 fl_Message_20 rfl rfl hs5 ?_
      refine PW.top (v' := .ref b2) (congrArg va_rf hb2) ?_
      refine pw_aload_n dc_Message_writeOn_107 rfl rfl ?_
      refine pw_getR (c := 6) (k := 3) (f := 387) dc_Message_writeOn_108 fl_Message_20 rfl rfl hs5 ?_
      refine PW.top (v' := .ref b2) (congrArg va_rf hb2) ?_
      refine pw_getI (c := 3) (k := 1) (f := 193) dc_Message_writeOn_111 fl_Message_66 rfl rfl hs6 ?_
      refine pw_iconst (v := 1) dc_Message_writeOn_114 (by decide) ?_
      refine pw_isub dc_Message_writeOn_115 ?_
      refine pw_callV (vs := [.int ((gI σ2 193 b2) - 1)]) (st := []) (b := b2) (cn := 3) dc_Message_writeOn_116 cq_Text_at (List.mem_of_getElem? (i := 563) (by decide +kernel)) (List.mem_of_getElem? (i := 564) (by decide +kernel)) (List.mem_of_getElem? (i := 806) (by decide +kernel)) rfl hs6 rfl rfl (by decide) (cat_cons rfl (cat_nil)) (Nat.le_of_ble_eq_true rfl) (PW.mono (kI_kN (fun r1 σ3 h => ?_)) h)
      refine pw_bipush (v := 10) dc_Message_writeOn_119 (by decide) ?_
      refine pw_icmp_eq (tgt := 130) dc_Message_writeOn_121 (by decide) (fun hc => ?_) (fun hc => ?_)
      · have h := ite_t h hc
        refine PW.drop (ls' := [uu, .ref x1, uu, uu, uu]) ⟨Or.inr rfl, Or.inl rfl, Or.inl rfl, Or.inl rfl, Or.inr rfl, trivial⟩ ?_
        exact h
      · have h := ite_f h hc
        refine pw_aload_n dc_Message_writeOn_124 rfl rfl ?_
        refine pw_bipush (v := 10) dc_Message_writeOn_125 (by decide) ?_
        obtain ⟨hs7, h⟩ := h
        refine pw_callV (vs := [.int 10]) (st := []) (b := x1) (cn := 3) dc_Message_writeOn_127 cq_Text_add (List.mem_of_getElem? (i := 527) (by decide +kernel)) (List.mem_of_getElem? (i := 528) (by decide +kernel)) (List.mem_of_getElem? (i := 798) (by decide +kernel)) rfl hs7 rfl rfl (by decide) (cat_cons rfl (cat_nil)) (Nat.le_of_ble_eq_true rfl) (PW.mono (kV_kN (fun σ4 h => ?_)) h)
        refine PW.drop (ls' := [uu, .ref x1, uu, uu, uu]) ⟨Or.inr rfl, Or.inl rfl, Or.inl rfl, Or.inl rfl, Or.inr rfl, trivial⟩ ?_
        exact h
  · have h := ite_f h hc
    refine pw_aload_n dc_Message_writeOn_55 rfl rfl ?_
    refine pw_bipush (v := 32) dc_Message_writeOn_56 (by decide) ?_
    obtain ⟨hs8, h⟩ := h
    refine pw_callV (vs := [.int 32]) (st := []) (b := x1) (cn := 3) dc_Message_writeOn_58 cq_Text_add (List.mem_of_getElem? (i := 527) (by decide +kernel)) (List.mem_of_getElem? (i := 528) (by decide +kernel)) (List.mem_of_getElem? (i := 798) (by decide +kernel)) rfl hs8 rfl rfl (by decide) (cat_cons rfl (cat_nil)) (Nat.le_of_ble_eq_true rfl) (PW.mono (kV_kN (fun σ5 h => ?_)) h)
    refine pw_aload_n dc_Message_writeOn_61 rfl rfl ?_
    refine pw_aload_n dc_Message_writeOn_62 rfl rfl ?_
    obtain ⟨hs9, h⟩ := h
    refine pw_getR (c := 6) (k := 1) (f := 385) dc_Message_writeOn_63 fl_Message_9 rfl rfl hs9 ?_
    obtain ⟨b3, hb3, h⟩ := h
    refine PW.top (v' := .ref b3) (congrArg va_rf hb3) ?_
    refine pw_iload dc_Message_writeOn_66 rfl ?_
    obtain ⟨n1, hs10, h⟩ := h
    obtain ⟨hi1, h⟩ := h
    refine pw_iald dc_Message_writeOn_68 hs10 hi1 ?_
    obtain ⟨hs11, h⟩ := h
    refine pw_callV (vs := [.int (eI σ5 b3 (ix x4))]) (st := []) (b := x1) (cn := 3) dc_Message_writeOn_69 cq_Text_addIndicator (List.mem_of_getElem? (i := 800) (by decide +kernel)) (List.mem_of_getElem? (i := 801) (by decide +kernel)) (List.mem_of_getElem? (i := 799) (by decide +kernel)) rfl hs11 rfl rfl (by decide) (cat_cons rfl (cat_nil)) (Nat.le_of_ble_eq_true rfl) (PW.mono (kV_kN (fun σ6 h => ?_)) h)
    refine pw_iincv (v := 1) dc_Message_writeOn_72 (by decide) rfl (by decide) ?_
    refine pw_goto (tgt := 46) dc_Message_writeOn_75 (by decide) ?_
    exact h
set_option maxRecDepth 20000 in
theorem e_Message_writeOn_130 {d : Nat} {σ : PH} {K : PO → PH → Prop} (x1 : Nat) (h : PW (d + 1) M_Message_writeOn 133 [uu, .ref x1, uu, uu, .int 0] [] σ K) : PW (d + 1) M_Message_writeOn 130 [uu, .ref x1, uu, uu, uu] [] σ K := by
  refine pw_iconst (v := 0) dc_Message_writeOn_130 (by decide) ?_
  refine pw_istore dc_Message_writeOn_131 (by decide) ?_
  exact h
set_option maxRecDepth 20000 in
theorem e_Message_writeOn_133 {d : Nat} {σ : PH} {K : PO → PH → Prop} (x1 : Nat) (x4 : Int32) (h : (if 4 ≤ x4 then sh σ x1 = (1, 3) ∧ PW d M_Text_add 0 [.ref x1, .int 10] [] σ (kV (fun σ1 => K (.inl none) σ1) K) else sh σ x1 = (1, 3) ∧ PW d M_Text_add 0 [.ref x1, .int 78] [] σ (kV (fun σ2 => PW (d + 1) M_Message_writeOn 133 [uu, .ref x1, uu, uu, .int (x4 + 1)] [] σ2 K) K))) : PW (d + 1) M_Message_writeOn 133 [uu, .ref x1, uu, uu, .int x4] [] σ K := by
  refine pw_iload dc_Message_writeOn_133 rfl ?_
  refine pw_iconst (v := 4) dc_Message_writeOn_135 (by decide) ?_
  refine pw_icmp_ge (tgt := 151) dc_Message_writeOn_136 (by decide) (fun hc => ?_) (fun hc => ?_)
  · have h := ite_t h hc
    refine pw_aload_n dc_Message_writeOn_151 rfl rfl ?_
    refine pw_bipush (v := 10) dc_Message_writeOn_152 (by decide) ?_
    obtain ⟨hs1, h⟩ := h
    refine pw_callV (vs := [.int 10]) (st := []) (b := x1) (cn := 3) dc_Message_writeOn_154 cq_Text_add (List.mem_of_getElem? (i := 527) (by decide +kernel)) (List.mem_of_getElem? (i := 528) (by decide +kernel)) (List.mem_of_getElem? (i := 798) (by decide +kernel)) rfl hs1 rfl rfl (by decide) (cat_cons rfl (cat_nil)) (Nat.le_of_ble_eq_true rfl) (PW.mono (kV_kN (fun σ1 h => ?_)) h)
    exact pw_vret dc_Message_writeOn_157 rfl h
  · have h := ite_f h hc
    refine pw_aload_n dc_Message_writeOn_139 rfl rfl ?_
    refine pw_bipush (v := 78) dc_Message_writeOn_140 (by decide) ?_
    obtain ⟨hs2, h⟩ := h
    refine pw_callV (vs := [.int 78]) (st := []) (b := x1) (cn := 3) dc_Message_writeOn_142 cq_Text_add (List.mem_of_getElem? (i := 527) (by decide +kernel)) (List.mem_of_getElem? (i := 528) (by decide +kernel)) (List.mem_of_getElem? (i := 798) (by decide +kernel)) rfl hs2 rfl rfl (by decide) (cat_cons rfl (cat_nil)) (Nat.le_of_ble_eq_true rfl) (PW.mono (kV_kN (fun σ2 h => ?_)) h)
    refine pw_iincv (v := 1) dc_Message_writeOn_145 (by decide) rfl (by decide) ?_
    refine pw_goto (tgt := 133) dc_Message_writeOn_148 (by decide) ?_
    exact h
theorem dc_Outlet_init_0 : decode M_Outlet_init.2.1 0 = .ok (.aload_n 0, 1) := by decide +kernel
theorem dc_Outlet_init_1 : decode M_Outlet_init.2.1 1 = .ok (.invokespecial 3, 3) := by decide +kernel
theorem dc_Outlet_init_4 : decode M_Outlet_init.2.1 4 = .ok (.aload_n 0, 1) := by decide +kernel
theorem dc_Outlet_init_5 : decode M_Outlet_init.2.1 5 = .ok (.new 9, 3) := by decide +kernel
theorem dc_Outlet_init_8 : decode M_Outlet_init.2.1 8 = .ok (.dup, 1) := by decide +kernel
theorem dc_Outlet_init_9 : decode M_Outlet_init.2.1 9 = .ok (.bipush 68, 2) := by decide +kernel
theorem dc_Outlet_init_11 : decode M_Outlet_init.2.1 11 = .ok (.invokespecial 11, 3) := by decide +kernel
theorem dc_Outlet_init_14 : decode M_Outlet_init.2.1 14 = .ok (.putfield 14, 3) := by decide +kernel
theorem dc_Outlet_init_17 : decode M_Outlet_init.2.1 17 = .ok (.aload_n 0, 1) := by decide +kernel
theorem dc_Outlet_init_18 : decode M_Outlet_init.2.1 18 = .ok (.iconst 3, 1) := by decide +kernel
theorem dc_Outlet_init_19 : decode M_Outlet_init.2.1 19 = .ok (.anewarray 20, 3) := by decide +kernel
theorem dc_Outlet_init_22 : decode M_Outlet_init.2.1 22 = .ok (.putfield 22, 3) := by decide +kernel
theorem dc_Outlet_init_25 : decode M_Outlet_init.2.1 25 = .ok (.aload_n 0, 1) := by decide +kernel
theorem dc_Outlet_init_26 : decode M_Outlet_init.2.1 26 = .ok (.iconst 3, 1) := by decide +kernel
theorem dc_Outlet_init_27 : decode M_Outlet_init.2.1 27 = .ok (.anewarray 20, 3) := by decide +kernel
theorem dc_Outlet_init_30 : decode M_Outlet_init.2.1 30 = .ok (.putfield 26, 3) := by decide +kernel
theorem dc_Outlet_init_33 : decode M_Outlet_init.2.1 33 = .ok (.aload_n 0, 1) := by decide +kernel
theorem dc_Outlet_init_34 : decode M_Outlet_init.2.1 34 = .ok (.iload_n 1, 1) := by decide +kernel
theorem dc_Outlet_init_35 : decode M_Outlet_init.2.1 35 = .ok (.putfield 29, 3) := by decide +kernel
theorem dc_Outlet_init_38 : decode M_Outlet_init.2.1 38 = .ok (.return_, 1) := by decide +kernel
set_option maxRecDepth 20000 in
theorem e_Outlet_init_0 {d : Nat} {σ : PH} {K : PO → PH → Prop} (x0 : Nat) (x1 : Int32) (h : cc σ + 1 ≤ 601024 ∧ cs σ + 2 ≤ 7293034 ∧ (∀ σ1 : PH, σ1 = mk σ (1, 3) 2 → PW d M_Text_init 0 [.ref (nx σ), .int 68] [] σ1 (kV (fun σ2 => sh σ2 x0 = (1, 5) ∧ (∀ σ3 : PH, σ3 = pR σ2 321 x0 (some (nx σ)) → cc σ3 + 1 ≤ 601024 ∧ cs σ3 + 3 ≤ 7293034 ∧ (∀ σ4 : PH, σ4 = mk σ3 (7, 3) 3 → sh σ4 x0 = (1, 5) ∧ (∀ σ5 : PH, σ5 = pR σ4 328 x0 (some (nx σ3)) → cc σ5 + 1 ≤ 601024 ∧ cs σ5 + 3 ≤ 7293034 ∧ (∀ σ6 : PH, σ6 = mk σ5 (7, 3) 3 → sh σ6 x0 = (1, 5) ∧ (∀ σ7 : PH, σ7 = pR σ6 330 x0 (some (nx σ5)) → sh σ7 x0 = (1, 5) ∧ (∀ σ8 : PH, σ8 = pI σ7 320 x0 x1 → K (.inl none) σ8))))))) K))) : PW (d + 1) M_Outlet_init 0 [.ref x0, .int x1] [] σ K := by
  refine pw_aload_n dc_Outlet_init_0 rfl rfl ?_
  refine pw_objInit dc_Outlet_init_1 (List.mem_of_getElem? (i := 241) (by decide +kernel)) (List.mem_of_getElem? (i := 91) (by decide +kernel)) (List.mem_of_getElem? (i := 92) (by decide +kernel)) (Nat.le_of_ble_eq_true rfl) ?_
  refine pw_aload_n dc_Outlet_init_4 rfl rfl ?_
  obtain ⟨hr1, hr2, h⟩ := h
  have h := h _ rfl
  refine pw_new (c := 3) dc_Outlet_init_5 (by decide) (List.mem_of_getElem? (i := 242) (by decide +kernel)) rfl hr1 hr2 ?_
  refine pw_dup dc_Outlet_init_8 rfl ?_
  refine pw_bipush (v := 68) dc_Outlet_init_9 (by decide) ?_
  refine pw_callI (vs := [.int 68]) (st := [.ref (nx σ), .ref x0]) (b := (nx σ)) dc_Outlet_init_11 cq_Text_init rfl rfl (List.mem_of_getElem? (i := 190) (by decide +kernel)) (List.mem_of_getElem? (i := 189) (by decide +kernel)) (Or.inl (List.mem_of_getElem? (i := 243) (by decide +kernel))) rfl rfl (by decide) (cat_cons rfl (cat_nil)) (Nat.le_of_ble_eq_true rfl) (PW.mono (kV_kN (fun σ2 h => ?_)) h)
  obtain ⟨hs1, h⟩ := h
  have h := h _ rfl
  refine pw_putR (c := 5) (k := 1) (f := 321) (v := some (nx σ)) dc_Outlet_init_14 fl_Outlet_14 (Or.inr ⟨rfl, rfl, rfl, List.mem_of_getElem? (i := 246) (by decide +kernel)⟩) rfl rfl hs1 ?_
  refine pw_aload_n dc_Outlet_init_17 rfl rfl ?_
  refine pw_iconst (v := 3) dc_Outlet_init_18 (by decide) ?_
  refine PW.top (v' := .int (nI 3)) rfl ?_
  obtain ⟨hr3, hr4, h⟩ := h
  have h := h _ rfl
  refine pw_anew (k := 7) (N := 3) dc_Outlet_init_19 (by unfold rk; decide) (List.mem_of_getElem? (i := 244) (by decide +kernel)) (List.mem_of_getElem? (i := 96) (by decide +kernel)) (by decide) hr3 hr4 ?_
  obtain ⟨hs2, h⟩ := h
  have h := h _ rfl
  refine pw_putR (c := 5) (k := 8) (f := 328) (v := some _) dc_Outlet_init_22 fl_Outlet_22 (Or.inr ⟨rfl, rfl, rfl, List.mem_of_getElem? (i := 253) (by decide +kernel)⟩) rfl rfl hs2 ?_
  refine pw_aload_n dc_Outlet_init_25 rfl rfl ?_
  refine pw_iconst (v := 3) dc_Outlet_init_26 (by decide) ?_
  refine PW.top (v' := .int (nI 3)) rfl ?_
  obtain ⟨hr5, hr6, h⟩ := h
  have h := h _ rfl
  refine pw_anew (k := 7) (N := 3) dc_Outlet_init_27 (by unfold rk; decide) (List.mem_of_getElem? (i := 244) (by decide +kernel)) (List.mem_of_getElem? (i := 96) (by decide +kernel)) (by decide) hr5 hr6 ?_
  obtain ⟨hs3, h⟩ := h
  have h := h _ rfl
  refine pw_putR (c := 5) (k := 10) (f := 330) (v := some _) dc_Outlet_init_30 fl_Outlet_26 (Or.inr ⟨rfl, rfl, rfl, List.mem_of_getElem? (i := 256) (by decide +kernel)⟩) rfl rfl hs3 ?_
  refine pw_aload_n dc_Outlet_init_33 rfl rfl ?_
  refine pw_iload_n dc_Outlet_init_34 rfl ?_
  obtain ⟨hs4, h⟩ := h
  have h := h _ rfl
  refine pw_putI (c := 5) (k := 0) (f := 320) dc_Outlet_init_35 fl_Outlet_29 (Or.inr ⟨rfl, rfl, rfl, List.mem_of_getElem? (i := 245) (by decide +kernel)⟩) rfl rfl hs4 ?_
  exact pw_vret dc_Outlet_init_38 rfl h
theorem dc_Outlet_isIdle_0 : decode M_Outlet_isIdle.2.1 0 = .ok (.aload_n 0, 1) := by decide +kernel
theorem dc_Outlet_isIdle_1 : decode M_Outlet_isIdle.2.1 1 = .ok (.getfield 33, 3) := by decide +kernel
theorem dc_Outlet_isIdle_4 : decode M_Outlet_isIdle.2.1 4 = .ok (.ifnonnull 7, 3) := by decide +kernel
theorem dc_Outlet_isIdle_7 : decode M_Outlet_isIdle.2.1 7 = .ok (.iconst 1, 1) := by decide +kernel
theorem dc_Outlet_isIdle_8 : decode M_Outlet_isIdle.2.1 8 = .ok (.goto 4, 3) := by decide +kernel
theorem dc_Outlet_isIdle_11 : decode M_Outlet_isIdle.2.1 11 = .ok (.iconst 0, 1) := by decide +kernel
theorem dc_Outlet_isIdle_12 : decode M_Outlet_isIdle.2.1 12 = .ok (.ireturn, 1) := by decide +kernel
set_option maxRecDepth 20000 in
theorem e_Outlet_isIdle_0 {d : Nat} {σ : PH} {K : PO → PH → Prop} (x0 : Nat) (h : sh σ x0 = (1, 5) ∧ (if gR σ 324 x0 = none then K (.inl (some (.int 1))) σ else K (.inl (some (.int 0))) σ)) : PW d M_Outlet_isIdle 0 [.ref x0] [] σ K := by
  refine pw_aload_n dc_Outlet_isIdle_0 rfl rfl ?_
  obtain ⟨hs1, h⟩ := h
  refine pw_getR (c := 5) (k := 4) (f := 324) dc_Outlet_isIdle_1 fl_Outlet_33 rfl rfl hs1 ?_
  refine pw_ifnonnull (v := gR σ 324 x0) (tgt := 11) dc_Outlet_isIdle_4 (by decide) (fun hc => ?_) (fun hc => ?_)
  · have h := ite_f h hc
    refine pw_iconst (v := 0) dc_Outlet_isIdle_11 (by decide) ?_
    exact pw_iret dc_Outlet_isIdle_12 rfl (bo_nar (Or.inl rfl)) h
  · have h := ite_t h hc
    refine pw_iconst (v := 1) dc_Outlet_isIdle_7 (by decide) ?_
    refine pw_goto (tgt := 12) dc_Outlet_isIdle_8 (by decide) ?_
    exact pw_iret dc_Outlet_isIdle_12 rfl (bo_nar (Or.inr rfl)) h
theorem dc_Outlet_beginAnew_0 : decode M_Outlet_beginAnew.2.1 0 = .ok (.aload_n 0, 1) := by decide +kernel
theorem dc_Outlet_beginAnew_1 : decode M_Outlet_beginAnew.2.1 1 = .ok (.iconst 0, 1) := by decide +kernel
theorem dc_Outlet_beginAnew_2 : decode M_Outlet_beginAnew.2.1 2 = .ok (.putfield 37, 3) := by decide +kernel
theorem dc_Outlet_beginAnew_5 : decode M_Outlet_beginAnew.2.1 5 = .ok (.aload_n 0, 1) := by decide +kernel
theorem dc_Outlet_beginAnew_6 : decode M_Outlet_beginAnew.2.1 6 = .ok (.iconst 0, 1) := by decide +kernel
theorem dc_Outlet_beginAnew_7 : decode M_Outlet_beginAnew.2.1 7 = .ok (.putfield 40, 3) := by decide +kernel
theorem dc_Outlet_beginAnew_10 : decode M_Outlet_beginAnew.2.1 10 = .ok (.return_, 1) := by decide +kernel
set_option maxRecDepth 20000 in
theorem e_Outlet_beginAnew_0 {d : Nat} {σ : PH} {K : PO → PH → Prop} (x0 : Nat) (h : sh σ x0 = (1, 5) ∧ (∀ σ1 : PH, σ1 = pI σ 322 x0 0 → sh σ1 x0 = (1, 5) ∧ (∀ σ2 : PH, σ2 = pI σ1 323 x0 0 → K (.inl none) σ2))) : PW d M_Outlet_beginAnew 0 [.ref x0] [] σ K := by
  refine pw_aload_n dc_Outlet_beginAnew_0 rfl rfl ?_
  refine pw_iconst (v := 0) dc_Outlet_beginAnew_1 (by decide) ?_
  obtain ⟨hs1, h⟩ := h
  have h := h _ rfl
  refine pw_putI (c := 5) (k := 2) (f := 322) dc_Outlet_beginAnew_2 fl_Outlet_37 (Or.inl rfl) rfl rfl hs1 ?_
  refine pw_aload_n dc_Outlet_beginAnew_5 rfl rfl ?_
  refine pw_iconst (v := 0) dc_Outlet_beginAnew_6 (by decide) ?_
  obtain ⟨hs2, h⟩ := h
  have h := h _ rfl
  refine pw_putZ (c := 5) (k := 3) (f := 323) dc_Outlet_beginAnew_7 fl_Outlet_40 (Or.inl rfl) rfl rfl hs2 (Or.inl rfl) ?_
  exact pw_vret dc_Outlet_beginAnew_10 rfl h
theorem dc_Outlet_asksAgain_0 : decode M_Outlet_asksAgain.2.1 0 = .ok (.iconst 0, 1) := by decide +kernel
theorem dc_Outlet_asksAgain_1 : decode M_Outlet_asksAgain.2.1 1 = .ok (.istore_n 2, 1) := by decide +kernel
theorem dc_Outlet_asksAgain_2 : decode M_Outlet_asksAgain.2.1 2 = .ok (.iload_n 2, 1) := by decide +kernel
theorem dc_Outlet_asksAgain_3 : decode M_Outlet_asksAgain.2.1 3 = .ok (.iconst 3, 1) := by decide +kernel
theorem dc_Outlet_asksAgain_4 : decode M_Outlet_asksAgain.2.1 4 = .ok (.if_icmp .ge 63, 3) := by decide +kernel
theorem dc_Outlet_asksAgain_7 : decode M_Outlet_asksAgain.2.1 7 = .ok (.aload_n 0, 1) := by decide +kernel
theorem dc_Outlet_asksAgain_8 : decode M_Outlet_asksAgain.2.1 8 = .ok (.getfield 26, 3) := by decide +kernel
theorem dc_Outlet_asksAgain_11 : decode M_Outlet_asksAgain.2.1 11 = .ok (.iload_n 2, 1) := by decide +kernel
theorem dc_Outlet_asksAgain_12 : decode M_Outlet_asksAgain.2.1 12 = .ok (.aaload, 1) := by decide +kernel
theorem dc_Outlet_asksAgain_13 : decode M_Outlet_asksAgain.2.1 13 = .ok (.astore_n 3, 1) := by decide +kernel
theorem dc_Outlet_asksAgain_14 : decode M_Outlet_asksAgain.2.1 14 = .ok (.aload_n 3, 1) := by decide +kernel
theorem dc_Outlet_asksAgain_15 : decode M_Outlet_asksAgain.2.1 15 = .ok (.ifnull 46, 3) := by decide +kernel
theorem dc_Outlet_asksAgain_18 : decode M_Outlet_asksAgain.2.1 18 = .ok (.aload_n 3, 1) := by decide +kernel
theorem dc_Outlet_asksAgain_19 : decode M_Outlet_asksAgain.2.1 19 = .ok (.getfield 44, 3) := by decide +kernel
theorem dc_Outlet_asksAgain_22 : decode M_Outlet_asksAgain.2.1 22 = .ok (.aload_n 0, 1) := by decide +kernel
theorem dc_Outlet_asksAgain_23 : decode M_Outlet_asksAgain.2.1 23 = .ok (.getfield 29, 3) := by decide +kernel
theorem dc_Outlet_asksAgain_26 : decode M_Outlet_asksAgain.2.1 26 = .ok (.iaload, 1) := by decide +kernel
theorem dc_Outlet_asksAgain_27 : decode M_Outlet_asksAgain.2.1 27 = .ok (.iload_n 1, 1) := by decide +kernel
theorem dc_Outlet_asksAgain_28 : decode M_Outlet_asksAgain.2.1 28 = .ok (.if_icmp .ne 33, 3) := by decide +kernel
theorem dc_Outlet_asksAgain_31 : decode M_Outlet_asksAgain.2.1 31 = .ok (.aload_n 0, 1) := by decide +kernel
theorem dc_Outlet_asksAgain_32 : decode M_Outlet_asksAgain.2.1 32 = .ok (.getfield 48, 3) := by decide +kernel
theorem dc_Outlet_asksAgain_35 : decode M_Outlet_asksAgain.2.1 35 = .ok (.iconst 3, 1) := by decide +kernel
theorem dc_Outlet_asksAgain_36 : decode M_Outlet_asksAgain.2.1 36 = .ok (.if_icmp .ge 25, 3) := by decide +kernel
theorem dc_Outlet_asksAgain_39 : decode M_Outlet_asksAgain.2.1 39 = .ok (.aload_n 0, 1) := by decide +kernel
theorem dc_Outlet_asksAgain_40 : decode M_Outlet_asksAgain.2.1 40 = .ok (.getfield 22, 3) := by decide +kernel
theorem dc_Outlet_asksAgain_43 : decode M_Outlet_asksAgain.2.1 43 = .ok (.aload_n 0, 1) := by decide +kernel
theorem dc_Outlet_asksAgain_44 : decode M_Outlet_asksAgain.2.1 44 = .ok (.getfield 48, 3) := by decide +kernel
theorem dc_Outlet_asksAgain_47 : decode M_Outlet_asksAgain.2.1 47 = .ok (.aload_n 3, 1) := by decide +kernel
theorem dc_Outlet_asksAgain_48 : decode M_Outlet_asksAgain.2.1 48 = .ok (.aastore, 1) := by decide +kernel
theorem dc_Outlet_asksAgain_49 : decode M_Outlet_asksAgain.2.1 49 = .ok (.aload_n 0, 1) := by decide +kernel
theorem dc_Outlet_asksAgain_50 : decode M_Outlet_asksAgain.2.1 50 = .ok (.dup, 1) := by decide +kernel
theorem dc_Outlet_asksAgain_51 : decode M_Outlet_asksAgain.2.1 51 = .ok (.getfield 48, 3) := by decide +kernel
theorem dc_Outlet_asksAgain_54 : decode M_Outlet_asksAgain.2.1 54 = .ok (.iconst 1, 1) := by decide +kernel
theorem dc_Outlet_asksAgain_55 : decode M_Outlet_asksAgain.2.1 55 = .ok (.iadd, 1) := by decide +kernel
theorem dc_Outlet_asksAgain_56 : decode M_Outlet_asksAgain.2.1 56 = .ok (.putfield 48, 3) := by decide +kernel
theorem dc_Outlet_asksAgain_59 : decode M_Outlet_asksAgain.2.1 59 = .ok (.iconst 1, 1) := by decide +kernel
theorem dc_Outlet_asksAgain_60 : decode M_Outlet_asksAgain.2.1 60 = .ok (.ireturn, 1) := by decide +kernel
theorem dc_Outlet_asksAgain_61 : decode M_Outlet_asksAgain.2.1 61 = .ok (.iinc 2 1, 3) := by decide +kernel
theorem dc_Outlet_asksAgain_64 : decode M_Outlet_asksAgain.2.1 64 = .ok (.goto (-62), 3) := by decide +kernel
theorem dc_Outlet_asksAgain_67 : decode M_Outlet_asksAgain.2.1 67 = .ok (.iconst 0, 1) := by decide +kernel
theorem dc_Outlet_asksAgain_68 : decode M_Outlet_asksAgain.2.1 68 = .ok (.ireturn, 1) := by decide +kernel
set_option maxRecDepth 20000 in
theorem e_Outlet_asksAgain_0 {d : Nat} {σ : PH} {K : PO → PH → Prop} (x0 : Nat) (x1 : Int32) (h : PW d M_Outlet_asksAgain 2 [.ref x0, .int x1, .int 0, uu] [] σ K) : PW d M_Outlet_asksAgain 0 [.ref x0, .int x1, uu, uu] [] σ K := by
  refine pw_iconst (v := 0) dc_Outlet_asksAgain_0 (by decide) ?_
  refine pw_istore_n dc_Outlet_asksAgain_1 (by decide) ?_
  exact h
set_option maxRecDepth 20000 in
theorem e_Outlet_asksAgain_2 {d : Nat} {σ : PH} {K : PO → PH → Prop} (x0 : Nat) (x1 : Int32) (x2 : Int32) (h : (if 3 ≤ x2 then K (.inl (some (.int 0))) σ else sh σ x0 = (1, 5) ∧ (∃ b1 : Nat, gR σ 330 x0 = some b1 ∧ (∃ n1 : Nat, sh σ b1 = (7, n1) ∧ vp_in x2 n1 ∧ (if eR σ b1 (ix x2) = none then PW d M_Outlet_asksAgain 61 [.ref x0, .int x1, .int x2, uu] [] σ K else (∃ b2 : Nat, eR σ b1 (ix x2) = some b2 ∧ sh σ b2 = (1, 6) ∧ (∃ b3 : Nat, gR σ 388 b2 = some b3 ∧ (∃ n2 : Nat, sh σ b3 = (2, n2) ∧ vp_in (gI σ 320 x0) n2 ∧ (if (eI σ b3 (ix (gI σ 320 x0))) = x1 then (if 3 ≤ (gI σ 329 x0) then PW d M_Outlet_asksAgain 61 [.ref x0, .int x1, .int x2, uu] [] σ K else (∃ b4 : Nat, gR σ 328 x0 = some b4 ∧ (∃ n3 : Nat, sh σ b4 = (7, n3) ∧ vp_in (gI σ 329 x0) n3 ∧ (∀ b : Nat, eR σ b1 (ix x2) = some b → sh σ b = (1, 6)) ∧ (∀ σ1 : PH, σ1 = uR σ b4 (ix (gI σ 329 x0)) (eR σ b1 (ix x2)) → sh σ1 x0 = (1, 5) ∧ (∀ σ2 : PH, σ2 = pI σ1 329 x0 ((gI σ1 329 x0) + 1) → K (.inl (some (.int 1))) σ2))))) else PW d M_Outlet_asksAgain 61 [.ref x0, .int x1, .int x2, uu] [] σ K))))))))) : PW d M_Outlet_asksAgain 2 [.ref x0, .int x1, .int x2, uu] [] σ K := by
  refine pw_iload_n dc_Outlet_asksAgain_2 rfl ?_
  refine pw_iconst (v := 3) dc_Outlet_asksAgain_3 (by decide) ?_
  refine pw_icmp_ge (tgt := 67) dc_Outlet_asksAgain_4 (by decide) (fun hc => ?_) (fun hc => ?_)
  · have h := ite_t h hc
    refine pw_iconst (v := 0) dc_Outlet_asksAgain_67 (by decide) ?_
    exact pw_iret dc_Outlet_asksAgain_68 rfl (bo_nar (Or.inl rfl)) h
  · have h := ite_f h hc
    refine pw_aload_n dc_Outlet_asksAgain_7 rfl rfl ?_
    obtain ⟨hs1, h⟩ := h
    refine pw_getR (c := 5) (k := 10) (f := 330) dc_Outlet_asksAgain_8 fl_Outlet_26 rfl rfl hs1 ?_
    obtain ⟨b1, hb1, h⟩ := h
    refine PW.top (v' := .ref b1) (congrArg va_rf hb1) ?_
    refine pw_iload_n dc_Outlet_asksAgain_11 rfl ?_
    obtain ⟨n1, hs2, h⟩ := h
    obtain ⟨hi1, h⟩ := h
    refine pw_aald (k := 7) dc_Outlet_asksAgain_12 (by unfold rk; decide) hs2 hi1 ?_
    refine pw_astore_n dc_Outlet_asksAgain_13 (by decide) (va_rf_ref _) ?_
    refine pw_aload_n dc_Outlet_asksAgain_14 rfl (va_rf_ref _) ?_
    refine pw_ifnull (v := eR σ b1 (ix x2)) (tgt := 61) dc_Outlet_asksAgain_15 (by decide) (fun hc => ?_) (fun hc => ?_)
    · have h := ite_t h hc
      refine PW.drop (ls' := [.ref x0, .int x1, .int x2, uu]) ⟨Or.inl rfl, Or.inl rfl, Or.inl rfl, Or.inr rfl, trivial⟩ ?_
      exact h
    · have h := ite_f h hc
      refine pw_aload_n dc_Outlet_asksAgain_18 rfl (va_rf_ref _) ?_
      obtain ⟨b2, hb2, h⟩ := h
      refine PW.top (v' := .ref b2) (congrArg va_rf hb2) ?_
      obtain ⟨hs3, h⟩ := h
      refine pw_getR (c := 6) (k := 4) (f := 388) dc_Outlet_asksAgain_19 fl_Outlet_44 rfl rfl hs3 ?_
      obtain ⟨b3, hb3, h⟩ := h
      refine PW.top (v' := .ref b3) (congrArg va_rf hb3) ?_
      refine pw_aload_n dc_Outlet_asksAgain_22 rfl rfl ?_
      refine pw_getI (c := 5) (k := 0) (f := 320) dc_Outlet_asksAgain_23 fl_Outlet_29 rfl rfl hs1 ?_
      obtain ⟨n2, hs4, h⟩ := h
      obtain ⟨hi2, h⟩ := h
      refine pw_iald dc_Outlet_asksAgain_26 hs4 hi2 ?_
      refine pw_iload_n dc_Outlet_asksAgain_27 rfl ?_
      refine pw_icmp_ne (tgt := 61) dc_Outlet_asksAgain_28 (by decide) (fun hc => ?_) (fun hc => ?_)
      · have h := ite_f h hc
        refine PW.drop (ls' := [.ref x0, .int x1, .int x2, uu]) ⟨Or.inl rfl, Or.inl rfl, Or.inl rfl, Or.inr rfl, trivial⟩ ?_
        exact h
      · have h := ite_t h hc
        refine pw_aload_n dc_Outlet_asksAgain_31 rfl rfl ?_
        refine pw_getI (c := 5) (k := 9) (f := 329) dc_Outlet_asksAgain_32 fl_Outlet_48 rfl rfl hs1 ?_
        refine pw_iconst (v := 3) dc_Outlet_asksAgain_35 (by decide) ?_
        refine pw_icmp_ge (tgt := 61) dc_Outlet_asksAgain_36 (by decide) (fun hc => ?_) (fun hc => ?_)
        · have h := ite_t h hc
          refine PW.drop (ls' := [.ref x0, .int x1, .int x2, uu]) ⟨Or.inl rfl, Or.inl rfl, Or.inl rfl, Or.inr rfl, trivial⟩ ?_
          exact h
        · have h := ite_f h hc
          refine pw_aload_n dc_Outlet_asksAgain_39 rfl rfl ?_
          refine pw_getR (c := 5) (k := 8) (f := 328) dc_Outlet_asksAgain_40 fl_Outlet_22 rfl rfl hs1 ?_
          obtain ⟨b4, hb4, h⟩ := h
          refine PW.top (v' := .ref b4) (congrArg va_rf hb4) ?_
          refine pw_aload_n dc_Outlet_asksAgain_43 rfl rfl ?_
          refine pw_getI (c := 5) (k := 9) (f := 329) dc_Outlet_asksAgain_44 fl_Outlet_48 rfl rfl hs1 ?_
          refine pw_aload_n dc_Outlet_asksAgain_47 rfl (va_rf_ref _) ?_
          obtain ⟨n3, hs5, h⟩ := h
          obtain ⟨hi3, h⟩ := h
          obtain ⟨hv1, h⟩ := h
          have h := h _ rfl
          refine pw_aast (k := 7) (v := eR σ b1 (ix x2)) dc_Outlet_asksAgain_48 (by unfold rk; decide) hs5 hi3 hv1 ?_
          refine pw_aload_n dc_Outlet_asksAgain_49 rfl rfl ?_
          refine pw_dup dc_Outlet_asksAgain_50 rfl ?_
          obtain ⟨hs6, h⟩ := h
          refine pw_getI (c := 5) (k := 9) (f := 329) dc_Outlet_asksAgain_51 fl_Outlet_48 rfl rfl hs6 ?_
          refine pw_iconst (v := 1) dc_Outlet_asksAgain_54 (by decide) ?_
          refine pw_iadd dc_Outlet_asksAgain_55 ?_
          have h := h _ rfl
          refine pw_putI (c := 5) (k := 9) (f := 329) dc_Outlet_asksAgain_56 fl_Outlet_48 (Or.inl rfl) rfl rfl hs6 ?_
          refine pw_iconst (v := 1) dc_Outlet_asksAgain_59 (by decide) ?_
          exact pw_iret dc_Outlet_asksAgain_60 rfl (bo_nar (Or.inr rfl)) h
set_option maxRecDepth 20000 in
theorem e_Outlet_asksAgain_61 {d : Nat} {σ : PH} {K : PO → PH → Prop} (x0 : Nat) (x1 : Int32) (x2 : Int32) (h : PW d M_Outlet_asksAgain 2 [.ref x0, .int x1, .int (x2 + 1), uu] [] σ K) : PW d M_Outlet_asksAgain 61 [.ref x0, .int x1, .int x2, uu] [] σ K := by
  refine pw_iincv (v := 1) dc_Outlet_asksAgain_61 (by decide) rfl (by decide) ?_
  refine pw_goto (tgt := 2) dc_Outlet_asksAgain_64 (by decide) ?_
  exact h
theorem dc_Outlet_startsAsked_0 : decode M_Outlet_startsAsked.2.1 0 = .ok (.aload_n 0, 1) := by decide +kernel
theorem dc_Outlet_startsAsked_1 : decode M_Outlet_startsAsked.2.1 1 = .ok (.getfield 22, 3) := by decide +kernel
theorem dc_Outlet_startsAsked_4 : decode M_Outlet_startsAsked.2.1 4 = .ok (.iconst 0, 1) := by decide +kernel
theorem dc_Outlet_startsAsked_5 : decode M_Outlet_startsAsked.2.1 5 = .ok (.aaload, 1) := by decide +kernel
theorem dc_Outlet_startsAsked_6 : decode M_Outlet_startsAsked.2.1 6 = .ok (.astore_n 1, 1) := by decide +kernel
theorem dc_Outlet_startsAsked_7 : decode M_Outlet_startsAsked.2.1 7 = .ok (.aload_n 0, 1) := by decide +kernel
theorem dc_Outlet_startsAsked_8 : decode M_Outlet_startsAsked.2.1 8 = .ok (.getfield 48, 3) := by decide +kernel
theorem dc_Outlet_startsAsked_11 : decode M_Outlet_startsAsked.2.1 11 = .ok (.ifCond .eq 7, 3) := by decide +kernel
theorem dc_Outlet_startsAsked_14 : decode M_Outlet_startsAsked.2.1 14 = .ok (.aload_n 1, 1) := by decide +kernel
theorem dc_Outlet_startsAsked_15 : decode M_Outlet_startsAsked.2.1 15 = .ok (.ifnonnull 5, 3) := by decide +kernel
theorem dc_Outlet_startsAsked_18 : decode M_Outlet_startsAsked.2.1 18 = .ok (.iconst 0, 1) := by decide +kernel
theorem dc_Outlet_startsAsked_19 : decode M_Outlet_startsAsked.2.1 19 = .ok (.ireturn, 1) := by decide +kernel
theorem dc_Outlet_startsAsked_20 : decode M_Outlet_startsAsked.2.1 20 = .ok (.aload_n 0, 1) := by decide +kernel
theorem dc_Outlet_startsAsked_21 : decode M_Outlet_startsAsked.2.1 21 = .ok (.dup, 1) := by decide +kernel
theorem dc_Outlet_startsAsked_22 : decode M_Outlet_startsAsked.2.1 22 = .ok (.getfield 48, 3) := by decide +kernel
theorem dc_Outlet_startsAsked_25 : decode M_Outlet_startsAsked.2.1 25 = .ok (.iconst 1, 1) := by decide +kernel
theorem dc_Outlet_startsAsked_26 : decode M_Outlet_startsAsked.2.1 26 = .ok (.isub, 1) := by decide +kernel
theorem dc_Outlet_startsAsked_27 : decode M_Outlet_startsAsked.2.1 27 = .ok (.putfield 48, 3) := by decide +kernel
theorem dc_Outlet_startsAsked_30 : decode M_Outlet_startsAsked.2.1 30 = .ok (.iconst 0, 1) := by decide +kernel
theorem dc_Outlet_startsAsked_31 : decode M_Outlet_startsAsked.2.1 31 = .ok (.istore_n 2, 1) := by decide +kernel
theorem dc_Outlet_startsAsked_32 : decode M_Outlet_startsAsked.2.1 32 = .ok (.iload_n 2, 1) := by decide +kernel
theorem dc_Outlet_startsAsked_33 : decode M_Outlet_startsAsked.2.1 33 = .ok (.aload_n 0, 1) := by decide +kernel
theorem dc_Outlet_startsAsked_34 : decode M_Outlet_startsAsked.2.1 34 = .ok (.getfield 48, 3) := by decide +kernel
theorem dc_Outlet_startsAsked_37 : decode M_Outlet_startsAsked.2.1 37 = .ok (.if_icmp .ge 23, 3) := by decide +kernel
theorem dc_Outlet_startsAsked_40 : decode M_Outlet_startsAsked.2.1 40 = .ok (.aload_n 0, 1) := by decide +kernel
theorem dc_Outlet_startsAsked_41 : decode M_Outlet_startsAsked.2.1 41 = .ok (.getfield 22, 3) := by decide +kernel
theorem dc_Outlet_startsAsked_44 : decode M_Outlet_startsAsked.2.1 44 = .ok (.iload_n 2, 1) := by decide +kernel
theorem dc_Outlet_startsAsked_45 : decode M_Outlet_startsAsked.2.1 45 = .ok (.aload_n 0, 1) := by decide +kernel
theorem dc_Outlet_startsAsked_46 : decode M_Outlet_startsAsked.2.1 46 = .ok (.getfield 22, 3) := by decide +kernel
theorem dc_Outlet_startsAsked_49 : decode M_Outlet_startsAsked.2.1 49 = .ok (.iload_n 2, 1) := by decide +kernel
theorem dc_Outlet_startsAsked_50 : decode M_Outlet_startsAsked.2.1 50 = .ok (.iconst 1, 1) := by decide +kernel
theorem dc_Outlet_startsAsked_51 : decode M_Outlet_startsAsked.2.1 51 = .ok (.iadd, 1) := by decide +kernel
theorem dc_Outlet_startsAsked_52 : decode M_Outlet_startsAsked.2.1 52 = .ok (.aaload, 1) := by decide +kernel
theorem dc_Outlet_startsAsked_53 : decode M_Outlet_startsAsked.2.1 53 = .ok (.aastore, 1) := by decide +kernel
theorem dc_Outlet_startsAsked_54 : decode M_Outlet_startsAsked.2.1 54 = .ok (.iinc 2 1, 3) := by decide +kernel
theorem dc_Outlet_startsAsked_57 : decode M_Outlet_startsAsked.2.1 57 = .ok (.goto (-25), 3) := by decide +kernel
theorem dc_Outlet_startsAsked_60 : decode M_Outlet_startsAsked.2.1 60 = .ok (.aload_n 0, 1) := by decide +kernel
theorem dc_Outlet_startsAsked_61 : decode M_Outlet_startsAsked.2.1 61 = .ok (.aload_n 1, 1) := by decide +kernel
theorem dc_Outlet_startsAsked_62 : decode M_Outlet_startsAsked.2.1 62 = .ok (.aload_n 1, 1) := by decide +kernel
theorem dc_Outlet_startsAsked_63 : decode M_Outlet_startsAsked.2.1 63 = .ok (.getfield 44, 3) := by decide +kernel
theorem dc_Outlet_startsAsked_66 : decode M_Outlet_startsAsked.2.1 66 = .ok (.aload_n 0, 1) := by decide +kernel
theorem dc_Outlet_startsAsked_67 : decode M_Outlet_startsAsked.2.1 67 = .ok (.getfield 29, 3) := by decide +kernel
theorem dc_Outlet_startsAsked_70 : decode M_Outlet_startsAsked.2.1 70 = .ok (.iaload, 1) := by decide +kernel
theorem dc_Outlet_startsAsked_71 : decode M_Outlet_startsAsked.2.1 71 = .ok (.iconst 1, 1) := by decide +kernel
theorem dc_Outlet_startsAsked_72 : decode M_Outlet_startsAsked.2.1 72 = .ok (.invokevirtual 51, 3) := by decide +kernel
theorem dc_Outlet_startsAsked_75 : decode M_Outlet_startsAsked.2.1 75 = .ok (.iconst 1, 1) := by decide +kernel
theorem dc_Outlet_startsAsked_76 : decode M_Outlet_startsAsked.2.1 76 = .ok (.ireturn, 1) := by decide +kernel
set_option maxRecDepth 20000 in
theorem e_Outlet_startsAsked_0 {d : Nat} {σ : PH} {K : PO → PH → Prop} (x0 : Nat) (h : sh σ x0 = (1, 5) ∧ (∃ b1 : Nat, gR σ 328 x0 = some b1 ∧ (∃ n1 : Nat, sh σ b1 = (7, n1) ∧ vp_in 0 n1 ∧ (if (gI σ 329 x0) = 0 then K (.inl (some (.int 0))) σ else (if eR σ b1 (ix 0) = none then K (.inl (some (.int 0))) σ else (∀ σ1 : PH, σ1 = pI σ 329 x0 ((gI σ 329 x0) - 1) → PW (d + 1) M_Outlet_startsAsked 32 [.ref x0, va_rf (eR σ b1 (ix 0)), .int 0] [] σ1 K)))))) : PW (d + 1) M_Outlet_startsAsked 0 [.ref x0, uu, uu] [] σ K := by
  refine pw_aload_n dc_Outlet_startsAsked_0 rfl rfl ?_
  obtain ⟨hs1, h⟩ := h
  refine pw_getR (c := 5) (k := 8) (f := 328) dc_Outlet_startsAsked_1 fl_Outlet_22 rfl rfl hs1 ?_
  obtain ⟨b1, hb1, h⟩ := h
  refine PW.top (v' := .ref b1) (congrArg va_rf hb1) ?_
  refine pw_iconst (v := 0) dc_Outlet_startsAsked_4 (by decide) ?_
  obtain ⟨n1, hs2, h⟩ := h
  obtain ⟨hi1, h⟩ := h
  refine pw_aald (k := 7) dc_Outlet_startsAsked_5 (by unfold rk; decide) hs2 hi1 ?_
  refine pw_astore_n dc_Outlet_startsAsked_6 (by decide) (va_rf_ref _) ?_
  refine pw_aload_n dc_Outlet_startsAsked_7 rfl rfl ?_
  refine pw_getI (c := 5) (k := 9) (f := 329) dc_Outlet_startsAsked_8 fl_Outlet_48 rfl rfl hs1 ?_
  refine pw_if_eq (tgt := 18) dc_Outlet_startsAsked_11 (by decide) (fun hc => ?_) (fun hc => ?_)
  · have h := ite_t h hc
    refine pw_iconst (v := 0) dc_Outlet_startsAsked_18 (by decide) ?_
    exact pw_iret dc_Outlet_startsAsked_19 rfl (bo_nar (Or.inl rfl)) h
  · have h := ite_f h hc
    refine pw_aload_n dc_Outlet_startsAsked_14 rfl (va_rf_ref _) ?_
    refine pw_ifnonnull (v := eR σ b1 (ix 0)) (tgt := 20) dc_Outlet_startsAsked_15 (by decide) (fun hc => ?_) (fun hc => ?_)
    · have h := ite_f h hc
      refine pw_aload_n dc_Outlet_startsAsked_20 rfl rfl ?_
      refine pw_dup dc_Outlet_startsAsked_21 rfl ?_
      refine pw_getI (c := 5) (k := 9) (f := 329) dc_Outlet_startsAsked_22 fl_Outlet_48 rfl rfl hs1 ?_
      refine pw_iconst (v := 1) dc_Outlet_startsAsked_25 (by decide) ?_
      refine pw_isub dc_Outlet_startsAsked_26 ?_
      have h := h _ rfl
      refine pw_putI (c := 5) (k := 9) (f := 329) dc_Outlet_startsAsked_27 fl_Outlet_48 (Or.inl rfl) rfl rfl hs1 ?_
      refine pw_iconst (v := 0) dc_Outlet_startsAsked_30 (by decide) ?_
      refine pw_istore_n dc_Outlet_startsAsked_31 (by decide) ?_
      exact h
    · have h := ite_t h hc
      refine pw_iconst (v := 0) dc_Outlet_startsAsked_18 (by decide) ?_
      exact pw_iret dc_Outlet_startsAsked_19 rfl (bo_nar (Or.inl rfl)) h
set_option maxRecDepth 20000 in
theorem e_Outlet_startsAsked_32 {d : Nat} {σ : PH} {K : PO → PH → Prop} (x0 : Nat) (x1 : Option Nat) (x2 : Int32) (h : sh σ x0 = (1, 5) ∧ (if (gI σ 329 x0) ≤ x2 then (∃ b1 : Nat, x1 = some b1 ∧ sh σ b1 = (1, 6) ∧ (∃ b2 : Nat, gR σ 388 b1 = some b2 ∧ (∃ n1 : Nat, sh σ b2 = (2, n1) ∧ vp_in (gI σ 320 x0) n1 ∧ PW d M_Outlet_start 0 [.ref x0, .ref b1, .int (eI σ b2 (ix (gI σ 320 x0))), .int 1] [] σ (kV (fun σ1 => K (.inl (some (.int 1))) σ1) K)))) else (∃ b3 : Nat, gR σ 328 x0 = some b3 ∧ (∃ n2 : Nat, sh σ b3 = (7, n2) ∧ vp_in (x2 + 1) n2 ∧ vp_in x2 n2 ∧ (∀ b : Nat, eR σ b3 (ix (x2 + 1)) = some b → sh σ b = (1, 6)) ∧ (∀ σ2 : PH, σ2 = uR σ b3 (ix x2) (eR σ b3 (ix (x2 + 1))) → PW (d + 1) M_Outlet_startsAsked 32 [.ref x0, va_rf x1, .int (x2 + 1)] [] σ2 K))))) : PW (d + 1) M_Outlet_startsAsked 32 [.ref x0, va_rf x1, .int x2] [] σ K := by
  refine pw_iload_n dc_Outlet_startsAsked_32 rfl ?_
  refine pw_aload_n dc_Outlet_startsAsked_33 rfl rfl ?_
  obtain ⟨hs1, h⟩ := h
  refine pw_getI (c := 5) (k := 9) (f := 329) dc_Outlet_startsAsked_34 fl_Outlet_48 rfl rfl hs1 ?_
  refine pw_icmp_ge (tgt := 60) dc_Outlet_startsAsked_37 (by decide) (fun hc => ?_) (fun hc => ?_)
  · have h := ite_t h hc
    refine pw_aload_n dc_Outlet_startsAsked_60 rfl rfl ?_
    refine pw_aload_n dc_Outlet_startsAsked_61 rfl (va_rf_ref _) ?_
    obtain ⟨b1, hb1, h⟩ := h
    refine PW.top (v' := .ref b1) (congrArg va_rf hb1) ?_
    refine pw_aload_n dc_Outlet_startsAsked_62 rfl (va_rf_ref _) ?_
    refine PW.top (v' := .ref b1) (congrArg va_rf hb1) ?_
    obtain ⟨hs2, h⟩ := h
    refine pw_getR (c := 6) (k := 4) (f := 388) dc_Outlet_startsAsked_63 fl_Outlet_44 rfl rfl hs2 ?_
    obtain ⟨b2, hb2, h⟩ := h
    refine PW.top (v' := .ref b2) (congrArg va_rf hb2) ?_
    refine pw_aload_n dc_Outlet_startsAsked_66 rfl rfl ?_
    refine pw_getI (c := 5) (k := 0) (f := 320) dc_Outlet_startsAsked_67 fl_Outlet_29 rfl rfl hs1 ?_
    obtain ⟨n1, hs3, h⟩ := h
    obtain ⟨hi1, h⟩ := h
    refine pw_iald dc_Outlet_startsAsked_70 hs3 hi1 ?_
    refine pw_iconst (v := 1) dc_Outlet_startsAsked_71 (by decide) ?_
    refine pw_callV (vs := [.ref b1, .int (eI σ b2 (ix (gI σ 320 x0))), .int 1]) (st := []) (b := x0) (cn := 5) dc_Outlet_startsAsked_72 cq_Outlet_start (List.mem_of_getElem? (i := 787) (by decide +kernel)) (List.mem_of_getElem? (i := 22) (by decide +kernel)) (List.mem_of_getElem? (i := 785) (by decide +kernel)) rfl hs1 rfl rfl (by decide) (cat_cons rfl (cat_cons rfl (cat_cons rfl (cat_nil)))) (Nat.le_of_ble_eq_true rfl) (PW.mono (kV_kN (fun σ1 h => ?_)) h)
    refine pw_iconst (v := 1) dc_Outlet_startsAsked_75 (by decide) ?_
    exact pw_iret dc_Outlet_startsAsked_76 rfl (bo_nar (Or.inr rfl)) h
  · have h := ite_f h hc
    refine pw_aload_n dc_Outlet_startsAsked_40 rfl rfl ?_
    refine pw_getR (c := 5) (k := 8) (f := 328) dc_Outlet_startsAsked_41 fl_Outlet_22 rfl rfl hs1 ?_
    obtain ⟨b3, hb3, h⟩ := h
    refine PW.top (v' := .ref b3) (congrArg va_rf hb3) ?_
    refine pw_iload_n dc_Outlet_startsAsked_44 rfl ?_
    refine pw_aload_n dc_Outlet_startsAsked_45 rfl rfl ?_
    refine pw_getR (c := 5) (k := 8) (f := 328) dc_Outlet_startsAsked_46 fl_Outlet_22 rfl rfl hs1 ?_
    refine PW.top (v' := .ref b3) (congrArg va_rf hb3) ?_
    refine pw_iload_n dc_Outlet_startsAsked_49 rfl ?_
    refine pw_iconst (v := 1) dc_Outlet_startsAsked_50 (by decide) ?_
    refine pw_iadd dc_Outlet_startsAsked_51 ?_
    obtain ⟨n2, hs4, h⟩ := h
    obtain ⟨hi2, h⟩ := h
    refine pw_aald (k := 7) dc_Outlet_startsAsked_52 (by unfold rk; decide) hs4 hi2 ?_
    obtain ⟨hi3, h⟩ := h
    obtain ⟨hv1, h⟩ := h
    have h := h _ rfl
    refine pw_aast (k := 7) (v := eR σ b3 (ix (x2 + 1))) dc_Outlet_startsAsked_53 (by unfold rk; decide) hs4 hi3 hv1 ?_
    refine pw_iincv (v := 1) dc_Outlet_startsAsked_54 (by decide) rfl (by decide) ?_
    refine pw_goto (tgt := 32) dc_Outlet_startsAsked_57 (by decide) ?_
    exact h
theorem dc_Outlet_startEntry_0 : decode M_Outlet_startEntry.2.1 0 = .ok (.aload_n 1, 1) := by decide +kernel
theorem dc_Outlet_startEntry_1 : decode M_Outlet_startEntry.2.1 1 = .ok (.ifnull 35, 3) := by decide +kernel
theorem dc_Outlet_startEntry_4 : decode M_Outlet_startEntry.2.1 4 = .ok (.aload_n 0, 1) := by decide +kernel
theorem dc_Outlet_startEntry_5 : decode M_Outlet_startEntry.2.1 5 = .ok (.aload_n 0, 1) := by decide +kernel
theorem dc_Outlet_startEntry_6 : decode M_Outlet_startEntry.2.1 6 = .ok (.getfield 55, 3) := by decide +kernel
theorem dc_Outlet_startEntry_9 : decode M_Outlet_startEntry.2.1 9 = .ok (.invokestatic 58, 3) := by decide +kernel
theorem dc_Outlet_startEntry_12 : decode M_Outlet_startEntry.2.1 12 = .ok (.putfield 55, 3) := by decide +kernel
theorem dc_Outlet_startEntry_15 : decode M_Outlet_startEntry.2.1 15 = .ok (.aload_n 1, 1) := by decide +kernel
theorem dc_Outlet_startEntry_16 : decode M_Outlet_startEntry.2.1 16 = .ok (.getfield 44, 3) := by decide +kernel
theorem dc_Outlet_startEntry_19 : decode M_Outlet_startEntry.2.1 19 = .ok (.aload_n 0, 1) := by decide +kernel
theorem dc_Outlet_startEntry_20 : decode M_Outlet_startEntry.2.1 20 = .ok (.getfield 29, 3) := by decide +kernel
theorem dc_Outlet_startEntry_23 : decode M_Outlet_startEntry.2.1 23 = .ok (.bipush (-2), 2) := by decide +kernel
theorem dc_Outlet_startEntry_25 : decode M_Outlet_startEntry.2.1 25 = .ok (.iastore, 1) := by decide +kernel
theorem dc_Outlet_startEntry_26 : decode M_Outlet_startEntry.2.1 26 = .ok (.aload_n 0, 1) := by decide +kernel
theorem dc_Outlet_startEntry_27 : decode M_Outlet_startEntry.2.1 27 = .ok (.aload_n 1, 1) := by decide +kernel
theorem dc_Outlet_startEntry_28 : decode M_Outlet_startEntry.2.1 28 = .ok (.aload_n 0, 1) := by decide +kernel
theorem dc_Outlet_startEntry_29 : decode M_Outlet_startEntry.2.1 29 = .ok (.getfield 55, 3) := by decide +kernel
theorem dc_Outlet_startEntry_32 : decode M_Outlet_startEntry.2.1 32 = .ok (.iconst 0, 1) := by decide +kernel
theorem dc_Outlet_startEntry_33 : decode M_Outlet_startEntry.2.1 33 = .ok (.invokevirtual 51, 3) := by decide +kernel
theorem dc_Outlet_startEntry_36 : decode M_Outlet_startEntry.2.1 36 = .ok (.return_, 1) := by decide +kernel
set_option maxRecDepth 20000 in
theorem e_Outlet_startEntry_0 {d : Nat} {σ : PH} {K : PO → PH → Prop} (x0 : Nat) (x1 : Option Nat) (h : (if x1 = none then K (.inl none) σ else sh σ x0 = (1, 5) ∧ PW d M_Numbers_numberBehind 0 [.int (gI σ 327 x0)] [] σ (kI (fun r1 σ1 => sh σ1 x0 = (1, 5) ∧ (∀ σ2 : PH, σ2 = pI σ1 327 x0 r1 → (∃ b1 : Nat, x1 = some b1 ∧ sh σ2 b1 = (1, 6) ∧ (∃ b2 : Nat, gR σ2 388 b1 = some b2 ∧ sh σ2 x0 = (1, 5) ∧ (∃ n1 : Nat, sh σ2 b2 = (2, n1) ∧ vp_in (gI σ2 320 x0) n1 ∧ (∀ σ3 : PH, σ3 = uI σ2 b2 (ix (gI σ2 320 x0)) ((-2)) → (∃ b3 : Nat, x1 = some b3 ∧ sh σ3 x0 = (1, 5) ∧ PW d M_Outlet_start 0 [.ref x0, .ref b3, .int (gI σ3 327 x0), .int 0] [] σ3 (kV (fun σ4 => K (.inl none) σ4) K)))))))) K))) : PW (d + 1) M_Outlet_startEntry 0 [.ref x0, va_rf x1] [] σ K := by
  refine pw_aload_n dc_Outlet_startEntry_0 rfl (va_rf_ref _) ?_
  refine pw_ifnull (v := x1) (tgt := 36) dc_Outlet_startEntry_1 (by decide) (fun hc => ?_) (fun hc => ?_)
  · have h := ite_t h hc
    exact pw_vret dc_Outlet_startEntry_36 rfl h
  · have h := ite_f h hc
    refine pw_aload_n dc_Outlet_startEntry_4 rfl rfl ?_
    refine pw_aload_n dc_Outlet_startEntry_5 rfl rfl ?_
    obtain ⟨hs1, h⟩ := h
    refine pw_getI (c := 5) (k := 7) (f := 327) dc_Outlet_startEntry_6 fl_Outlet_55 rfl rfl hs1 ?_
    refine pw_callS (vs := [.int (gI σ 327 x0)]) (st := [.ref x0]) dc_Outlet_startEntry_9 cq_Numbers_numberBehind (List.mem_of_getElem? (i := 625) (by decide +kernel)) (List.mem_of_getElem? (i := 820) (by decide +kernel)) rfl rfl (cat_cons rfl (cat_nil)) (Nat.le_of_ble_eq_true rfl) (PW.mono (kI_kN (fun r1 σ1 h => ?_)) h)
    obtain ⟨hs2, h⟩ := h
    have h := h _ rfl
    refine pw_putI (c := 5) (k := 7) (f := 327) dc_Outlet_startEntry_12 fl_Outlet_55 (Or.inl rfl) rfl rfl hs2 ?_
    refine pw_aload_n dc_Outlet_startEntry_15 rfl (va_rf_ref _) ?_
    obtain ⟨b1, hb1, h⟩ := h
    refine PW.top (v' := .ref b1) (congrArg va_rf hb1) ?_
    obtain ⟨hs3, h⟩ := h
    refine pw_getR (c := 6) (k := 4) (f := 388) dc_Outlet_startEntry_16 fl_Outlet_44 rfl rfl hs3 ?_
    obtain ⟨b2, hb2, h⟩ := h
    refine PW.top (v' := .ref b2) (congrArg va_rf hb2) ?_
    refine pw_aload_n dc_Outlet_startEntry_19 rfl rfl ?_
    obtain ⟨hs4, h⟩ := h
    refine pw_getI (c := 5) (k := 0) (f := 320) dc_Outlet_startEntry_20 fl_Outlet_29 rfl rfl hs4 ?_
    refine pw_bipush (v := (-2)) dc_Outlet_startEntry_23 (by decide) ?_
    obtain ⟨n1, hs5, h⟩ := h
    obtain ⟨hi1, h⟩ := h
    have h := h _ rfl
    refine pw_iast dc_Outlet_startEntry_25 hs5 hi1 ?_
    refine pw_aload_n dc_Outlet_startEntry_26 rfl rfl ?_
    refine pw_aload_n dc_Outlet_startEntry_27 rfl (va_rf_ref _) ?_
    obtain ⟨b3, hb3, h⟩ := h
    refine PW.top (v' := .ref b3) (congrArg va_rf hb3) ?_
    refine pw_aload_n dc_Outlet_startEntry_28 rfl rfl ?_
    obtain ⟨hs6, h⟩ := h
    refine pw_getI (c := 5) (k := 7) (f := 327) dc_Outlet_startEntry_29 fl_Outlet_55 rfl rfl hs6 ?_
    refine pw_iconst (v := 0) dc_Outlet_startEntry_32 (by decide) ?_
    refine pw_callV (vs := [.ref b3, .int _, .int 0]) (st := []) (b := x0) (cn := 5) dc_Outlet_startEntry_33 cq_Outlet_start (List.mem_of_getElem? (i := 787) (by decide +kernel)) (List.mem_of_getElem? (i := 22) (by decide +kernel)) (List.mem_of_getElem? (i := 785) (by decide +kernel)) rfl hs6 rfl rfl (by decide) (cat_cons rfl (cat_cons rfl (cat_cons rfl (cat_nil)))) (Nat.le_of_ble_eq_true rfl) (PW.mono (kV_kN (fun σ4 h => ?_)) h)
    exact pw_vret dc_Outlet_startEntry_36 rfl h
theorem dc_Outlet_start_0 : decode M_Outlet_start.2.1 0 = .ok (.aload_n 0, 1) := by decide +kernel
theorem dc_Outlet_start_1 : decode M_Outlet_start.2.1 1 = .ok (.aload_n 1, 1) := by decide +kernel
theorem dc_Outlet_start_2 : decode M_Outlet_start.2.1 2 = .ok (.putfield 33, 3) := by decide +kernel
theorem dc_Outlet_start_5 : decode M_Outlet_start.2.1 5 = .ok (.aload_n 0, 1) := by decide +kernel
theorem dc_Outlet_start_6 : decode M_Outlet_start.2.1 6 = .ok (.iload_n 2, 1) := by decide +kernel
theorem dc_Outlet_start_7 : decode M_Outlet_start.2.1 7 = .ok (.putfield 64, 3) := by decide +kernel
theorem dc_Outlet_start_10 : decode M_Outlet_start.2.1 10 = .ok (.aload_n 0, 1) := by decide +kernel
theorem dc_Outlet_start_11 : decode M_Outlet_start.2.1 11 = .ok (.iload_n 3, 1) := by decide +kernel
theorem dc_Outlet_start_12 : decode M_Outlet_start.2.1 12 = .ok (.putfield 67, 3) := by decide +kernel
theorem dc_Outlet_start_15 : decode M_Outlet_start.2.1 15 = .ok (.aload_n 1, 1) := by decide +kernel
theorem dc_Outlet_start_16 : decode M_Outlet_start.2.1 16 = .ok (.aload_n 0, 1) := by decide +kernel
theorem dc_Outlet_start_17 : decode M_Outlet_start.2.1 17 = .ok (.getfield 14, 3) := by decide +kernel
theorem dc_Outlet_start_20 : decode M_Outlet_start.2.1 20 = .ok (.iload_n 2, 1) := by decide +kernel
theorem dc_Outlet_start_21 : decode M_Outlet_start.2.1 21 = .ok (.iload_n 3, 1) := by decide +kernel
theorem dc_Outlet_start_22 : decode M_Outlet_start.2.1 22 = .ok (.invokevirtual 70, 3) := by decide +kernel
theorem dc_Outlet_start_25 : decode M_Outlet_start.2.1 25 = .ok (.aload_n 0, 1) := by decide +kernel
theorem dc_Outlet_start_26 : decode M_Outlet_start.2.1 26 = .ok (.invokevirtual 74, 3) := by decide +kernel
theorem dc_Outlet_start_29 : decode M_Outlet_start.2.1 29 = .ok (.return_, 1) := by decide +kernel
set_option maxRecDepth 20000 in
theorem e_Outlet_start_0 {d : Nat} {σ : PH} {K : PO → PH → Prop} (x0 : Nat) (x1 : Nat) (x2 : Int32) (x3 : Int32) (h : sh σ x0 = (1, 5) ∧ (∀ σ1 : PH, σ1 = pR σ 324 x0 (some x1) → sh σ1 x0 = (1, 5) ∧ (∀ σ2 : PH, σ2 = pI σ1 325 x0 x2 → sh σ2 x0 = (1, 5) ∧ bo x3 ∧ (∀ σ3 : PH, σ3 = pI σ2 326 x0 x3 → sh σ3 x0 = (1, 5) ∧ (∃ b1 : Nat, gR σ3 321 x0 = some b1 ∧ sh σ3 x1 = (1, 6) ∧ PW d M_Message_writeOn 0 [.ref x1, .ref b1, .int x2, .int x3, uu] [] σ3 (kV (fun σ4 => sh σ4 x0 = (1, 5) ∧ PW d M_Outlet_beginAnew 0 [.ref x0] [] σ4 (kV (fun σ5 => K (.inl none) σ5) K)) K)))))) : PW (d + 1) M_Outlet_start 0 [.ref x0, .ref x1, .int x2, .int x3] [] σ K := by
  refine pw_aload_n dc_Outlet_start_0 rfl rfl ?_
  refine pw_aload_n dc_Outlet_start_1 rfl rfl ?_
  obtain ⟨hs1, h⟩ := h
  have h := h _ rfl
  refine pw_putR (c := 5) (k := 4) (f := 324) (v := some x1) dc_Outlet_start_2 fl_Outlet_33 (Or.inl rfl) rfl rfl hs1 ?_
  refine pw_aload_n dc_Outlet_start_5 rfl rfl ?_
  refine pw_iload_n dc_Outlet_start_6 rfl ?_
  obtain ⟨hs2, h⟩ := h
  have h := h _ rfl
  refine pw_putI (c := 5) (k := 5) (f := 325) dc_Outlet_start_7 fl_Outlet_64 (Or.inl rfl) rfl rfl hs2 ?_
  refine pw_aload_n dc_Outlet_start_10 rfl rfl ?_
  refine pw_iload_n dc_Outlet_start_11 rfl ?_
  obtain ⟨hs3, h⟩ := h
  obtain ⟨hz1, h⟩ := h
  have h := h _ rfl
  refine pw_putZ (c := 5) (k := 6) (f := 326) dc_Outlet_start_12 fl_Outlet_67 (Or.inl rfl) rfl rfl hs3 hz1 ?_
  refine pw_aload_n dc_Outlet_start_15 rfl rfl ?_
  refine pw_aload_n dc_Outlet_start_16 rfl rfl ?_
  obtain ⟨hs4, h⟩ := h
  refine pw_getR (c := 5) (k := 1) (f := 321) dc_Outlet_start_17 fl_Outlet_14 rfl rfl hs4 ?_
  obtain ⟨b1, hb1, h⟩ := h
  refine PW.top (v' := .ref b1) (congrArg va_rf hb1) ?_
  refine pw_iload_n dc_Outlet_start_20 rfl ?_
  refine pw_iload_n dc_Outlet_start_21 rfl ?_
  obtain ⟨hs5, h⟩ := h
  refine pw_callV (vs := [.ref b1, .int x2, .int x3]) (st := []) (b := x1) (cn := 6) dc_Outlet_start_22 cq_Message_writeOn (List.mem_of_getElem? (i := 790) (by decide +kernel)) (List.mem_of_getElem? (i := 791) (by decide +kernel)) (List.mem_of_getElem? (i := 789) (by decide +kernel)) rfl hs5 rfl rfl (by decide) (cat_cons rfl (cat_cons rfl (cat_cons rfl (cat_nil)))) (Nat.le_of_ble_eq_true rfl) (PW.mono (kV_kN (fun σ4 h => ?_)) h)
  refine pw_aload_n dc_Outlet_start_25 rfl rfl ?_
  obtain ⟨hs6, h⟩ := h
  refine pw_callV (vs := []) (st := []) (b := x0) (cn := 5) dc_Outlet_start_26 cq_Outlet_beginAnew (List.mem_of_getElem? (i := 378) (by decide +kernel)) (List.mem_of_getElem? (i := 379) (by decide +kernel)) (List.mem_of_getElem? (i := 807) (by decide +kernel)) rfl hs6 rfl rfl (by decide) (cat_nil) (Nat.le_of_ble_eq_true rfl) (PW.mono (kV_kN (fun σ5 h => ?_)) h)
  exact pw_vret dc_Outlet_start_29 rfl h
theorem dc_Outlet_nextSign_0 : decode M_Outlet_nextSign.2.1 0 = .ok (.aload_n 0, 1) := by decide +kernel
theorem dc_Outlet_nextSign_1 : decode M_Outlet_nextSign.2.1 1 = .ok (.getfield 33, 3) := by decide +kernel
theorem dc_Outlet_nextSign_4 : decode M_Outlet_nextSign.2.1 4 = .ok (.ifnonnull 5, 3) := by decide +kernel
theorem dc_Outlet_nextSign_7 : decode M_Outlet_nextSign.2.1 7 = .ok (.iconst (-1), 1) := by decide +kernel
theorem dc_Outlet_nextSign_8 : decode M_Outlet_nextSign.2.1 8 = .ok (.ireturn, 1) := by decide +kernel
theorem dc_Outlet_nextSign_9 : decode M_Outlet_nextSign.2.1 9 = .ok (.aload_n 0, 1) := by decide +kernel
theorem dc_Outlet_nextSign_10 : decode M_Outlet_nextSign.2.1 10 = .ok (.getfield 14, 3) := by decide +kernel
theorem dc_Outlet_nextSign_13 : decode M_Outlet_nextSign.2.1 13 = .ok (.aload_n 0, 1) := by decide +kernel
theorem dc_Outlet_nextSign_14 : decode M_Outlet_nextSign.2.1 14 = .ok (.getfield 37, 3) := by decide +kernel
theorem dc_Outlet_nextSign_17 : decode M_Outlet_nextSign.2.1 17 = .ok (.invokevirtual 77, 3) := by decide +kernel
theorem dc_Outlet_nextSign_20 : decode M_Outlet_nextSign.2.1 20 = .ok (.istore_n 1, 1) := by decide +kernel
theorem dc_Outlet_nextSign_21 : decode M_Outlet_nextSign.2.1 21 = .ok (.iload_n 1, 1) := by decide +kernel
theorem dc_Outlet_nextSign_22 : decode M_Outlet_nextSign.2.1 22 = .ok (.invokestatic 81, 3) := by decide +kernel
theorem dc_Outlet_nextSign_25 : decode M_Outlet_nextSign.2.1 25 = .ok (.istore_n 2, 1) := by decide +kernel
theorem dc_Outlet_nextSign_26 : decode M_Outlet_nextSign.2.1 26 = .ok (.iload_n 1, 1) := by decide +kernel
theorem dc_Outlet_nextSign_27 : decode M_Outlet_nextSign.2.1 27 = .ok (.invokestatic 87, 3) := by decide +kernel
theorem dc_Outlet_nextSign_30 : decode M_Outlet_nextSign.2.1 30 = .ok (.ifCond .ne 39, 3) := by decide +kernel
theorem dc_Outlet_nextSign_33 : decode M_Outlet_nextSign.2.1 33 = .ok (.iload_n 2, 1) := by decide +kernel
theorem dc_Outlet_nextSign_34 : decode M_Outlet_nextSign.2.1 34 = .ok (.aload_n 0, 1) := by decide +kernel
theorem dc_Outlet_nextSign_35 : decode M_Outlet_nextSign.2.1 35 = .ok (.getfield 40, 3) := by decide +kernel
theorem dc_Outlet_nextSign_38 : decode M_Outlet_nextSign.2.1 38 = .ok (.if_icmp .ne 31, 3) := by decide +kernel
theorem dc_Outlet_nextSign_41 : decode M_Outlet_nextSign.2.1 41 = .ok (.aload_n 0, 1) := by decide +kernel
theorem dc_Outlet_nextSign_42 : decode M_Outlet_nextSign.2.1 42 = .ok (.iload_n 2, 1) := by decide +kernel
theorem dc_Outlet_nextSign_43 : decode M_Outlet_nextSign.2.1 43 = .ok (.ifCond .ne 7, 3) := by decide +kernel
theorem dc_Outlet_nextSign_46 : decode M_Outlet_nextSign.2.1 46 = .ok (.iconst 1, 1) := by decide +kernel
theorem dc_Outlet_nextSign_47 : decode M_Outlet_nextSign.2.1 47 = .ok (.goto 4, 3) := by decide +kernel
theorem dc_Outlet_nextSign_50 : decode M_Outlet_nextSign.2.1 50 = .ok (.iconst 0, 1) := by decide +kernel
theorem dc_Outlet_nextSign_51 : decode M_Outlet_nextSign.2.1 51 = .ok (.putfield 40, 3) := by decide +kernel
theorem dc_Outlet_nextSign_54 : decode M_Outlet_nextSign.2.1 54 = .ok (.aload_n 0, 1) := by decide +kernel
theorem dc_Outlet_nextSign_55 : decode M_Outlet_nextSign.2.1 55 = .ok (.getfield 40, 3) := by decide +kernel
theorem dc_Outlet_nextSign_58 : decode M_Outlet_nextSign.2.1 58 = .ok (.ifCond .eq 8, 3) := by decide +kernel
theorem dc_Outlet_nextSign_61 : decode M_Outlet_nextSign.2.1 61 = .ok (.bipush 29, 2) := by decide +kernel
theorem dc_Outlet_nextSign_63 : decode M_Outlet_nextSign.2.1 63 = .ok (.goto 5, 3) := by decide +kernel
theorem dc_Outlet_nextSign_66 : decode M_Outlet_nextSign.2.1 66 = .ok (.bipush 28, 2) := by decide +kernel
theorem dc_Outlet_nextSign_68 : decode M_Outlet_nextSign.2.1 68 = .ok (.ireturn, 1) := by decide +kernel
theorem dc_Outlet_nextSign_69 : decode M_Outlet_nextSign.2.1 69 = .ok (.aload_n 0, 1) := by decide +kernel
theorem dc_Outlet_nextSign_70 : decode M_Outlet_nextSign.2.1 70 = .ok (.dup, 1) := by decide +kernel
theorem dc_Outlet_nextSign_71 : decode M_Outlet_nextSign.2.1 71 = .ok (.getfield 37, 3) := by decide +kernel
theorem dc_Outlet_nextSign_74 : decode M_Outlet_nextSign.2.1 74 = .ok (.iconst 1, 1) := by decide +kernel
theorem dc_Outlet_nextSign_75 : decode M_Outlet_nextSign.2.1 75 = .ok (.iadd, 1) := by decide +kernel
theorem dc_Outlet_nextSign_76 : decode M_Outlet_nextSign.2.1 76 = .ok (.putfield 37, 3) := by decide +kernel
theorem dc_Outlet_nextSign_79 : decode M_Outlet_nextSign.2.1 79 = .ok (.aload_n 0, 1) := by decide +kernel
theorem dc_Outlet_nextSign_80 : decode M_Outlet_nextSign.2.1 80 = .ok (.getfield 37, 3) := by decide +kernel
theorem dc_Outlet_nextSign_83 : decode M_Outlet_nextSign.2.1 83 = .ok (.aload_n 0, 1) := by decide +kernel
theorem dc_Outlet_nextSign_84 : decode M_Outlet_nextSign.2.1 84 = .ok (.getfield 14, 3) := by decide +kernel
theorem dc_Outlet_nextSign_87 : decode M_Outlet_nextSign.2.1 87 = .ok (.getfield 90, 3) := by decide +kernel
theorem dc_Outlet_nextSign_90 : decode M_Outlet_nextSign.2.1 90 = .ok (.if_icmp .lt 7, 3) := by decide +kernel
theorem dc_Outlet_nextSign_93 : decode M_Outlet_nextSign.2.1 93 = .ok (.aload_n 0, 1) := by decide +kernel
theorem dc_Outlet_nextSign_94 : decode M_Outlet_nextSign.2.1 94 = .ok (.invokevirtual 93, 3) := by decide +kernel
theorem dc_Outlet_nextSign_97 : decode M_Outlet_nextSign.2.1 97 = .ok (.iload_n 1, 1) := by decide +kernel
theorem dc_Outlet_nextSign_98 : decode M_Outlet_nextSign.2.1 98 = .ok (.invokestatic 96, 3) := by decide +kernel
theorem dc_Outlet_nextSign_101 : decode M_Outlet_nextSign.2.1 101 = .ok (.ireturn, 1) := by decide +kernel
set_option maxRecDepth 20000 in
theorem e_Outlet_nextSign_0 {d : Nat} {σ : PH} {K : PO → PH → Prop} (x0 : Nat) (h : sh σ x0 = (1, 5) ∧ (if gR σ 324 x0 = none then K (.inl (some (.int ((-1))))) σ else (∃ b1 : Nat, gR σ 321 x0 = some b1 ∧ sh σ b1 = (1, 3) ∧ PW d M_Text_at 0 [.ref b1, .int (gI σ 322 x0)] [] σ (kI (fun r1 σ1 => PW d M_Signs_isLetter 0 [.int r1] [] σ1 (kI (fun r2 σ2 => PW d M_Signs_isInBothShifts 0 [.int r1] [] σ2 (kI (fun r3 σ3 => (if r3 = 0 then sh σ3 x0 = (1, 5) ∧ (if r2 = (gI σ3 323 x0) then (if r2 = 0 then PW (d + 1) M_Outlet_nextSign 51 [.ref x0, uu, uu] [.int 1, .ref x0] σ3 K else PW (d + 1) M_Outlet_nextSign 51 [.ref x0, uu, uu] [.int 0, .ref x0] σ3 K) else PW (d + 1) M_Outlet_nextSign 69 [.ref x0, .int r1, uu] [] σ3 K) else PW (d + 1) M_Outlet_nextSign 69 [.ref x0, .int r1, uu] [] σ3 K)) K)) K)) K)))) : PW (d + 1) M_Outlet_nextSign 0 [.ref x0, uu, uu] [] σ K := by
  refine pw_aload_n dc_Outlet_nextSign_0 rfl rfl ?_
  obtain ⟨hs1, h⟩ := h
  refine pw_getR (c := 5) (k := 4) (f := 324) dc_Outlet_nextSign_1 fl_Outlet_33 rfl rfl hs1 ?_
  refine pw_ifnonnull (v := gR σ 324 x0) (tgt := 9) dc_Outlet_nextSign_4 (by decide) (fun hc => ?_) (fun hc => ?_)
  · have h := ite_f h hc
    refine pw_aload_n dc_Outlet_nextSign_9 rfl rfl ?_
    refine pw_getR (c := 5) (k := 1) (f := 321) dc_Outlet_nextSign_10 fl_Outlet_14 rfl rfl hs1 ?_
    obtain ⟨b1, hb1, h⟩ := h
    refine PW.top (v' := .ref b1) (congrArg va_rf hb1) ?_
    refine pw_aload_n dc_Outlet_nextSign_13 rfl rfl ?_
    refine pw_getI (c := 5) (k := 2) (f := 322) dc_Outlet_nextSign_14 fl_Outlet_37 rfl rfl hs1 ?_
    obtain ⟨hs2, h⟩ := h
    refine pw_callV (vs := [.int (gI σ 322 x0)]) (st := []) (b := b1) (cn := 3) dc_Outlet_nextSign_17 cq_Text_at (List.mem_of_getElem? (i := 563) (by decide +kernel)) (List.mem_of_getElem? (i := 564) (by decide +kernel)) (List.mem_of_getElem? (i := 825) (by decide +kernel)) rfl hs2 rfl rfl (by decide) (cat_cons rfl (cat_nil)) (Nat.le_of_ble_eq_true rfl) (PW.mono (kI_kN (fun r1 σ1 h => ?_)) h)
    refine pw_istore_n dc_Outlet_nextSign_20 (by decide) ?_
    refine pw_iload_n dc_Outlet_nextSign_21 rfl ?_
    refine pw_callS (vs := [.int r1]) (st := []) dc_Outlet_nextSign_22 cq_Signs_isLetter (List.mem_of_getElem? (i := 590) (by decide +kernel)) (List.mem_of_getElem? (i := 826) (by decide +kernel)) rfl rfl (cat_cons rfl (cat_nil)) (Nat.le_of_ble_eq_true rfl) (PW.mono (kI_kN (fun r2 σ2 h => ?_)) h)
    refine pw_istore_n dc_Outlet_nextSign_25 (by decide) ?_
    refine pw_iload_n dc_Outlet_nextSign_26 rfl ?_
    refine pw_callS (vs := [.int r1]) (st := []) dc_Outlet_nextSign_27 cq_Signs_isInBothShifts (List.mem_of_getElem? (i := 828) (by decide +kernel)) (List.mem_of_getElem? (i := 827) (by decide +kernel)) rfl rfl (cat_cons rfl (cat_nil)) (Nat.le_of_ble_eq_true rfl) (PW.mono (kI_kN (fun r3 σ3 h => ?_)) h)
    refine pw_if_ne (tgt := 69) dc_Outlet_nextSign_30 (by decide) (fun hc => ?_) (fun hc => ?_)
    · have h := ite_f h hc
      refine PW.drop (ls' := [.ref x0, .int r1, uu]) ⟨Or.inl rfl, Or.inl rfl, Or.inr rfl, trivial⟩ ?_
      exact h
    · have h := ite_t h hc
      refine pw_iload_n dc_Outlet_nextSign_33 rfl ?_
      refine pw_aload_n dc_Outlet_nextSign_34 rfl rfl ?_
      obtain ⟨hs3, h⟩ := h
      refine pw_getI (c := 5) (k := 3) (f := 323) dc_Outlet_nextSign_35 fl_Outlet_40 rfl rfl hs3 ?_
      refine pw_icmp_ne (tgt := 69) dc_Outlet_nextSign_38 (by decide) (fun hc => ?_) (fun hc => ?_)
      · have h := ite_f h hc
        refine PW.drop (ls' := [.ref x0, .int r1, uu]) ⟨Or.inl rfl, Or.inl rfl, Or.inr rfl, trivial⟩ ?_
        exact h
      · have h := ite_t h hc
        refine pw_aload_n dc_Outlet_nextSign_41 rfl rfl ?_
        refine pw_iload_n dc_Outlet_nextSign_42 rfl ?_
        refine pw_if_ne (tgt := 50) dc_Outlet_nextSign_43 (by decide) (fun hc => ?_) (fun hc => ?_)
        · have h := ite_f h hc
          refine pw_iconst (v := 0) dc_Outlet_nextSign_50 (by decide) ?_
          refine PW.drop (ls' := [.ref x0, uu, uu]) ⟨Or.inl rfl, Or.inr rfl, Or.inr rfl, trivial⟩ ?_
          exact h
        · have h := ite_t h hc
          refine pw_iconst (v := 1) dc_Outlet_nextSign_46 (by decide) ?_
          refine pw_goto (tgt := 51) dc_Outlet_nextSign_47 (by decide) ?_
          refine PW.drop (ls' := [.ref x0, uu, uu]) ⟨Or.inl rfl, Or.inr rfl, Or.inr rfl, trivial⟩ ?_
          exact h
  · have h := ite_t h hc
    refine pw_iconst (v := (-1)) dc_Outlet_nextSign_7 (by decide) ?_
    exact pw_iret dc_Outlet_nextSign_8 rfl rfl h
set_option maxRecDepth 20000 in
theorem e_Outlet_nextSign_51 {d : Nat} {σ : PH} {K : PO → PH → Prop} (x0 : Nat) (y0 : Int32) (y1 : Nat) (h : sh σ y1 = (1, 5) ∧ bo y0 ∧ (∀ σ1 : PH, σ1 = pI σ 323 y1 y0 → sh σ1 x0 = (1, 5) ∧ (if (gI σ1 323 x0) = 0 then K (.inl (some (.int 28))) σ1 else K (.inl (some (.int 29))) σ1))) : PW (d + 1) M_Outlet_nextSign 51 [.ref x0, uu, uu] [.int y0, .ref y1] σ K := by
  obtain ⟨hs1, h⟩ := h
  obtain ⟨hz1, h⟩ := h
  have h := h _ rfl
  refine pw_putZ (c := 5) (k := 3) (f := 323) dc_Outlet_nextSign_51 fl_Outlet_40 (Or.inl rfl) rfl rfl hs1 hz1 ?_
  refine pw_aload_n dc_Outlet_nextSign_54 rfl rfl ?_
  obtain ⟨hs2, h⟩ := h
  refine pw_getI (c := 5) (k := 3) (f := 323) dc_Outlet_nextSign_55 fl_Outlet_40 rfl rfl hs2 ?_
  refine pw_if_eq (tgt := 66) dc_Outlet_nextSign_58 (by decide) (fun hc => ?_) (fun hc => ?_)
  · have h := ite_t h hc
    refine pw_bipush (v := 28) dc_Outlet_nextSign_66 (by decide) ?_
    exact pw_iret dc_Outlet_nextSign_68 rfl rfl h
  · have h := ite_f h hc
    refine pw_bipush (v := 29) dc_Outlet_nextSign_61 (by decide) ?_
    refine pw_goto (tgt := 68) dc_Outlet_nextSign_63 (by decide) ?_
    exact pw_iret dc_Outlet_nextSign_68 rfl rfl h
set_option maxRecDepth 20000 in
theorem e_Outlet_nextSign_69 {d : Nat} {σ : PH} {K : PO → PH → Prop} (x0 : Nat) (x1 : Int32) (h : sh σ x0 = (1, 5) ∧ (∀ σ1 : PH, σ1 = pI σ 322 x0 ((gI σ 322 x0) + 1) → sh σ1 x0 = (1, 5) ∧ (∃ b1 : Nat, gR σ1 321 x0 = some b1 ∧ sh σ1 b1 = (1, 3) ∧ (if (gI σ1 322 x0) < (gI σ1 193 b1) then PW d M_Signs_signOf 0 [.int x1] [] σ1 (kI (fun r1 σ2 => K (.inl (some (.int r1))) σ2) K) else PW d M_Outlet_finish 0 [.ref x0, uu] [] σ1 (kV (fun σ3 => PW d M_Signs_signOf 0 [.int x1] [] σ3 (kI (fun r2 σ4 => K (.inl (some (.int r2))) σ4) K)) K))))) : PW (d + 1) M_Outlet_nextSign 69 [.ref x0, .int x1, uu] [] σ K := by
  refine pw_aload_n dc_Outlet_nextSign_69 rfl rfl ?_
  refine pw_dup dc_Outlet_nextSign_70 rfl ?_
  obtain ⟨hs1, h⟩ := h
  refine pw_getI (c := 5) (k := 2) (f := 322) dc_Outlet_nextSign_71 fl_Outlet_37 rfl rfl hs1 ?_
  refine pw_iconst (v := 1) dc_Outlet_nextSign_74 (by decide) ?_
  refine pw_iadd dc_Outlet_nextSign_75 ?_
  have h := h _ rfl
  refine pw_putI (c := 5) (k := 2) (f := 322) dc_Outlet_nextSign_76 fl_Outlet_37 (Or.inl rfl) rfl rfl hs1 ?_
  refine pw_aload_n dc_Outlet_nextSign_79 rfl rfl ?_
  obtain ⟨hs2, h⟩ := h
  refine pw_getI (c := 5) (k := 2) (f := 322) dc_Outlet_nextSign_80 fl_Outlet_37 rfl rfl hs2 ?_
  refine pw_aload_n dc_Outlet_nextSign_83 rfl rfl ?_
  refine pw_getR (c := 5) (k := 1) (f := 321) dc_Outlet_nextSign_84 fl_Outlet_14 rfl rfl hs2 ?_
  obtain ⟨b1, hb1, h⟩ := h
  refine PW.top (v' := .ref b1) (congrArg va_rf hb1) ?_
  obtain ⟨hs3, h⟩ := h
  refine pw_getI (c := 3) (k := 1) (f := 193) dc_Outlet_nextSign_87 fl_Outlet_90 rfl rfl hs3 ?_
  refine pw_icmp_lt (tgt := 97) dc_Outlet_nextSign_90 (by decide) (fun hc => ?_) (fun hc => ?_)
  · have h := ite_t h hc
    refine pw_iload_n dc_Outlet_nextSign_97 rfl ?_
    refine pw_callS (vs := [.int x1]) (st := []) dc_Outlet_nextSign_98 cq_Signs_signOf (List.mem_of_getElem? (i := 835) (by decide +kernel)) (List.mem_of_getElem? (i := 834) (by decide +kernel)) rfl rfl (cat_cons rfl (cat_nil)) (Nat.le_of_ble_eq_true rfl) (PW.mono (kI_kN (fun r1 σ2 h => ?_)) h)
    exact pw_iret dc_Outlet_nextSign_101 rfl rfl h
  · have h := ite_f h hc
    refine pw_aload_n dc_Outlet_nextSign_93 rfl rfl ?_
    refine pw_callV (vs := []) (st := []) (b := x0) (cn := 5) dc_Outlet_nextSign_94 cq_Outlet_finish (List.mem_of_getElem? (i := 832) (by decide +kernel)) (List.mem_of_getElem? (i := 24) (by decide +kernel)) (List.mem_of_getElem? (i := 830) (by decide +kernel)) rfl hs2 rfl rfl (by decide) (cat_nil) (Nat.le_of_ble_eq_true rfl) (PW.mono (kV_kN (fun σ3 h => ?_)) h)
    refine pw_iload_n dc_Outlet_nextSign_97 rfl ?_
    refine pw_callS (vs := [.int x1]) (st := []) dc_Outlet_nextSign_98 cq_Signs_signOf (List.mem_of_getElem? (i := 835) (by decide +kernel)) (List.mem_of_getElem? (i := 834) (by decide +kernel)) rfl rfl (cat_cons rfl (cat_nil)) (Nat.le_of_ble_eq_true rfl) (PW.mono (kI_kN (fun r2 σ4 h => ?_)) h)
    exact pw_iret dc_Outlet_nextSign_101 rfl rfl h
theorem dc_Outlet_finish_0 : decode M_Outlet_finish.2.1 0 = .ok (.aload_n 0, 1) := by decide +kernel
theorem dc_Outlet_finish_1 : decode M_Outlet_finish.2.1 1 = .ok (.getfield 67, 3) := by decide +kernel
theorem dc_Outlet_finish_4 : decode M_Outlet_finish.2.1 4 = .ok (.ifCond .ne 62, 3) := by decide +kernel
theorem dc_Outlet_finish_7 : decode M_Outlet_finish.2.1 7 = .ok (.aload_n 0, 1) := by decide +kernel
theorem dc_Outlet_finish_8 : decode M_Outlet_finish.2.1 8 = .ok (.getfield 33, 3) := by decide +kernel
theorem dc_Outlet_finish_11 : decode M_Outlet_finish.2.1 11 = .ok (.ifnull 55, 3) := by decide +kernel
theorem dc_Outlet_finish_14 : decode M_Outlet_finish.2.1 14 = .ok (.aload_n 0, 1) := by decide +kernel
theorem dc_Outlet_finish_15 : decode M_Outlet_finish.2.1 15 = .ok (.getfield 33, 3) := by decide +kernel
theorem dc_Outlet_finish_18 : decode M_Outlet_finish.2.1 18 = .ok (.getfield 44, 3) := by decide +kernel
theorem dc_Outlet_finish_21 : decode M_Outlet_finish.2.1 21 = .ok (.aload_n 0, 1) := by decide +kernel
theorem dc_Outlet_finish_22 : decode M_Outlet_finish.2.1 22 = .ok (.getfield 29, 3) := by decide +kernel
theorem dc_Outlet_finish_25 : decode M_Outlet_finish.2.1 25 = .ok (.aload_n 0, 1) := by decide +kernel
theorem dc_Outlet_finish_26 : decode M_Outlet_finish.2.1 26 = .ok (.getfield 64, 3) := by decide +kernel
theorem dc_Outlet_finish_29 : decode M_Outlet_finish.2.1 29 = .ok (.iastore, 1) := by decide +kernel
theorem dc_Outlet_finish_30 : decode M_Outlet_finish.2.1 30 = .ok (.iconst 2, 1) := by decide +kernel
theorem dc_Outlet_finish_31 : decode M_Outlet_finish.2.1 31 = .ok (.istore_n 1, 1) := by decide +kernel
theorem dc_Outlet_finish_32 : decode M_Outlet_finish.2.1 32 = .ok (.iload_n 1, 1) := by decide +kernel
theorem dc_Outlet_finish_33 : decode M_Outlet_finish.2.1 33 = .ok (.ifCond .le 23, 3) := by decide +kernel
theorem dc_Outlet_finish_36 : decode M_Outlet_finish.2.1 36 = .ok (.aload_n 0, 1) := by decide +kernel
theorem dc_Outlet_finish_37 : decode M_Outlet_finish.2.1 37 = .ok (.getfield 26, 3) := by decide +kernel
theorem dc_Outlet_finish_40 : decode M_Outlet_finish.2.1 40 = .ok (.iload_n 1, 1) := by decide +kernel
theorem dc_Outlet_finish_41 : decode M_Outlet_finish.2.1 41 = .ok (.aload_n 0, 1) := by decide +kernel
theorem dc_Outlet_finish_42 : decode M_Outlet_finish.2.1 42 = .ok (.getfield 26, 3) := by decide +kernel
theorem dc_Outlet_finish_45 : decode M_Outlet_finish.2.1 45 = .ok (.iload_n 1, 1) := by decide +kernel
theorem dc_Outlet_finish_46 : decode M_Outlet_finish.2.1 46 = .ok (.iconst 1, 1) := by decide +kernel
theorem dc_Outlet_finish_47 : decode M_Outlet_finish.2.1 47 = .ok (.isub, 1) := by decide +kernel
theorem dc_Outlet_finish_48 : decode M_Outlet_finish.2.1 48 = .ok (.aaload, 1) := by decide +kernel
theorem dc_Outlet_finish_49 : decode M_Outlet_finish.2.1 49 = .ok (.aastore, 1) := by decide +kernel
theorem dc_Outlet_finish_50 : decode M_Outlet_finish.2.1 50 = .ok (.iinc 1 (-1), 3) := by decide +kernel
theorem dc_Outlet_finish_53 : decode M_Outlet_finish.2.1 53 = .ok (.goto (-21), 3) := by decide +kernel
theorem dc_Outlet_finish_56 : decode M_Outlet_finish.2.1 56 = .ok (.aload_n 0, 1) := by decide +kernel
theorem dc_Outlet_finish_57 : decode M_Outlet_finish.2.1 57 = .ok (.getfield 26, 3) := by decide +kernel
theorem dc_Outlet_finish_60 : decode M_Outlet_finish.2.1 60 = .ok (.iconst 0, 1) := by decide +kernel
theorem dc_Outlet_finish_61 : decode M_Outlet_finish.2.1 61 = .ok (.aload_n 0, 1) := by decide +kernel
theorem dc_Outlet_finish_62 : decode M_Outlet_finish.2.1 62 = .ok (.getfield 33, 3) := by decide +kernel
theorem dc_Outlet_finish_65 : decode M_Outlet_finish.2.1 65 = .ok (.aastore, 1) := by decide +kernel
theorem dc_Outlet_finish_66 : decode M_Outlet_finish.2.1 66 = .ok (.aload_n 0, 1) := by decide +kernel
theorem dc_Outlet_finish_67 : decode M_Outlet_finish.2.1 67 = .ok (.aconst_null, 1) := by decide +kernel
theorem dc_Outlet_finish_68 : decode M_Outlet_finish.2.1 68 = .ok (.putfield 33, 3) := by decide +kernel
theorem dc_Outlet_finish_71 : decode M_Outlet_finish.2.1 71 = .ok (.return_, 1) := by decide +kernel
set_option maxRecDepth 20000 in
theorem e_Outlet_finish_0 {d : Nat} {σ : PH} {K : PO → PH → Prop} (x0 : Nat) (h : sh σ x0 = (1, 5) ∧ (if (gI σ 326 x0) = 0 then (if gR σ 324 x0 = none then (∀ σ2 : PH, σ2 = pR σ 324 x0 none → K (.inl none) σ2) else (∃ b1 : Nat, gR σ 324 x0 = some b1 ∧ sh σ b1 = (1, 6) ∧ (∃ b2 : Nat, gR σ 388 b1 = some b2 ∧ (∃ n1 : Nat, sh σ b2 = (2, n1) ∧ vp_in (gI σ 320 x0) n1 ∧ (∀ σ3 : PH, σ3 = uI σ b2 (ix (gI σ 320 x0)) (gI σ 325 x0) → PW d M_Outlet_finish 32 [.ref x0, .int 2] [] σ3 K))))) else (∀ σ1 : PH, σ1 = pR σ 324 x0 none → K (.inl none) σ1))) : PW d M_Outlet_finish 0 [.ref x0, uu] [] σ K := by
  refine pw_aload_n dc_Outlet_finish_0 rfl rfl ?_
  obtain ⟨hs1, h⟩ := h
  refine pw_getI (c := 5) (k := 6) (f := 326) dc_Outlet_finish_1 fl_Outlet_67 rfl rfl hs1 ?_
  refine pw_if_ne (tgt := 66) dc_Outlet_finish_4 (by decide) (fun hc => ?_) (fun hc => ?_)
  · have h := ite_f h hc
    refine pw_aload_n dc_Outlet_finish_66 rfl rfl ?_
    refine pw_null dc_Outlet_finish_67 ?_
    have h := h _ rfl
    refine pw_putR (c := 5) (k := 4) (f := 324) (v := none) dc_Outlet_finish_68 fl_Outlet_33 (Or.inl rfl) rfl rfl hs1 ?_
    exact pw_vret dc_Outlet_finish_71 rfl h
  · have h := ite_t h hc
    refine pw_aload_n dc_Outlet_finish_7 rfl rfl ?_
    refine pw_getR (c := 5) (k := 4) (f := 324) dc_Outlet_finish_8 fl_Outlet_33 rfl rfl hs1 ?_
    refine pw_ifnull (v := gR σ 324 x0) (tgt := 66) dc_Outlet_finish_11 (by decide) (fun hc => ?_) (fun hc => ?_)
    · have h := ite_t h hc
      refine pw_aload_n dc_Outlet_finish_66 rfl rfl ?_
      refine pw_null dc_Outlet_finish_67 ?_
      have h := h _ rfl
      refine pw_putR (c := 5) (k := 4) (f := 324) (v := none) dc_Outlet_finish_68 fl_Outlet_33 (Or.inl rfl) rfl rfl hs1 ?_
      exact pw_vret dc_Outlet_finish_71 rfl h
    · have h := ite_f h hc
      refine pw_aload_n dc_Outlet_finish_14 rfl rfl ?_
      refine pw_getR (c := 5) (k := 4) (f := 324) dc_Outlet_finish_15 fl_Outlet_33 rfl rfl hs1 ?_
      obtain ⟨b1, hb1, h⟩ := h
      refine PW.top (v' := .ref b1) (congrArg va_rf hb1) ?_
      obtain ⟨hs2, h⟩ := h
      refine pw_getR (c := 6) (k := 4) (f := 388) dc_Outlet_finish_18 fl_Outlet_44 rfl rfl hs2 ?_
      obtain ⟨b2, hb2, h⟩ := h
      refine PW.top (v' := .ref b2) (congrArg va_rf hb2) ?_
      refine pw_aload_n dc_Outlet_finish_21 rfl rfl ?_
      refine pw_getI (c := 5) (k := 0) (f := 320) dc_Outlet_finish_22 fl_Outlet_29 rfl rfl hs1 ?_
      refine pw_aload_n dc_Outlet_finish_25 rfl rfl ?_
      refine pw_getI (c := 5) (k := 5) (f := 325) dc_Outlet_finish_26 fl_Outlet_64 rfl rfl hs1 ?_
      obtain ⟨n1, hs3, h⟩ := h
      obtain ⟨hi1, h⟩ := h
      have h := h _ rfl
      refine pw_iast dc_Outlet_finish_29 hs3 hi1 ?_
      refine pw_iconst (v := 2) dc_Outlet_finish_30 (by decide) ?_
      refine pw_istore_n dc_Outlet_finish_31 (by decide) ?_
      exact h
set_option maxRecDepth 20000 in
theorem e_Outlet_finish_32 {d : Nat} {σ : PH} {K : PO → PH → Prop} (x0 : Nat) (x1 : Int32) (h : (if x1 ≤ 0 then sh σ x0 = (1, 5) ∧ (∃ b1 : Nat, gR σ 330 x0 = some b1 ∧ (∃ n1 : Nat, sh σ b1 = (7, n1) ∧ vp_in 0 n1 ∧ (∀ b : Nat, gR σ 324 x0 = some b → sh σ b = (1, 6)) ∧ (∀ σ1 : PH, σ1 = uR σ b1 (ix 0) (gR σ 324 x0) → sh σ1 x0 = (1, 5) ∧ (∀ σ2 : PH, σ2 = pR σ1 324 x0 none → K (.inl none) σ2)))) else sh σ x0 = (1, 5) ∧ (∃ b2 : Nat, gR σ 330 x0 = some b2 ∧ (∃ n2 : Nat, sh σ b2 = (7, n2) ∧ vp_in (x1 - 1) n2 ∧ vp_in x1 n2 ∧ (∀ b : Nat, eR σ b2 (ix (x1 - 1)) = some b → sh σ b = (1, 6)) ∧ (∀ σ3 : PH, σ3 = uR σ b2 (ix x1) (eR σ b2 (ix (x1 - 1))) → PW d M_Outlet_finish 32 [.ref x0, .int (x1 + (-1))] [] σ3 K))))) : PW d M_Outlet_finish 32 [.ref x0, .int x1] [] σ K := by
  refine pw_iload_n dc_Outlet_finish_32 rfl ?_
  refine pw_if_le (tgt := 56) dc_Outlet_finish_33 (by decide) (fun hc => ?_) (fun hc => ?_)
  · have h := ite_t h hc
    refine pw_aload_n dc_Outlet_finish_56 rfl rfl ?_
    obtain ⟨hs1, h⟩ := h
    refine pw_getR (c := 5) (k := 10) (f := 330) dc_Outlet_finish_57 fl_Outlet_26 rfl rfl hs1 ?_
    obtain ⟨b1, hb1, h⟩ := h
    refine PW.top (v' := .ref b1) (congrArg va_rf hb1) ?_
    refine pw_iconst (v := 0) dc_Outlet_finish_60 (by decide) ?_
    refine pw_aload_n dc_Outlet_finish_61 rfl rfl ?_
    refine pw_getR (c := 5) (k := 4) (f := 324) dc_Outlet_finish_62 fl_Outlet_33 rfl rfl hs1 ?_
    obtain ⟨n1, hs2, h⟩ := h
    obtain ⟨hi1, h⟩ := h
    obtain ⟨hv1, h⟩ := h
    have h := h _ rfl
    refine pw_aast (k := 7) (v := gR σ 324 x0) dc_Outlet_finish_65 (by unfold rk; decide) hs2 hi1 hv1 ?_
    refine pw_aload_n dc_Outlet_finish_66 rfl rfl ?_
    refine pw_null dc_Outlet_finish_67 ?_
    obtain ⟨hs3, h⟩ := h
    have h := h _ rfl
    refine pw_putR (c := 5) (k := 4) (f := 324) (v := none) dc_Outlet_finish_68 fl_Outlet_33 (Or.inl rfl) rfl rfl hs3 ?_
    exact pw_vret dc_Outlet_finish_71 rfl h
  · have h := ite_f h hc
    refine pw_aload_n dc_Outlet_finish_36 rfl rfl ?_
    obtain ⟨hs4, h⟩ := h
    refine pw_getR (c := 5) (k := 10) (f := 330) dc_Outlet_finish_37 fl_Outlet_26 rfl rfl hs4 ?_
    obtain ⟨b2, hb2, h⟩ := h
    refine PW.top (v' := .ref b2) (congrArg va_rf hb2) ?_
    refine pw_iload_n dc_Outlet_finish_40 rfl ?_
    refine pw_aload_n dc_Outlet_finish_41 rfl rfl ?_
    refine pw_getR (c := 5) (k := 10) (f := 330) dc_Outlet_finish_42 fl_Outlet_26 rfl rfl hs4 ?_
    refine PW.top (v' := .ref b2) (congrArg va_rf hb2) ?_
    refine pw_iload_n dc_Outlet_finish_45 rfl ?_
    refine pw_iconst (v := 1) dc_Outlet_finish_46 (by decide) ?_
    refine pw_isub dc_Outlet_finish_47 ?_
    obtain ⟨n2, hs5, h⟩ := h
    obtain ⟨hi2, h⟩ := h
    refine pw_aald (k := 7) dc_Outlet_finish_48 (by unfold rk; decide) hs5 hi2 ?_
    obtain ⟨hi3, h⟩ := h
    obtain ⟨hv2, h⟩ := h
    have h := h _ rfl
    refine pw_aast (k := 7) (v := eR σ b2 (ix (x1 - 1))) dc_Outlet_finish_49 (by unfold rk; decide) hs5 hi3 hv2 ?_
    refine pw_iincv (v := (-1)) dc_Outlet_finish_50 (by decide) rfl (by decide) ?_
    refine pw_goto (tgt := 32) dc_Outlet_finish_53 (by decide) ?_
    exact h
end
