/-! ===== printed: the methods by name, and what their calls ask ===== -/
def M_Desk_init : MI := (⟨"RelayDesk", "<init>", "()V"⟩, prog_1_method_1_code, 2, none, [])
theorem cq_Desk_init : CQ M_Desk_init 0 := ⟨Or.inl ⟨List.mem_of_getElem? (i := 89) (by decide +kernel), rfl⟩, List.mem_of_getElem? (i := 61) (by decide +kernel), ⟨by decide +kernel, by decide +kernel⟩, by decide +kernel, by decide +kernel, by decide, by decide⟩
def M_Desk_sign : MI := (⟨"RelayDesk", "sign", "(II)I"⟩, prog_1_method_2_code, 5, (some .int), [])
theorem cq_Desk_sign : CQ M_Desk_sign 2 := ⟨Or.inl ⟨List.mem_of_getElem? (i := 400) (by decide +kernel), rfl⟩, List.mem_of_getElem? (i := 61) (by decide +kernel), ⟨by decide +kernel, by decide +kernel⟩, by decide +kernel, by decide +kernel, by decide, by decide⟩
def M_Desk_receipt : MI := (⟨"RelayDesk", "receipt", "(I)I"⟩, prog_1_method_3_code, 2, (some .int), [])
theorem cq_Desk_receipt : CQ M_Desk_receipt 1 := ⟨Or.inl ⟨List.mem_of_getElem? (i := 693) (by decide +kernel), rfl⟩, List.mem_of_getElem? (i := 61) (by decide +kernel), ⟨by decide +kernel, by decide +kernel⟩, by decide +kernel, by decide +kernel, by decide, by decide⟩
def M_Desk_askFor : MI := (⟨"RelayDesk", "askFor", "(I)I"⟩, prog_1_method_4_code, 2, (some .int), [])
theorem cq_Desk_askFor : CQ M_Desk_askFor 1 := ⟨Or.inl ⟨List.mem_of_getElem? (i := 700) (by decide +kernel), rfl⟩, List.mem_of_getElem? (i := 61) (by decide +kernel), ⟨by decide +kernel, by decide +kernel⟩, by decide +kernel, by decide +kernel, by decide, by decide⟩
def M_Desk_route : MI := (⟨"RelayDesk", "route", "(III)V"⟩, prog_1_method_5_code, 6, none, [])
theorem cq_Desk_route : CQ M_Desk_route 3 := ⟨Or.inl ⟨List.mem_of_getElem? (i := 712) (by decide +kernel), rfl⟩, List.mem_of_getElem? (i := 61) (by decide +kernel), ⟨by decide +kernel, by decide +kernel⟩, by decide +kernel, by decide +kernel, by decide, by decide⟩
def M_Desk_group : MI := (⟨"RelayDesk", "group", "(II)I"⟩, prog_1_method_6_code, 4, (some .int), [])
theorem cq_Desk_group : CQ M_Desk_group 2 := ⟨Or.inl ⟨List.mem_of_getElem? (i := 745) (by decide +kernel), rfl⟩, List.mem_of_getElem? (i := 61) (by decide +kernel), ⟨by decide +kernel, by decide +kernel⟩, by decide +kernel, by decide +kernel, by decide, by decide⟩
def M_Desk_open : MI := (⟨"RelayDesk", "open", "(IZ)Z"⟩, prog_1_method_7_code, 5, (some .boolean), [])
theorem cq_Desk_open : CQ M_Desk_open 2 := ⟨Or.inl ⟨List.mem_of_getElem? (i := 765) (by decide +kernel), rfl⟩, List.mem_of_getElem? (i := 61) (by decide +kernel), ⟨by decide +kernel, by decide +kernel⟩, by decide +kernel, by decide +kernel, by decide, by decide⟩
def M_Desk_send : MI := (⟨"RelayDesk", "send", "(I)I"⟩, prog_1_method_8_code, 3, (some .int), [])
theorem cq_Desk_send : CQ M_Desk_send 1 := ⟨Or.inl ⟨List.mem_of_getElem? (i := 776) (by decide +kernel), rfl⟩, List.mem_of_getElem? (i := 61) (by decide +kernel), ⟨by decide +kernel, by decide +kernel⟩, by decide +kernel, by decide +kernel, by decide, by decide⟩
def M_Desk_rerun : MI := (⟨"RelayDesk", "rerun", "(II)Z"⟩, prog_1_method_9_code, 4, (some .boolean), [])
theorem cq_Desk_rerun : CQ M_Desk_rerun 2 := ⟨Or.inl ⟨List.mem_of_getElem? (i := 899) (by decide +kernel), rfl⟩, List.mem_of_getElem? (i := 61) (by decide +kernel), ⟨by decide +kernel, by decide +kernel⟩, by decide +kernel, by decide +kernel, by decide, by decide⟩
def M_Desk_queued : MI := (⟨"RelayDesk", "queued", "(II)I"⟩, prog_1_method_10_code, 5, (some .int), [])
theorem cq_Desk_queued : CQ M_Desk_queued 2 := ⟨Or.inl ⟨List.mem_of_getElem? (i := 910) (by decide +kernel), rfl⟩, List.mem_of_getElem? (i := 61) (by decide +kernel), ⟨by decide +kernel, by decide +kernel⟩, by decide +kernel, by decide +kernel, by decide, by decide⟩
def M_Desk_trace : MI := (⟨"RelayDesk", "trace", "(II)I"⟩, prog_1_method_11_code, 4, (some .int), [])
theorem cq_Desk_trace : CQ M_Desk_trace 2 := ⟨Or.inl ⟨List.mem_of_getElem? (i := 917) (by decide +kernel), rfl⟩, List.mem_of_getElem? (i := 61) (by decide +kernel), ⟨by decide +kernel, by decide +kernel⟩, by decide +kernel, by decide +kernel, by decide, by decide⟩
def M_Desk_reason : MI := (⟨"RelayDesk", "reason", "(I)I"⟩, prog_1_method_12_code, 2, (some .int), [])
theorem cq_Desk_reason : CQ M_Desk_reason 1 := ⟨Or.inl ⟨List.mem_of_getElem? (i := 924) (by decide +kernel), rfl⟩, List.mem_of_getElem? (i := 61) (by decide +kernel), ⟨by decide +kernel, by decide +kernel⟩, by decide +kernel, by decide +kernel, by decide, by decide⟩
def M_Desk_clerk : MI := (⟨"RelayDesk", "clerk", "(IC)V"⟩, prog_1_method_13_code, 4, none, [])
theorem cq_Desk_clerk : CQ M_Desk_clerk 2 := ⟨Or.inl ⟨List.mem_of_getElem? (i := 931) (by decide +kernel), rfl⟩, List.mem_of_getElem? (i := 61) (by decide +kernel), ⟨by decide +kernel, by decide +kernel⟩, by decide +kernel, by decide +kernel, by decide, by decide⟩
def M_Desk_resubmit : MI := (⟨"RelayDesk", "resubmit", "(I)I"⟩, prog_1_method_14_code, 4, (some .int), [])
theorem cq_Desk_resubmit : CQ M_Desk_resubmit 1 := ⟨Or.inl ⟨List.mem_of_getElem? (i := 940) (by decide +kernel), rfl⟩, List.mem_of_getElem? (i := 61) (by decide +kernel), ⟨by decide +kernel, by decide +kernel⟩, by decide +kernel, by decide +kernel, by decide, by decide⟩
def M_Desk_cut : MI := (⟨"RelayDesk", "cut", "()V"⟩, prog_1_method_15_code, 2, none, [])
theorem cq_Desk_cut : CQ M_Desk_cut 0 := ⟨Or.inl ⟨List.mem_of_getElem? (i := 364) (by decide +kernel), rfl⟩, List.mem_of_getElem? (i := 61) (by decide +kernel), ⟨by decide +kernel, by decide +kernel⟩, by decide +kernel, by decide +kernel, by decide, by decide⟩
def M_Desk_count : MI := (⟨"RelayDesk", "count", "(I)I"⟩, prog_1_method_16_code, 2, (some .int), [])
theorem cq_Desk_count : CQ M_Desk_count 1 := ⟨Or.inl ⟨List.mem_of_getElem? (i := 384) (by decide +kernel), rfl⟩, List.mem_of_getElem? (i := 61) (by decide +kernel), ⟨by decide +kernel, by decide +kernel⟩, by decide +kernel, by decide +kernel, by decide, by decide⟩
def M_Desk_needWithin : MI := (⟨"RelayDesk", "needWithin", "(III)V"⟩, prog_1_method_17_code, 3, none, [])
theorem cq_Desk_needWithin : CQ M_Desk_needWithin 3 := ⟨Or.inl ⟨List.mem_of_getElem? (i := 403) (by decide +kernel), rfl⟩, List.mem_of_getElem? (i := 61) (by decide +kernel), ⟨by decide +kernel, by decide +kernel⟩, by decide +kernel, by decide +kernel, by decide, by decide⟩
def M_Desk_handIn : MI := (⟨"RelayDesk", "handIn", "(LRelayDesk$Channel;)I"⟩, prog_1_method_18_code, 5, (some .int), [])
theorem cq_Desk_handIn : CQ M_Desk_handIn 1 := ⟨Or.inl ⟨List.mem_of_getElem? (i := 536) (by decide +kernel), rfl⟩, List.mem_of_getElem? (i := 61) (by decide +kernel), ⟨by decide +kernel, by decide +kernel⟩, by decide +kernel, by decide +kernel, by decide, by decide⟩
def M_Desk_fileIfAllLeadSomewhere : MI := (⟨"RelayDesk", "fileIfAllLeadSomewhere", "(LRelayDesk$Text;)I"⟩, prog_1_method_19_code, 3, (some .int), [])
theorem cq_Desk_fileIfAllLeadSomewhere : CQ M_Desk_fileIfAllLeadSomewhere 1 := ⟨Or.inl ⟨List.mem_of_getElem? (i := 944) (by decide +kernel), rfl⟩, List.mem_of_getElem? (i := 61) (by decide +kernel), ⟨by decide +kernel, by decide +kernel⟩, by decide +kernel, by decide +kernel, by decide, by decide⟩
def M_Desk_makeCase : MI := (⟨"RelayDesk", "makeCase", "(I)V"⟩, prog_1_method_20_code, 2, none, [])
theorem cq_Desk_makeCase : CQ M_Desk_makeCase 1 := ⟨Or.inl ⟨List.mem_of_getElem? (i := 599) (by decide +kernel), rfl⟩, List.mem_of_getElem? (i := 61) (by decide +kernel), ⟨by decide +kernel, by decide +kernel⟩, by decide +kernel, by decide +kernel, by decide, by decide⟩
def M_Desk_fileMessage : MI := (⟨"RelayDesk", "fileMessage", "(LRelayDesk$Text;I)V"⟩, prog_1_method_21_code, 6, none, [])
theorem cq_Desk_fileMessage : CQ M_Desk_fileMessage 2 := ⟨Or.inl ⟨List.mem_of_getElem? (i := 657) (by decide +kernel), rfl⟩, List.mem_of_getElem? (i := 61) (by decide +kernel), ⟨by decide +kernel, by decide +kernel⟩, by decide +kernel, by decide +kernel, by decide, by decide⟩
def M_Desk_channelOf : MI := (⟨"RelayDesk", "channelOf", "(LRelayDesk$Route;)I"⟩, prog_1_method_22_code, 2, (some .int), [])
theorem cq_Desk_channelOf : CQ M_Desk_channelOf 1 := ⟨Or.inl ⟨List.mem_of_getElem? (i := 681) (by decide +kernel), rfl⟩, List.mem_of_getElem? (i := 61) (by decide +kernel), ⟨by decide +kernel, by decide +kernel⟩, by decide +kernel, by decide +kernel, by decide, by decide⟩
def M_Desk_firstWaiting : MI := (⟨"RelayDesk", "firstWaiting", "(I)LRelayDesk$Message;"⟩, prog_1_method_23_code, 5, (some (.object "RelayDesk$Message")), [])
theorem cq_Desk_firstWaiting : CQ M_Desk_firstWaiting 1 := ⟨Or.inl ⟨List.mem_of_getElem? (i := 811) (by decide +kernel), rfl⟩, List.mem_of_getElem? (i := 61) (by decide +kernel), ⟨by decide +kernel, by decide +kernel⟩, by decide +kernel, by decide +kernel, by decide, by decide⟩
def M_Desk_casesNotClosed : MI := (⟨"RelayDesk", "casesNotClosed", "()I"⟩, prog_1_method_24_code, 3, (some .int), [])
theorem cq_Desk_casesNotClosed : CQ M_Desk_casesNotClosed 0 := ⟨Or.inl ⟨List.mem_of_getElem? (i := 388) (by decide +kernel), rfl⟩, List.mem_of_getElem? (i := 61) (by decide +kernel), ⟨by decide +kernel, by decide +kernel⟩, by decide +kernel, by decide +kernel, by decide, by decide⟩
def M_Mod_init : MI := (⟨"RelayDeskModel", "<init>", "()V"⟩, prog_14_method_1_code, 2, none, [])
theorem cq_Mod_init : CQ M_Mod_init 0 := ⟨Or.inl ⟨List.mem_of_getElem? (i := 950) (by decide +kernel), rfl⟩, List.mem_of_getElem? (i := 72) (by decide +kernel), ⟨by decide +kernel, by decide +kernel⟩, by decide +kernel, by decide +kernel, by decide, by decide⟩
def M_Mod_thrown : MI := (⟨"RelayDeskModel", "thrown", "()I"⟩, prog_14_method_2_code, 1, (some .int), [])
theorem cq_Mod_thrown : CQ M_Mod_thrown 0 := ⟨Or.inl ⟨List.mem_of_getElem? (i := 1123) (by decide +kernel), rfl⟩, List.mem_of_getElem? (i := 72) (by decide +kernel), ⟨by decide +kernel, by decide +kernel⟩, by decide +kernel, by decide +kernel, by decide, by decide⟩
def M_Mod_refused : MI := (⟨"RelayDeskModel", "refused", "(I)Z"⟩, prog_14_method_3_code, 2, (some .boolean), [])
theorem cq_Mod_refused : CQ M_Mod_refused 1 := ⟨Or.inl ⟨List.mem_of_getElem? (i := 1137) (by decide +kernel), rfl⟩, List.mem_of_getElem? (i := 72) (by decide +kernel), ⟨by decide +kernel, by decide +kernel⟩, by decide +kernel, by decide +kernel, by decide, by decide⟩
def M_Mod_isIn : MI := (⟨"RelayDeskModel", "isIn", "(III)Z"⟩, prog_14_method_4_code, 3, (some .boolean), [])
theorem cq_Mod_isIn : CQ M_Mod_isIn 3 := ⟨Or.inl ⟨List.mem_of_getElem? (i := 1133) (by decide +kernel), rfl⟩, List.mem_of_getElem? (i := 72) (by decide +kernel), ⟨by decide +kernel, by decide +kernel⟩, by decide +kernel, by decide +kernel, by decide, by decide⟩
def M_Mod_isChannel : MI := (⟨"RelayDeskModel", "isChannel", "(I)Z"⟩, prog_14_method_5_code, 1, (some .boolean), [])
theorem cq_Mod_isChannel : CQ M_Mod_isChannel 1 := ⟨Or.inl ⟨List.mem_of_getElem? (i := 1130) (by decide +kernel), rfl⟩, List.mem_of_getElem? (i := 72) (by decide +kernel), ⟨by decide +kernel, by decide +kernel⟩, by decide +kernel, by decide +kernel, by decide, by decide⟩
def M_Mod_figure : MI := (⟨"RelayDeskModel", "figure", "(I)C"⟩, prog_14_method_6_code, 1, (some .char), [])
theorem cq_Mod_figure : CQ M_Mod_figure 1 := ⟨Or.inl ⟨List.mem_of_getElem? (i := 1144) (by decide +kernel), rfl⟩, List.mem_of_getElem? (i := 72) (by decide +kernel), ⟨by decide +kernel, by decide +kernel⟩, by decide +kernel, by decide +kernel, by decide, by decide⟩
def M_Mod_figureOf : MI := (⟨"RelayDeskModel", "figureOf", "(C)I"⟩, prog_14_method_7_code, 3, (some .int), [])
theorem cq_Mod_figureOf : CQ M_Mod_figureOf 1 := ⟨Or.inl ⟨List.mem_of_getElem? (i := 1304) (by decide +kernel), rfl⟩, List.mem_of_getElem? (i := 72) (by decide +kernel), ⟨by decide +kernel, by decide +kernel⟩, by decide +kernel, by decide +kernel, by decide, by decide⟩
def M_Mod_isLetter : MI := (⟨"RelayDeskModel", "isLetter", "(C)Z"⟩, prog_14_method_8_code, 1, (some .boolean), [])
theorem cq_Mod_isLetter : CQ M_Mod_isLetter 1 := ⟨Or.inl ⟨List.mem_of_getElem? (i := 1186) (by decide +kernel), rfl⟩, List.mem_of_getElem? (i := 72) (by decide +kernel), ⟨by decide +kernel, by decide +kernel⟩, by decide +kernel, by decide +kernel, by decide, by decide⟩
def M_Mod_isDigit : MI := (⟨"RelayDeskModel", "isDigit", "(C)Z"⟩, prog_14_method_9_code, 1, (some .boolean), [])
theorem cq_Mod_isDigit : CQ M_Mod_isDigit 1 := ⟨Or.inl ⟨List.mem_of_getElem? (i := 1179) (by decide +kernel), rfl⟩, List.mem_of_getElem? (i := 72) (by decide +kernel), ⟨by decide +kernel, by decide +kernel⟩, by decide +kernel, by decide +kernel, by decide, by decide⟩
def M_Mod_isCharacter : MI := (⟨"RelayDeskModel", "isCharacter", "(C)Z"⟩, prog_14_method_10_code, 1, (some .boolean), [])
theorem cq_Mod_isCharacter : CQ M_Mod_isCharacter 1 := ⟨Or.inl ⟨List.mem_of_getElem? (i := 1335) (by decide +kernel), rfl⟩, List.mem_of_getElem? (i := 72) (by decide +kernel), ⟨by decide +kernel, by decide +kernel⟩, by decide +kernel, by decide +kernel, by decide, by decide⟩
def M_Mod_gather : MI := (⟨"RelayDeskModel", "gather", "(IC)V"⟩, prog_14_method_11_code, 3, none, [])
theorem cq_Mod_gather : CQ M_Mod_gather 2 := ⟨Or.inl ⟨List.mem_of_getElem? (i := 1141) (by decide +kernel), rfl⟩, List.mem_of_getElem? (i := 72) (by decide +kernel), ⟨by decide +kernel, by decide +kernel⟩, by decide +kernel, by decide +kernel, by decide, by decide⟩
def M_Mod_atEnd : MI := (⟨"RelayDeskModel", "atEnd", "(II)C"⟩, prog_14_method_12_code, 3, (some .char), [])
theorem cq_Mod_atEnd : CQ M_Mod_atEnd 2 := ⟨Or.inl ⟨List.mem_of_getElem? (i := 1152) (by decide +kernel), rfl⟩, List.mem_of_getElem? (i := 72) (by decide +kernel), ⟨by decide +kernel, by decide +kernel⟩, by decide +kernel, by decide +kernel, by decide, by decide⟩
def M_Mod_isEnd : MI := (⟨"RelayDeskModel", "isEnd", "(I)Z"⟩, prog_14_method_13_code, 4, (some .boolean), [])
theorem cq_Mod_isEnd : CQ M_Mod_isEnd 1 := ⟨Or.inl ⟨List.mem_of_getElem? (i := 1148) (by decide +kernel), rfl⟩, List.mem_of_getElem? (i := 72) (by decide +kernel), ⟨by decide +kernel, by decide +kernel⟩, by decide +kernel, by decide +kernel, by decide, by decide⟩
def M_Mod_forget : MI := (⟨"RelayDeskModel", "forget", "(I)V"⟩, prog_14_method_14_code, 2, none, [])
theorem cq_Mod_forget : CQ M_Mod_forget 1 := ⟨Or.inl ⟨List.mem_of_getElem? (i := 1156) (by decide +kernel), rfl⟩, List.mem_of_getElem? (i := 72) (by decide +kernel), ⟨by decide +kernel, by decide +kernel⟩, by decide +kernel, by decide +kernel, by decide, by decide⟩
def M_Mod_sign : MI := (⟨"RelayDeskModel", "sign", "(II)I"⟩, prog_14_method_15_code, 5, (some .int), [])
theorem cq_Mod_sign : CQ M_Mod_sign 2 := ⟨Or.inl ⟨List.mem_of_getElem? (i := 1127) (by decide +kernel), rfl⟩, List.mem_of_getElem? (i := 72) (by decide +kernel), ⟨by decide +kernel, by decide +kernel⟩, by decide +kernel, by decide +kernel, by decide, by decide⟩
def M_Mod_part : MI := (⟨"RelayDeskModel", "part", "()V"⟩, prog_14_method_16_code, 2, none, [])
theorem cq_Mod_part : CQ M_Mod_part 0 := ⟨Or.inl ⟨List.mem_of_getElem? (i := 1168) (by decide +kernel), rfl⟩, List.mem_of_getElem? (i := 72) (by decide +kernel), ⟨by decide +kernel, by decide +kernel⟩, by decide +kernel, by decide +kernel, by decide, by decide⟩
def M_Mod_letter : MI := (⟨"RelayDeskModel", "letter", "(II)C"⟩, prog_14_method_17_code, 3, (some .char), [])
theorem cq_Mod_letter : CQ M_Mod_letter 2 := ⟨Or.inl ⟨List.mem_of_getElem? (i := 1176) (by decide +kernel), rfl⟩, List.mem_of_getElem? (i := 72) (by decide +kernel), ⟨by decide +kernel, by decide +kernel⟩, by decide +kernel, by decide +kernel, by decide, by decide⟩
def M_Mod_numberWord : MI := (⟨"RelayDeskModel", "numberWord", "()I"⟩, prog_14_method_18_code, 3, (some .int), [])
theorem cq_Mod_numberWord : CQ M_Mod_numberWord 0 := ⟨Or.inl ⟨List.mem_of_getElem? (i := 1172) (by decide +kernel), rfl⟩, List.mem_of_getElem? (i := 72) (by decide +kernel), ⟨by decide +kernel, by decide +kernel⟩, by decide +kernel, by decide +kernel, by decide, by decide⟩
def M_Mod_isIndicator : MI := (⟨"RelayDeskModel", "isIndicator", "(I)Z"⟩, prog_14_method_19_code, 4, (some .boolean), [])
theorem cq_Mod_isIndicator : CQ M_Mod_isIndicator 1 := ⟨Or.inl ⟨List.mem_of_getElem? (i := 1183) (by decide +kernel), rfl⟩, List.mem_of_getElem? (i := 72) (by decide +kernel), ⟨by decide +kernel, by decide +kernel⟩, by decide +kernel, by decide +kernel, by decide, by decide⟩
def M_Mod_indicatorOf : MI := (⟨"RelayDeskModel", "indicatorOf", "(I)I"⟩, prog_14_method_20_code, 4, (some .int), [])
theorem cq_Mod_indicatorOf : CQ M_Mod_indicatorOf 1 := ⟨Or.inl ⟨List.mem_of_getElem? (i := 1221) (by decide +kernel), rfl⟩, List.mem_of_getElem? (i := 72) (by decide +kernel), ⟨by decide +kernel, by decide +kernel⟩, by decide +kernel, by decide +kernel, by decide, by decide⟩
def M_Mod_faultOfText : MI := (⟨"RelayDeskModel", "faultOfText", "()I"⟩, prog_14_method_21_code, 5, (some .int), [])
theorem cq_Mod_faultOfText : CQ M_Mod_faultOfText 0 := ⟨Or.inl ⟨List.mem_of_getElem? (i := 1164) (by decide +kernel), rfl⟩, List.mem_of_getElem? (i := 72) (by decide +kernel), ⟨by decide +kernel, by decide +kernel⟩, by decide +kernel, by decide +kernel, by decide, by decide⟩
def M_Mod_missingAt : MI := (⟨"RelayDeskModel", "missingAt", "(II)I"⟩, prog_14_method_22_code, 5, (some .int), [])
theorem cq_Mod_missingAt : CQ M_Mod_missingAt 2 := ⟨Or.inl ⟨List.mem_of_getElem? (i := 1205) (by decide +kernel), rfl⟩, List.mem_of_getElem? (i := 72) (by decide +kernel), ⟨by decide +kernel, by decide +kernel⟩, by decide +kernel, by decide +kernel, by decide, by decide⟩
def M_Mod_after : MI := (⟨"RelayDeskModel", "after", "(I)I"⟩, prog_14_method_23_code, 1, (some .int), [])
theorem cq_Mod_after : CQ M_Mod_after 1 := ⟨Or.inl ⟨List.mem_of_getElem? (i := 1201) (by decide +kernel), rfl⟩, List.mem_of_getElem? (i := 72) (by decide +kernel), ⟨by decide +kernel, by decide +kernel⟩, by decide +kernel, by decide +kernel, by decide, by decide⟩
def M_Mod_count3 : MI := (⟨"RelayDeskModel", "count", "(III)I"⟩, prog_14_method_24_code, 6, (some .int), [])
theorem cq_Mod_count3 : CQ M_Mod_count3 3 := ⟨Or.inl ⟨List.mem_of_getElem? (i := 1198) (by decide +kernel), rfl⟩, List.mem_of_getElem? (i := 72) (by decide +kernel), ⟨by decide +kernel, by decide +kernel⟩, by decide +kernel, by decide +kernel, by decide, by decide⟩
def M_Mod_isDue : MI := (⟨"RelayDeskModel", "isDue", "(II)Z"⟩, prog_14_method_25_code, 4, (some .boolean), [])
theorem cq_Mod_isDue : CQ M_Mod_isDue 2 := ⟨Or.inl ⟨List.mem_of_getElem? (i := 1194) (by decide +kernel), rfl⟩, List.mem_of_getElem? (i := 72) (by decide +kernel), ⟨by decide +kernel, by decide +kernel⟩, by decide +kernel, by decide +kernel, by decide, by decide⟩
def M_Mod_take : MI := (⟨"RelayDeskModel", "take", "(II)V"⟩, prog_14_method_26_code, 4, none, [])
theorem cq_Mod_take : CQ M_Mod_take 2 := ⟨Or.inl ⟨List.mem_of_getElem? (i := 1209) (by decide +kernel), rfl⟩, List.mem_of_getElem? (i := 72) (by decide +kernel), ⟨by decide +kernel, by decide +kernel⟩, by decide +kernel, by decide +kernel, by decide, by decide⟩
def M_Mod_missingAt2 : MI := (⟨"RelayDeskModel", "missingAt2", "(II)I"⟩, prog_14_method_27_code, 4, (some .int), [])
theorem cq_Mod_missingAt2 : CQ M_Mod_missingAt2 2 := ⟨Or.inl ⟨List.mem_of_getElem? (i := 1213) (by decide +kernel), rfl⟩, List.mem_of_getElem? (i := 72) (by decide +kernel), ⟨by decide +kernel, by decide +kernel⟩, by decide +kernel, by decide +kernel, by decide, by decide⟩
def M_Mod_addCase : MI := (⟨"RelayDeskModel", "addCase", "(I)V"⟩, prog_14_method_28_code, 2, none, [])
theorem cq_Mod_addCase : CQ M_Mod_addCase 1 := ⟨Or.inl ⟨List.mem_of_getElem? (i := 1190) (by decide +kernel), rfl⟩, List.mem_of_getElem? (i := 72) (by decide +kernel), ⟨by decide +kernel, by decide +kernel⟩, by decide +kernel, by decide +kernel, by decide, by decide⟩
def M_Mod_finish : MI := (⟨"RelayDeskModel", "finish", "(I)I"⟩, prog_14_method_29_code, 3, (some .int), [])
theorem cq_Mod_finish : CQ M_Mod_finish 1 := ⟨Or.inl ⟨List.mem_of_getElem? (i := 1160) (by decide +kernel), rfl⟩, List.mem_of_getElem? (i := 72) (by decide +kernel), ⟨by decide +kernel, by decide +kernel⟩, by decide +kernel, by decide +kernel, by decide, by decide⟩
def M_Mod_receipt : MI := (⟨"RelayDeskModel", "receipt", "(I)I"⟩, prog_14_method_30_code, 2, (some .int), [])
theorem cq_Mod_receipt : CQ M_Mod_receipt 1 := ⟨Or.inl ⟨List.mem_of_getElem? (i := 1241) (by decide +kernel), rfl⟩, List.mem_of_getElem? (i := 72) (by decide +kernel), ⟨by decide +kernel, by decide +kernel⟩, by decide +kernel, by decide +kernel, by decide, by decide⟩
def M_Mod_askFor : MI := (⟨"RelayDeskModel", "askFor", "(I)I"⟩, prog_14_method_31_code, 2, (some .int), [])
theorem cq_Mod_askFor : CQ M_Mod_askFor 1 := ⟨Or.inl ⟨List.mem_of_getElem? (i := 1245) (by decide +kernel), rfl⟩, List.mem_of_getElem? (i := 72) (by decide +kernel), ⟨by decide +kernel, by decide +kernel⟩, by decide +kernel, by decide +kernel, by decide, by decide⟩
def M_Mod_routeAt : MI := (⟨"RelayDeskModel", "routeAt", "(I)I"⟩, prog_14_method_32_code, 4, (some .int), [])
theorem cq_Mod_routeAt : CQ M_Mod_routeAt 1 := ⟨Or.inl ⟨List.mem_of_getElem? (i := 1229) (by decide +kernel), rfl⟩, List.mem_of_getElem? (i := 72) (by decide +kernel), ⟨by decide +kernel, by decide +kernel⟩, by decide +kernel, by decide +kernel, by decide, by decide⟩
def M_Mod_isCode : MI := (⟨"RelayDeskModel", "isCode", "(I)Z"⟩, prog_14_method_33_code, 1, (some .boolean), [])
theorem cq_Mod_isCode : CQ M_Mod_isCode 1 := ⟨Or.inl ⟨List.mem_of_getElem? (i := 1252) (by decide +kernel), rfl⟩, List.mem_of_getElem? (i := 72) (by decide +kernel), ⟨by decide +kernel, by decide +kernel⟩, by decide +kernel, by decide +kernel, by decide, by decide⟩
def M_Mod_addRoute : MI := (⟨"RelayDeskModel", "addRoute", "(II)I"⟩, prog_14_method_34_code, 3, (some .int), [])
theorem cq_Mod_addRoute : CQ M_Mod_addRoute 2 := ⟨Or.inl ⟨List.mem_of_getElem? (i := 1257) (by decide +kernel), rfl⟩, List.mem_of_getElem? (i := 72) (by decide +kernel), ⟨by decide +kernel, by decide +kernel⟩, by decide +kernel, by decide +kernel, by decide, by decide⟩
def M_Mod_route : MI := (⟨"RelayDeskModel", "route", "(III)V"⟩, prog_14_method_35_code, 6, none, [])
theorem cq_Mod_route : CQ M_Mod_route 3 := ⟨Or.inl ⟨List.mem_of_getElem? (i := 1249) (by decide +kernel), rfl⟩, List.mem_of_getElem? (i := 72) (by decide +kernel), ⟨by decide +kernel, by decide +kernel⟩, by decide +kernel, by decide +kernel, by decide, by decide⟩
def M_Mod_leads : MI := (⟨"RelayDeskModel", "leads", "(II)Z"⟩, prog_14_method_36_code, 9, (some .boolean), [])
theorem cq_Mod_leads : CQ M_Mod_leads 2 := ⟨Or.inl ⟨List.mem_of_getElem? (i := 1269) (by decide +kernel), rfl⟩, List.mem_of_getElem? (i := 72) (by decide +kernel), ⟨by decide +kernel, by decide +kernel⟩, by decide +kernel, by decide +kernel, by decide, by decide⟩
def M_Mod_hasMember : MI := (⟨"RelayDeskModel", "hasMember", "(II)Z"⟩, prog_14_method_37_code, 5, (some .boolean), [])
theorem cq_Mod_hasMember : CQ M_Mod_hasMember 2 := ⟨Or.inl ⟨List.mem_of_getElem? (i := 1265) (by decide +kernel), rfl⟩, List.mem_of_getElem? (i := 72) (by decide +kernel), ⟨by decide +kernel, by decide +kernel⟩, by decide +kernel, by decide +kernel, by decide, by decide⟩
def M_Mod_group : MI := (⟨"RelayDeskModel", "group", "(II)I"⟩, prog_14_method_38_code, 5, (some .int), [])
theorem cq_Mod_group : CQ M_Mod_group 2 := ⟨Or.inl ⟨List.mem_of_getElem? (i := 1261) (by decide +kernel), rfl⟩, List.mem_of_getElem? (i := 72) (by decide +kernel), ⟨by decide +kernel, by decide +kernel⟩, by decide +kernel, by decide +kernel, by decide, by decide⟩
def M_Mod_reach : MI := (⟨"RelayDeskModel", "reach", "(II)V"⟩, prog_14_method_39_code, 4, none, [])
theorem cq_Mod_reach : CQ M_Mod_reach 2 := ⟨Or.inl ⟨List.mem_of_getElem? (i := 1233) (by decide +kernel), rfl⟩, List.mem_of_getElem? (i := 72) (by decide +kernel), ⟨by decide +kernel, by decide +kernel⟩, by decide +kernel, by decide +kernel, by decide, by decide⟩
def M_Mod_look : MI := (⟨"RelayDeskModel", "look", "()V"⟩, prog_14_method_40_code, 2, none, [])
theorem cq_Mod_look : CQ M_Mod_look 0 := ⟨Or.inl ⟨List.mem_of_getElem? (i := 1217) (by decide +kernel), rfl⟩, List.mem_of_getElem? (i := 72) (by decide +kernel), ⟨by decide +kernel, by decide +kernel⟩, by decide +kernel, by decide +kernel, by decide, by decide⟩
def M_Mod_lookFrom : MI := (⟨"RelayDeskModel", "lookFrom", "(I)V"⟩, prog_14_method_41_code, 6, none, [])
theorem cq_Mod_lookFrom : CQ M_Mod_lookFrom 1 := ⟨Or.inl ⟨List.mem_of_getElem? (i := 1225) (by decide +kernel), rfl⟩, List.mem_of_getElem? (i := 72) (by decide +kernel), ⟨by decide +kernel, by decide +kernel⟩, by decide +kernel, by decide +kernel, by decide, by decide⟩
def M_Mod_addMessage : MI := (⟨"RelayDeskModel", "addMessage", "()V"⟩, prog_14_method_42_code, 3, none, [])
theorem cq_Mod_addMessage : CQ M_Mod_addMessage 0 := ⟨Or.inl ⟨List.mem_of_getElem? (i := 1237) (by decide +kernel), rfl⟩, List.mem_of_getElem? (i := 72) (by decide +kernel), ⟨by decide +kernel, by decide +kernel⟩, by decide +kernel, by decide +kernel, by decide, by decide⟩
def M_Mod_open : MI := (⟨"RelayDeskModel", "open", "(IZ)Z"⟩, prog_14_method_43_code, 4, (some .boolean), [])
theorem cq_Mod_open : CQ M_Mod_open 2 := ⟨Or.inl ⟨List.mem_of_getElem? (i := 1273) (by decide +kernel), rfl⟩, List.mem_of_getElem? (i := 72) (by decide +kernel), ⟨by decide +kernel, by decide +kernel⟩, by decide +kernel, by decide +kernel, by decide, by decide⟩
def M_Mod_put : MI := (⟨"RelayDeskModel", "put", "(C)V"⟩, prog_14_method_44_code, 2, none, [])
theorem cq_Mod_put : CQ M_Mod_put 1 := ⟨Or.inl ⟨List.mem_of_getElem? (i := 1293) (by decide +kernel), rfl⟩, List.mem_of_getElem? (i := 72) (by decide +kernel), ⟨by decide +kernel, by decide +kernel⟩, by decide +kernel, by decide +kernel, by decide, by decide⟩
def M_Mod_putDigits : MI := (⟨"RelayDeskModel", "putDigits", "(I)V"⟩, prog_14_method_45_code, 2, none, [])
theorem cq_Mod_putDigits : CQ M_Mod_putDigits 1 := ⟨Or.inl ⟨List.mem_of_getElem? (i := 1289) (by decide +kernel), rfl⟩, List.mem_of_getElem? (i := 72) (by decide +kernel), ⟨by decide +kernel, by decide +kernel⟩, by decide +kernel, by decide +kernel, by decide, by decide⟩
def M_Mod_write : MI := (⟨"RelayDeskModel", "write", "(I)V"⟩, prog_14_method_46_code, 5, none, [])
theorem cq_Mod_write : CQ M_Mod_write 1 := ⟨Or.inl ⟨List.mem_of_getElem? (i := 1285) (by decide +kernel), rfl⟩, List.mem_of_getElem? (i := 72) (by decide +kernel), ⟨by decide +kernel, by decide +kernel⟩, by decide +kernel, by decide +kernel, by decide, by decide⟩
def M_Mod_addSign : MI := (⟨"RelayDeskModel", "addSign", "(I)V"⟩, prog_14_method_47_code, 2, none, [])
theorem cq_Mod_addSign : CQ M_Mod_addSign 1 := ⟨Or.inl ⟨List.mem_of_getElem? (i := 1301) (by decide +kernel), rfl⟩, List.mem_of_getElem? (i := 72) (by decide +kernel), ⟨by decide +kernel, by decide +kernel⟩, by decide +kernel, by decide +kernel, by decide, by decide⟩
def M_Mod_toSigns : MI := (⟨"RelayDeskModel", "toSigns", "()V"⟩, prog_14_method_48_code, 5, none, [])
theorem cq_Mod_toSigns : CQ M_Mod_toSigns 0 := ⟨Or.inl ⟨List.mem_of_getElem? (i := 1297) (by decide +kernel), rfl⟩, List.mem_of_getElem? (i := 72) (by decide +kernel), ⟨by decide +kernel, by decide +kernel⟩, by decide +kernel, by decide +kernel, by decide, by decide⟩
def M_Mod_pick : MI := (⟨"RelayDeskModel", "pick", "(I)V"⟩, prog_14_method_49_code, 5, none, [])
theorem cq_Mod_pick : CQ M_Mod_pick 1 := ⟨Or.inl ⟨List.mem_of_getElem? (i := 1281) (by decide +kernel), rfl⟩, List.mem_of_getElem? (i := 72) (by decide +kernel), ⟨by decide +kernel, by decide +kernel⟩, by decide +kernel, by decide +kernel, by decide, by decide⟩
def M_Mod_sent : MI := (⟨"RelayDeskModel", "sent", "(I)V"⟩, prog_14_method_50_code, 5, none, [])
theorem cq_Mod_sent : CQ M_Mod_sent 1 := ⟨Or.inl ⟨List.mem_of_getElem? (i := 1308) (by decide +kernel), rfl⟩, List.mem_of_getElem? (i := 72) (by decide +kernel), ⟨by decide +kernel, by decide +kernel⟩, by decide +kernel, by decide +kernel, by decide, by decide⟩
def M_Mod_send : MI := (⟨"RelayDeskModel", "send", "(I)I"⟩, prog_14_method_51_code, 3, (some .int), [])
theorem cq_Mod_send : CQ M_Mod_send 1 := ⟨Or.inl ⟨List.mem_of_getElem? (i := 1277) (by decide +kernel), rfl⟩, List.mem_of_getElem? (i := 72) (by decide +kernel), ⟨by decide +kernel, by decide +kernel⟩, by decide +kernel, by decide +kernel, by decide, by decide⟩
def M_Mod_rerun : MI := (⟨"RelayDeskModel", "rerun", "(II)Z"⟩, prog_14_method_52_code, 6, (some .boolean), [])
theorem cq_Mod_rerun : CQ M_Mod_rerun 2 := ⟨Or.inl ⟨List.mem_of_getElem? (i := 1312) (by decide +kernel), rfl⟩, List.mem_of_getElem? (i := 72) (by decide +kernel), ⟨by decide +kernel, by decide +kernel⟩, by decide +kernel, by decide +kernel, by decide, by decide⟩
def M_Mod_queued : MI := (⟨"RelayDeskModel", "queued", "(II)I"⟩, prog_14_method_53_code, 5, (some .int), [])
theorem cq_Mod_queued : CQ M_Mod_queued 2 := ⟨Or.inl ⟨List.mem_of_getElem? (i := 1316) (by decide +kernel), rfl⟩, List.mem_of_getElem? (i := 72) (by decide +kernel), ⟨by decide +kernel, by decide +kernel⟩, by decide +kernel, by decide +kernel, by decide, by decide⟩
def M_Mod_trace : MI := (⟨"RelayDeskModel", "trace", "(II)I"⟩, prog_14_method_54_code, 4, (some .int), [])
theorem cq_Mod_trace : CQ M_Mod_trace 2 := ⟨Or.inl ⟨List.mem_of_getElem? (i := 1320) (by decide +kernel), rfl⟩, List.mem_of_getElem? (i := 72) (by decide +kernel), ⟨by decide +kernel, by decide +kernel⟩, by decide +kernel, by decide +kernel, by decide, by decide⟩
def M_Mod_isCase : MI := (⟨"RelayDeskModel", "isCase", "(I)Z"⟩, prog_14_method_55_code, 2, (some .boolean), [])
theorem cq_Mod_isCase : CQ M_Mod_isCase 1 := ⟨Or.inl ⟨List.mem_of_getElem? (i := 1328) (by decide +kernel), rfl⟩, List.mem_of_getElem? (i := 72) (by decide +kernel), ⟨by decide +kernel, by decide +kernel⟩, by decide +kernel, by decide +kernel, by decide, by decide⟩
def M_Mod_reason : MI := (⟨"RelayDeskModel", "reason", "(I)I"⟩, prog_14_method_56_code, 2, (some .int), [])
theorem cq_Mod_reason : CQ M_Mod_reason 1 := ⟨Or.inl ⟨List.mem_of_getElem? (i := 1324) (by decide +kernel), rfl⟩, List.mem_of_getElem? (i := 72) (by decide +kernel), ⟨by decide +kernel, by decide +kernel⟩, by decide +kernel, by decide +kernel, by decide, by decide⟩
def M_Mod_clerk : MI := (⟨"RelayDeskModel", "clerk", "(IC)V"⟩, prog_14_method_57_code, 4, none, [])
theorem cq_Mod_clerk : CQ M_Mod_clerk 2 := ⟨Or.inl ⟨List.mem_of_getElem? (i := 1332) (by decide +kernel), rfl⟩, List.mem_of_getElem? (i := 72) (by decide +kernel), ⟨by decide +kernel, by decide +kernel⟩, by decide +kernel, by decide +kernel, by decide, by decide⟩
def M_Mod_resubmit : MI := (⟨"RelayDeskModel", "resubmit", "(I)I"⟩, prog_14_method_58_code, 3, (some .int), [])
theorem cq_Mod_resubmit : CQ M_Mod_resubmit 1 := ⟨Or.inl ⟨List.mem_of_getElem? (i := 1339) (by decide +kernel), rfl⟩, List.mem_of_getElem? (i := 72) (by decide +kernel), ⟨by decide +kernel, by decide +kernel⟩, by decide +kernel, by decide +kernel, by decide, by decide⟩
def M_Mod_cut : MI := (⟨"RelayDeskModel", "cut", "()V"⟩, prog_14_method_59_code, 2, none, [])
theorem cq_Mod_cut : CQ M_Mod_cut 0 := ⟨Or.inl ⟨List.mem_of_getElem? (i := 1343) (by decide +kernel), rfl⟩, List.mem_of_getElem? (i := 72) (by decide +kernel), ⟨by decide +kernel, by decide +kernel⟩, by decide +kernel, by decide +kernel, by decide, by decide⟩
def M_Mod_count : MI := (⟨"RelayDeskModel", "count", "(I)I"⟩, prog_14_method_60_code, 4, (some .int), [])
theorem cq_Mod_count : CQ M_Mod_count 1 := ⟨Or.inl ⟨List.mem_of_getElem? (i := 1347) (by decide +kernel), rfl⟩, List.mem_of_getElem? (i := 72) (by decide +kernel), ⟨by decide +kernel, by decide +kernel⟩, by decide +kernel, by decide +kernel, by decide, by decide⟩
def M_Case_init : MI := (⟨"RelayDesk$Case", "<init>", "()V"⟩, prog_2_method_1_code, 1, none, [])
theorem cq_Case_init : CQ M_Case_init 0 := ⟨Or.inl ⟨List.mem_of_getElem? (i := 326) (by decide +kernel), rfl⟩, List.mem_of_getElem? (i := 71) (by decide +kernel), ⟨by decide +kernel, by decide +kernel⟩, by decide +kernel, by decide +kernel, by decide, by decide⟩
def M_Case_isClosed : MI := (⟨"RelayDesk$Case", "isClosed", "()Z"⟩, prog_2_method_2_code, 1, (some .boolean), [])
theorem cq_Case_isClosed : CQ M_Case_isClosed 0 := ⟨Or.inl ⟨List.mem_of_getElem? (i := 392) (by decide +kernel), rfl⟩, List.mem_of_getElem? (i := 71) (by decide +kernel), ⟨by decide +kernel, by decide +kernel⟩, by decide +kernel, by decide +kernel, by decide, by decide⟩
def M_Channel_init : MI := (⟨"RelayDesk$Channel", "<init>", "(I)V"⟩, prog_3_method_1_code, 2, none, [])
theorem cq_Channel_init : CQ M_Channel_init 1 := ⟨Or.inl ⟨List.mem_of_getElem? (i := 178) (by decide +kernel), rfl⟩, List.mem_of_getElem? (i := 65) (by decide +kernel), ⟨by decide +kernel, by decide +kernel⟩, by decide +kernel, by decide +kernel, by decide, by decide⟩
def M_Channel_loseWhatIsUnderWay : MI := (⟨"RelayDesk$Channel", "loseWhatIsUnderWay", "()V"⟩, prog_3_method_2_code, 1, none, [])
theorem cq_Channel_loseWhatIsUnderWay : CQ M_Channel_loseWhatIsUnderWay 0 := ⟨Or.inl ⟨List.mem_of_getElem? (i := 368) (by decide +kernel), rfl⟩, List.mem_of_getElem? (i := 65) (by decide +kernel), ⟨by decide +kernel, by decide +kernel⟩, by decide +kernel, by decide +kernel, by decide, by decide⟩
def M_Header_init : MI := (⟨"RelayDesk$Header", "<init>", "()V"⟩, prog_4_method_1_code, 1, none, [])
theorem cq_Header_init : CQ M_Header_init 0 := ⟨Or.inl ⟨List.mem_of_getElem? (i := 145) (by decide +kernel), rfl⟩, List.mem_of_getElem? (i := 64) (by decide +kernel), ⟨by decide +kernel, by decide +kernel⟩, by decide +kernel, by decide +kernel, by decide, by decide⟩
def M_Header_faultIn : MI := (⟨"RelayDesk$Header", "faultIn", "(LRelayDesk$Text;Z)I"⟩, prog_4_method_2_code, 4, (some .int), [])
theorem cq_Header_faultIn : CQ M_Header_faultIn 2 := ⟨Or.inl ⟨List.mem_of_getElem? (i := 553) (by decide +kernel), rfl⟩, List.mem_of_getElem? (i := 64) (by decide +kernel), ⟨by decide +kernel, by decide +kernel⟩, by decide +kernel, by decide +kernel, by decide, by decide⟩
def M_Header_bodyStart : MI := (⟨"RelayDesk$Header", "bodyStart", "()I"⟩, prog_4_method_3_code, 1, (some .int), [])
theorem cq_Header_bodyStart : CQ M_Header_bodyStart 0 := ⟨Or.inl ⟨List.mem_of_getElem? (i := 666) (by decide +kernel), rfl⟩, List.mem_of_getElem? (i := 64) (by decide +kernel), ⟨by decide +kernel, by decide +kernel⟩, by decide +kernel, by decide +kernel, by decide, by decide⟩
def M_Header_hasNextWord : MI := (⟨"RelayDesk$Header", "hasNextWord", "(LRelayDesk$Text;)Z"⟩, prog_4_method_4_code, 2, (some .boolean), [])
theorem cq_Header_hasNextWord : CQ M_Header_hasNextWord 1 := ⟨Or.inl ⟨List.mem_of_getElem? (i := 561) (by decide +kernel), rfl⟩, List.mem_of_getElem? (i := 64) (by decide +kernel), ⟨by decide +kernel, by decide +kernel⟩, by decide +kernel, by decide +kernel, by decide, by decide⟩
def M_Header_wordLength : MI := (⟨"RelayDesk$Header", "wordLength", "()I"⟩, prog_4_method_5_code, 1, (some .int), [])
theorem cq_Header_wordLength : CQ M_Header_wordLength 0 := ⟨Or.inl ⟨List.mem_of_getElem? (i := 573) (by decide +kernel), rfl⟩, List.mem_of_getElem? (i := 64) (by decide +kernel), ⟨by decide +kernel, by decide +kernel⟩, by decide +kernel, by decide +kernel, by decide, by decide⟩
def M_Header_isNumber : MI := (⟨"RelayDesk$Header", "isNumber", "(LRelayDesk$Text;)Z"⟩, prog_4_method_6_code, 3, (some .boolean), [])
theorem cq_Header_isNumber : CQ M_Header_isNumber 1 := ⟨Or.inl ⟨List.mem_of_getElem? (i := 569) (by decide +kernel), rfl⟩, List.mem_of_getElem? (i := 64) (by decide +kernel), ⟨by decide +kernel, by decide +kernel⟩, by decide +kernel, by decide +kernel, by decide, by decide⟩
def M_Header_isPrecedence : MI := (⟨"RelayDesk$Header", "isPrecedence", "(LRelayDesk$Text;)Z"⟩, prog_4_method_7_code, 2, (some .boolean), [])
theorem cq_Header_isPrecedence : CQ M_Header_isPrecedence 1 := ⟨Or.inl ⟨List.mem_of_getElem? (i := 580) (by decide +kernel), rfl⟩, List.mem_of_getElem? (i := 64) (by decide +kernel), ⟨by decide +kernel, by decide +kernel⟩, by decide +kernel, by decide +kernel, by decide, by decide⟩
def M_Header_readsIndicators : MI := (⟨"RelayDesk$Header", "readsIndicators", "(LRelayDesk$Text;)Z"⟩, prog_4_method_8_code, 3, (some .boolean), [])
theorem cq_Header_readsIndicators : CQ M_Header_readsIndicators 1 := ⟨Or.inl ⟨List.mem_of_getElem? (i := 584) (by decide +kernel), rfl⟩, List.mem_of_getElem? (i := 64) (by decide +kernel), ⟨by decide +kernel, by decide +kernel⟩, by decide +kernel, by decide +kernel, by decide, by decide⟩
def M_Header_isIndicator : MI := (⟨"RelayDesk$Header", "isIndicator", "(LRelayDesk$Text;)Z"⟩, prog_4_method_9_code, 3, (some .boolean), [])
theorem cq_Header_isIndicator : CQ M_Header_isIndicator 1 := ⟨Or.inl ⟨List.mem_of_getElem? (i := 588) (by decide +kernel), rfl⟩, List.mem_of_getElem? (i := 64) (by decide +kernel), ⟨by decide +kernel, by decide +kernel⟩, by decide +kernel, by decide +kernel, by decide, by decide⟩
def M_Header_indicatorOf : MI := (⟨"RelayDesk$Header", "indicatorOf", "(LRelayDesk$Text;)I"⟩, prog_4_method_10_code, 4, (some .int), [])
theorem cq_Header_indicatorOf : CQ M_Header_indicatorOf 1 := ⟨Or.inl ⟨List.mem_of_getElem? (i := 595) (by decide +kernel), rfl⟩, List.mem_of_getElem? (i := 64) (by decide +kernel), ⟨by decide +kernel, by decide +kernel⟩, by decide +kernel, by decide +kernel, by decide, by decide⟩
def M_Intake_init : MI := (⟨"RelayDesk$Intake", "<init>", "()V"⟩, prog_5_method_1_code, 1, none, [])
theorem cq_Intake_init : CQ M_Intake_init 0 := ⟨Or.inl ⟨List.mem_of_getElem? (i := 184) (by decide +kernel), rfl⟩, List.mem_of_getElem? (i := 66) (by decide +kernel), ⟨by decide +kernel, by decide +kernel⟩, by decide +kernel, by decide +kernel, by decide, by decide⟩
def M_Intake_begin : MI := (⟨"RelayDesk$Intake", "begin", "()V"⟩, prog_5_method_2_code, 1, none, [])
theorem cq_Intake_begin : CQ M_Intake_begin 0 := ⟨Or.inl ⟨List.mem_of_getElem? (i := 372) (by decide +kernel), rfl⟩, List.mem_of_getElem? (i := 66) (by decide +kernel), ⟨by decide +kernel, by decide +kernel⟩, by decide +kernel, by decide +kernel, by decide, by decide⟩
def M_Intake_takesEnd : MI := (⟨"RelayDesk$Intake", "takesEnd", "(I)Z"⟩, prog_5_method_3_code, 3, (some .boolean), [])
theorem cq_Intake_takesEnd : CQ M_Intake_takesEnd 1 := ⟨Or.inl ⟨List.mem_of_getElem? (i := 469) (by decide +kernel), rfl⟩, List.mem_of_getElem? (i := 66) (by decide +kernel), ⟨by decide +kernel, by decide +kernel⟩, by decide +kernel, by decide +kernel, by decide, by decide⟩
def M_Intake_gather : MI := (⟨"RelayDesk$Intake", "gather", "(C)V"⟩, prog_5_method_4_code, 2, none, [])
theorem cq_Intake_gather : CQ M_Intake_gather 1 := ⟨Or.inl ⟨List.mem_of_getElem? (i := 525) (by decide +kernel), rfl⟩, List.mem_of_getElem? (i := 66) (by decide +kernel), ⟨by decide +kernel, by decide +kernel⟩, by decide +kernel, by decide +kernel, by decide, by decide⟩
def M_Intake_textBeforeEnd : MI := (⟨"RelayDesk$Intake", "textBeforeEnd", "()LRelayDesk$Text;"⟩, prog_5_method_5_code, 1, (some (.object "RelayDesk$Text")), [])
theorem cq_Intake_textBeforeEnd : CQ M_Intake_textBeforeEnd 0 := ⟨Or.inl ⟨List.mem_of_getElem? (i := 540) (by decide +kernel), rfl⟩, List.mem_of_getElem? (i := 66) (by decide +kernel), ⟨by decide +kernel, by decide +kernel⟩, by decide +kernel, by decide +kernel, by decide, by decide⟩
def M_Intake_isLong : MI := (⟨"RelayDesk$Intake", "isLong", "()Z"⟩, prog_5_method_6_code, 1, (some .boolean), [])
theorem cq_Intake_isLong : CQ M_Intake_isLong 0 := ⟨Or.inl ⟨List.mem_of_getElem? (i := 549) (by decide +kernel), rfl⟩, List.mem_of_getElem? (i := 66) (by decide +kernel), ⟨by decide +kernel, by decide +kernel⟩, by decide +kernel, by decide +kernel, by decide, by decide⟩
def M_Message_init : MI := (⟨"RelayDesk$Message", "<init>", "()V"⟩, prog_6_method_1_code, 1, none, [])
theorem cq_Message_init : CQ M_Message_init 0 := ⟨Or.inl ⟨List.mem_of_getElem? (i := 300) (by decide +kernel), rfl⟩, List.mem_of_getElem? (i := 70) (by decide +kernel), ⟨by decide +kernel, by decide +kernel⟩, by decide +kernel, by decide +kernel, by decide, by decide⟩
def M_Message_fill : MI := (⟨"RelayDesk$Message", "fill", "(LRelayDesk$Header;LRelayDesk$Text;)V"⟩, prog_6_method_2_code, 4, none, [])
theorem cq_Message_fill : CQ M_Message_fill 2 := ⟨Or.inl ⟨List.mem_of_getElem? (i := 661) (by decide +kernel), rfl⟩, List.mem_of_getElem? (i := 70) (by decide +kernel), ⟨by decide +kernel, by decide +kernel⟩, by decide +kernel, by decide +kernel, by decide, by decide⟩
def M_Message_waitsOn : MI := (⟨"RelayDesk$Message", "waitsOn", "(I)Z"⟩, prog_6_method_3_code, 2, (some .boolean), [])
theorem cq_Message_waitsOn : CQ M_Message_waitsOn 1 := ⟨Or.inl ⟨List.mem_of_getElem? (i := 815) (by decide +kernel), rfl⟩, List.mem_of_getElem? (i := 70) (by decide +kernel), ⟨by decide +kernel, by decide +kernel⟩, by decide +kernel, by decide +kernel, by decide, by decide⟩
def M_Message_writeOn : MI := (⟨"RelayDesk$Message", "writeOn", "(LRelayDesk$Text;IZ)V"⟩, prog_6_method_4_code, 5, none, [])
theorem cq_Message_writeOn : CQ M_Message_writeOn 3 := ⟨Or.inl ⟨List.mem_of_getElem? (i := 792) (by decide +kernel), rfl⟩, List.mem_of_getElem? (i := 70) (by decide +kernel), ⟨by decide +kernel, by decide +kernel⟩, by decide +kernel, by decide +kernel, by decide, by decide⟩
def M_Numbers_init : MI := (⟨"RelayDesk$Numbers", "<init>", "()V"⟩, prog_7_method_1_code, 1, none, [])
theorem cq_Numbers_init : CQ M_Numbers_init 0 := ⟨Or.inl ⟨List.mem_of_getElem? (i := 223) (by decide +kernel), rfl⟩, List.mem_of_getElem? (i := 68) (by decide +kernel), ⟨by decide +kernel, by decide +kernel⟩, by decide +kernel, by decide +kernel, by decide, by decide⟩
def M_Numbers_accepts : MI := (⟨"RelayDesk$Numbers", "accepts", "(I)Z"⟩, prog_7_method_2_code, 2, (some .boolean), [])
theorem cq_Numbers_accepts : CQ M_Numbers_accepts 1 := ⟨Or.inl ⟨List.mem_of_getElem? (i := 603) (by decide +kernel), rfl⟩, List.mem_of_getElem? (i := 68) (by decide +kernel), ⟨by decide +kernel, by decide +kernel⟩, by decide +kernel, by decide +kernel, by decide, by decide⟩
def M_Numbers_take : MI := (⟨"RelayDesk$Numbers", "take", "(I)V"⟩, prog_7_method_3_code, 2, none, [])
theorem cq_Numbers_take : CQ M_Numbers_take 1 := ⟨Or.inl ⟨List.mem_of_getElem? (i := 619) (by decide +kernel), rfl⟩, List.mem_of_getElem? (i := 68) (by decide +kernel), ⟨by decide +kernel, by decide +kernel⟩, by decide +kernel, by decide +kernel, by decide, by decide⟩
def M_Numbers_firstMissing : MI := (⟨"RelayDesk$Numbers", "firstMissing", "()I"⟩, prog_7_method_4_code, 1, (some .int), [])
theorem cq_Numbers_firstMissing : CQ M_Numbers_firstMissing 0 := ⟨Or.inl ⟨List.mem_of_getElem? (i := 704) (by decide +kernel), rfl⟩, List.mem_of_getElem? (i := 68) (by decide +kernel), ⟨by decide +kernel, by decide +kernel⟩, by decide +kernel, by decide +kernel, by decide, by decide⟩
def M_Numbers_forgetMissing : MI := (⟨"RelayDesk$Numbers", "forgetMissing", "()V"⟩, prog_7_method_5_code, 1, none, [])
theorem cq_Numbers_forgetMissing : CQ M_Numbers_forgetMissing 0 := ⟨Or.inl ⟨List.mem_of_getElem? (i := 769) (by decide +kernel), rfl⟩, List.mem_of_getElem? (i := 68) (by decide +kernel), ⟨by decide +kernel, by decide +kernel⟩, by decide +kernel, by decide +kernel, by decide, by decide⟩
def M_Numbers_isDue : MI := (⟨"RelayDesk$Numbers", "isDue", "(I)Z"⟩, prog_7_method_6_code, 3, (some .boolean), [])
theorem cq_Numbers_isDue : CQ M_Numbers_isDue 1 := ⟨Or.inl ⟨List.mem_of_getElem? (i := 607) (by decide +kernel), rfl⟩, List.mem_of_getElem? (i := 68) (by decide +kernel), ⟨by decide +kernel, by decide +kernel⟩, by decide +kernel, by decide +kernel, by decide, by decide⟩
def M_Numbers_aheadOfLast : MI := (⟨"RelayDesk$Numbers", "aheadOfLast", "(I)I"⟩, prog_7_method_7_code, 3, (some .int), [])
theorem cq_Numbers_aheadOfLast : CQ M_Numbers_aheadOfLast 1 := ⟨Or.inl ⟨List.mem_of_getElem? (i := 611) (by decide +kernel), rfl⟩, List.mem_of_getElem? (i := 68) (by decide +kernel), ⟨by decide +kernel, by decide +kernel⟩, by decide +kernel, by decide +kernel, by decide, by decide⟩
def M_Numbers_missAllBefore : MI := (⟨"RelayDesk$Numbers", "missAllBefore", "(I)V"⟩, prog_7_method_8_code, 5, none, [])
theorem cq_Numbers_missAllBefore : CQ M_Numbers_missAllBefore 1 := ⟨Or.inl ⟨List.mem_of_getElem? (i := 623) (by decide +kernel), rfl⟩, List.mem_of_getElem? (i := 68) (by decide +kernel), ⟨by decide +kernel, by decide +kernel⟩, by decide +kernel, by decide +kernel, by decide, by decide⟩
def M_Numbers_placeOf : MI := (⟨"RelayDesk$Numbers", "placeOf", "(I)I"⟩, prog_7_method_9_code, 3, (some .int), [])
theorem cq_Numbers_placeOf : CQ M_Numbers_placeOf 1 := ⟨Or.inl ⟨List.mem_of_getElem? (i := 615) (by decide +kernel), rfl⟩, List.mem_of_getElem? (i := 68) (by decide +kernel), ⟨by decide +kernel, by decide +kernel⟩, by decide +kernel, by decide +kernel, by decide, by decide⟩
def M_Numbers_dropMissing : MI := (⟨"RelayDesk$Numbers", "dropMissing", "(I)V"⟩, prog_7_method_10_code, 3, none, [])
theorem cq_Numbers_dropMissing : CQ M_Numbers_dropMissing 1 := ⟨Or.inl ⟨List.mem_of_getElem? (i := 630) (by decide +kernel), rfl⟩, List.mem_of_getElem? (i := 68) (by decide +kernel), ⟨by decide +kernel, by decide +kernel⟩, by decide +kernel, by decide +kernel, by decide, by decide⟩
def M_Numbers_numberBehind : MI := (⟨"RelayDesk$Numbers", "numberBehind", "(I)I"⟩, prog_7_method_11_code, 1, (some .int), [])
theorem cq_Numbers_numberBehind : CQ M_Numbers_numberBehind 1 := ⟨Or.inl ⟨List.mem_of_getElem? (i := 626) (by decide +kernel), rfl⟩, List.mem_of_getElem? (i := 68) (by decide +kernel), ⟨by decide +kernel, by decide +kernel⟩, by decide +kernel, by decide +kernel, by decide, by decide⟩
def M_Outlet_init : MI := (⟨"RelayDesk$Outlet", "<init>", "(I)V"⟩, prog_8_method_1_code, 2, none, [])
theorem cq_Outlet_init : CQ M_Outlet_init 1 := ⟨Or.inl ⟨List.mem_of_getElem? (i := 240) (by decide +kernel), rfl⟩, List.mem_of_getElem? (i := 69) (by decide +kernel), ⟨by decide +kernel, by decide +kernel⟩, by decide +kernel, by decide +kernel, by decide, by decide⟩
def M_Outlet_isIdle : MI := (⟨"RelayDesk$Outlet", "isIdle", "()Z"⟩, prog_8_method_2_code, 1, (some .boolean), [])
theorem cq_Outlet_isIdle : CQ M_Outlet_isIdle 0 := ⟨Or.inl ⟨List.mem_of_getElem? (i := 780) (by decide +kernel), rfl⟩, List.mem_of_getElem? (i := 69) (by decide +kernel), ⟨by decide +kernel, by decide +kernel⟩, by decide +kernel, by decide +kernel, by decide, by decide⟩
def M_Outlet_beginAnew : MI := (⟨"RelayDesk$Outlet", "beginAnew", "()V"⟩, prog_8_method_3_code, 1, none, [])
theorem cq_Outlet_beginAnew : CQ M_Outlet_beginAnew 0 := ⟨Or.inl ⟨List.mem_of_getElem? (i := 380) (by decide +kernel), rfl⟩, List.mem_of_getElem? (i := 69) (by decide +kernel), ⟨by decide +kernel, by decide +kernel⟩, by decide +kernel, by decide +kernel, by decide, by decide⟩
def M_Outlet_asksAgain : MI := (⟨"RelayDesk$Outlet", "asksAgain", "(I)Z"⟩, prog_8_method_4_code, 4, (some .boolean), [])
theorem cq_Outlet_asksAgain : CQ M_Outlet_asksAgain 1 := ⟨Or.inl ⟨List.mem_of_getElem? (i := 903) (by decide +kernel), rfl⟩, List.mem_of_getElem? (i := 69) (by decide +kernel), ⟨by decide +kernel, by decide +kernel⟩, by decide +kernel, by decide +kernel, by decide, by decide⟩
def M_Outlet_startsAsked : MI := (⟨"RelayDesk$Outlet", "startsAsked", "()Z"⟩, prog_8_method_5_code, 3, (some .boolean), [])
theorem cq_Outlet_startsAsked : CQ M_Outlet_startsAsked 0 := ⟨Or.inl ⟨List.mem_of_getElem? (i := 784) (by decide +kernel), rfl⟩, List.mem_of_getElem? (i := 69) (by decide +kernel), ⟨by decide +kernel, by decide +kernel⟩, by decide +kernel, by decide +kernel, by decide, by decide⟩
def M_Outlet_startEntry : MI := (⟨"RelayDesk$Outlet", "startEntry", "(LRelayDesk$Message;)V"⟩, prog_8_method_6_code, 2, none, [])
theorem cq_Outlet_startEntry : CQ M_Outlet_startEntry 1 := ⟨Or.inl ⟨List.mem_of_getElem? (i := 819) (by decide +kernel), rfl⟩, List.mem_of_getElem? (i := 69) (by decide +kernel), ⟨by decide +kernel, by decide +kernel⟩, by decide +kernel, by decide +kernel, by decide, by decide⟩
def M_Outlet_start : MI := (⟨"RelayDesk$Outlet", "start", "(LRelayDesk$Message;IZ)V"⟩, prog_8_method_7_code, 4, none, [])
theorem cq_Outlet_start : CQ M_Outlet_start 3 := ⟨Or.inl ⟨List.mem_of_getElem? (i := 788) (by decide +kernel), rfl⟩, List.mem_of_getElem? (i := 69) (by decide +kernel), ⟨by decide +kernel, by decide +kernel⟩, by decide +kernel, by decide +kernel, by decide, by decide⟩
def M_Outlet_nextSign : MI := (⟨"RelayDesk$Outlet", "nextSign", "()I"⟩, prog_8_method_8_code, 3, (some .int), [])
theorem cq_Outlet_nextSign : CQ M_Outlet_nextSign 0 := ⟨Or.inl ⟨List.mem_of_getElem? (i := 824) (by decide +kernel), rfl⟩, List.mem_of_getElem? (i := 69) (by decide +kernel), ⟨by decide +kernel, by decide +kernel⟩, by decide +kernel, by decide +kernel, by decide, by decide⟩
def M_Outlet_finish : MI := (⟨"RelayDesk$Outlet", "finish", "()V"⟩, prog_8_method_9_code, 2, none, [])
theorem cq_Outlet_finish : CQ M_Outlet_finish 0 := ⟨Or.inl ⟨List.mem_of_getElem? (i := 833) (by decide +kernel), rfl⟩, List.mem_of_getElem? (i := 69) (by decide +kernel), ⟨by decide +kernel, by decide +kernel⟩, by decide +kernel, by decide +kernel, by decide, by decide⟩
def M_Route_init : MI := (⟨"RelayDesk$Route", "<init>", "()V"⟩, prog_9_method_1_code, 1, none, [])
theorem cq_Route_init : CQ M_Route_init 0 := ⟨Or.inl ⟨List.mem_of_getElem? (i := 110) (by decide +kernel), rfl⟩, List.mem_of_getElem? (i := 63) (by decide +kernel), ⟨by decide +kernel, by decide +kernel⟩, by decide +kernel, by decide +kernel, by decide, by decide⟩
def M_Route_isGroup : MI := (⟨"RelayDesk$Route", "isGroup", "()Z"⟩, prog_9_method_2_code, 1, (some .boolean), [])
theorem cq_Route_isGroup : CQ M_Route_isGroup 0 := ⟨Or.inl ⟨List.mem_of_getElem? (i := 677) (by decide +kernel), rfl⟩, List.mem_of_getElem? (i := 63) (by decide +kernel), ⟨by decide +kernel, by decide +kernel⟩, by decide +kernel, by decide +kernel, by decide, by decide⟩
def M_Route_holds : MI := (⟨"RelayDesk$Route", "holds", "(I)Z"⟩, prog_9_method_3_code, 3, (some .boolean), [])
theorem cq_Route_holds : CQ M_Route_holds 1 := ⟨Or.inl ⟨List.mem_of_getElem? (i := 753) (by decide +kernel), rfl⟩, List.mem_of_getElem? (i := 63) (by decide +kernel), ⟨by decide +kernel, by decide +kernel⟩, by decide +kernel, by decide +kernel, by decide, by decide⟩
def M_Route_addMember : MI := (⟨"RelayDesk$Route", "addMember", "(I)I"⟩, prog_9_method_4_code, 2, (some .int), [])
theorem cq_Route_addMember : CQ M_Route_addMember 1 := ⟨Or.inl ⟨List.mem_of_getElem? (i := 758) (by decide +kernel), rfl⟩, List.mem_of_getElem? (i := 63) (by decide +kernel), ⟨by decide +kernel, by decide +kernel⟩, by decide +kernel, by decide +kernel, by decide, by decide⟩
def M_Routes_init : MI := (⟨"RelayDesk$Routes", "<init>", "()V"⟩, prog_10_method_1_code, 2, none, [])
theorem cq_Routes_init : CQ M_Routes_init 0 := ⟨Or.inl ⟨List.mem_of_getElem? (i := 103) (by decide +kernel), rfl⟩, List.mem_of_getElem? (i := 62) (by decide +kernel), ⟨by decide +kernel, by decide +kernel⟩, by decide +kernel, by decide +kernel, by decide, by decide⟩
def M_Routes_has : MI := (⟨"RelayDesk$Routes", "has", "(II)Z"⟩, prog_10_method_2_code, 2, (some .boolean), [])
theorem cq_Routes_has : CQ M_Routes_has 2 := ⟨Or.inl ⟨List.mem_of_getElem? (i := 653) (by decide +kernel), rfl⟩, List.mem_of_getElem? (i := 62) (by decide +kernel), ⟨by decide +kernel, by decide +kernel⟩, by decide +kernel, by decide +kernel, by decide, by decide⟩
def M_Routes_leadNowhere : MI := (⟨"RelayDesk$Routes", "leadNowhere", "(I)Z"⟩, prog_10_method_3_code, 1, (some .boolean), [])
theorem cq_Routes_leadNowhere : CQ M_Routes_leadNowhere 1 := ⟨Or.inl ⟨List.mem_of_getElem? (i := 684) (by decide +kernel), rfl⟩, List.mem_of_getElem? (i := 62) (by decide +kernel), ⟨by decide +kernel, by decide +kernel⟩, by decide +kernel, by decide +kernel, by decide, by decide⟩
def M_Routes_isFull : MI := (⟨"RelayDesk$Routes", "isFull", "()Z"⟩, prog_10_method_4_code, 1, (some .boolean), [])
theorem cq_Routes_isFull : CQ M_Routes_isFull 0 := ⟨Or.inl ⟨List.mem_of_getElem? (i := 718) (by decide +kernel), rfl⟩, List.mem_of_getElem? (i := 62) (by decide +kernel), ⟨by decide +kernel, by decide +kernel⟩, by decide +kernel, by decide +kernel, by decide, by decide⟩
def M_Routes_rowOf : MI := (⟨"RelayDesk$Routes", "rowOf", "(I)I"⟩, prog_10_method_5_code, 3, (some .int), [])
theorem cq_Routes_rowOf : CQ M_Routes_rowOf 1 := ⟨Or.inl ⟨List.mem_of_getElem? (i := 642) (by decide +kernel), rfl⟩, List.mem_of_getElem? (i := 62) (by decide +kernel), ⟨by decide +kernel, by decide +kernel⟩, by decide +kernel, by decide +kernel, by decide, by decide⟩
def M_Routes_newRow : MI := (⟨"RelayDesk$Routes", "newRow", "(I)I"⟩, prog_10_method_6_code, 3, (some .int), [])
theorem cq_Routes_newRow : CQ M_Routes_newRow 1 := ⟨Or.inl ⟨List.mem_of_getElem? (i := 737) (by decide +kernel), rfl⟩, List.mem_of_getElem? (i := 62) (by decide +kernel), ⟨by decide +kernel, by decide +kernel⟩, by decide +kernel, by decide +kernel, by decide, by decide⟩
def M_Routes_rowsBehind : MI := (⟨"RelayDesk$Routes", "rowsBehind", "(LRelayDesk$Header;)I"⟩, prog_10_method_7_code, 4, (some .int), [])
theorem cq_Routes_rowsBehind : CQ M_Routes_rowsBehind 1 := ⟨Or.inl ⟨List.mem_of_getElem? (i := 634) (by decide +kernel), rfl⟩, List.mem_of_getElem? (i := 62) (by decide +kernel), ⟨by decide +kernel, by decide +kernel⟩, by decide +kernel, by decide +kernel, by decide, by decide⟩
def M_Routes_leadsTo : MI := (⟨"RelayDesk$Routes", "leadsTo", "(II)Z"⟩, prog_10_method_8_code, 5, (some .boolean), [])
theorem cq_Routes_leadsTo : CQ M_Routes_leadsTo 2 := ⟨Or.inl ⟨List.mem_of_getElem? (i := 749) (by decide +kernel), rfl⟩, List.mem_of_getElem? (i := 62) (by decide +kernel), ⟨by decide +kernel, by decide +kernel⟩, by decide +kernel, by decide +kernel, by decide, by decide⟩
def M_Routes_withMembers : MI := (⟨"RelayDesk$Routes", "withMembers", "(I)I"⟩, prog_10_method_9_code, 4, (some .int), [])
theorem cq_Routes_withMembers : CQ M_Routes_withMembers 1 := ⟨Or.inl ⟨List.mem_of_getElem? (i := 646) (by decide +kernel), rfl⟩, List.mem_of_getElem? (i := 62) (by decide +kernel), ⟨by decide +kernel, by decide +kernel⟩, by decide +kernel, by decide +kernel, by decide, by decide⟩
def M_Routes_membersOf : MI := (⟨"RelayDesk$Routes", "membersOf", "(I)I"⟩, prog_10_method_10_code, 5, (some .int), [])
theorem cq_Routes_membersOf : CQ M_Routes_membersOf 1 := ⟨Or.inl ⟨List.mem_of_getElem? (i := 650) (by decide +kernel), rfl⟩, List.mem_of_getElem? (i := 62) (by decide +kernel), ⟨by decide +kernel, by decide +kernel⟩, by decide +kernel, by decide +kernel, by decide, by decide⟩
def M_Routes_bitOf : MI := (⟨"RelayDesk$Routes", "bitOf", "(I)I"⟩, prog_10_method_11_code, 3, (some .int), [])
theorem cq_Routes_bitOf : CQ M_Routes_bitOf 1 := ⟨Or.inl ⟨List.mem_of_getElem? (i := 638) (by decide +kernel), rfl⟩, List.mem_of_getElem? (i := 62) (by decide +kernel), ⟨by decide +kernel, by decide +kernel⟩, by decide +kernel, by decide +kernel, by decide, by decide⟩
def M_Signs_characterOf : MI := (⟨"RelayDesk$Signs", "characterOf", "(IZ)C"⟩, prog_11_method_2_code, 2, (some .char), [])
theorem cq_Signs_characterOf : CQ M_Signs_characterOf 2 := ⟨Or.inl ⟨List.mem_of_getElem? (i := 472) (by decide +kernel), rfl⟩, List.mem_of_getElem? (i := 77) (by decide +kernel), ⟨by decide +kernel, by decide +kernel⟩, by decide +kernel, by decide +kernel, by decide, by decide⟩
def M_Signs_signOf : MI := (⟨"RelayDesk$Signs", "signOf", "(C)I"⟩, prog_11_method_3_code, 1, (some .int), [])
theorem cq_Signs_signOf : CQ M_Signs_signOf 1 := ⟨Or.inl ⟨List.mem_of_getElem? (i := 836) (by decide +kernel), rfl⟩, List.mem_of_getElem? (i := 77) (by decide +kernel), ⟨by decide +kernel, by decide +kernel⟩, by decide +kernel, by decide +kernel, by decide, by decide⟩
def M_Signs_isLetter : MI := (⟨"RelayDesk$Signs", "isLetter", "(C)Z"⟩, prog_11_method_4_code, 1, (some .boolean), [])
theorem cq_Signs_isLetter : CQ M_Signs_isLetter 1 := ⟨Or.inl ⟨List.mem_of_getElem? (i := 591) (by decide +kernel), rfl⟩, List.mem_of_getElem? (i := 77) (by decide +kernel), ⟨by decide +kernel, by decide +kernel⟩, by decide +kernel, by decide +kernel, by decide, by decide⟩
def M_Signs_isDigit : MI := (⟨"RelayDesk$Signs", "isDigit", "(C)Z"⟩, prog_11_method_5_code, 1, (some .boolean), [])
theorem cq_Signs_isDigit : CQ M_Signs_isDigit 1 := ⟨Or.inl ⟨List.mem_of_getElem? (i := 576) (by decide +kernel), rfl⟩, List.mem_of_getElem? (i := 77) (by decide +kernel), ⟨by decide +kernel, by decide +kernel⟩, by decide +kernel, by decide +kernel, by decide, by decide⟩
def M_Signs_isInBothShifts : MI := (⟨"RelayDesk$Signs", "isInBothShifts", "(C)Z"⟩, prog_11_method_6_code, 1, (some .boolean), [])
theorem cq_Signs_isInBothShifts : CQ M_Signs_isInBothShifts 1 := ⟨Or.inl ⟨List.mem_of_getElem? (i := 829) (by decide +kernel), rfl⟩, List.mem_of_getElem? (i := 77) (by decide +kernel), ⟨by decide +kernel, by decide +kernel⟩, by decide +kernel, by decide +kernel, by decide, by decide⟩
def M_Text_init : MI := (⟨"RelayDesk$Text", "<init>", "(I)V"⟩, prog_12_method_1_code, 2, none, [])
theorem cq_Text_init : CQ M_Text_init 1 := ⟨Or.inl ⟨List.mem_of_getElem? (i := 190) (by decide +kernel), rfl⟩, List.mem_of_getElem? (i := 67) (by decide +kernel), ⟨by decide +kernel, by decide +kernel⟩, by decide +kernel, by decide +kernel, by decide, by decide⟩
def M_Text_clear : MI := (⟨"RelayDesk$Text", "clear", "()V"⟩, prog_12_method_2_code, 1, none, [])
theorem cq_Text_clear : CQ M_Text_clear 0 := ⟨Or.inl ⟨List.mem_of_getElem? (i := 376) (by decide +kernel), rfl⟩, List.mem_of_getElem? (i := 67) (by decide +kernel), ⟨by decide +kernel, by decide +kernel⟩, by decide +kernel, by decide +kernel, by decide, by decide⟩
def M_Text_add : MI := (⟨"RelayDesk$Text", "add", "(C)V"⟩, prog_12_method_3_code, 2, none, [])
theorem cq_Text_add : CQ M_Text_add 1 := ⟨Or.inl ⟨List.mem_of_getElem? (i := 529) (by decide +kernel), rfl⟩, List.mem_of_getElem? (i := 67) (by decide +kernel), ⟨by decide +kernel, by decide +kernel⟩, by decide +kernel, by decide +kernel, by decide, by decide⟩
def M_Text_addNumber : MI := (⟨"RelayDesk$Text", "addNumber", "(I)V"⟩, prog_12_method_4_code, 2, none, [])
theorem cq_Text_addNumber : CQ M_Text_addNumber 1 := ⟨Or.inl ⟨List.mem_of_getElem? (i := 797) (by decide +kernel), rfl⟩, List.mem_of_getElem? (i := 67) (by decide +kernel), ⟨by decide +kernel, by decide +kernel⟩, by decide +kernel, by decide +kernel, by decide, by decide⟩
def M_Text_addIndicator : MI := (⟨"RelayDesk$Text", "addIndicator", "(I)V"⟩, prog_12_method_5_code, 4, none, [])
theorem cq_Text_addIndicator : CQ M_Text_addIndicator 1 := ⟨Or.inl ⟨List.mem_of_getElem? (i := 802) (by decide +kernel), rfl⟩, List.mem_of_getElem? (i := 67) (by decide +kernel), ⟨by decide +kernel, by decide +kernel⟩, by decide +kernel, by decide +kernel, by decide, by decide⟩
def M_Text_addFrom : MI := (⟨"RelayDesk$Text", "addFrom", "(LRelayDesk$Text;I)V"⟩, prog_12_method_6_code, 4, none, [])
theorem cq_Text_addFrom : CQ M_Text_addFrom 2 := ⟨Or.inl ⟨List.mem_of_getElem? (i := 670) (by decide +kernel), rfl⟩, List.mem_of_getElem? (i := 67) (by decide +kernel), ⟨by decide +kernel, by decide +kernel⟩, by decide +kernel, by decide +kernel, by decide, by decide⟩
def M_Text_shortenTo : MI := (⟨"RelayDesk$Text", "shortenTo", "(I)V"⟩, prog_12_method_7_code, 2, none, [])
theorem cq_Text_shortenTo : CQ M_Text_shortenTo 1 := ⟨Or.inl ⟨List.mem_of_getElem? (i := 544) (by decide +kernel), rfl⟩, List.mem_of_getElem? (i := 67) (by decide +kernel), ⟨by decide +kernel, by decide +kernel⟩, by decide +kernel, by decide +kernel, by decide, by decide⟩
def M_Text_at : MI := (⟨"RelayDesk$Text", "at", "(I)C"⟩, prog_12_method_8_code, 2, (some .char), [])
theorem cq_Text_at : CQ M_Text_at 1 := ⟨Or.inl ⟨List.mem_of_getElem? (i := 565) (by decide +kernel), rfl⟩, List.mem_of_getElem? (i := 67) (by decide +kernel), ⟨by decide +kernel, by decide +kernel⟩, by decide +kernel, by decide +kernel, by decide, by decide⟩
def M_Text_firstLineEnd : MI := (⟨"RelayDesk$Text", "firstLineEnd", "()I"⟩, prog_12_method_9_code, 2, (some .int), [])
theorem cq_Text_firstLineEnd : CQ M_Text_firstLineEnd 0 := ⟨Or.inl ⟨List.mem_of_getElem? (i := 557) (by decide +kernel), rfl⟩, List.mem_of_getElem? (i := 67) (by decide +kernel), ⟨by decide +kernel, by decide +kernel⟩, by decide +kernel, by decide +kernel, by decide, by decide⟩
def M_Law_sign : MI := (⟨"RelayDeskLaw", "sign", "(LRelayDesk;II[J)I"⟩, method_3_code, 5, (some .int), [(0, 10, 13, 13)])
theorem cq_Law_sign : CQ M_Law_sign 4 := ⟨Or.inr (List.mem_of_getElem? (i := 395) (by decide +kernel)), List.mem_of_getElem? (i := 60) (by decide +kernel), ⟨by decide +kernel, by decide +kernel⟩, by decide +kernel, by decide +kernel, by decide, by decide⟩
def M_Law_receipt : MI := (⟨"RelayDeskLaw", "receipt", "(LRelayDesk;I[J)I"⟩, method_4_code, 4, (some .int), [(0, 9, 12, 13)])
theorem cq_Law_receipt : CQ M_Law_receipt 3 := ⟨Or.inr (List.mem_of_getElem? (i := 689) (by decide +kernel)), List.mem_of_getElem? (i := 60) (by decide +kernel), ⟨by decide +kernel, by decide +kernel⟩, by decide +kernel, by decide +kernel, by decide, by decide⟩
def M_Law_askFor : MI := (⟨"RelayDeskLaw", "askFor", "(LRelayDesk;I[J)I"⟩, method_5_code, 4, (some .int), [(0, 9, 12, 13)])
theorem cq_Law_askFor : CQ M_Law_askFor 3 := ⟨Or.inr (List.mem_of_getElem? (i := 696) (by decide +kernel)), List.mem_of_getElem? (i := 60) (by decide +kernel), ⟨by decide +kernel, by decide +kernel⟩, by decide +kernel, by decide +kernel, by decide, by decide⟩
def M_Law_route : MI := (⟨"RelayDeskLaw", "route", "(LRelayDesk;III)I"⟩, method_6_code, 5, (some .int), [(0, 7, 10, 13), (0, 7, 14, 26)])
theorem cq_Law_route : CQ M_Law_route 4 := ⟨Or.inr (List.mem_of_getElem? (i := 707) (by decide +kernel)), List.mem_of_getElem? (i := 60) (by decide +kernel), ⟨by decide +kernel, by decide +kernel⟩, by decide +kernel, by decide +kernel, by decide, by decide⟩
def M_Law_group : MI := (⟨"RelayDeskLaw", "group", "(LRelayDesk;II[J)I"⟩, method_7_code, 5, (some .int), [(0, 10, 13, 13), (0, 10, 17, 26)])
theorem cq_Law_group : CQ M_Law_group 4 := ⟨Or.inr (List.mem_of_getElem? (i := 741) (by decide +kernel)), List.mem_of_getElem? (i := 60) (by decide +kernel), ⟨by decide +kernel, by decide +kernel⟩, by decide +kernel, by decide +kernel, by decide, by decide⟩
def M_Law_open : MI := (⟨"RelayDeskLaw", "open", "(LRelayDesk;IZ[J)I"⟩, method_8_code, 5, (some .int), [(0, 17, 20, 13)])
theorem cq_Law_open : CQ M_Law_open 4 := ⟨Or.inr (List.mem_of_getElem? (i := 761) (by decide +kernel)), List.mem_of_getElem? (i := 60) (by decide +kernel), ⟨by decide +kernel, by decide +kernel⟩, by decide +kernel, by decide +kernel, by decide, by decide⟩
def M_Law_send : MI := (⟨"RelayDeskLaw", "send", "(LRelayDesk;I[J)I"⟩, method_9_code, 4, (some .int), [(0, 9, 12, 13)])
theorem cq_Law_send : CQ M_Law_send 3 := ⟨Or.inr (List.mem_of_getElem? (i := 772) (by decide +kernel)), List.mem_of_getElem? (i := 60) (by decide +kernel), ⟨by decide +kernel, by decide +kernel⟩, by decide +kernel, by decide +kernel, by decide, by decide⟩
def M_Law_rerun : MI := (⟨"RelayDeskLaw", "rerun", "(LRelayDesk;II[J)I"⟩, method_10_code, 5, (some .int), [(0, 17, 20, 13), (0, 17, 24, 26)])
theorem cq_Law_rerun : CQ M_Law_rerun 4 := ⟨Or.inr (List.mem_of_getElem? (i := 895) (by decide +kernel)), List.mem_of_getElem? (i := 60) (by decide +kernel), ⟨by decide +kernel, by decide +kernel⟩, by decide +kernel, by decide +kernel, by decide, by decide⟩
def M_Law_queued : MI := (⟨"RelayDeskLaw", "queued", "(LRelayDesk;II[J)I"⟩, method_11_code, 5, (some .int), [(0, 10, 13, 13)])
theorem cq_Law_queued : CQ M_Law_queued 4 := ⟨Or.inr (List.mem_of_getElem? (i := 906) (by decide +kernel)), List.mem_of_getElem? (i := 60) (by decide +kernel), ⟨by decide +kernel, by decide +kernel⟩, by decide +kernel, by decide +kernel, by decide, by decide⟩
def M_Law_trace : MI := (⟨"RelayDeskLaw", "trace", "(LRelayDesk;II[J)I"⟩, method_12_code, 5, (some .int), [(0, 10, 13, 13)])
theorem cq_Law_trace : CQ M_Law_trace 4 := ⟨Or.inr (List.mem_of_getElem? (i := 913) (by decide +kernel)), List.mem_of_getElem? (i := 60) (by decide +kernel), ⟨by decide +kernel, by decide +kernel⟩, by decide +kernel, by decide +kernel, by decide, by decide⟩
def M_Law_reason : MI := (⟨"RelayDeskLaw", "reason", "(LRelayDesk;I[J)I"⟩, method_13_code, 4, (some .int), [(0, 9, 12, 13)])
theorem cq_Law_reason : CQ M_Law_reason 3 := ⟨Or.inr (List.mem_of_getElem? (i := 920) (by decide +kernel)), List.mem_of_getElem? (i := 60) (by decide +kernel), ⟨by decide +kernel, by decide +kernel⟩, by decide +kernel, by decide +kernel, by decide, by decide⟩
def M_Law_clerk : MI := (⟨"RelayDeskLaw", "clerk", "(LRelayDesk;IC)I"⟩, method_14_code, 4, (some .int), [(0, 6, 9, 13), (0, 6, 12, 26)])
theorem cq_Law_clerk : CQ M_Law_clerk 3 := ⟨Or.inr (List.mem_of_getElem? (i := 927) (by decide +kernel)), List.mem_of_getElem? (i := 60) (by decide +kernel), ⟨by decide +kernel, by decide +kernel⟩, by decide +kernel, by decide +kernel, by decide, by decide⟩
def M_Law_resubmit : MI := (⟨"RelayDeskLaw", "resubmit", "(LRelayDesk;I[J)I"⟩, method_15_code, 4, (some .int), [(0, 9, 12, 13), (0, 9, 15, 26)])
theorem cq_Law_resubmit : CQ M_Law_resubmit 3 := ⟨Or.inr (List.mem_of_getElem? (i := 936) (by decide +kernel)), List.mem_of_getElem? (i := 60) (by decide +kernel), ⟨by decide +kernel, by decide +kernel⟩, by decide +kernel, by decide +kernel, by decide, by decide⟩
def M_Law_law : MI := (⟨"RelayDeskLaw", "law", "([I)Z"⟩, code, 7, (some .boolean), [])
