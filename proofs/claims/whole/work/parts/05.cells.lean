theorem ts_0 : Cond.selects "LineStore$Ones" ⟨"LineStore$Ones", "renewLeast", "()V"⟩ ⟨"LineStore$Ones", "renewLeast", "()V"⟩ ∈ lw_tbl := List.mem_append_left _ (List.mem_of_getElem? (i := 0) rfl)
theorem ts_1 : Cond.selects "LineStore$Matcher" ⟨"LineStore$Matcher", "addIfFits", "(ILLineStore$Ends;LLineStore$Ones;)V"⟩ ⟨"LineStore$Matcher", "addIfFits", "(ILLineStore$Ends;LLineStore$Ones;)V"⟩ ∈ lw_tbl := List.mem_append_left _ (List.mem_of_getElem? (i := 1) rfl)
theorem ts_2 : Cond.selects "LineStore$Matcher" ⟨"LineStore$Matcher", "domain", "(I)J"⟩ ⟨"LineStore$Matcher", "domain", "(I)J"⟩ ∈ lw_tbl := List.mem_append_left _ (List.mem_of_getElem? (i := 2) rfl)
theorem ts_3 : Cond.selects "LineStore$Matcher" ⟨"LineStore$Matcher", "fillRows", "(IZ)V"⟩ ⟨"LineStore$Matcher", "fillRows", "(IZ)V"⟩ ∈ lw_tbl := List.mem_append_left _ (List.mem_of_getElem? (i := 3) rfl)
theorem ts_4 : Cond.selects "LineStore$Matcher" ⟨"LineStore$Matcher", "fillRow", "(II)V"⟩ ⟨"LineStore$Matcher", "fillRow", "(II)V"⟩ ∈ lw_tbl := List.mem_append_left _ (List.mem_of_getElem? (i := 4) rfl)
theorem ts_5 : Cond.selects "LineStore$Matcher" ⟨"LineStore$Matcher", "answersWith", "(I)J"⟩ ⟨"LineStore$Matcher", "answersWith", "(I)J"⟩ ∈ lw_tbl := List.mem_append_left _ (List.mem_of_getElem? (i := 5) rfl)
theorem ts_6 : Cond.selects "java/lang/Throwable" ⟨"java/lang/Throwable", "fillInStackTrace", "(I)Ljava/lang/Throwable;"⟩ ⟨"java/lang/Throwable", "fillInStackTrace", "(I)Ljava/lang/Throwable;"⟩ ∈ lw_tbl := List.mem_append_left _ (List.mem_of_getElem? (i := 6) rfl)
theorem ts_7 : Cond.selects "LineStore" ⟨"LineStore", "checkLine", "(I)V"⟩ ⟨"LineStore", "checkLine", "(I)V"⟩ ∈ lw_tbl := List.mem_append_left _ (List.mem_of_getElem? (i := 7) rfl)
theorem ts_8 : Cond.selects "LineStore" ⟨"LineStore", "whyRefused", "(LLineStore$Line;)I"⟩ ⟨"LineStore", "whyRefused", "(LLineStore$Line;)I"⟩ ∈ lw_tbl := List.mem_append_left _ (List.mem_of_getElem? (i := 8) rfl)
theorem ts_9 : Cond.selects "LineStore$Lines" ⟨"LineStore$Lines", "mostAtOnce", "(LLineStore$Line;IILLineStore$Ones;)I"⟩ ⟨"LineStore$Lines", "mostAtOnce", "(LLineStore$Line;IILLineStore$Ones;)I"⟩ ∈ lw_tbl := List.mem_append_left _ (List.mem_of_getElem? (i := 9) rfl)
theorem ts_10 : Cond.selects "LineStore$Lines" ⟨"LineStore$Lines", "fullestDay", "(II)I"⟩ ⟨"LineStore$Lines", "fullestDay", "(II)I"⟩ ∈ lw_tbl := List.mem_append_left _ (List.mem_of_getElem? (i := 10) rfl)
theorem ts_11 : Cond.selects "java/util/ArrayList" ⟨"java/util/ArrayList", "add", "(Ljava/lang/Object;[Ljava/lang/Object;I)V"⟩ ⟨"java/util/ArrayList", "add", "(Ljava/lang/Object;[Ljava/lang/Object;I)V"⟩ ∈ lw_tbl := List.mem_append_left _ (List.mem_of_getElem? (i := 11) rfl)
theorem ts_12 : Cond.selects "java/util/ArrayList" ⟨"java/util/ArrayList", "grow", "()[Ljava/lang/Object;"⟩ ⟨"java/util/ArrayList", "grow", "()[Ljava/lang/Object;"⟩ ∈ lw_tbl := List.mem_append_left _ (List.mem_of_getElem? (i := 12) rfl)
theorem ts_13 : Cond.selects "java/util/ArrayList" ⟨"java/util/ArrayList", "grow", "(I)[Ljava/lang/Object;"⟩ ⟨"java/util/ArrayList", "grow", "(I)[Ljava/lang/Object;"⟩ ∈ lw_tbl := List.mem_append_left _ (List.mem_of_getElem? (i := 13) rfl)
theorem ts_14 : Cond.selects "LineStore$Lines" ⟨"LineStore$Lines", "markStruck", "(IILLineStore$Laws;)Z"⟩ ⟨"LineStore$Lines", "markStruck", "(IILLineStore$Laws;)Z"⟩ ∈ lw_tbl := List.mem_append_left _ (List.mem_of_getElem? (i := 14) rfl)
theorem ts_15 : Cond.selects "LineStore$Reader" ⟨"LineStore$Reader", "readAtom", "(LLineStore$Tape;LLineStore$Question;)Z"⟩ ⟨"LineStore$Reader", "readAtom", "(LLineStore$Tape;LLineStore$Question;)Z"⟩ ∈ lw_tbl := List.mem_append_left _ (List.mem_of_getElem? (i := 15) rfl)
theorem ts_16 : Cond.selects "LineStore$Reader" ⟨"LineStore$Reader", "next", "(LLineStore$Tape;)V"⟩ ⟨"LineStore$Reader", "next", "(LLineStore$Tape;)V"⟩ ∈ lw_tbl := List.mem_append_left _ (List.mem_of_getElem? (i := 16) rfl)
theorem ts_17 : Cond.selects "LineStore$Reader" ⟨"LineStore$Reader", "takeWord", "(LLineStore$Tape;)V"⟩ ⟨"LineStore$Reader", "takeWord", "(LLineStore$Tape;)V"⟩ ∈ lw_tbl := List.mem_append_left _ (List.mem_of_getElem? (i := 17) rfl)
theorem ts_18 : Cond.selects "LineStore$Reader" ⟨"LineStore$Reader", "takeNumber", "(LLineStore$Tape;)V"⟩ ⟨"LineStore$Reader", "takeNumber", "(LLineStore$Tape;)V"⟩ ∈ lw_tbl := List.mem_append_left _ (List.mem_of_getElem? (i := 18) rfl)
theorem ts_19 : Cond.selects "LineStore$Reader" ⟨"LineStore$Reader", "readNumber", "(LLineStore$Tape;I)Z"⟩ ⟨"LineStore$Reader", "readNumber", "(LLineStore$Tape;I)Z"⟩ ∈ lw_tbl := List.mem_append_left _ (List.mem_of_getElem? (i := 19) rfl)
theorem ts_20 : Cond.selects "LineStore$Reader" ⟨"LineStore$Reader", "readPart", "(LLineStore$Tape;LLineStore$Question;)Z"⟩ ⟨"LineStore$Reader", "readPart", "(LLineStore$Tape;LLineStore$Question;)Z"⟩ ∈ lw_tbl := List.mem_append_left _ (List.mem_of_getElem? (i := 20) rfl)
theorem ts_21 : Cond.selects "LineStore$Lines" ⟨"LineStore$Lines", "nextTo", "(JIILLineStore$Ones;)J"⟩ ⟨"LineStore$Lines", "nextTo", "(JIILLineStore$Ones;)J"⟩ ∈ lw_tbl := List.mem_append_left _ (List.mem_of_getElem? (i := 21) rfl)
theorem ts_22 : Cond.selects "LineStoreModel" ⟨"LineStoreModel", "counts", "()V"⟩ ⟨"LineStoreModel", "counts", "()V"⟩ ∈ lw_tbl := List.mem_append_left _ (List.mem_of_getElem? (i := 22) rfl)
theorem ts_23 : Cond.selects "LineStoreModel" ⟨"LineStoreModel", "throwsIf", "(ZI)Z"⟩ ⟨"LineStoreModel", "throwsIf", "(ZI)Z"⟩ ∈ lw_tbl := List.mem_append_left _ (List.mem_of_getElem? (i := 23) rfl)
theorem ts_24 : Cond.selects "LineStoreModel" ⟨"LineStoreModel", "noLine", "(I)Z"⟩ ⟨"LineStoreModel", "noLine", "(I)Z"⟩ ∈ lw_tbl := List.mem_append_left _ (List.mem_of_getElem? (i := 24) rfl)
theorem ts_25 : Cond.selects "LineStoreModel" ⟨"LineStoreModel", "refused", "(III)I"⟩ ⟨"LineStoreModel", "refused", "(III)I"⟩ ∈ lw_tbl := List.mem_append_left _ (List.mem_of_getElem? (i := 25) rfl)
theorem ts_26 : Cond.selects "LineStoreModel" ⟨"LineStoreModel", "degreeOf", "(IIII)I"⟩ ⟨"LineStoreModel", "degreeOf", "(IIII)I"⟩ ∈ lw_tbl := List.mem_append_left _ (List.mem_of_getElem? (i := 26) rfl)
theorem ts_27 : Cond.selects "LineStoreModel" ⟨"LineStoreModel", "isOn", "(II)Z"⟩ ⟨"LineStoreModel", "isOn", "(II)Z"⟩ ∈ lw_tbl := List.mem_append_left _ (List.mem_of_getElem? (i := 27) rfl)
theorem ts_28 : Cond.selects "LineStoreModel" ⟨"LineStoreModel", "has", "(III)Z"⟩ ⟨"LineStoreModel", "has", "(III)Z"⟩ ∈ lw_tbl := List.mem_append_left _ (List.mem_of_getElem? (i := 28) rfl)
theorem ts_29 : Cond.selects "LineStoreModel" ⟨"LineStoreModel", "hangs", "(II)Z"⟩ ⟨"LineStoreModel", "hangs", "(II)Z"⟩ ∈ lw_tbl := List.mem_append_left _ (List.mem_of_getElem? (i := 29) rfl)
theorem ts_30 : Cond.selects "LineStoreModel" ⟨"LineStoreModel", "readAll", "()I"⟩ ⟨"LineStoreModel", "readAll", "()I"⟩ ∈ lw_tbl := List.mem_append_left _ (List.mem_of_getElem? (i := 30) rfl)
theorem ts_31 : Cond.selects "LineStoreModel" ⟨"LineStoreModel", "readAtom", "(I)Z"⟩ ⟨"LineStoreModel", "readAtom", "(I)Z"⟩ ∈ lw_tbl := List.mem_append_left _ (List.mem_of_getElem? (i := 31) rfl)
theorem ts_32 : Cond.selects "LineStoreModel" ⟨"LineStoreModel", "word", "()V"⟩ ⟨"LineStoreModel", "word", "()V"⟩ ∈ lw_tbl := List.mem_append_left _ (List.mem_of_getElem? (i := 32) rfl)
theorem ts_33 : Cond.selects "LineStoreModel" ⟨"LineStoreModel", "blanks", "()V"⟩ ⟨"LineStoreModel", "blanks", "()V"⟩ ∈ lw_tbl := List.mem_append_left _ (List.mem_of_getElem? (i := 33) rfl)
theorem ts_34 : Cond.selects "LineStoreModel" ⟨"LineStoreModel", "isAt", "(II)Z"⟩ ⟨"LineStoreModel", "isAt", "(II)Z"⟩ ∈ lw_tbl := List.mem_append_left _ (List.mem_of_getElem? (i := 34) rfl)
theorem ts_35 : Cond.selects "LineStoreModel" ⟨"LineStoreModel", "isWord", "(Ljava/lang/String;)Z"⟩ ⟨"LineStoreModel", "isWord", "(Ljava/lang/String;)Z"⟩ ∈ lw_tbl := List.mem_append_left _ (List.mem_of_getElem? (i := 35) rfl)
theorem ts_36 : Cond.selects "LineStoreModel" ⟨"LineStoreModel", "number", "(I)I"⟩ ⟨"LineStoreModel", "number", "(I)I"⟩ ∈ lw_tbl := List.mem_append_left _ (List.mem_of_getElem? (i := 36) rfl)
theorem ts_37 : Cond.selects "LineStoreModel" ⟨"LineStoreModel", "sign", "(I)Z"⟩ ⟨"LineStoreModel", "sign", "(I)Z"⟩ ∈ lw_tbl := List.mem_append_left _ (List.mem_of_getElem? (i := 37) rfl)
theorem ts_38 : Cond.selects "LineStoreModel" ⟨"LineStoreModel", "readPart", "(I)Z"⟩ ⟨"LineStoreModel", "readPart", "(I)Z"⟩ ∈ lw_tbl := List.mem_append_left _ (List.mem_of_getElem? (i := 38) rfl)
theorem ts_39 : Cond.selects "LineStoreModel" ⟨"LineStoreModel", "goes", "(II)I"⟩ ⟨"LineStoreModel", "goes", "(II)I"⟩ ∈ lw_tbl := List.mem_append_left _ (List.mem_of_getElem? (i := 39) rfl)
theorem ts_40 : Cond.selects "LineStoreModel" ⟨"LineStoreModel", "asks", "(I)V"⟩ ⟨"LineStoreModel", "asks", "(I)V"⟩ ∈ lw_tbl := List.mem_append_left _ (List.mem_of_getElem? (i := 40) rfl)
theorem ts_41 : Cond.selects "LineStoreModel" ⟨"LineStoreModel", "fits", "(III)V"⟩ ⟨"LineStoreModel", "fits", "(III)V"⟩ ∈ lw_tbl := List.mem_append_left _ (List.mem_of_getElem? (i := 41) rfl)
theorem ts_42 : Cond.selects "LineStoreModel" ⟨"LineStoreModel", "isOpen", "(II)Z"⟩ ⟨"LineStoreModel", "isOpen", "(II)Z"⟩ ∈ lw_tbl := List.mem_append_left _ (List.mem_of_getElem? (i := 42) rfl)
theorem ts_43 : Cond.selects "LineStoreModel" ⟨"LineStoreModel", "isAnswer", "(III)Z"⟩ ⟨"LineStoreModel", "isAnswer", "(III)Z"⟩ ∈ lw_tbl := List.mem_append_left _ (List.mem_of_getElem? (i := 43) rfl)
theorem ts_44 : Cond.selects "LineStoreModel" ⟨"LineStoreModel", "usedBy", "(I)I"⟩ ⟨"LineStoreModel", "usedBy", "(I)I"⟩ ∈ lw_tbl := List.mem_append_left _ (List.mem_of_getElem? (i := 44) rfl)
theorem ts_45 : Cond.selects "LineStoreModel" ⟨"LineStoreModel", "touches", "(I)Z"⟩ ⟨"LineStoreModel", "touches", "(I)Z"⟩ ∈ lw_tbl := List.mem_append_left _ (List.mem_of_getElem? (i := 45) rfl)
theorem iu_Jx4a65c : ∀ w ∈ u_ws RJx4a65c TJx4a65c 3, w ∈ lwg := by
  show ∀ w ∈ [u_lay RJx4a65c TJx4a65c 0, u_lay RJx4a65c TJx4a65c 1, u_lay RJx4a65c TJx4a65c 2], w ∈ lwg
  exact List.forall_mem_cons.mpr ⟨(lwg_of t_142 rfl), List.forall_mem_cons.mpr ⟨(lwg_of t_138 rfl), List.forall_mem_cons.mpr ⟨(lwg_of t_140 rfl), fun _ h => absurd h List.not_mem_nil⟩⟩⟩
theorem iu_X0 : ∀ w ∈ u_ws RX0 TX0 4, w ∈ lwg := by
  show ∀ w ∈ [u_lay RX0 TX0 0, u_lay RX0 TX0 1, u_lay RX0 TX0 2, u_lay RX0 TX0 3], w ∈ lwg
  exact List.forall_mem_cons.mpr ⟨(lwg_of t_104 rfl), List.forall_mem_cons.mpr ⟨(lwg_of t_106 rfl), List.forall_mem_cons.mpr ⟨(lwg_of t_108 rfl), List.forall_mem_cons.mpr ⟨(lwg_of t_110 rfl), fun _ h => absurd h List.not_mem_nil⟩⟩⟩⟩
theorem iu_X1 : ∀ w ∈ u_ws RX1 TX1 4, w ∈ lwg := by
  show ∀ w ∈ [u_lay RX1 TX1 0, u_lay RX1 TX1 1, u_lay RX1 TX1 2, u_lay RX1 TX1 3], w ∈ lwg
  exact List.forall_mem_cons.mpr ⟨(lwg_of t_65 rfl), List.forall_mem_cons.mpr ⟨(lwg_of t_67 rfl), List.forall_mem_cons.mpr ⟨(lwg_of t_69 rfl), List.forall_mem_cons.mpr ⟨(lwg_of t_71 rfl), fun _ h => absurd h List.not_mem_nil⟩⟩⟩⟩
theorem iu_X2 : ∀ w ∈ u_ws RX2 TX2 4, w ∈ lwg := by
  show ∀ w ∈ [u_lay RX2 TX2 0, u_lay RX2 TX2 1, u_lay RX2 TX2 2, u_lay RX2 TX2 3], w ∈ lwg
  exact List.forall_mem_cons.mpr ⟨(lwg_of t_673 rfl), List.forall_mem_cons.mpr ⟨(lwg_of t_675 rfl), List.forall_mem_cons.mpr ⟨(lwg_of t_677 rfl), List.forall_mem_cons.mpr ⟨(lwg_of t_679 rfl), fun _ h => absurd h List.not_mem_nil⟩⟩⟩⟩
theorem iu_X3 : ∀ w ∈ u_ws RX3 TX3 4, w ∈ lwg := by
  show ∀ w ∈ [u_lay RX3 TX3 0, u_lay RX3 TX3 1, u_lay RX3 TX3 2, u_lay RX3 TX3 3], w ∈ lwg
  exact List.forall_mem_cons.mpr ⟨(lwg_of t_149 rfl), List.forall_mem_cons.mpr ⟨(lwg_of t_151 rfl), List.forall_mem_cons.mpr ⟨(lwg_of t_153 rfl), List.forall_mem_cons.mpr ⟨(lwg_of t_155 rfl), fun _ h => absurd h List.not_mem_nil⟩⟩⟩⟩
theorem iu_X4 : ∀ w ∈ u_ws RX4 TX4 7, w ∈ lwg := by
  show ∀ w ∈ [u_lay RX4 TX4 0, u_lay RX4 TX4 1, u_lay RX4 TX4 2, u_lay RX4 TX4 3, u_lay RX4 TX4 4, u_lay RX4 TX4 5, u_lay RX4 TX4 6], w ∈ lwg
  exact List.forall_mem_cons.mpr ⟨(lwg_of t_222 rfl), List.forall_mem_cons.mpr ⟨(lwg_of t_224 rfl), List.forall_mem_cons.mpr ⟨(lwg_of t_226 rfl), List.forall_mem_cons.mpr ⟨(lwg_of t_228 rfl), List.forall_mem_cons.mpr ⟨(lwg_of t_230 rfl), List.forall_mem_cons.mpr ⟨(lwg_of t_232 rfl), List.forall_mem_cons.mpr ⟨(lwg_of t_234 rfl), fun _ h => absurd h List.not_mem_nil⟩⟩⟩⟩⟩⟩⟩
theorem iu_X5 : ∀ w ∈ u_ws RX5 TX5 4, w ∈ lwg := by
  show ∀ w ∈ [u_lay RX5 TX5 0, u_lay RX5 TX5 1, u_lay RX5 TX5 2, u_lay RX5 TX5 3], w ∈ lwg
  exact List.forall_mem_cons.mpr ⟨(lwg_of t_85 rfl), List.forall_mem_cons.mpr ⟨(lwg_of t_87 rfl), List.forall_mem_cons.mpr ⟨(lwg_of t_89 rfl), List.forall_mem_cons.mpr ⟨(lwg_of t_91 rfl), fun _ h => absurd h List.not_mem_nil⟩⟩⟩⟩
theorem iu_X6 : ∀ w ∈ u_ws RX6 TX6 8, w ∈ lwg := by
  show ∀ w ∈ [u_lay RX6 TX6 0, u_lay RX6 TX6 1, u_lay RX6 TX6 2, u_lay RX6 TX6 3, u_lay RX6 TX6 4, u_lay RX6 TX6 5, u_lay RX6 TX6 6, u_lay RX6 TX6 7], w ∈ lwg
  exact List.forall_mem_cons.mpr ⟨(lwg_of t_197 rfl), List.forall_mem_cons.mpr ⟨(lwg_of t_199 rfl), List.forall_mem_cons.mpr ⟨(lwg_of t_201 rfl), List.forall_mem_cons.mpr ⟨(lwg_of t_203 rfl), List.forall_mem_cons.mpr ⟨(lwg_of t_205 rfl), List.forall_mem_cons.mpr ⟨(lwg_of t_207 rfl), List.forall_mem_cons.mpr ⟨(lwg_of t_209 rfl), List.forall_mem_cons.mpr ⟨(lwg_of t_211 rfl), fun _ h => absurd h List.not_mem_nil⟩⟩⟩⟩⟩⟩⟩⟩
theorem iu_X7 : ∀ w ∈ u_ws RX7 TX7 4, w ∈ lwg := by
  show ∀ w ∈ [u_lay RX7 TX7 0, u_lay RX7 TX7 1, u_lay RX7 TX7 2, u_lay RX7 TX7 3], w ∈ lwg
  exact List.forall_mem_cons.mpr ⟨(lwg_of t_168 rfl), List.forall_mem_cons.mpr ⟨(lwg_of t_170 rfl), List.forall_mem_cons.mpr ⟨(lwg_of t_172 rfl), List.forall_mem_cons.mpr ⟨(lwg_of t_174 rfl), fun _ h => absurd h List.not_mem_nil⟩⟩⟩⟩
theorem iu_X8 : ∀ w ∈ u_ws RX8 TX8 2, w ∈ lwg := by
  show ∀ w ∈ [u_lay RX8 TX8 0, u_lay RX8 TX8 1], w ∈ lwg
  exact List.forall_mem_cons.mpr ⟨(lwg_of t_49 rfl), List.forall_mem_cons.mpr ⟨(lwg_of t_51 rfl), fun _ h => absurd h List.not_mem_nil⟩⟩
theorem iu_X9 : ∀ w ∈ u_ws RX9 TX9 10, w ∈ lwg := by
  show ∀ w ∈ [u_lay RX9 TX9 0, u_lay RX9 TX9 1, u_lay RX9 TX9 2, u_lay RX9 TX9 3, u_lay RX9 TX9 4, u_lay RX9 TX9 5, u_lay RX9 TX9 6, u_lay RX9 TX9 7, u_lay RX9 TX9 8, u_lay RX9 TX9 9], w ∈ lwg
  exact List.forall_mem_cons.mpr ⟨(lwg_of t_249 rfl), List.forall_mem_cons.mpr ⟨(lwg_of t_251 rfl), List.forall_mem_cons.mpr ⟨(lwg_of t_253 rfl), List.forall_mem_cons.mpr ⟨(lwg_of t_255 rfl), List.forall_mem_cons.mpr ⟨(lwg_of t_257 rfl), List.forall_mem_cons.mpr ⟨(lwg_of t_259 rfl), List.forall_mem_cons.mpr ⟨(lwg_of t_261 rfl), List.forall_mem_cons.mpr ⟨(lwg_of t_263 rfl), List.forall_mem_cons.mpr ⟨(lwg_of t_265 rfl), List.forall_mem_cons.mpr ⟨(lwg_of t_267 rfl), fun _ h => absurd h List.not_mem_nil⟩⟩⟩⟩⟩⟩⟩⟩⟩⟩
theorem iu_X10 : ∀ w ∈ u_ws RX10 TX10 38, w ∈ lwg := by
  show ∀ w ∈ [u_lay RX10 TX10 0, u_lay RX10 TX10 1, u_lay RX10 TX10 2, u_lay RX10 TX10 3, u_lay RX10 TX10 4, u_lay RX10 TX10 5, u_lay RX10 TX10 6, u_lay RX10 TX10 7, u_lay RX10 TX10 8, u_lay RX10 TX10 9, u_lay RX10 TX10 10, u_lay RX10 TX10 11, u_lay RX10 TX10 12, u_lay RX10 TX10 13, u_lay RX10 TX10 14, u_lay RX10 TX10 15, u_lay RX10 TX10 16, u_lay RX10 TX10 17, u_lay RX10 TX10 18, u_lay RX10 TX10 19, u_lay RX10 TX10 20, u_lay RX10 TX10 21, u_lay RX10 TX10 22, u_lay RX10 TX10 23, u_lay RX10 TX10 24, u_lay RX10 TX10 25, u_lay RX10 TX10 26, u_lay RX10 TX10 27, u_lay RX10 TX10 28, u_lay RX10 TX10 29, u_lay RX10 TX10 30, u_lay RX10 TX10 31, u_lay RX10 TX10 32, u_lay RX10 TX10 33, u_lay RX10 TX10 34, u_lay RX10 TX10 35, u_lay RX10 TX10 36, u_lay RX10 TX10 37], w ∈ lwg
  exact List.forall_mem_cons.mpr ⟨(lwg_of t_1051 rfl), List.forall_mem_cons.mpr ⟨(lwg_of t_1053 rfl), List.forall_mem_cons.mpr ⟨(lwg_of t_1055 rfl), List.forall_mem_cons.mpr ⟨(lwg_of t_1057 rfl), List.forall_mem_cons.mpr ⟨(lwg_of t_1059 rfl), List.forall_mem_cons.mpr ⟨(lwg_of t_1061 rfl), List.forall_mem_cons.mpr ⟨(lwg_of t_1063 rfl), List.forall_mem_cons.mpr ⟨(lwg_of t_1065 rfl), List.forall_mem_cons.mpr ⟨(lwg_of t_1067 rfl), List.forall_mem_cons.mpr ⟨(lwg_of t_1069 rfl), List.forall_mem_cons.mpr ⟨(lwg_of t_1071 rfl), List.forall_mem_cons.mpr ⟨(lwg_of t_1073 rfl), List.forall_mem_cons.mpr ⟨(lwg_of t_1075 rfl), List.forall_mem_cons.mpr ⟨(lwg_of t_1077 rfl), List.forall_mem_cons.mpr ⟨(lwg_of t_1079 rfl), List.forall_mem_cons.mpr ⟨(lwg_of t_1081 rfl), List.forall_mem_cons.mpr ⟨(lwg_of t_1083 rfl), List.forall_mem_cons.mpr ⟨(lwg_of t_1085 rfl), List.forall_mem_cons.mpr ⟨(lwg_of t_1087 rfl), List.forall_mem_cons.mpr ⟨(lwg_of t_1089 rfl), List.forall_mem_cons.mpr ⟨(lwg_of t_1091 rfl), List.forall_mem_cons.mpr ⟨(lwg_of t_1093 rfl), List.forall_mem_cons.mpr ⟨(lwg_of t_1095 rfl), List.forall_mem_cons.mpr ⟨(lwg_of t_1097 rfl), List.forall_mem_cons.mpr ⟨(lwg_of t_1099 rfl), List.forall_mem_cons.mpr ⟨(lwg_of t_1101 rfl), List.forall_mem_cons.mpr ⟨(lwg_of t_1103 rfl), List.forall_mem_cons.mpr ⟨(lwg_of t_1105 rfl), List.forall_mem_cons.mpr ⟨(lwg_of t_1107 rfl), List.forall_mem_cons.mpr ⟨(lwg_of t_1109 rfl), List.forall_mem_cons.mpr ⟨(lwg_of t_1111 rfl), List.forall_mem_cons.mpr ⟨(lwg_of t_1113 rfl), List.forall_mem_cons.mpr ⟨(lwg_of t_1115 rfl), List.forall_mem_cons.mpr ⟨(lwg_of t_1117 rfl), List.forall_mem_cons.mpr ⟨(lwg_of t_1119 rfl), List.forall_mem_cons.mpr ⟨(lwg_of t_1121 rfl), List.forall_mem_cons.mpr ⟨(lwg_of t_1123 rfl), List.forall_mem_cons.mpr ⟨(lwg_of t_1125 rfl), fun _ h => absurd h List.not_mem_nil⟩⟩⟩⟩⟩⟩⟩⟩⟩⟩⟩⟩⟩⟩⟩⟩⟩⟩⟩⟩⟩⟩⟩⟩⟩⟩⟩⟩⟩⟩⟩⟩⟩⟩⟩⟩⟩⟩
abbrev cEnds (ad : Nat → Nat) (k : Nat) (sz : Nat) : va_E := .inr (1, [.ref (ad (k + 1)), .ref (ad (k + 2)), .ref (ad (k + 3)), .int (nI sz)])
abbrev cLaws (ad : Nat → Nat)  : va_E := .inr (2, [.ref (ad 4), .ref (ad 5), .ref (ad 6), .ref (ad 7)])
abbrev cLine (ad : Nat → Nat) (k : Nat) (kd : Nat) (fm : Int32) (to : Int32) : va_E := .inr (3, [.int (nI kd), .int fm, .int to, .ref (ad (k + 1))])
abbrev cLines (ad : Nat → Nat)  : va_E := .inr (4, [.ref (ad 17), .ref (ad 19), .ref (ad 20), .ref (ad 21)])
abbrev cMatcher (ad : Nat → Nat) (qm : Nat) (ps : Nat) : va_E := .inr (5, [.ref (ad 24), .ref (ad 25), .ref (ad 26), .ref (ad 27), .ref (ad 28), .ref (ad qm), .int (nI ps)])
abbrev cOnes (ad : Nat → Nat) (jn : Nat) : va_E := .inr (6, [.ref (ad 9), .ref (ad 10), .ref (ad 11), .int (nI jn)])
abbrev cQuestion (ad : Nat → Nat) (k : Nat) (aa : Nat) (uv : Nat) : va_E := .inr (7, [.ref (ad (k + 1)), .ref (ad (k + 2)), .ref (ad (k + 3)), .ref (ad (k + 4)), .ref (ad (k + 5)), .ref (ad (k + 6)), .int (nI aa), .int (nI uv)])
abbrev cReader (ad : Nat → Nat) (aa : Nat) (bg : Nat) (tk : Int32) (vl : Int32) : va_E := .inr (8, [.int (nI aa), .int (nI bg), .int tk, .int vl])
abbrev cTape (ad : Nat → Nat) (len : Nat) : va_E := .inr (9, [.ref (ad 2), .int (nI len)])
abbrev cStore (ad : Nat → Nat) (qa : Nat) (qs : Nat) (fw : Int32) : va_E := .inr (10, [.ref (ad 1), .ref (ad 3), .ref (ad 8), .ref (ad 12), .ref (ad 16), .ref (ad 22), .ref (ad 23), .ref (ad qa), .ref (ad qs), .int fw])
abbrev cModel (ad : Nat → Nat) (th : Nat) (ln : Nat) (on : Nat) (ao : Nat) (vr : Nat) (sn : Nat) (tp : Nat) (pt : Nat) (sz : Nat) (bg : Nat) (fa : Int32) : va_E := .inr (11, [.int (nI th), .ref (ad 61), .ref (ad 62), .ref (ad 63), .ref (ad 64), .ref (ad 65), .ref (ad 66), .ref (ad 67), .ref (ad 68), .ref (ad 69), .ref (ad 70), .int (nI ln), .ref (ad 71), .ref (ad 72), .ref (ad 73), .int (nI on), .ref (ad 74), .ref (ad 75), .ref (ad 76), .ref (ad 77), .ref (ad 78), .ref (ad 79), .int (nI ao), .int (nI vr), .int (nI sn), .ref (ad 80), .int (nI tp), .int (nI pt), .int (nI sz), .int (nI bg), .int fa, .ref (ad 81), .ref (ad 82), .ref (ad 83), .ref (ad 84), .ref (ad 85), .ref (ad 86), .ref (ad 87)])
abbrev cList (ad : Nat → Nat) (mcn : Int32) (ed : Nat) (sz : Nat) : va_E := .inr (0, [.int mcn, .ref ed, .int (nI sz)])
/-! numbers, truth values and places that may be none, as rows of an array -/
abbrev nF (g : Nat → Nat) : Nat → Int32 := fun j => nI (g j)
abbrev bF (g : Nat → Bool) : Nat → Int32 := fun j => bI (g j)
def oI (o : Option Nat) : Int32 := match o with
  | none => -1
  | some t => nI t
abbrev oF (g : Nat → Option Nat) : Nat → Int32 := fun j => oI (g j)
theorem upd_nF (g : Nat → Nat) (i x : Nat) : upd (nF g) i (nI x) = nF (va_up g i x) := by
  funext j
  simp only [upd, nF, va_up]
  split <;> rfl
theorem upd_bF (g : Nat → Bool) (i : Nat) (x : Bool) : upd (bF g) i (bI x) = bF (va_up g i x) := by
  funext j
  simp only [upd, bF, va_up]
  split <;> rfl
theorem upd_bF_0 (g : Nat → Bool) (i : Nat) : upd (bF g) i (nI 0) = bF (va_up g i false) := upd_bF g i false
theorem upd_bF_1 (g : Nat → Bool) (i : Nat) : upd (bF g) i (nI 1) = bF (va_up g i true) := upd_bF g i true
theorem upd_oF (g : Nat → Option Nat) (i : Nat) (x : Option Nat) : upd (oF g) i (oI x) = oF (va_up g i x) := by
  funext j
  simp only [upd, oF, va_up]
  split <;> rfl
theorem upd_oF_m1 (g : Nat → Option Nat) (i : Nat) : upd (oF g) i (-1) = oF (va_up g i none) := upd_oF g i none
theorem upd_oF_n (g : Nat → Option Nat) (i x : Nat) : upd (oF g) i (nI x) = oF (va_up g i (some x)) := upd_oF g i (some x)
def oK (o : Option Nat) : Prop := ∀ t, o = some t → t < 1000
theorem nI_m1 {n : Nat} (h : n < 2 ^ 31) : ¬ nI n = -1 := fun e => by
  have h1 := nI_toInt h
  rw [e] at h1
  have h2 : (-1 : Int32).toInt = -1 := by decide
  omega
theorem oI_none_of {o : Option Nat} (h : oK o) : oI o = -1 ↔ o = none := by
  cases o with
  | none => exact ⟨fun _ => rfl, fun _ => rfl⟩
  | some t => exact ⟨fun e => absurd e (nI_m1 (by have := h t rfl; omega)), fun e => by cases e⟩
theorem oI_some_of {o : Option Nat} {n : Nat} (h : oK o) (hn : n < 2 ^ 31) : oI o = nI n ↔ o = some n := by
  cases o with
  | none => exact ⟨fun e => absurd e.symm (nI_m1 hn), fun e => by cases e⟩
  | some t =>
    have := h t rfl
    exact ⟨fun e => by rw [(nI_eq (by omega) hn).mp e], fun e => by cases e; rfl⟩
/-! sets of things: bits of a long -/
def inS (x : Int64) (t : Nat) : Bool := x.toBitVec.getLsbD t
theorem inS_0 (t : Nat) : inS 0 t = false := by simp [inS]
theorem inS_or (x y : Int64) (t : Nat) : inS (x ||| y) t = (inS x t || inS y t) := by simp [inS]
theorem inS_and (x y : Int64) (t : Nat) : inS (x &&& y) t = (inS x t && inS y t) := by simp [inS]
theorem inS_ext {x y : Int64} (h : ∀ t, t < 64 → inS x t = inS y t) : x = y := Int64.toBitVec_inj.mp (BitVec.eq_of_getLsbD_eq h)
theorem inS_c : ∀ k, k < 64 → ((nI k).toInt64 &&& 63).toBitVec.smod 64 = BitVec.ofNat 64 k := by decide +kernel
theorem inS_one : ∀ k, k < 64 → ((1 : Int64) <<< ((nI k).toInt64 &&& 63)).toBitVec = BitVec.twoPow 64 k := by decide +kernel
theorem inS_shl {k : Nat} (hk : k < 64) (t : Nat) : inS ((1 : Int64) <<< ((nI k).toInt64 &&& 63)) t = decide (t = k) := by
  rw [inS, inS_one k hk, BitVec.getLsbD_twoPow]
  by_cases h : t = k
  · subst h; simp [hk]
  · have : ¬ k = t := fun e => h e.symm
    simp [h, this]
theorem inS_cu : ∀ k, k < 64 → ((nI k).toInt64.toUInt64 &&& Int64.toUInt64 63).toNat = k := by decide +kernel
theorem inS_bit {w : Int64} {k : Nat} (hk : k < 64) : ((w.toUInt64 >>> ((nI k).toInt64.toUInt64 &&& Int64.toUInt64 63)).toInt64 &&& 1) = 0 ↔ inS w k = false := by
  have hs := inS_cu k hk
  generalize ((nI k).toInt64.toUInt64 &&& Int64.toUInt64 63) = s at hs
  have h1 : ((w.toUInt64 >>> s).toInt64 &&& 1).toBitVec = (w.toBitVec >>> k) &&& 1#64 := by
    show (w.toUInt64 >>> s).toBitVec &&& 1#64 = _
    rw [UInt64.toBitVec_shiftRight]
    congr 1
    have h2 : (s.toBitVec % 64).toNat = k := by
      show (s.toBitVec % 64#64).toNat = k
      rw [BitVec.toNat_umod]
      show s.toNat % 64 = k
      omega
    rw [BitVec.ushiftRight_eq', h2]
    rfl
  constructor
  · intro h
    have h3 : ((w.toUInt64 >>> s).toInt64 &&& 1).toBitVec.getLsbD 0 = (0 : Int64).toBitVec.getLsbD 0 := by rw [h]
    rw [h1] at h3
    simpa [inS] using h3
  · intro h
    apply Int64.toBitVec_inj.mp
    rw [h1]
    apply BitVec.eq_of_getLsbD_eq
    intro i hi
    by_cases h0 : i = 0
    · subst h0; simpa [inS] using h
    · simp [h0]
/-! the lines in the memory -/
def thE (e : Nat → Nat) (j : Nat) : Option Nat := if e j < 40 then some (e j) else if e j < 1000 then none else some 0
def olE (e : Nat → Nat) (j : Nat) : Option Nat := if e j < 40 then none else if e j < 1000 then some (e j - 40) else some 0
def LIm (G : GG) (ad : Nat → Nat) (M : Mem) (n : Nat) : Prop := ∃ (mcn : Int32) (ed : Nat), M 17 = some (cList ad mcn ed n) ∧ (0 < n → ed = ad 18 ∧ ∃ (cap : Nat) (lf : Nat → Option Nat), M 18 = some (aO G cap lf) ∧ n ≤ cap ∧ cap ≤ 1000 ∧ ∀ i, i < n → lf i = some (ad (100 + 5 * i)))
def LSm (G : GG) (ad : Nat → Nat) (M : Mem) (n : Nat) (kd : Nat → Nat) (fm to : Nat → Int32) (sz : Nat → Nat) (rl en : Nat → Nat → Nat) : Prop := M 16 = some (cLines ad) ∧ LIm G ad M n ∧ ∀ i, i < n → M (100 + 5 * i) = some (cLine ad (100 + 5 * i) (kd i) (fm i) (to i)) ∧ M (100 + 5 * i + 1) = some (cEnds ad (100 + 5 * i + 1) (sz i)) ∧ M (100 + 5 * i + 2) = some (aI G 6 (nF (rl i))) ∧ M (100 + 5 * i + 3) = some (aI G 6 (oF (thE (en i)))) ∧ M (100 + 5 * i + 4) = some (aI G 6 (oF (olE (en i))))
theorem LSm.keep {G : GG} {ad : Nat → Nat} {M M1 : Mem} {n : Nat} {kd : Nat → Nat} {fm to : Nat → Int32} {sz : Nat → Nat} {rl en : Nat → Nat → Nat} (h : LSm G ad M n kd fm to sz rl en) (hk : ∀ j, j = 16 ∨ j = 17 ∨ j = 18 ∨ 100 ≤ j → M1 j = M j) : LSm G ad M1 n kd fm to sz rl en := by
  obtain ⟨h1, ⟨mcn, ed, h2, h3⟩, h4⟩ := h
  refine ⟨by rw [hk 16 (by omega)]; exact h1, ⟨mcn, ed, by rw [hk 17 (by omega)]; exact h2, fun hn => ?_⟩, fun i hi => ?_⟩
  · rw [hk 18 (by omega)]
    exact h3 hn
  · rw [hk _ (by omega), hk _ (by omega), hk _ (by omega), hk _ (by omega), hk _ (by omega)]
    exact h4 i hi
theorem LSm.put {G : GG} {ad : Nat → Nat} {M M1 : Mem} {n : Nat} {kd : Nat → Nat} {fm to : Nat → Int32} {sz : Nat → Nat} {rl en : Nat → Nat → Nat} (h : LSm G ad M n kd fm to sz rl en) {i : Nat} {v : Int32} (he : M1 = va_up M (100 + 5 * i) (some (cLine ad (100 + 5 * i) (kd i) (fm i) v))) (_ : i < n) : LSm G ad M1 n kd fm (va_up to i v) sz rl en := by
  obtain ⟨h1, ⟨mcn, ed, h2, h3⟩, h4⟩ := h
  have hk : ∀ j, j ≠ 100 + 5 * i → M1 j = M j := fun j hj => by rw [he, va_up_ne _ _ hj]
  refine ⟨by rw [hk 16 (by omega)]; exact h1, ⟨mcn, ed, by rw [hk 17 (by omega)]; exact h2, fun hn => ?_⟩, fun j hj => ?_⟩
  · rw [hk 18 (by omega)]
    exact h3 hn
  · by_cases hij : j = i
    · subst hij
      rw [va_up_self]
      refine ⟨by rw [he, va_up_self], ?_⟩
      rw [hk (100 + 5 * j + 1) (by omega), hk (100 + 5 * j + 2) (by omega), hk (100 + 5 * j + 3) (by omega), hk (100 + 5 * j + 4) (by omega)]
      exact (h4 j hj).2
    · rw [va_up_ne _ _ hij, hk _ (by omega), hk _ (by omega), hk _ (by omega), hk _ (by omega), hk _ (by omega)]
      exact h4 j hj
section HC
variable {p : Program} {l : Launch} {e : Env} {R : Room} {s : State} {m : MethodId} {args : Array Value} {below : List Frame} {meth : Method} {c : Code} {H : Heap} {locs : List Loc} {cells slots : Nat} {Q : State → Prop}
variable {G : GG} {z : Nat} {ad : Nat → Nat} {M : Mem} {cc : ByteArray} {pc : Nat} {ls : Array Slot} {rest : List Value}
theorem n_eqv {x y : Value} (h : x = y) (k : W p l e R s m args below meth c H locs cells slots Q (F0 m pc ls (y :: rest))) : W p l e R s m args below meth c H locs cells slots Q (F0 m pc ls (x :: rest)) := h ▸ k
theorem h_aald (hx : p.tables.exec = Jvm.exec) (hb : c.code = cc) (hI : Iv G z ad M s H locs) {k n : Nat} {f : Nat → Option Nat} (hk : M k = some (aO G n f)) {i : Nat} (hi : i < n) (hn : n < 2 ^ 31) (hdg : decode cc pc = .ok (.aaload, 1))
    (kk : W p l e R s m args below meth c H locs cells slots Q (F0 m (pc + 1) ls (va_rf (f i) :: rest))) : W p l e R s m args below meth c H locs cells slots Q (F0 m pc ls (.int (nI i) :: .ref (ad k) :: rest)) :=
  va_aldq (D := G.1) (cl := vwCl) (tys := cty G) (ws := [(ad k, aO G n f)]) hx hb hI.1.1 (hI.2.1.one hk) 0 4 rfl rfl (vp_in_nI hi hn) hdg (by rw [nI_clamp (Nat.lt_trans hi hn)]; exact kk)
theorem h_cast (hx : p.tables.exec = Jvm.exec) (hb : c.code = cc) {own : String} {index : Nat} {q : vw_C} (hown : s.vm.findClass own = some m.cls) (hlink : (Cond.classLink own index q.1).before args s = true) (hI : Iv G z ad M s H locs) {k ci : Nat} {fs : List Value} (hk : M k = some (.inr (ci, fs))) (hc : vwCl[ci]? = some q) (hdg : decode cc pc = .ok (.checkcast index, 3))
    (kk : W p l e R s m args below meth c H locs cells slots Q (F0 m (pc + 3) ls (.ref (ad k) :: rest))) : W p l e R s m args below meth c H locs cells slots Q (F0 m pc ls (.ref (ad k) :: rest)) :=
  va_castS hx hb hown hlink (hI.1.1.1 ci q hc).2 (va_recv hI.1.1 (hI.2.1.one hk) hc (q0 := 0) rfl) hdg kk
end HC
theorem inS_tt {w : Int64} {k : Nat} (hk : k < 64) (h : ¬ ((w.toUInt64 >>> ((nI k).toInt64.toUInt64 &&& Int64.toUInt64 63)).toInt64 &&& 1) = 0) : bI (inS w k) = nI 1 := by
  cases hc : inS w k with
  | true => rfl
  | false => exact absurd ((inS_bit hk).mpr hc) h
theorem inS_ff {w : Int64} {k : Nat} (hk : k < 64) (h : ((w.toUInt64 >>> ((nI k).toInt64.toUInt64 &&& Int64.toUInt64 63)).toInt64 &&& 1) = 0) : bI (inS w k) = nI 0 := by rw [(inS_bit hk).mp h]; rfl
theorem inS_big {x : Int64} {t : Nat} (h : 64 ≤ t) : inS x t = false := BitVec.getLsbD_of_ge _ _ h
