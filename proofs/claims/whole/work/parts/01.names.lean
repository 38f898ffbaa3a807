-- ===== PART A: goes FIRST, ahead of the names: the tables' words, and 'selects' of the private methods out of them =====
/-- a private method of a class that the tables say can be made, by its rows of tables_1 -/
def lw_okq (q : MethodName × Nat) : Prop := (q.1.cls ≠ "java/lang/invoke/MethodHandle" ∧ q.1.cls ≠ "java/lang/invoke/VarHandle") ∧ Cond.instantiable q.1.cls q.2 ∈ tables_1 ∧ Cond.privateMethod q.1 ∈ tables_1 ∧ Cond.instanceMethod q.1 ∈ tables_1
theorem lw_p0 : lw_okq (⟨"MastWind", "shelfAt", "(I)LMastWind$Shelf;"⟩, 14) := ⟨⟨by decide +kernel, by decide +kernel⟩, List.mem_of_getElem? (i := 23) (by decide +kernel), List.mem_of_getElem? (i := 455) (by decide +kernel), List.mem_of_getElem? (i := 456) (by decide +kernel)⟩
theorem lw_p1 : lw_okq (⟨"MastWind", "rowRefusal", "(LMastWind$Shelf;I)I"⟩, 14) := ⟨⟨by decide +kernel, by decide +kernel⟩, List.mem_of_getElem? (i := 23) (by decide +kernel), List.mem_of_getElem? (i := 459) (by decide +kernel), List.mem_of_getElem? (i := 460) (by decide +kernel)⟩
theorem lw_p2 : lw_okq (⟨"MastWind$TextReader", "readNumbers", "(I)V"⟩, 9) := ⟨⟨by decide +kernel, by decide +kernel⟩, List.mem_of_getElem? (i := 252) (by decide +kernel), List.mem_of_getElem? (i := 478) (by decide +kernel), List.mem_of_getElem? (i := 479) (by decide +kernel)⟩
theorem lw_p3 : lw_okq (⟨"MastWind$TextReader", "readNumber", "()V"⟩, 9) := ⟨⟨by decide +kernel, by decide +kernel⟩, List.mem_of_getElem? (i := 252) (by decide +kernel), List.mem_of_getElem? (i := 482) (by decide +kernel), List.mem_of_getElem? (i := 483) (by decide +kernel)⟩
theorem lw_p4 : lw_okq (⟨"MastWind$TextReader", "expect", "(I)V"⟩, 9) := ⟨⟨by decide +kernel, by decide +kernel⟩, List.mem_of_getElem? (i := 252) (by decide +kernel), List.mem_of_getElem? (i := 489) (by decide +kernel), List.mem_of_getElem? (i := 490) (by decide +kernel)⟩
theorem lw_p5 : lw_okq (⟨"MastWind$TextReader", "readSide", "()V"⟩, 9) := ⟨⟨by decide +kernel, by decide +kernel⟩, List.mem_of_getElem? (i := 252) (by decide +kernel), List.mem_of_getElem? (i := 493) (by decide +kernel), List.mem_of_getElem? (i := 494) (by decide +kernel)⟩
theorem lw_p6 : lw_okq (⟨"MastWind$Mast", "accepts", "(LMastWind$TextReader;)Z"⟩, 10) := ⟨⟨by decide +kernel, by decide +kernel⟩, List.mem_of_getElem? (i := 31) (by decide +kernel), List.mem_of_getElem? (i := 507) (by decide +kernel), List.mem_of_getElem? (i := 508) (by decide +kernel)⟩
theorem lw_p7 : lw_okq (⟨"MastWind$Mast", "addPiece", "([I)Z"⟩, 10) := ⟨⟨by decide +kernel, by decide +kernel⟩, List.mem_of_getElem? (i := 31) (by decide +kernel), List.mem_of_getElem? (i := 511) (by decide +kernel), List.mem_of_getElem? (i := 512) (by decide +kernel)⟩
theorem lw_p8 : lw_okq (⟨"MastWind$Mast", "addRope", "([II)Z"⟩, 10) := ⟨⟨by decide +kernel, by decide +kernel⟩, List.mem_of_getElem? (i := 31) (by decide +kernel), List.mem_of_getElem? (i := 515) (by decide +kernel), List.mem_of_getElem? (i := 516) (by decide +kernel)⟩
theorem lw_p9 : lw_okq (⟨"MastWind", "leanNow", "()I"⟩, 14) := ⟨⟨by decide +kernel, by decide +kernel⟩, List.mem_of_getElem? (i := 23) (by decide +kernel), List.mem_of_getElem? (i := 579) (by decide +kernel), List.mem_of_getElem? (i := 580) (by decide +kernel)⟩
theorem lw_p10 : lw_okq (⟨"MastWind$Balance", "gather", "(LMastWind$Mast;II)V"⟩, 6) := ⟨⟨by decide +kernel, by decide +kernel⟩, List.mem_of_getElem? (i := 223) (by decide +kernel), List.mem_of_getElem? (i := 587) (by decide +kernel), List.mem_of_getElem? (i := 588) (by decide +kernel)⟩
theorem lw_p11 : lw_okq (⟨"MastWind$Balance", "moment", "(I)J"⟩, 6) := ⟨⟨by decide +kernel, by decide +kernel⟩, List.mem_of_getElem? (i := 223) (by decide +kernel), List.mem_of_getElem? (i := 591) (by decide +kernel), List.mem_of_getElem? (i := 592) (by decide +kernel)⟩
theorem lw_p12 : lw_okq (⟨"MastWind$SwingCount", "add", "(II)V"⟩, 3) := ⟨⟨by decide +kernel, by decide +kernel⟩, List.mem_of_getElem? (i := 361) (by decide +kernel), List.mem_of_getElem? (i := 753) (by decide +kernel), List.mem_of_getElem? (i := 754) (by decide +kernel)⟩
theorem lw_p13 : lw_okq (⟨"MastWind$RuleReader", "beginOr", "()V"⟩, 10) := ⟨⟨by decide +kernel, by decide +kernel⟩, List.mem_of_getElem? (i := 290) (by decide +kernel), List.mem_of_getElem? (i := 785) (by decide +kernel), List.mem_of_getElem? (i := 786) (by decide +kernel)⟩
theorem lw_p14 : lw_okq (⟨"MastWind$RuleReader", "beginTest", "()V"⟩, 10) := ⟨⟨by decide +kernel, by decide +kernel⟩, List.mem_of_getElem? (i := 290) (by decide +kernel), List.mem_of_getElem? (i := 789) (by decide +kernel), List.mem_of_getElem? (i := 790) (by decide +kernel)⟩
theorem lw_p15 : lw_okq (⟨"MastWind$RuleReader", "compares", "()Z"⟩, 10) := ⟨⟨by decide +kernel, by decide +kernel⟩, List.mem_of_getElem? (i := 290) (by decide +kernel), List.mem_of_getElem? (i := 793) (by decide +kernel), List.mem_of_getElem? (i := 794) (by decide +kernel)⟩
def lw_privs_1 : List (MethodName × Nat) := [(⟨"MastWind", "shelfAt", "(I)LMastWind$Shelf;"⟩, 14), (⟨"MastWind", "rowRefusal", "(LMastWind$Shelf;I)I"⟩, 14), (⟨"MastWind$TextReader", "readNumbers", "(I)V"⟩, 9), (⟨"MastWind$TextReader", "readNumber", "()V"⟩, 9), (⟨"MastWind$TextReader", "expect", "(I)V"⟩, 9), (⟨"MastWind$TextReader", "readSide", "()V"⟩, 9), (⟨"MastWind$Mast", "accepts", "(LMastWind$TextReader;)Z"⟩, 10), (⟨"MastWind$Mast", "addPiece", "([I)Z"⟩, 10), (⟨"MastWind$Mast", "addRope", "([II)Z"⟩, 10), (⟨"MastWind", "leanNow", "()I"⟩, 14), (⟨"MastWind$Balance", "gather", "(LMastWind$Mast;II)V"⟩, 6), (⟨"MastWind$Balance", "moment", "(I)J"⟩, 6), (⟨"MastWind$SwingCount", "add", "(II)V"⟩, 3), (⟨"MastWind$RuleReader", "beginOr", "()V"⟩, 10), (⟨"MastWind$RuleReader", "beginTest", "()V"⟩, 10), (⟨"MastWind$RuleReader", "compares", "()Z"⟩, 10)]
theorem lw_r1 : ∀ q ∈ lw_privs_1, lw_okq q := List.forall_mem_cons.mpr ⟨lw_p0, List.forall_mem_cons.mpr ⟨lw_p1, List.forall_mem_cons.mpr ⟨lw_p2, List.forall_mem_cons.mpr ⟨lw_p3, List.forall_mem_cons.mpr ⟨lw_p4, List.forall_mem_cons.mpr ⟨lw_p5, List.forall_mem_cons.mpr ⟨lw_p6, List.forall_mem_cons.mpr ⟨lw_p7, List.forall_mem_cons.mpr ⟨lw_p8, List.forall_mem_cons.mpr ⟨lw_p9, List.forall_mem_cons.mpr ⟨lw_p10, List.forall_mem_cons.mpr ⟨lw_p11, List.forall_mem_cons.mpr ⟨lw_p12, List.forall_mem_cons.mpr ⟨lw_p13, List.forall_mem_cons.mpr ⟨lw_p14, List.forall_mem_cons.mpr ⟨lw_p15, fun _ h => absurd h List.not_mem_nil⟩⟩⟩⟩⟩⟩⟩⟩⟩⟩⟩⟩⟩⟩⟩⟩
theorem lw_p16 : lw_okq (⟨"MastWind$RuleReader", "readSum", "()I"⟩, 10) := ⟨⟨by decide +kernel, by decide +kernel⟩, List.mem_of_getElem? (i := 290) (by decide +kernel), List.mem_of_getElem? (i := 797) (by decide +kernel), List.mem_of_getElem? (i := 798) (by decide +kernel)⟩
theorem lw_p17 : lw_okq (⟨"MastWind$RuleReader", "readAtom", "()I"⟩, 10) := ⟨⟨by decide +kernel, by decide +kernel⟩, List.mem_of_getElem? (i := 290) (by decide +kernel), List.mem_of_getElem? (i := 801) (by decide +kernel), List.mem_of_getElem? (i := 802) (by decide +kernel)⟩
theorem lw_p18 : lw_okq (⟨"MastWind$RuleReader", "endTest", "(Z)V"⟩, 10) := ⟨⟨by decide +kernel, by decide +kernel⟩, List.mem_of_getElem? (i := 290) (by decide +kernel), List.mem_of_getElem? (i := 809) (by decide +kernel), List.mem_of_getElem? (i := 810) (by decide +kernel)⟩
theorem lw_p19 : lw_okq (⟨"MastWind$RuleReader", "goOn", "()V"⟩, 10) := ⟨⟨by decide +kernel, by decide +kernel⟩, List.mem_of_getElem? (i := 290) (by decide +kernel), List.mem_of_getElem? (i := 813) (by decide +kernel), List.mem_of_getElem? (i := 814) (by decide +kernel)⟩
theorem lw_p20 : lw_okq (⟨"MastWind$RuleReader", "holdsAt", "(I)Z"⟩, 10) := ⟨⟨by decide +kernel, by decide +kernel⟩, List.mem_of_getElem? (i := 290) (by decide +kernel), List.mem_of_getElem? (i := 817) (by decide +kernel), List.mem_of_getElem? (i := 818) (by decide +kernel)⟩
theorem lw_p21 : lw_okq (⟨"MastWind", "lookAround", "(I)V"⟩, 14) := ⟨⟨by decide +kernel, by decide +kernel⟩, List.mem_of_getElem? (i := 23) (by decide +kernel), List.mem_of_getElem? (i := 838) (by decide +kernel), List.mem_of_getElem? (i := 839) (by decide +kernel)⟩
theorem lw_p22 : lw_okq (⟨"MastWind", "isSetToRedraw", "(I)Z"⟩, 14) := ⟨⟨by decide +kernel, by decide +kernel⟩, List.mem_of_getElem? (i := 23) (by decide +kernel), List.mem_of_getElem? (i := 867) (by decide +kernel), List.mem_of_getElem? (i := 868) (by decide +kernel)⟩
theorem lw_p23 : lw_okq (⟨"MastWind$Redraw", "leastNext", "(LMastWind$Mast;LMastWind$Balance;I)I"⟩, 8) := ⟨⟨by decide +kernel, by decide +kernel⟩, List.mem_of_getElem? (i := 329) (by decide +kernel), List.mem_of_getElem? (i := 884) (by decide +kernel), List.mem_of_getElem? (i := 885) (by decide +kernel)⟩
theorem lw_p24 : lw_okq (⟨"MastWind$Redraw", "isSafe", "(LMastWind$Mast;LMastWind$Balance;)Z"⟩, 8) := ⟨⟨by decide +kernel, by decide +kernel⟩, List.mem_of_getElem? (i := 329) (by decide +kernel), List.mem_of_getElem? (i := 888) (by decide +kernel), List.mem_of_getElem? (i := 889) (by decide +kernel)⟩
theorem lw_p25 : lw_okq (⟨"MastWind", "holdsSpeeds", "(LMastWind$Shelf;)Z"⟩, 14) := ⟨⟨by decide +kernel, by decide +kernel⟩, List.mem_of_getElem? (i := 23) (by decide +kernel), List.mem_of_getElem? (i := 911) (by decide +kernel), List.mem_of_getElem? (i := 912) (by decide +kernel)⟩
theorem lw_p26 : lw_okq (⟨"MastWind", "standsInAll", "(LMastWind$Shelf;I)Z"⟩, 14) := ⟨⟨by decide +kernel, by decide +kernel⟩, List.mem_of_getElem? (i := 23) (by decide +kernel), List.mem_of_getElem? (i := 928) (by decide +kernel), List.mem_of_getElem? (i := 929) (by decide +kernel)⟩
theorem lw_p27 : lw_okq (⟨"MastWind", "pieceRefusal", "(LMastWind$Shelf;)I"⟩, 14) := ⟨⟨by decide +kernel, by decide +kernel⟩, List.mem_of_getElem? (i := 23) (by decide +kernel), List.mem_of_getElem? (i := 995) (by decide +kernel), List.mem_of_getElem? (i := 996) (by decide +kernel)⟩
theorem lw_p28 : lw_okq (⟨"java/lang/Throwable", "fillInStackTrace", "(I)Ljava/lang/Throwable;"⟩, 6) := ⟨⟨by decide +kernel, by decide +kernel⟩, List.mem_of_getElem? (i := 1056) (by decide +kernel), List.mem_of_getElem? (i := 1054) (by decide +kernel), List.mem_of_getElem? (i := 1055) (by decide +kernel)⟩
theorem lw_p29 : lw_okq (⟨"MastWindModel", "wrongRow", "(II)I"⟩, 32) := ⟨⟨by decide +kernel, by decide +kernel⟩, List.mem_of_getElem? (i := 1120) (by decide +kernel), List.mem_of_getElem? (i := 1231) (by decide +kernel), List.mem_of_getElem? (i := 1232) (by decide +kernel)⟩
theorem lw_p30 : lw_okq (⟨"MastWindModel", "opens", "(I)V"⟩, 32) := ⟨⟨by decide +kernel, by decide +kernel⟩, List.mem_of_getElem? (i := 1120) (by decide +kernel), List.mem_of_getElem? (i := 1242) (by decide +kernel), List.mem_of_getElem? (i := 1243) (by decide +kernel)⟩
theorem lw_p31 : lw_okq (⟨"MastWindModel", "readsStatement", "()Z"⟩, 32) := ⟨⟨by decide +kernel, by decide +kernel⟩, List.mem_of_getElem? (i := 1120) (by decide +kernel), List.mem_of_getElem? (i := 1246) (by decide +kernel), List.mem_of_getElem? (i := 1247) (by decide +kernel)⟩
def lw_privs_2 : List (MethodName × Nat) := [(⟨"MastWind$RuleReader", "readSum", "()I"⟩, 10), (⟨"MastWind$RuleReader", "readAtom", "()I"⟩, 10), (⟨"MastWind$RuleReader", "endTest", "(Z)V"⟩, 10), (⟨"MastWind$RuleReader", "goOn", "()V"⟩, 10), (⟨"MastWind$RuleReader", "holdsAt", "(I)Z"⟩, 10), (⟨"MastWind", "lookAround", "(I)V"⟩, 14), (⟨"MastWind", "isSetToRedraw", "(I)Z"⟩, 14), (⟨"MastWind$Redraw", "leastNext", "(LMastWind$Mast;LMastWind$Balance;I)I"⟩, 8), (⟨"MastWind$Redraw", "isSafe", "(LMastWind$Mast;LMastWind$Balance;)Z"⟩, 8), (⟨"MastWind", "holdsSpeeds", "(LMastWind$Shelf;)Z"⟩, 14), (⟨"MastWind", "standsInAll", "(LMastWind$Shelf;I)Z"⟩, 14), (⟨"MastWind", "pieceRefusal", "(LMastWind$Shelf;)I"⟩, 14), (⟨"java/lang/Throwable", "fillInStackTrace", "(I)Ljava/lang/Throwable;"⟩, 6), (⟨"MastWindModel", "wrongRow", "(II)I"⟩, 32), (⟨"MastWindModel", "opens", "(I)V"⟩, 32), (⟨"MastWindModel", "readsStatement", "()Z"⟩, 32)]
theorem lw_r2 : ∀ q ∈ lw_privs_2, lw_okq q := List.forall_mem_cons.mpr ⟨lw_p16, List.forall_mem_cons.mpr ⟨lw_p17, List.forall_mem_cons.mpr ⟨lw_p18, List.forall_mem_cons.mpr ⟨lw_p19, List.forall_mem_cons.mpr ⟨lw_p20, List.forall_mem_cons.mpr ⟨lw_p21, List.forall_mem_cons.mpr ⟨lw_p22, List.forall_mem_cons.mpr ⟨lw_p23, List.forall_mem_cons.mpr ⟨lw_p24, List.forall_mem_cons.mpr ⟨lw_p25, List.forall_mem_cons.mpr ⟨lw_p26, List.forall_mem_cons.mpr ⟨lw_p27, List.forall_mem_cons.mpr ⟨lw_p28, List.forall_mem_cons.mpr ⟨lw_p29, List.forall_mem_cons.mpr ⟨lw_p30, List.forall_mem_cons.mpr ⟨lw_p31, fun _ h => absurd h List.not_mem_nil⟩⟩⟩⟩⟩⟩⟩⟩⟩⟩⟩⟩⟩⟩⟩⟩
theorem lw_p32 : lw_okq (⟨"MastWindModel", "takes", "(I)Z"⟩, 32) := ⟨⟨by decide +kernel, by decide +kernel⟩, List.mem_of_getElem? (i := 1120) (by decide +kernel), List.mem_of_getElem? (i := 1250) (by decide +kernel), List.mem_of_getElem? (i := 1251) (by decide +kernel)⟩
theorem lw_p33 : lw_okq (⟨"MastWindModel", "sign", "()I"⟩, 32) := ⟨⟨by decide +kernel, by decide +kernel⟩, List.mem_of_getElem? (i := 1120) (by decide +kernel), List.mem_of_getElem? (i := 1254) (by decide +kernel), List.mem_of_getElem? (i := 1255) (by decide +kernel)⟩
theorem lw_p34 : lw_okq (⟨"MastWindModel", "readsNumbers", "(IZ)Z"⟩, 32) := ⟨⟨by decide +kernel, by decide +kernel⟩, List.mem_of_getElem? (i := 1120) (by decide +kernel), List.mem_of_getElem? (i := 1258) (by decide +kernel), List.mem_of_getElem? (i := 1259) (by decide +kernel)⟩
theorem lw_p35 : lw_okq (⟨"MastWindModel", "readsNumber", "()Z"⟩, 32) := ⟨⟨by decide +kernel, by decide +kernel⟩, List.mem_of_getElem? (i := 1120) (by decide +kernel), List.mem_of_getElem? (i := 1262) (by decide +kernel), List.mem_of_getElem? (i := 1263) (by decide +kernel)⟩
theorem lw_p36 : lw_okq (⟨"MastWindModel", "makesPiece", "()Z"⟩, 32) := ⟨⟨by decide +kernel, by decide +kernel⟩, List.mem_of_getElem? (i := 1120) (by decide +kernel), List.mem_of_getElem? (i := 1268) (by decide +kernel), List.mem_of_getElem? (i := 1269) (by decide +kernel)⟩
theorem lw_p37 : lw_okq (⟨"MastWindModel", "of", "(II)I"⟩, 32) := ⟨⟨by decide +kernel, by decide +kernel⟩, List.mem_of_getElem? (i := 1120) (by decide +kernel), List.mem_of_getElem? (i := 1272) (by decide +kernel), List.mem_of_getElem? (i := 1273) (by decide +kernel)⟩
theorem lw_p38 : lw_okq (⟨"MastWindModel", "makesRope", "()Z"⟩, 32) := ⟨⟨by decide +kernel, by decide +kernel⟩, List.mem_of_getElem? (i := 1120) (by decide +kernel), List.mem_of_getElem? (i := 1277) (by decide +kernel), List.mem_of_getElem? (i := 1278) (by decide +kernel)⟩
theorem lw_p39 : lw_okq (⟨"MastWindModel", "isPiece", "(I)Z"⟩, 32) := ⟨⟨by decide +kernel, by decide +kernel⟩, List.mem_of_getElem? (i := 1120) (by decide +kernel), List.mem_of_getElem? (i := 1281) (by decide +kernel), List.mem_of_getElem? (i := 1282) (by decide +kernel)⟩
theorem lw_p40 : lw_okq (⟨"MastWindModel", "weight", "(I)I"⟩, 32) := ⟨⟨by decide +kernel, by decide +kernel⟩, List.mem_of_getElem? (i := 1120) (by decide +kernel), List.mem_of_getElem? (i := 1289) (by decide +kernel), List.mem_of_getElem? (i := 1290) (by decide +kernel)⟩
theorem lw_p41 : lw_okq (⟨"MastWindModel", "faces", "(I)I"⟩, 32) := ⟨⟨by decide +kernel, by decide +kernel⟩, List.mem_of_getElem? (i := 1120) (by decide +kernel), List.mem_of_getElem? (i := 1293) (by decide +kernel), List.mem_of_getElem? (i := 1294) (by decide +kernel)⟩
theorem lw_p42 : lw_okq (⟨"MastWindModel", "isRope", "(I)Z"⟩, 32) := ⟨⟨by decide +kernel, by decide +kernel⟩, List.mem_of_getElem? (i := 1120) (by decide +kernel), List.mem_of_getElem? (i := 1301) (by decide +kernel), List.mem_of_getElem? (i := 1302) (by decide +kernel)⟩
theorem lw_p43 : lw_okq (⟨"MastWindModel", "arm", "(I)I"⟩, 32) := ⟨⟨by decide +kernel, by decide +kernel⟩, List.mem_of_getElem? (i := 1120) (by decide +kernel), List.mem_of_getElem? (i := 1306) (by decide +kernel), List.mem_of_getElem? (i := 1307) (by decide +kernel)⟩
theorem lw_p44 : lw_okq (⟨"MastWindModel", "rope0", "(II)I"⟩, 32) := ⟨⟨by decide +kernel, by decide +kernel⟩, List.mem_of_getElem? (i := 1120) (by decide +kernel), List.mem_of_getElem? (i := 1310) (by decide +kernel), List.mem_of_getElem? (i := 1311) (by decide +kernel)⟩
theorem lw_p45 : lw_okq (⟨"MastWindModel", "becomesNow", "(II)I"⟩, 32) := ⟨⟨by decide +kernel, by decide +kernel⟩, List.mem_of_getElem? (i := 1120) (by decide +kernel), List.mem_of_getElem? (i := 1319) (by decide +kernel), List.mem_of_getElem? (i := 1320) (by decide +kernel)⟩
theorem lw_p46 : lw_okq (⟨"MastWindModel", "pushOn", "(I)I"⟩, 32) := ⟨⟨by decide +kernel, by decide +kernel⟩, List.mem_of_getElem? (i := 1120) (by decide +kernel), List.mem_of_getElem? (i := 1352) (by decide +kernel), List.mem_of_getElem? (i := 1353) (by decide +kernel)⟩
theorem lw_p47 : lw_okq (⟨"MastWindModel", "restAt", "(I)J"⟩, 32) := ⟨⟨by decide +kernel, by decide +kernel⟩, List.mem_of_getElem? (i := 1120) (by decide +kernel), List.mem_of_getElem? (i := 1362) (by decide +kernel), List.mem_of_getElem? (i := 1363) (by decide +kernel)⟩
def lw_privs_3 : List (MethodName × Nat) := [(⟨"MastWindModel", "takes", "(I)Z"⟩, 32), (⟨"MastWindModel", "sign", "()I"⟩, 32), (⟨"MastWindModel", "readsNumbers", "(IZ)Z"⟩, 32), (⟨"MastWindModel", "readsNumber", "()Z"⟩, 32), (⟨"MastWindModel", "makesPiece", "()Z"⟩, 32), (⟨"MastWindModel", "of", "(II)I"⟩, 32), (⟨"MastWindModel", "makesRope", "()Z"⟩, 32), (⟨"MastWindModel", "isPiece", "(I)Z"⟩, 32), (⟨"MastWindModel", "weight", "(I)I"⟩, 32), (⟨"MastWindModel", "faces", "(I)I"⟩, 32), (⟨"MastWindModel", "isRope", "(I)Z"⟩, 32), (⟨"MastWindModel", "arm", "(I)I"⟩, 32), (⟨"MastWindModel", "rope0", "(II)I"⟩, 32), (⟨"MastWindModel", "becomesNow", "(II)I"⟩, 32), (⟨"MastWindModel", "pushOn", "(I)I"⟩, 32), (⟨"MastWindModel", "restAt", "(I)J"⟩, 32)]
theorem lw_r3 : ∀ q ∈ lw_privs_3, lw_okq q := List.forall_mem_cons.mpr ⟨lw_p32, List.forall_mem_cons.mpr ⟨lw_p33, List.forall_mem_cons.mpr ⟨lw_p34, List.forall_mem_cons.mpr ⟨lw_p35, List.forall_mem_cons.mpr ⟨lw_p36, List.forall_mem_cons.mpr ⟨lw_p37, List.forall_mem_cons.mpr ⟨lw_p38, List.forall_mem_cons.mpr ⟨lw_p39, List.forall_mem_cons.mpr ⟨lw_p40, List.forall_mem_cons.mpr ⟨lw_p41, List.forall_mem_cons.mpr ⟨lw_p42, List.forall_mem_cons.mpr ⟨lw_p43, List.forall_mem_cons.mpr ⟨lw_p44, List.forall_mem_cons.mpr ⟨lw_p45, List.forall_mem_cons.mpr ⟨lw_p46, List.forall_mem_cons.mpr ⟨lw_p47, fun _ h => absurd h List.not_mem_nil⟩⟩⟩⟩⟩⟩⟩⟩⟩⟩⟩⟩⟩⟩⟩⟩
theorem lw_p48 : lw_okq (⟨"MastWindModel", "pullAt", "(II)I"⟩, 32) := ⟨⟨by decide +kernel, by decide +kernel⟩, List.mem_of_getElem? (i := 1120) (by decide +kernel), List.mem_of_getElem? (i := 1367) (by decide +kernel), List.mem_of_getElem? (i := 1368) (by decide +kernel)⟩
theorem lw_p49 : lw_okq (⟨"MastWindModel", "standing", "()I"⟩, 32) := ⟨⟨by decide +kernel, by decide +kernel⟩, List.mem_of_getElem? (i := 1120) (by decide +kernel), List.mem_of_getElem? (i := 1375) (by decide +kernel), List.mem_of_getElem? (i := 1376) (by decide +kernel)⟩
theorem lw_p50 : lw_okq (⟨"MastWindModel", "looseAt", "(I)I"⟩, 32) := ⟨⟨by decide +kernel, by decide +kernel⟩, List.mem_of_getElem? (i := 1120) (by decide +kernel), List.mem_of_getElem? (i := 1394) (by decide +kernel), List.mem_of_getElem? (i := 1395) (by decide +kernel)⟩
theorem lw_p51 : lw_okq (⟨"MastWindModel", "countOf", "(I)I"⟩, 32) := ⟨⟨by decide +kernel, by decide +kernel⟩, List.mem_of_getElem? (i := 1120) (by decide +kernel), List.mem_of_getElem? (i := 1411) (by decide +kernel), List.mem_of_getElem? (i := 1412) (by decide +kernel)⟩
theorem lw_p52 : lw_okq (⟨"MastWindModel", "toneOf", "(I)I"⟩, 32) := ⟨⟨by decide +kernel, by decide +kernel⟩, List.mem_of_getElem? (i := 1120) (by decide +kernel), List.mem_of_getElem? (i := 1421) (by decide +kernel), List.mem_of_getElem? (i := 1422) (by decide +kernel)⟩
theorem lw_p53 : lw_okq (⟨"MastWindModel", "shed", "(II)I"⟩, 32) := ⟨⟨by decide +kernel, by decide +kernel⟩, List.mem_of_getElem? (i := 1120) (by decide +kernel), List.mem_of_getElem? (i := 1429) (by decide +kernel), List.mem_of_getElem? (i := 1430) (by decide +kernel)⟩
theorem lw_p54 : lw_okq (⟨"MastWindModel", "findSwings", "(I)V"⟩, 32) := ⟨⟨by decide +kernel, by decide +kernel⟩, List.mem_of_getElem? (i := 1120) (by decide +kernel), List.mem_of_getElem? (i := 1458) (by decide +kernel), List.mem_of_getElem? (i := 1459) (by decide +kernel)⟩
theorem lw_p55 : lw_okq (⟨"MastWindModel", "adds", "(J)V"⟩, 32) := ⟨⟨by decide +kernel, by decide +kernel⟩, List.mem_of_getElem? (i := 1120) (by decide +kernel), List.mem_of_getElem? (i := 1462) (by decide +kernel), List.mem_of_getElem? (i := 1463) (by decide +kernel)⟩
theorem lw_p56 : lw_okq (⟨"MastWindModel", "faultOf", "(I)I"⟩, 32) := ⟨⟨by decide +kernel, by decide +kernel⟩, List.mem_of_getElem? (i := 1120) (by decide +kernel), List.mem_of_getElem? (i := 1477) (by decide +kernel), List.mem_of_getElem? (i := 1478) (by decide +kernel)⟩
theorem lw_p57 : lw_okq (⟨"MastWindModel", "readsOr", "()Z"⟩, 32) := ⟨⟨by decide +kernel, by decide +kernel⟩, List.mem_of_getElem? (i := 1120) (by decide +kernel), List.mem_of_getElem? (i := 1481) (by decide +kernel), List.mem_of_getElem? (i := 1482) (by decide +kernel)⟩
theorem lw_p58 : lw_okq (⟨"MastWindModel", "readsAnd", "()Z"⟩, 32) := ⟨⟨by decide +kernel, by decide +kernel⟩, List.mem_of_getElem? (i := 1120) (by decide +kernel), List.mem_of_getElem? (i := 1485) (by decide +kernel), List.mem_of_getElem? (i := 1486) (by decide +kernel)⟩
theorem lw_p59 : lw_okq (⟨"MastWindModel", "readsTest", "()Z"⟩, 32) := ⟨⟨by decide +kernel, by decide +kernel⟩, List.mem_of_getElem? (i := 1120) (by decide +kernel), List.mem_of_getElem? (i := 1489) (by decide +kernel), List.mem_of_getElem? (i := 1490) (by decide +kernel)⟩
theorem lw_p60 : lw_okq (⟨"MastWindModel", "readsSum", "()Z"⟩, 32) := ⟨⟨by decide +kernel, by decide +kernel⟩, List.mem_of_getElem? (i := 1120) (by decide +kernel), List.mem_of_getElem? (i := 1493) (by decide +kernel), List.mem_of_getElem? (i := 1494) (by decide +kernel)⟩
theorem lw_p61 : lw_okq (⟨"MastWindModel", "readsAtom", "()Z"⟩, 32) := ⟨⟨by decide +kernel, by decide +kernel⟩, List.mem_of_getElem? (i := 1120) (by decide +kernel), List.mem_of_getElem? (i := 1497) (by decide +kernel), List.mem_of_getElem? (i := 1498) (by decide +kernel)⟩
theorem lw_p62 : lw_okq (⟨"MastWindModel", "breachOf", "(II)I"⟩, 32) := ⟨⟨by decide +kernel, by decide +kernel⟩, List.mem_of_getElem? (i := 1120) (by decide +kernel), List.mem_of_getElem? (i := 1520) (by decide +kernel), List.mem_of_getElem? (i := 1521) (by decide +kernel)⟩
theorem lw_p63 : lw_okq (⟨"MastWindModel", "or", "()Z"⟩, 32) := ⟨⟨by decide +kernel, by decide +kernel⟩, List.mem_of_getElem? (i := 1120) (by decide +kernel), List.mem_of_getElem? (i := 1524) (by decide +kernel), List.mem_of_getElem? (i := 1525) (by decide +kernel)⟩
def lw_privs_4 : List (MethodName × Nat) := [(⟨"MastWindModel", "pullAt", "(II)I"⟩, 32), (⟨"MastWindModel", "standing", "()I"⟩, 32), (⟨"MastWindModel", "looseAt", "(I)I"⟩, 32), (⟨"MastWindModel", "countOf", "(I)I"⟩, 32), (⟨"MastWindModel", "toneOf", "(I)I"⟩, 32), (⟨"MastWindModel", "shed", "(II)I"⟩, 32), (⟨"MastWindModel", "findSwings", "(I)V"⟩, 32), (⟨"MastWindModel", "adds", "(J)V"⟩, 32), (⟨"MastWindModel", "faultOf", "(I)I"⟩, 32), (⟨"MastWindModel", "readsOr", "()Z"⟩, 32), (⟨"MastWindModel", "readsAnd", "()Z"⟩, 32), (⟨"MastWindModel", "readsTest", "()Z"⟩, 32), (⟨"MastWindModel", "readsSum", "()Z"⟩, 32), (⟨"MastWindModel", "readsAtom", "()Z"⟩, 32), (⟨"MastWindModel", "breachOf", "(II)I"⟩, 32), (⟨"MastWindModel", "or", "()Z"⟩, 32)]
theorem lw_r4 : ∀ q ∈ lw_privs_4, lw_okq q := List.forall_mem_cons.mpr ⟨lw_p48, List.forall_mem_cons.mpr ⟨lw_p49, List.forall_mem_cons.mpr ⟨lw_p50, List.forall_mem_cons.mpr ⟨lw_p51, List.forall_mem_cons.mpr ⟨lw_p52, List.forall_mem_cons.mpr ⟨lw_p53, List.forall_mem_cons.mpr ⟨lw_p54, List.forall_mem_cons.mpr ⟨lw_p55, List.forall_mem_cons.mpr ⟨lw_p56, List.forall_mem_cons.mpr ⟨lw_p57, List.forall_mem_cons.mpr ⟨lw_p58, List.forall_mem_cons.mpr ⟨lw_p59, List.forall_mem_cons.mpr ⟨lw_p60, List.forall_mem_cons.mpr ⟨lw_p61, List.forall_mem_cons.mpr ⟨lw_p62, List.forall_mem_cons.mpr ⟨lw_p63, fun _ h => absurd h List.not_mem_nil⟩⟩⟩⟩⟩⟩⟩⟩⟩⟩⟩⟩⟩⟩⟩⟩
theorem lw_p64 : lw_okq (⟨"MastWindModel", "and", "()Z"⟩, 32) := ⟨⟨by decide +kernel, by decide +kernel⟩, List.mem_of_getElem? (i := 1120) (by decide +kernel), List.mem_of_getElem? (i := 1528) (by decide +kernel), List.mem_of_getElem? (i := 1529) (by decide +kernel)⟩
theorem lw_p65 : lw_okq (⟨"MastWindModel", "test", "()Z"⟩, 32) := ⟨⟨by decide +kernel, by decide +kernel⟩, List.mem_of_getElem? (i := 1120) (by decide +kernel), List.mem_of_getElem? (i := 1532) (by decide +kernel), List.mem_of_getElem? (i := 1533) (by decide +kernel)⟩
theorem lw_p66 : lw_okq (⟨"MastWindModel", "sum", "()I"⟩, 32) := ⟨⟨by decide +kernel, by decide +kernel⟩, List.mem_of_getElem? (i := 1120) (by decide +kernel), List.mem_of_getElem? (i := 1536) (by decide +kernel), List.mem_of_getElem? (i := 1537) (by decide +kernel)⟩
theorem lw_p67 : lw_okq (⟨"MastWindModel", "atom", "()I"⟩, 32) := ⟨⟨by decide +kernel, by decide +kernel⟩, List.mem_of_getElem? (i := 1120) (by decide +kernel), List.mem_of_getElem? (i := 1540) (by decide +kernel), List.mem_of_getElem? (i := 1541) (by decide +kernel)⟩
theorem lw_p68 : lw_okq (⟨"MastWindModel", "fieldOf", "(I)I"⟩, 32) := ⟨⟨by decide +kernel, by decide +kernel⟩, List.mem_of_getElem? (i := 1120) (by decide +kernel), List.mem_of_getElem? (i := 1544) (by decide +kernel), List.mem_of_getElem? (i := 1545) (by decide +kernel)⟩
theorem lw_p69 : lw_okq (⟨"MastWindModel", "goesOn", "(II)J"⟩, 32) := ⟨⟨by decide +kernel, by decide +kernel⟩, List.mem_of_getElem? (i := 1120) (by decide +kernel), List.mem_of_getElem? (i := 1556) (by decide +kernel), List.mem_of_getElem? (i := 1557) (by decide +kernel)⟩
theorem lw_p70 : lw_okq (⟨"MastWindModel", "isSafe", "()Z"⟩, 32) := ⟨⟨by decide +kernel, by decide +kernel⟩, List.mem_of_getElem? (i := 1120) (by decide +kernel), List.mem_of_getElem? (i := 1560) (by decide +kernel), List.mem_of_getElem? (i := 1561) (by decide +kernel)⟩
theorem lw_p71 : lw_okq (⟨"MastWindModel", "wrongSpeeds", "(I)I"⟩, 32) := ⟨⟨by decide +kernel, by decide +kernel⟩, List.mem_of_getElem? (i := 1120) (by decide +kernel), List.mem_of_getElem? (i := 1577) (by decide +kernel), List.mem_of_getElem? (i := 1578) (by decide +kernel)⟩
theorem lw_p72 : lw_okq (⟨"MastWindModel", "isEnough", "(II)Z"⟩, 32) := ⟨⟨by decide +kernel, by decide +kernel⟩, List.mem_of_getElem? (i := 1120) (by decide +kernel), List.mem_of_getElem? (i := 1582) (by decide +kernel), List.mem_of_getElem? (i := 1583) (by decide +kernel)⟩
theorem lw_p73 : lw_okq (⟨"MastWindModel", "wrongKept", "(I)I"⟩, 32) := ⟨⟨by decide +kernel, by decide +kernel⟩, List.mem_of_getElem? (i := 1120) (by decide +kernel), List.mem_of_getElem? (i := 1622) (by decide +kernel), List.mem_of_getElem? (i := 1623) (by decide +kernel)⟩
def lw_privs_5 : List (MethodName × Nat) := [(⟨"MastWindModel", "and", "()Z"⟩, 32), (⟨"MastWindModel", "test", "()Z"⟩, 32), (⟨"MastWindModel", "sum", "()I"⟩, 32), (⟨"MastWindModel", "atom", "()I"⟩, 32), (⟨"MastWindModel", "fieldOf", "(I)I"⟩, 32), (⟨"MastWindModel", "goesOn", "(II)J"⟩, 32), (⟨"MastWindModel", "isSafe", "()Z"⟩, 32), (⟨"MastWindModel", "wrongSpeeds", "(I)I"⟩, 32), (⟨"MastWindModel", "isEnough", "(II)Z"⟩, 32), (⟨"MastWindModel", "wrongKept", "(I)I"⟩, 32)]
theorem lw_r5 : ∀ q ∈ lw_privs_5, lw_okq q := List.forall_mem_cons.mpr ⟨lw_p64, List.forall_mem_cons.mpr ⟨lw_p65, List.forall_mem_cons.mpr ⟨lw_p66, List.forall_mem_cons.mpr ⟨lw_p67, List.forall_mem_cons.mpr ⟨lw_p68, List.forall_mem_cons.mpr ⟨lw_p69, List.forall_mem_cons.mpr ⟨lw_p70, List.forall_mem_cons.mpr ⟨lw_p71, List.forall_mem_cons.mpr ⟨lw_p72, List.forall_mem_cons.mpr ⟨lw_p73, fun _ h => absurd h List.not_mem_nil⟩⟩⟩⟩⟩⟩⟩⟩⟩⟩
def lw_privs : List (MethodName × Nat) := lw_privs_1 ++ (lw_privs_2 ++ (lw_privs_3 ++ (lw_privs_4 ++ (lw_privs_5))))
def lw_tbl : List Cond := k2_sels lw_privs ++ tables_1
theorem lw_privs_ok : ∀ q ∈ lw_privs, lw_okq q := by
  show ∀ q ∈ lw_privs_1 ++ (lw_privs_2 ++ (lw_privs_3 ++ (lw_privs_4 ++ (lw_privs_5)))), lw_okq q
  exact List.forall_mem_append.mpr ⟨lw_r1, List.forall_mem_append.mpr ⟨lw_r2, List.forall_mem_append.mpr ⟨lw_r3, List.forall_mem_append.mpr ⟨lw_r4, lw_r5⟩⟩⟩⟩
def RX0 : String := "MastWind$Balance"
def TX0 : u_T := fun k => match k with
  | 0 => ("MastWind$Balance", "settled", "[J", true)
  | 1 => ("MastWind$Balance", "pieces", "[LMastWind$Piece;", true)
  | 2 => ("MastWind$Balance", "pieceCount", "I", false)
  | 3 => ("MastWind$Balance", "ropes", "[LMastWind$Rope;", true)
  | 4 => ("MastWind$Balance", "ropeCount", "I", false)
  | _ => ("MastWind$Balance", "steady", "J", false)
def tyX0 : Nat → FieldType := fun k => match k with
  | 0 => .array .long
  | 1 => .array (.object "MastWind$Piece")
  | 2 => .int
  | 3 => .array (.object "MastWind$Rope")
  | 4 => .int
  | _ => .long
abbrev wsX00 : List Cond := u_ws RX0 TX0 6
theorem nmX0 : ∀ a, a < 6 → ∀ b, b < 6 → a ≠ b → (TX0 a).2.1 ≠ (TX0 b).2.1 := by decide +kernel
theorem tyX0_ok : ∀ k, k < 6 → parseFieldDescriptor (TX0 k).2.2.1 = some (tyX0 k) := by decide +kernel
abbrev cX0_init : ByteArray := prog_2_method_1_code
def yX0_init : MethodName := ⟨RX0, "<init>", "()V"⟩
abbrev cX0_load : ByteArray := prog_2_method_2_code
def yX0_load : MethodName := ⟨RX0, "load", "(LMastWind$Mast;II)V"⟩
abbrev cX0_gather : ByteArray := prog_2_method_3_code
def yX0_gather : MethodName := ⟨RX0, "gather", "(LMastWind$Mast;II)V"⟩
abbrev cX0_moment : ByteArray := prog_2_method_4_code
def yX0_moment : MethodName := ⟨RX0, "moment", "(I)J"⟩
abbrev cX0_restAt : ByteArray := prog_2_method_5_code
def yX0_restAt : MethodName := ⟨RX0, "restAt", "(I)J"⟩
abbrev cX0_lean : ByteArray := prog_2_method_6_code
def yX0_lean : MethodName := ⟨RX0, "lean", "(I)I"⟩
def RX1 : String := "MastWind$Mast"
def TX1 : u_T := fun k => match k with
  | 0 => ("MastWind$Mast", "pieces", "[LMastWind$Piece;", true)
  | 1 => ("MastWind$Mast", "pieceCount", "I", false)
  | 2 => ("MastWind$Mast", "ropes", "[LMastWind$Rope;", true)
  | 3 => ("MastWind$Mast", "ropeCount", "I", false)
  | 4 => ("MastWind$Mast", "foot", "I", false)
  | 5 => ("MastWind$Mast", "speed", "I", false)
  | 6 => ("MastWind$Mast", "side", "I", false)
  | 7 => ("MastWind$Mast", "shares", "[I", true)
  | 8 => ("MastWind$Mast", "gustSizes", "[I", true)
  | _ => ("MastWind$Mast", "gustCount", "I", false)
def tyX1 : Nat → FieldType := fun k => match k with
  | 0 => .array (.object "MastWind$Piece")
  | 1 => .int
  | 2 => .array (.object "MastWind$Rope")
  | 3 => .int
  | 4 => .int
  | 5 => .int
  | 6 => .int
  | 7 => .array .int
  | 8 => .array .int
  | _ => .int
abbrev wsX10 : List Cond := u_ws RX1 TX1 10
theorem nmX1 : ∀ a, a < 10 → ∀ b, b < 10 → a ≠ b → (TX1 a).2.1 ≠ (TX1 b).2.1 := by decide +kernel
theorem tyX1_ok : ∀ k, k < 10 → parseFieldDescriptor (TX1 k).2.2.1 = some (tyX1 k) := by decide +kernel
abbrev cX1_init : ByteArray := prog_3_method_1_code
def yX1_init : MethodName := ⟨RX1, "<init>", "()V"⟩
abbrev cX1_takeFrom : ByteArray := prog_3_method_2_code
def yX1_takeFrom : MethodName := ⟨RX1, "takeFrom", "(LMastWind$Mast;)V"⟩
abbrev cX1_pieceAt : ByteArray := prog_3_method_3_code
def yX1_pieceAt : MethodName := ⟨RX1, "pieceAt", "(I)LMastWind$Piece;"⟩
abbrev cX1_ropeAt : ByteArray := prog_3_method_4_code
def yX1_ropeAt : MethodName := ⟨RX1, "ropeAt", "(I)LMastWind$Rope;"⟩
abbrev cX1_readAll : ByteArray := prog_3_method_5_code
def yX1_readAll : MethodName := ⟨RX1, "readAll", "(LMastWind$TextReader;)I"⟩
abbrev cX1_accepts : ByteArray := prog_3_method_6_code
def yX1_accepts : MethodName := ⟨RX1, "accepts", "(LMastWind$TextReader;)Z"⟩
abbrev cX1_addPiece : ByteArray := prog_3_method_7_code
def yX1_addPiece : MethodName := ⟨RX1, "addPiece", "([I)Z"⟩
abbrev cX1_addRope : ByteArray := prog_3_method_8_code
def yX1_addRope : MethodName := ⟨RX1, "addRope", "([II)Z"⟩
abbrev cX1_pushOn : ByteArray := prog_3_method_9_code
def yX1_pushOn : MethodName := ⟨RX1, "pushOn", "(LMastWind$Piece;)J"⟩
abbrev cX1_pushMoment : ByteArray := prog_3_method_10_code
def yX1_pushMoment : MethodName := ⟨RX1, "pushMoment", "()J"⟩
abbrev cX1_looseAt : ByteArray := prog_3_method_11_code
def yX1_looseAt : MethodName := ⟨RX1, "looseAt", "(I)I"⟩
abbrev cX1_lowerGust : ByteArray := prog_3_method_12_code
def yX1_lowerGust : MethodName := ⟨RX1, "lowerGust", "()I"⟩
abbrev cX1_upperGust : ByteArray := prog_3_method_13_code
def yX1_upperGust : MethodName := ⟨RX1, "upperGust", "()I"⟩
abbrev cX1_signsBelow : ByteArray := prog_3_method_14_code
def yX1_signsBelow : MethodName := ⟨RX1, "signsBelow", "(I)I"⟩
abbrev cX1_leastAbove : ByteArray := prog_3_method_15_code
def yX1_leastAbove : MethodName := ⟨RX1, "leastAbove", "(I)I"⟩
abbrev cX1_oddsNoneFalls : ByteArray := prog_3_method_16_code
def yX1_oddsNoneFalls : MethodName := ⟨RX1, "oddsNoneFalls", "()I"⟩
abbrev cX1_icySet : ByteArray := prog_3_method_17_code
def yX1_icySet : MethodName := ⟨RX1, "icySet", "()I"⟩
abbrev cX1_melt : ByteArray := prog_3_method_18_code
def yX1_melt : MethodName := ⟨RX1, "melt", "(LMastWind$Mast;II)V"⟩
abbrev cX1_wholeRopes : ByteArray := prog_3_method_19_code
def yX1_wholeRopes : MethodName := ⟨RX1, "wholeRopes", "()I"⟩
abbrev cX1_allWeight : ByteArray := prog_3_method_20_code
def yX1_allWeight : MethodName := ⟨RX1, "allWeight", "()I"⟩
abbrev cX1_allIce : ByteArray := prog_3_method_21_code
def yX1_allIce : MethodName := ⟨RX1, "allIce", "()I"⟩
def RX2 : String := "MastWind$Offers"
def TX2 : u_T := fun k => match k with
  | 0 => ("MastWind$Offers", "ropes", "[I", true)
  | 1 => ("MastWind$Offers", "more", "[I", true)
  | 2 => ("MastWind$Offers", "prices", "[I", true)
  | _ => ("MastWind$Offers", "count", "I", false)
def tyX2 : Nat → FieldType := fun k => match k with
  | 0 => .array .int
  | 1 => .array .int
  | 2 => .array .int
  | _ => .int
abbrev wsX20 : List Cond := u_ws RX2 TX2 4
theorem nmX2 : ∀ a, a < 4 → ∀ b, b < 4 → a ≠ b → (TX2 a).2.1 ≠ (TX2 b).2.1 := by decide +kernel
theorem tyX2_ok : ∀ k, k < 4 → parseFieldDescriptor (TX2 k).2.2.1 = some (tyX2 k) := by decide +kernel
abbrev cX2_init : ByteArray := prog_4_method_1_code
def yX2_init : MethodName := ⟨RX2, "<init>", "()V"⟩
abbrev cX2_takeFrom : ByteArray := prog_4_method_2_code
def yX2_takeFrom : MethodName := ⟨RX2, "takeFrom", "(LMastWind$Offers;)V"⟩
abbrev cX2_add : ByteArray := prog_4_method_3_code
def yX2_add : MethodName := ⟨RX2, "add", "(III)I"⟩
abbrev cX2_ropeSet : ByteArray := prog_4_method_4_code
def yX2_ropeSet : MethodName := ⟨RX2, "ropeSet", "()I"⟩
abbrev cX2_priceOf : ByteArray := prog_4_method_5_code
def yX2_priceOf : MethodName := ⟨RX2, "priceOf", "(I)I"⟩
abbrev cX2_strengthen : ByteArray := prog_4_method_6_code
def yX2_strengthen : MethodName := ⟨RX2, "strengthen", "(LMastWind$Mast;LMastWind$Mast;I)V"⟩
def RX3 : String := "MastWind$Piece"
def TX3 : u_T := fun k => match k with
  | 0 => ("MastWind$Piece", "number", "I", false)
  | 1 => ("MastWind$Piece", "kind", "I", false)
  | 2 => ("MastWind$Piece", "height", "I", false)
  | 3 => ("MastWind$Piece", "mass", "I", false)
  | 4 => ("MastWind$Piece", "area", "I", false)
  | 5 => ("MastWind$Piece", "stiffness", "I", false)
  | 6 => ("MastWind$Piece", "ice", "I", false)
  | _ => ("MastWind$Piece", "odds", "I", false)
def tyX3 : Nat → FieldType := fun k => match k with
  | 0 => .int
  | 1 => .int
  | 2 => .int
  | 3 => .int
  | 4 => .int
  | 5 => .int
  | 6 => .int
  | _ => .int
abbrev wsX30 : List Cond := u_ws RX3 TX3 8
theorem nmX3 : ∀ a, a < 8 → ∀ b, b < 8 → a ≠ b → (TX3 a).2.1 ≠ (TX3 b).2.1 := by decide +kernel
theorem tyX3_ok : ∀ k, k < 8 → parseFieldDescriptor (TX3 k).2.2.1 = some (tyX3 k) := by decide +kernel
abbrev cX3_init : ByteArray := prog_5_method_1_code
def yX3_init : MethodName := ⟨RX3, "<init>", "()V"⟩
abbrev cX3_takeFrom : ByteArray := prog_5_method_2_code
def yX3_takeFrom : MethodName := ⟨RX3, "takeFrom", "(LMastWind$Piece;)V"⟩
abbrev cX3_about : ByteArray := prog_5_method_3_code
def yX3_about : MethodName := ⟨RX3, "about", "(I)I"⟩
abbrev cX3_weight : ByteArray := prog_5_method_4_code
def yX3_weight : MethodName := ⟨RX3, "weight", "()I"⟩
abbrev cX3_faces : ByteArray := prog_5_method_5_code
def yX3_faces : MethodName := ⟨RX3, "faces", "()I"⟩
abbrev cX3_wholeHeft : ByteArray := prog_5_method_6_code
def yX3_wholeHeft : MethodName := ⟨RX3, "wholeHeft", "()I"⟩
abbrev cX3_failure : ByteArray := prog_5_method_7_code
def yX3_failure : MethodName := ⟨RX3, "failure", "()I"⟩
abbrev cX3_sheds : ByteArray := prog_5_method_8_code
def yX3_sheds : MethodName := ⟨RX3, "sheds", "(I)I"⟩
def RX4 : String := "MastWind$Redraw"
def TX4 : u_T := fun k => match k with
  | 0 => ("MastWind$Redraw", "ropes", "[LMastWind$Rope;", true)
  | 1 => ("MastWind$Redraw", "numbers", "[I", true)
  | 2 => ("MastWind$Redraw", "oldTight", "[I", true)
  | 3 => ("MastWind$Redraw", "count", "I", false)
  | 4 => ("MastWind$Redraw", "newTight", "I", false)
  | 5 => ("MastWind$Redraw", "mostLean", "I", false)
  | 6 => ("MastWind$Redraw", "mostPull", "I", false)
  | _ => ("MastWind$Redraw", "next", "[I", true)
def tyX4 : Nat → FieldType := fun k => match k with
  | 0 => .array (.object "MastWind$Rope")
  | 1 => .array .int
  | 2 => .array .int
  | 3 => .int
  | 4 => .int
  | 5 => .int
  | 6 => .int
  | _ => .array .int
abbrev wsX40 : List Cond := u_ws RX4 TX4 8
theorem nmX4 : ∀ a, a < 8 → ∀ b, b < 8 → a ≠ b → (TX4 a).2.1 ≠ (TX4 b).2.1 := by decide +kernel
theorem tyX4_ok : ∀ k, k < 8 → parseFieldDescriptor (TX4 k).2.2.1 = some (tyX4 k) := by decide +kernel
abbrev cX4_init : ByteArray := prog_6_method_1_code
def yX4_init : MethodName := ⟨RX4, "<init>", "()V"⟩
abbrev cX4_open : ByteArray := prog_6_method_2_code
def yX4_open : MethodName := ⟨RX4, "open", "(LMastWind$Mast;II)V"⟩
abbrev cX4_setMarks : ByteArray := prog_6_method_3_code
def yX4_setMarks : MethodName := ⟨RX4, "setMarks", "(II)V"⟩
abbrev cX4_firstOrder : ByteArray := prog_6_method_4_code
def yX4_firstOrder : MethodName := ⟨RX4, "firstOrder", "(LMastWind$Mast;LMastWind$Balance;)J"⟩
abbrev cX4_leastNext : ByteArray := prog_6_method_5_code
def yX4_leastNext : MethodName := ⟨RX4, "leastNext", "(LMastWind$Mast;LMastWind$Balance;I)I"⟩
abbrev cX4_isSafe : ByteArray := prog_6_method_6_code
def yX4_isSafe : MethodName := ⟨RX4, "isSafe", "(LMastWind$Mast;LMastWind$Balance;)Z"⟩
def RX5 : String := "MastWind$Rope"
def TX5 : u_T := fun k => match k with
  | 0 => ("MastWind$Rope", "piece", "I", false)
  | 1 => ("MastWind$Rope", "side", "I", false)
  | 2 => ("MastWind$Rope", "reach", "I", false)
  | 3 => ("MastWind$Rope", "stretch", "I", false)
  | 4 => ("MastWind$Rope", "tight", "I", false)
  | 5 => ("MastWind$Rope", "how", "I", false)
  | _ => ("MastWind$Rope", "arm", "I", false)
def tyX5 : Nat → FieldType := fun k => match k with
  | 0 => .int
  | 1 => .int
  | 2 => .int
  | 3 => .int
  | 4 => .int
  | 5 => .int
  | _ => .int
abbrev wsX50 : List Cond := u_ws RX5 TX5 7
theorem nmX5 : ∀ a, a < 7 → ∀ b, b < 7 → a ≠ b → (TX5 a).2.1 ≠ (TX5 b).2.1 := by decide +kernel
theorem tyX5_ok : ∀ k, k < 7 → parseFieldDescriptor (TX5 k).2.2.1 = some (tyX5 k) := by decide +kernel
abbrev cX5_init : ByteArray := prog_7_method_1_code
def yX5_init : MethodName := ⟨RX5, "<init>", "()V"⟩
abbrev cX5_takeFrom : ByteArray := prog_7_method_2_code
def yX5_takeFrom : MethodName := ⟨RX5, "takeFrom", "(LMastWind$Rope;)V"⟩
abbrev cX5_about : ByteArray := prog_7_method_3_code
def yX5_about : MethodName := ⟨RX5, "about", "(I)I"⟩
abbrev cX5_pullAt : ByteArray := prog_7_method_4_code
def yX5_pullAt : MethodName := ⟨RX5, "pullAt", "(I)I"⟩
def RX6 : String := "MastWind$RuleReader"
def TX6 : u_T := fun k => match k with
  | 0 => ("MastWind$RuleReader", "facts", "[I", true)
  | 1 => ("MastWind$RuleReader", "bytes", "[I", false)
  | 2 => ("MastWind$RuleReader", "size", "I", false)
  | 3 => ("MastWind$RuleReader", "at", "I", false)
  | 4 => ("MastWind$RuleReader", "stuck", "Z", false)
  | 5 => ("MastWind$RuleReader", "testWanted", "Z", false)
  | 6 => ("MastWind$RuleReader", "depth", "I", false)
  | 7 => ("MastWind$RuleReader", "anyHolds", "[Z", true)
  | 8 => ("MastWind$RuleReader", "allHold", "[Z", true)
  | _ => ("MastWind$RuleReader", "turned", "[Z", true)
def tyX6 : Nat → FieldType := fun k => match k with
  | 0 => .array .int
  | 1 => .array .int
  | 2 => .int
  | 3 => .int
  | 4 => .boolean
  | 5 => .boolean
  | 6 => .int
  | 7 => .array .boolean
  | 8 => .array .boolean
  | _ => .array .boolean
abbrev wsX60 : List Cond := u_ws RX6 TX6 10
theorem nmX6 : ∀ a, a < 10 → ∀ b, b < 10 → a ≠ b → (TX6 a).2.1 ≠ (TX6 b).2.1 := by decide +kernel
theorem tyX6_ok : ∀ k, k < 10 → parseFieldDescriptor (TX6 k).2.2.1 = some (tyX6 k) := by decide +kernel
abbrev cX6_init : ByteArray := prog_8_method_1_code
def yX6_init : MethodName := ⟨RX6, "<init>", "()V"⟩
abbrev cX6_read : ByteArray := prog_8_method_2_code
def yX6_read : MethodName := ⟨RX6, "read", "([II)I"⟩
abbrev cX6_holds : ByteArray := prog_8_method_3_code
def yX6_holds : MethodName := ⟨RX6, "holds", "()Z"⟩
abbrev cX6_beginOr : ByteArray := prog_8_method_4_code
def yX6_beginOr : MethodName := ⟨RX6, "beginOr", "()V"⟩
abbrev cX6_beginTest : ByteArray := prog_8_method_5_code
def yX6_beginTest : MethodName := ⟨RX6, "beginTest", "()V"⟩
abbrev cX6_endTest : ByteArray := prog_8_method_6_code
def yX6_endTest : MethodName := ⟨RX6, "endTest", "(Z)V"⟩
abbrev cX6_goOn : ByteArray := prog_8_method_7_code
def yX6_goOn : MethodName := ⟨RX6, "goOn", "()V"⟩
abbrev cX6_holdsAt : ByteArray := prog_8_method_8_code
def yX6_holdsAt : MethodName := ⟨RX6, "holdsAt", "(I)Z"⟩
abbrev cX6_compares : ByteArray := prog_8_method_9_code
def yX6_compares : MethodName := ⟨RX6, "compares", "()Z"⟩
abbrev cX6_readSum : ByteArray := prog_8_method_10_code
def yX6_readSum : MethodName := ⟨RX6, "readSum", "()I"⟩
abbrev cX6_readAtom : ByteArray := prog_8_method_11_code
def yX6_readAtom : MethodName := ⟨RX6, "readAtom", "()I"⟩
abbrev cX6_fieldOf : ByteArray := prog_8_method_12_code
def yX6_fieldOf : MethodName := ⟨RX6, "fieldOf", "(I)I"⟩
def RX7 : String := "MastWind$Rules"
def TX7 : u_T := fun k => match k with
  | 0 => ("MastWind$Rules", "texts", "[[I", true)
  | 1 => ("MastWind$Rules", "sizes", "[I", true)
  | 2 => ("MastWind$Rules", "told", "[Z", true)
  | _ => ("MastWind$Rules", "count", "I", false)
def tyX7 : Nat → FieldType := fun k => match k with
  | 0 => .array (.array .int)
  | 1 => .array .int
  | 2 => .array .boolean
  | _ => .int
abbrev wsX70 : List Cond := u_ws RX7 TX7 4
theorem nmX7 : ∀ a, a < 4 → ∀ b, b < 4 → a ≠ b → (TX7 a).2.1 ≠ (TX7 b).2.1 := by decide +kernel
theorem tyX7_ok : ∀ k, k < 4 → parseFieldDescriptor (TX7 k).2.2.1 = some (tyX7 k) := by decide +kernel
abbrev cX7_init : ByteArray := prog_9_method_1_code
def yX7_init : MethodName := ⟨RX7, "<init>", "()V"⟩
abbrev cX7_takeFrom : ByteArray := prog_9_method_2_code
def yX7_takeFrom : MethodName := ⟨RX7, "takeFrom", "(LMastWind$Rules;)V"⟩
abbrev cX7_add : ByteArray := prog_9_method_3_code
def yX7_add : MethodName := ⟨RX7, "add", "([II)I"⟩
abbrev cX7_toldOnes : ByteArray := prog_9_method_4_code
def yX7_toldOnes : MethodName := ⟨RX7, "toldOnes", "()I"⟩
abbrev cX7_leastHolding : ByteArray := prog_9_method_5_code
def yX7_leastHolding : MethodName := ⟨RX7, "leastHolding", "(LMastWind$RuleReader;LMastWind$Piece;)I"⟩
def RX8 : String := "MastWind$Shelf"
def TX8 : u_T := fun k => match k with
  | 0 => ("MastWind$Shelf", "holds", "I", false)
  | 1 => ("MastWind$Shelf", "piece", "LMastWind$Piece;", true)
  | 2 => ("MastWind$Shelf", "sort", "I", false)
  | 3 => ("MastWind$Shelf", "size", "I", false)
  | _ => ("MastWind$Shelf", "elements", "[I", true)
def tyX8 : Nat → FieldType := fun k => match k with
  | 0 => .int
  | 1 => .object "MastWind$Piece"
  | 2 => .int
  | 3 => .int
  | _ => .array .int
abbrev wsX80 : List Cond := u_ws RX8 TX8 5
theorem nmX8 : ∀ a, a < 5 → ∀ b, b < 5 → a ≠ b → (TX8 a).2.1 ≠ (TX8 b).2.1 := by decide +kernel
theorem tyX8_ok : ∀ k, k < 5 → parseFieldDescriptor (TX8 k).2.2.1 = some (tyX8 k) := by decide +kernel
abbrev cX8_init : ByteArray := prog_10_method_1_code
def yX8_init : MethodName := ⟨RX8, "<init>", "()V"⟩
abbrev cX8_layRow : ByteArray := prog_10_method_2_code
def yX8_layRow : MethodName := ⟨RX8, "layRow", "(II)V"⟩
abbrev cX8_hasSpan : ByteArray := prog_10_method_3_code
def yX8_hasSpan : MethodName := ⟨RX8, "hasSpan", "(II)Z"⟩
abbrev cX8_lowestBits : ByteArray := prog_10_method_4_code
def yX8_lowestBits : MethodName := ⟨RX8, "lowestBits", "(I)I"⟩
def RX9 : String := "MastWind$SwingCount"
def TX9 : u_T := fun k => match k with
  | 0 => ("MastWind$SwingCount", "found", "I", false)
  | 1 => ("MastWind$SwingCount", "greatest", "J", false)
  | _ => ("MastWind$SwingCount", "tiredness", "J", false)
def tyX9 : Nat → FieldType := fun k => match k with
  | 0 => .int
  | 1 => .long
  | _ => .long
abbrev wsX90 : List Cond := u_ws RX9 TX9 3
theorem nmX9 : ∀ a, a < 3 → ∀ b, b < 3 → a ≠ b → (TX9 a).2.1 ≠ (TX9 b).2.1 := by decide +kernel
theorem tyX9_ok : ∀ k, k < 3 → parseFieldDescriptor (TX9 k).2.2.1 = some (tyX9 k) := by decide +kernel
abbrev cX9_init : ByteArray := prog_11_method_1_code
def yX9_init : MethodName := ⟨RX9, "<init>", "()V"⟩
abbrev cX9_measure : ByteArray := prog_11_method_2_code
def yX9_measure : MethodName := ⟨RX9, "measure", "([II)V"⟩
abbrev cX9_add : ByteArray := prog_11_method_3_code
def yX9_add : MethodName := ⟨RX9, "add", "(II)V"⟩
def RX10 : String := "MastWind$TextReader"
def TX10 : u_T := fun k => match k with
  | 0 => ("MastWind$TextReader", "bytes", "[I", false)
  | 1 => ("MastWind$TextReader", "size", "I", false)
  | 2 => ("MastWind$TextReader", "at", "I", false)
  | 3 => ("MastWind$TextReader", "stuck", "Z", false)
  | 4 => ("MastWind$TextReader", "numberCount", "I", false)
  | 5 => ("MastWind$TextReader", "start", "I", false)
  | 6 => ("MastWind$TextReader", "letter", "I", false)
  | 7 => ("MastWind$TextReader", "numbers", "[I", true)
  | _ => ("MastWind$TextReader", "side", "I", false)
def tyX10 : Nat → FieldType := fun k => match k with
  | 0 => .array .int
  | 1 => .int
  | 2 => .int
  | 3 => .boolean
  | 4 => .int
  | 5 => .int
  | 6 => .int
  | 7 => .array .int
  | _ => .int
abbrev wsX100 : List Cond := u_ws RX10 TX10 9
theorem nmX10 : ∀ a, a < 9 → ∀ b, b < 9 → a ≠ b → (TX10 a).2.1 ≠ (TX10 b).2.1 := by decide +kernel
theorem tyX10_ok : ∀ k, k < 9 → parseFieldDescriptor (TX10 k).2.2.1 = some (tyX10 k) := by decide +kernel
abbrev cX10_init : ByteArray := prog_12_method_1_code
def yX10_init : MethodName := ⟨RX10, "<init>", "()V"⟩
abbrev cX10_open : ByteArray := prog_12_method_2_code
def yX10_open : MethodName := ⟨RX10, "open", "([II)V"⟩
abbrev cX10_hasMore : ByteArray := prog_12_method_3_code
def yX10_hasMore : MethodName := ⟨RX10, "hasMore", "()Z"⟩
abbrev cX10_firstFault : ByteArray := prog_12_method_4_code
def yX10_firstFault : MethodName := ⟨RX10, "firstFault", "()I"⟩
abbrev cX10_readStatement : ByteArray := prog_12_method_5_code
def yX10_readStatement : MethodName := ⟨RX10, "readStatement", "()V"⟩
abbrev cX10_readNumbers : ByteArray := prog_12_method_6_code
def yX10_readNumbers : MethodName := ⟨RX10, "readNumbers", "(I)V"⟩
abbrev cX10_readNumber : ByteArray := prog_12_method_7_code
def yX10_readNumber : MethodName := ⟨RX10, "readNumber", "()V"⟩
abbrev cX10_readSide : ByteArray := prog_12_method_8_code
def yX10_readSide : MethodName := ⟨RX10, "readSide", "()V"⟩
abbrev cX10_expect : ByteArray := prog_12_method_9_code
def yX10_expect : MethodName := ⟨RX10, "expect", "(I)V"⟩
abbrev cX10_isDigit : ByteArray := prog_12_method_10_code
def yX10_isDigit : MethodName := ⟨RX10, "isDigit", "(I)Z"⟩
def RX11 : String := "MastWind"
def TX11 : u_T := fun k => match k with
  | 0 => ("MastWind", "now", "LMastWind$Mast;", true)
  | 1 => ("MastWind", "trial", "LMastWind$Mast;", true)
  | 2 => ("MastWind", "rules", "LMastWind$Rules;", true)
  | 3 => ("MastWind", "offers", "LMastWind$Offers;", true)
  | 4 => ("MastWind", "oldMast", "LMastWind$Mast;", true)
  | 5 => ("MastWind", "oldRules", "LMastWind$Rules;", true)
  | 6 => ("MastWind", "oldOffers", "LMastWind$Offers;", true)
  | 7 => ("MastWind", "imaged", "Z", false)
  | 8 => ("MastWind", "shelves", "[LMastWind$Shelf;", true)
  | 9 => ("MastWind", "balance", "LMastWind$Balance;", true)
  | 10 => ("MastWind", "textReader", "LMastWind$TextReader;", true)
  | 11 => ("MastWind", "ruleReader", "LMastWind$RuleReader;", true)
  | 12 => ("MastWind", "redraw", "LMastWind$Redraw;", true)
  | _ => ("MastWind", "swingCount", "LMastWind$SwingCount;", true)
def tyX11 : Nat → FieldType := fun k => match k with
  | 0 => .object "MastWind$Mast"
  | 1 => .object "MastWind$Mast"
  | 2 => .object "MastWind$Rules"
  | 3 => .object "MastWind$Offers"
  | 4 => .object "MastWind$Mast"
  | 5 => .object "MastWind$Rules"
  | 6 => .object "MastWind$Offers"
  | 7 => .boolean
  | 8 => .array (.object "MastWind$Shelf")
  | 9 => .object "MastWind$Balance"
  | 10 => .object "MastWind$TextReader"
  | 11 => .object "MastWind$RuleReader"
  | 12 => .object "MastWind$Redraw"
  | _ => .object "MastWind$SwingCount"
abbrev wsX110 : List Cond := u_ws RX11 TX11 14
theorem nmX11 : ∀ a, a < 14 → ∀ b, b < 14 → a ≠ b → (TX11 a).2.1 ≠ (TX11 b).2.1 := by decide +kernel
theorem tyX11_ok : ∀ k, k < 14 → parseFieldDescriptor (TX11 k).2.2.1 = some (tyX11 k) := by decide +kernel
abbrev cX11_init : ByteArray := prog_1_method_1_code
def yX11_init : MethodName := ⟨RX11, "<init>", "()V"⟩
abbrev cX11_text : ByteArray := prog_1_method_2_code
def yX11_text : MethodName := ⟨RX11, "text", "(I)I"⟩
abbrev cX11_piece : ByteArray := prog_1_method_3_code
def yX11_piece : MethodName := ⟨RX11, "piece", "(II)I"⟩
abbrev cX11_rope : ByteArray := prog_1_method_4_code
def yX11_rope : MethodName := ⟨RX11, "rope", "(II)I"⟩
abbrev cX11_becomes : ByteArray := prog_1_method_5_code
def yX11_becomes : MethodName := ⟨RX11, "becomes", "(II)I"⟩
abbrev cX11_tight : ByteArray := prog_1_method_6_code
def yX11_tight : MethodName := ⟨RX11, "tight", "(II)I"⟩
abbrev cX11_ice : ByteArray := prog_1_method_7_code
def yX11_ice : MethodName := ⟨RX11, "ice", "(II)I"⟩
abbrev cX11_wind : ByteArray := prog_1_method_8_code
def yX11_wind : MethodName := ⟨RX11, "wind", "(II)I"⟩
abbrev cX11_share : ByteArray := prog_1_method_9_code
def yX11_share : MethodName := ⟨RX11, "share", "(II)I"⟩
abbrev cX11_push : ByteArray := prog_1_method_10_code
def yX11_push : MethodName := ⟨RX11, "push", "(I)J"⟩
abbrev cX11_rest : ByteArray := prog_1_method_11_code
def yX11_rest : MethodName := ⟨RX11, "rest", "(I)J"⟩
abbrev cX11_stand : ByteArray := prog_1_method_12_code
def yX11_stand : MethodName := ⟨RX11, "stand", "()I"⟩
abbrev cX11_stands : ByteArray := prog_1_method_13_code
def yX11_stands : MethodName := ⟨RX11, "stands", "(I)I"⟩
abbrev cX11_pull : ByteArray := prog_1_method_14_code
def yX11_pull : MethodName := ⟨RX11, "pull", "(I)I"⟩
abbrev cX11_loose : ByteArray := prog_1_method_15_code
def yX11_loose : MethodName := ⟨RX11, "loose", "()I"⟩
abbrev cX11_gust : ByteArray := prog_1_method_16_code
def yX11_gust : MethodName := ⟨RX11, "gust", "(I)I"⟩
abbrev cX11_gusts : ByteArray := prog_1_method_17_code
def yX11_gusts : MethodName := ⟨RX11, "gusts", "(I)I"⟩
abbrev cX11_count : ByteArray := prog_1_method_18_code
def yX11_count : MethodName := ⟨RX11, "count", "(I)I"⟩
abbrev cX11_tone : ByteArray := prog_1_method_19_code
def yX11_tone : MethodName := ⟨RX11, "tone", "(I)I"⟩
abbrev cX11_shedding : ByteArray := prog_1_method_20_code
def yX11_shedding : MethodName := ⟨RX11, "shedding", "(II)I"⟩
abbrev cX11_lock : ByteArray := prog_1_method_21_code
def yX11_lock : MethodName := ⟨RX11, "lock", "(IIII)I"⟩
abbrev cX11_odds : ByteArray := prog_1_method_22_code
def yX11_odds : MethodName := ⟨RX11, "odds", "(II)I"⟩
abbrev cX11_falls : ByteArray := prog_1_method_23_code
def yX11_falls : MethodName := ⟨RX11, "falls", "()I"⟩
abbrev cX11_uneven : ByteArray := prog_1_method_24_code
def yX11_uneven : MethodName := ⟨RX11, "uneven", "()I"⟩
abbrev cX11_after : ByteArray := prog_1_method_25_code
def yX11_after : MethodName := ⟨RX11, "after", "(I)I"⟩
abbrev cX11_swings : ByteArray := prog_1_method_26_code
def yX11_swings : MethodName := ⟨RX11, "swings", "(II)J"⟩
abbrev cX11_years : ByteArray := prog_1_method_27_code
def yX11_years : MethodName := ⟨RX11, "years", "(II)I"⟩
abbrev cX11_fault : ByteArray := prog_1_method_28_code
def yX11_fault : MethodName := ⟨RX11, "fault", "(I)I"⟩
abbrev cX11_rule : ByteArray := prog_1_method_29_code
def yX11_rule : MethodName := ⟨RX11, "rule", "(I)I"⟩
abbrev cX11_tell : ByteArray := prog_1_method_30_code
def yX11_tell : MethodName := ⟨RX11, "tell", "(IZ)I"⟩
abbrev cX11_breach : ByteArray := prog_1_method_31_code
def yX11_breach : MethodName := ⟨RX11, "breach", "(II)I"⟩
abbrev cX11_climb : ByteArray := prog_1_method_32_code
def yX11_climb : MethodName := ⟨RX11, "climb", "(I)I"⟩
abbrev cX11_order : ByteArray := prog_1_method_33_code
def yX11_order : MethodName := ⟨RX11, "order", "(IIII)J"⟩
abbrev cX11_readBack : ByteArray := prog_1_method_34_code
def yX11_readBack : MethodName := ⟨RX11, "readBack", "(IIII)I"⟩
abbrev cX11_offer : ByteArray := prog_1_method_35_code
def yX11_offer : MethodName := ⟨RX11, "offer", "(III)I"⟩
abbrev cX11_cheapest : ByteArray := prog_1_method_36_code
def yX11_cheapest : MethodName := ⟨RX11, "cheapest", "(III)I"⟩
abbrev cX11_image : ByteArray := prog_1_method_37_code
def yX11_image : MethodName := ⟨RX11, "image", "()I"⟩
abbrev cX11_restore : ByteArray := prog_1_method_38_code
def yX11_restore : MethodName := ⟨RX11, "restore", "()I"⟩
abbrev cX11_told : ByteArray := prog_1_method_39_code
def yX11_told : MethodName := ⟨RX11, "told", "(I)I"⟩
abbrev cX11_keep : ByteArray := prog_1_method_40_code
def yX11_keep : MethodName := ⟨RX11, "keep", "(III)I"⟩
abbrev cX11_row : ByteArray := prog_1_method_41_code
def yX11_row : MethodName := ⟨RX11, "row", "(III)I"⟩
abbrev cX11_put : ByteArray := prog_1_method_42_code
def yX11_put : MethodName := ⟨RX11, "put", "(III)I"⟩
abbrev cX11_element : ByteArray := prog_1_method_43_code
def yX11_element : MethodName := ⟨RX11, "element", "(II)J"⟩
abbrev cX11_copy : ByteArray := prog_1_method_44_code
def yX11_copy : MethodName := ⟨RX11, "copy", "(IIIII)I"⟩
abbrev cX11_heft : ByteArray := prog_1_method_45_code
def yX11_heft : MethodName := ⟨RX11, "heft", "(I)I"⟩
abbrev cX11_toss : ByteArray := prog_1_method_46_code
def yX11_toss : MethodName := ⟨RX11, "toss", "(I)I"⟩
abbrev cX11_shelfAt : ByteArray := prog_1_method_47_code
def yX11_shelfAt : MethodName := ⟨RX11, "shelfAt", "(I)LMastWind$Shelf;"⟩
abbrev cX11_rowRefusal : ByteArray := prog_1_method_48_code
def yX11_rowRefusal : MethodName := ⟨RX11, "rowRefusal", "(LMastWind$Shelf;I)I"⟩
abbrev cX11_pieceRefusal : ByteArray := prog_1_method_49_code
def yX11_pieceRefusal : MethodName := ⟨RX11, "pieceRefusal", "(LMastWind$Shelf;)I"⟩
abbrev cX11_leanNow : ByteArray := prog_1_method_50_code
def yX11_leanNow : MethodName := ⟨RX11, "leanNow", "()I"⟩
abbrev cX11_lookAround : ByteArray := prog_1_method_51_code
def yX11_lookAround : MethodName := ⟨RX11, "lookAround", "(I)V"⟩
abbrev cX11_isSetToRedraw : ByteArray := prog_1_method_52_code
def yX11_isSetToRedraw : MethodName := ⟨RX11, "isSetToRedraw", "(I)Z"⟩
abbrev cX11_holdsSpeeds : ByteArray := prog_1_method_53_code
def yX11_holdsSpeeds : MethodName := ⟨RX11, "holdsSpeeds", "(LMastWind$Shelf;)Z"⟩
abbrev cX11_standsInAll : ByteArray := prog_1_method_54_code
def yX11_standsInAll : MethodName := ⟨RX11, "standsInAll", "(LMastWind$Shelf;I)Z"⟩
def RX12 : String := "MastWindModel"
def TX12 : u_T := fun k => match k with
  | 0 => ("MastWindModel", "s", "[I", true)
  | 1 => ("MastWindModel", "image", "[I", true)
  | 2 => ("MastWindModel", "before", "[I", true)
  | 3 => ("MastWindModel", "kept", "[I", true)
  | 4 => ("MastWindModel", "sort", "[I", true)
  | 5 => ("MastWindModel", "size", "[I", true)
  | 6 => ("MastWindModel", "element", "[I", true)
  | 7 => ("MastWindModel", "keptKind", "[I", true)
  | 8 => ("MastWindModel", "keptHeft", "[I", true)
  | 9 => ("MastWindModel", "keptToss", "[I", true)
  | 10 => ("MastWindModel", "hasImage", "Z", false)
  | 11 => ("MastWindModel", "thrown", "I", false)
  | 12 => ("MastWindModel", "pos", "I", false)
  | 13 => ("MastWindModel", "base", "I", false)
  | 14 => ("MastWindModel", "long0", "I", false)
  | 15 => ("MastWindModel", "number", "I", false)
  | 16 => ("MastWindModel", "text", "[I", false)
  | 17 => ("MastWindModel", "told", "[I", true)
  | 18 => ("MastWindModel", "jerk", "J", false)
  | 19 => ("MastWindModel", "some", "[I", true)
  | 20 => ("MastWindModel", "had", "[I", true)
  | 21 => ("MastWindModel", "swingMany", "I", false)
  | 22 => ("MastWindModel", "swingMost", "J", false)
  | 23 => ("MastWindModel", "tired", "J", false)
  | 24 => ("MastWindModel", "deep", "I", false)
  | 25 => ("MastWindModel", "askedPiece", "I", false)
  | 26 => ("MastWindModel", "askedHour", "I", false)
  | 27 => ("MastWindModel", "askedLean", "I", false)
  | 28 => ("MastWindModel", "mostLean", "I", false)
  | 29 => ("MastWindModel", "mostPull", "I", false)
  | 30 => ("MastWindModel", "newTight", "I", false)
  | _ => ("MastWindModel", "stretch", "[I", true)
def tyX12 : Nat → FieldType := fun k => match k with
  | 0 => .array .int
  | 1 => .array .int
  | 2 => .array .int
  | 3 => .array .int
  | 4 => .array .int
  | 5 => .array .int
  | 6 => .array .int
  | 7 => .array .int
  | 8 => .array .int
  | 9 => .array .int
  | 10 => .boolean
  | 11 => .int
  | 12 => .int
  | 13 => .int
  | 14 => .int
  | 15 => .int
  | 16 => .array .int
  | 17 => .array .int
  | 18 => .long
  | 19 => .array .int
  | 20 => .array .int
  | 21 => .int
  | 22 => .long
  | 23 => .long
  | 24 => .int
  | 25 => .int
  | 26 => .int
  | 27 => .int
  | 28 => .int
  | 29 => .int
  | 30 => .int
  | _ => .array .int
abbrev wsX120 : List Cond := u_ws RX12 TX12 32
theorem nmX12 : ∀ a, a < 32 → ∀ b, b < 32 → a ≠ b → (TX12 a).2.1 ≠ (TX12 b).2.1 := by decide +kernel
theorem tyX12_ok : ∀ k, k < 32 → parseFieldDescriptor (TX12 k).2.2.1 = some (tyX12 k) := by decide +kernel
abbrev cX12_init : ByteArray := prog_14_method_1_code
def yX12_init : MethodName := ⟨RX12, "<init>", "()V"⟩
abbrev cX12_thrown : ByteArray := prog_14_method_2_code
def yX12_thrown : MethodName := ⟨RX12, "thrown", "()I"⟩
abbrev cX12_isIn : ByteArray := prog_14_method_3_code
def yX12_isIn : MethodName := ⟨RX12, "isIn", "(JJJ)Z"⟩
abbrev cX12_isPiece : ByteArray := prog_14_method_4_code
def yX12_isPiece : MethodName := ⟨RX12, "isPiece", "(I)Z"⟩
abbrev cX12_isRope : ByteArray := prog_14_method_5_code
def yX12_isRope : MethodName := ⟨RX12, "isRope", "(I)Z"⟩
abbrev cX12_isShelf : ByteArray := prog_14_method_6_code
def yX12_isShelf : MethodName := ⟨RX12, "isShelf", "(I)Z"⟩
abbrev cX12_of : ByteArray := prog_14_method_7_code
def yX12_of : MethodName := ⟨RX12, "of", "(II)I"⟩
abbrev cX12_rope0 : ByteArray := prog_14_method_8_code
def yX12_rope0 : MethodName := ⟨RX12, "rope0", "(II)I"⟩
abbrev cX12_weight : ByteArray := prog_14_method_9_code
def yX12_weight : MethodName := ⟨RX12, "weight", "(I)I"⟩
abbrev cX12_faces : ByteArray := prog_14_method_10_code
def yX12_faces : MethodName := ⟨RX12, "faces", "(I)I"⟩
abbrev cX12_arm : ByteArray := prog_14_method_11_code
def yX12_arm : MethodName := ⟨RX12, "arm", "(I)I"⟩
abbrev cX12_sign : ByteArray := prog_14_method_12_code
def yX12_sign : MethodName := ⟨RX12, "sign", "()I"⟩
abbrev cX12_takes : ByteArray := prog_14_method_13_code
def yX12_takes : MethodName := ⟨RX12, "takes", "(I)Z"⟩
abbrev cX12_readsNumber : ByteArray := prog_14_method_14_code
def yX12_readsNumber : MethodName := ⟨RX12, "readsNumber", "()Z"⟩
abbrev cX12_readsNumbers : ByteArray := prog_14_method_15_code
def yX12_readsNumbers : MethodName := ⟨RX12, "readsNumbers", "(IZ)Z"⟩
abbrev cX12_readsStatement : ByteArray := prog_14_method_16_code
def yX12_readsStatement : MethodName := ⟨RX12, "readsStatement", "()Z"⟩
abbrev cX12_makesPiece : ByteArray := prog_14_method_17_code
def yX12_makesPiece : MethodName := ⟨RX12, "makesPiece", "()Z"⟩
abbrev cX12_makesRope : ByteArray := prog_14_method_18_code
def yX12_makesRope : MethodName := ⟨RX12, "makesRope", "()Z"⟩
abbrev cX12_wrongRow : ByteArray := prog_14_method_19_code
def yX12_wrongRow : MethodName := ⟨RX12, "wrongRow", "(II)I"⟩
abbrev cX12_opens : ByteArray := prog_14_method_20_code
def yX12_opens : MethodName := ⟨RX12, "opens", "(I)V"⟩
abbrev cX12_text : ByteArray := prog_14_method_21_code
def yX12_text : MethodName := ⟨RX12, "text", "(I)I"⟩
abbrev cX12_piece : ByteArray := prog_14_method_22_code
def yX12_piece : MethodName := ⟨RX12, "piece", "(II)I"⟩
abbrev cX12_rope : ByteArray := prog_14_method_23_code
def yX12_rope : MethodName := ⟨RX12, "rope", "(II)I"⟩
abbrev cX12_becomesNow : ByteArray := prog_14_method_24_code
def yX12_becomesNow : MethodName := ⟨RX12, "becomesNow", "(II)I"⟩
abbrev cX12_becomes : ByteArray := prog_14_method_25_code
def yX12_becomes : MethodName := ⟨RX12, "becomes", "(II)I"⟩
abbrev cX12_tight : ByteArray := prog_14_method_26_code
def yX12_tight : MethodName := ⟨RX12, "tight", "(II)I"⟩
abbrev cX12_ice : ByteArray := prog_14_method_27_code
def yX12_ice : MethodName := ⟨RX12, "ice", "(II)I"⟩
abbrev cX12_odds : ByteArray := prog_14_method_28_code
def yX12_odds : MethodName := ⟨RX12, "odds", "(II)I"⟩
abbrev cX12_wind : ByteArray := prog_14_method_29_code
def yX12_wind : MethodName := ⟨RX12, "wind", "(II)I"⟩
abbrev cX12_share : ByteArray := prog_14_method_30_code
def yX12_share : MethodName := ⟨RX12, "share", "(II)I"⟩
abbrev cX12_pushOn : ByteArray := prog_14_method_31_code
def yX12_pushOn : MethodName := ⟨RX12, "pushOn", "(I)I"⟩
abbrev cX12_push : ByteArray := prog_14_method_32_code
def yX12_push : MethodName := ⟨RX12, "push", "(I)J"⟩
abbrev cX12_pullAt : ByteArray := prog_14_method_33_code
def yX12_pullAt : MethodName := ⟨RX12, "pullAt", "(II)I"⟩
abbrev cX12_restAt : ByteArray := prog_14_method_34_code
def yX12_restAt : MethodName := ⟨RX12, "restAt", "(I)J"⟩
abbrev cX12_rest : ByteArray := prog_14_method_35_code
def yX12_rest : MethodName := ⟨RX12, "rest", "(I)J"⟩
abbrev cX12_standing : ByteArray := prog_14_method_36_code
def yX12_standing : MethodName := ⟨RX12, "standing", "()I"⟩
abbrev cX12_stand : ByteArray := prog_14_method_37_code
def yX12_stand : MethodName := ⟨RX12, "stand", "()I"⟩
abbrev cX12_stands : ByteArray := prog_14_method_38_code
def yX12_stands : MethodName := ⟨RX12, "stands", "(I)I"⟩
abbrev cX12_pull : ByteArray := prog_14_method_39_code
def yX12_pull : MethodName := ⟨RX12, "pull", "(I)I"⟩
abbrev cX12_looseAt : ByteArray := prog_14_method_40_code
def yX12_looseAt : MethodName := ⟨RX12, "looseAt", "(I)I"⟩
abbrev cX12_loose : ByteArray := prog_14_method_41_code
def yX12_loose : MethodName := ⟨RX12, "loose", "()I"⟩
abbrev cX12_gust : ByteArray := prog_14_method_42_code
def yX12_gust : MethodName := ⟨RX12, "gust", "(I)I"⟩
abbrev cX12_gusts : ByteArray := prog_14_method_43_code
def yX12_gusts : MethodName := ⟨RX12, "gusts", "(I)I"⟩
abbrev cX12_countOf : ByteArray := prog_14_method_44_code
def yX12_countOf : MethodName := ⟨RX12, "countOf", "(I)I"⟩
abbrev cX12_count : ByteArray := prog_14_method_45_code
def yX12_count : MethodName := ⟨RX12, "count", "(I)I"⟩
abbrev cX12_toneOf : ByteArray := prog_14_method_46_code
def yX12_toneOf : MethodName := ⟨RX12, "toneOf", "(I)I"⟩
abbrev cX12_tone : ByteArray := prog_14_method_47_code
def yX12_tone : MethodName := ⟨RX12, "tone", "(I)I"⟩
abbrev cX12_shed : ByteArray := prog_14_method_48_code
def yX12_shed : MethodName := ⟨RX12, "shed", "(II)I"⟩
abbrev cX12_shedding : ByteArray := prog_14_method_49_code
def yX12_shedding : MethodName := ⟨RX12, "shedding", "(II)I"⟩
abbrev cX12_lock : ByteArray := prog_14_method_50_code
def yX12_lock : MethodName := ⟨RX12, "lock", "(IIII)I"⟩
abbrev cX12_falls : ByteArray := prog_14_method_51_code
def yX12_falls : MethodName := ⟨RX12, "falls", "()I"⟩
abbrev cX12_amount : ByteArray := prog_14_method_52_code
def yX12_amount : MethodName := ⟨RX12, "amount", "(I)I"⟩
abbrev cX12_uneven : ByteArray := prog_14_method_53_code
def yX12_uneven : MethodName := ⟨RX12, "uneven", "()I"⟩
abbrev cX12_after : ByteArray := prog_14_method_54_code
def yX12_after : MethodName := ⟨RX12, "after", "(I)I"⟩
abbrev cX12_adds : ByteArray := prog_14_method_55_code
def yX12_adds : MethodName := ⟨RX12, "adds", "(J)V"⟩
abbrev cX12_findSwings : ByteArray := prog_14_method_56_code
def yX12_findSwings : MethodName := ⟨RX12, "findSwings", "(I)V"⟩
abbrev cX12_swings : ByteArray := prog_14_method_57_code
def yX12_swings : MethodName := ⟨RX12, "swings", "(II)J"⟩
abbrev cX12_years : ByteArray := prog_14_method_58_code
def yX12_years : MethodName := ⟨RX12, "years", "(II)I"⟩
abbrev cX12_readsOr : ByteArray := prog_14_method_59_code
def yX12_readsOr : MethodName := ⟨RX12, "readsOr", "()Z"⟩
abbrev cX12_readsAnd : ByteArray := prog_14_method_60_code
def yX12_readsAnd : MethodName := ⟨RX12, "readsAnd", "()Z"⟩
abbrev cX12_readsTest : ByteArray := prog_14_method_61_code
def yX12_readsTest : MethodName := ⟨RX12, "readsTest", "()Z"⟩
abbrev cX12_readsSum : ByteArray := prog_14_method_62_code
def yX12_readsSum : MethodName := ⟨RX12, "readsSum", "()Z"⟩
abbrev cX12_isDigit : ByteArray := prog_14_method_63_code
def yX12_isDigit : MethodName := ⟨RX12, "isDigit", "(I)Z"⟩
abbrev cX12_isField : ByteArray := prog_14_method_64_code
def yX12_isField : MethodName := ⟨RX12, "isField", "(I)Z"⟩
abbrev cX12_readsAtom : ByteArray := prog_14_method_65_code
def yX12_readsAtom : MethodName := ⟨RX12, "readsAtom", "()Z"⟩
abbrev cX12_faultOf : ByteArray := prog_14_method_66_code
def yX12_faultOf : MethodName := ⟨RX12, "faultOf", "(I)I"⟩
abbrev cX12_fault : ByteArray := prog_14_method_67_code
def yX12_fault : MethodName := ⟨RX12, "fault", "(I)I"⟩
abbrev cX12_rule : ByteArray := prog_14_method_68_code
def yX12_rule : MethodName := ⟨RX12, "rule", "(I)I"⟩
abbrev cX12_tell : ByteArray := prog_14_method_69_code
def yX12_tell : MethodName := ⟨RX12, "tell", "(IZ)I"⟩
abbrev cX12_or : ByteArray := prog_14_method_70_code
def yX12_or : MethodName := ⟨RX12, "or", "()Z"⟩
abbrev cX12_and : ByteArray := prog_14_method_71_code
def yX12_and : MethodName := ⟨RX12, "and", "()Z"⟩
abbrev cX12_test : ByteArray := prog_14_method_72_code
def yX12_test : MethodName := ⟨RX12, "test", "()Z"⟩
abbrev cX12_sum : ByteArray := prog_14_method_73_code
def yX12_sum : MethodName := ⟨RX12, "sum", "()I"⟩
abbrev cX12_atom : ByteArray := prog_14_method_74_code
def yX12_atom : MethodName := ⟨RX12, "atom", "()I"⟩
abbrev cX12_fieldOf : ByteArray := prog_14_method_75_code
def yX12_fieldOf : MethodName := ⟨RX12, "fieldOf", "(I)I"⟩
abbrev cX12_breachOf : ByteArray := prog_14_method_76_code
def yX12_breachOf : MethodName := ⟨RX12, "breachOf", "(II)I"⟩
abbrev cX12_breach : ByteArray := prog_14_method_77_code
def yX12_breach : MethodName := ⟨RX12, "breach", "(II)I"⟩
abbrev cX12_climb : ByteArray := prog_14_method_78_code
def yX12_climb : MethodName := ⟨RX12, "climb", "(I)I"⟩
abbrev cX12_isSafe : ByteArray := prog_14_method_79_code
def yX12_isSafe : MethodName := ⟨RX12, "isSafe", "()Z"⟩
abbrev cX12_goesOn : ByteArray := prog_14_method_80_code
def yX12_goesOn : MethodName := ⟨RX12, "goesOn", "(II)J"⟩
abbrev cX12_order : ByteArray := prog_14_method_81_code
def yX12_order : MethodName := ⟨RX12, "order", "(IIII)J"⟩
abbrev cX12_readBack : ByteArray := prog_14_method_82_code
def yX12_readBack : MethodName := ⟨RX12, "readBack", "(IIII)I"⟩
abbrev cX12_offer : ByteArray := prog_14_method_83_code
def yX12_offer : MethodName := ⟨RX12, "offer", "(III)I"⟩
abbrev cX12_wrongSpeeds : ByteArray := prog_14_method_84_code
def yX12_wrongSpeeds : MethodName := ⟨RX12, "wrongSpeeds", "(I)I"⟩
abbrev cX12_isEnough : ByteArray := prog_14_method_85_code
def yX12_isEnough : MethodName := ⟨RX12, "isEnough", "(II)Z"⟩
abbrev cX12_cheapest : ByteArray := prog_14_method_86_code
def yX12_cheapest : MethodName := ⟨RX12, "cheapest", "(III)I"⟩
abbrev cX12_image : ByteArray := prog_14_method_87_code
def yX12_image : MethodName := ⟨RX12, "image", "()I"⟩
abbrev cX12_restore : ByteArray := prog_14_method_88_code
def yX12_restore : MethodName := ⟨RX12, "restore", "()I"⟩
abbrev cX12_told : ByteArray := prog_14_method_89_code
def yX12_told : MethodName := ⟨RX12, "told", "(I)I"⟩
abbrev cX12_keep : ByteArray := prog_14_method_90_code
def yX12_keep : MethodName := ⟨RX12, "keep", "(III)I"⟩
abbrev cX12_row : ByteArray := prog_14_method_91_code
def yX12_row : MethodName := ⟨RX12, "row", "(III)I"⟩
abbrev cX12_put : ByteArray := prog_14_method_92_code
def yX12_put : MethodName := ⟨RX12, "put", "(III)I"⟩
abbrev cX12_element : ByteArray := prog_14_method_93_code
def yX12_element : MethodName := ⟨RX12, "element", "(II)J"⟩
abbrev cX12_copy : ByteArray := prog_14_method_94_code
def yX12_copy : MethodName := ⟨RX12, "copy", "(IIIII)I"⟩
abbrev cX12_wrongKept : ByteArray := prog_14_method_95_code
def yX12_wrongKept : MethodName := ⟨RX12, "wrongKept", "(I)I"⟩
abbrev cX12_heft : ByteArray := prog_14_method_96_code
def yX12_heft : MethodName := ⟨RX12, "heft", "(I)I"⟩
abbrev cX12_toss : ByteArray := prog_14_method_97_code
def yX12_toss : MethodName := ⟨RX12, "toss", "(I)I"⟩
def RJ6 : String := "java/lang/Integer"
def TJ6 : u_T := fun k => match k with
  | _ => ("", "", "", false)
def tyJ6 : Nat → FieldType := fun k => match k with
  | _ => .int
abbrev cJ6_bitCount_0f7a4 : ByteArray := prog_18_method_49_code
def yJ6_bitCount_0f7a4 : MethodName := ⟨RJ6, "bitCount", "(I)I"⟩
def RJ9 : String := "java/lang/Math"
def TJ9 : u_T := fun k => match k with
  | _ => ("", "", "", false)
def tyJ9 : Nat → FieldType := fun k => match k with
  | _ => .int
abbrev cJ9_abs_0f7a4 : ByteArray := prog_19_method_59_code
def yJ9_abs_0f7a4 : MethodName := ⟨RJ9, "abs", "(I)I"⟩
abbrev cJ9_abs_067f4 : ByteArray := prog_19_method_61_code
def yJ9_abs_067f4 : MethodName := ⟨RJ9, "abs", "(J)J"⟩
abbrev cJ9_max_7cf53 : ByteArray := prog_19_method_65_code
def yJ9_max_7cf53 : MethodName := ⟨RJ9, "max", "(II)I"⟩
abbrev cJ9_max_f86c9 : ByteArray := prog_19_method_66_code
def yJ9_max_f86c9 : MethodName := ⟨RJ9, "max", "(JJ)J"⟩
abbrev cJ9_min_7cf53 : ByteArray := prog_19_method_69_code
def yJ9_min_7cf53 : MethodName := ⟨RJ9, "min", "(II)I"⟩
abbrev cJ9_min_f86c9 : ByteArray := prog_19_method_70_code
def yJ9_min_f86c9 : MethodName := ⟨RJ9, "min", "(JJ)J"⟩
def RJ0 : String := "java/lang/String"
def TJ0 : u_T := fun k => match k with
  | _ => ("", "", "", false)
def tyJ0 : Nat → FieldType := fun k => match k with
  | _ => .int
def RJ10 : String := "java/lang/System"
def TJ10 : u_T := fun k => match k with
  | _ => ("", "", "", false)
def tyJ10 : Nat → FieldType := fun k => match k with
  | _ => .int
def RL : String := "MastWindLaw"
abbrev cL_push : ByteArray := method_3_code
def yL_push : MethodName := ⟨RL, "push", "(LMastWind;I[J)I"⟩
abbrev cL_rest : ByteArray := method_4_code
def yL_rest : MethodName := ⟨RL, "rest", "(LMastWind;I[J)I"⟩
abbrev cL_element : ByteArray := method_5_code
def yL_element : MethodName := ⟨RL, "element", "(LMastWind;II[J)I"⟩
abbrev cL_law : ByteArray := code
def yL_law : MethodName := ⟨RL, "law", "([I)Z"⟩
abbrev vwCl : List vw_C := [(RX0, TX0, 6), (RX1, TX1, 10), (RX2, TX2, 4), (RX3, TX3, 8), (RX4, TX4, 8), (RX5, TX5, 7), (RX6, TX6, 10), (RX7, TX7, 4), (RX8, TX8, 5), (RX9, TX9, 3), (RX10, TX10, 9), (RX11, TX11, 14), (RX12, TX12, 32)]
