section
-- ===== PART A: goes FIRST, ahead of the names: the tables' words, and 'selects' of the private methods out of them =====
/-- a private method of a class that the tables say can be made, by its rows of tables_1 -/
def lw_okq (q : MethodName × Nat) : Prop := (q.1.cls ≠ "java/lang/invoke/MethodHandle" ∧ q.1.cls ≠ "java/lang/invoke/VarHandle") ∧ Cond.instantiable q.1.cls q.2 ∈ tables_1 ∧ Cond.privateMethod q.1 ∈ tables_1 ∧ Cond.instanceMethod q.1 ∈ tables_1
theorem lw_p0 : lw_okq (⟨"ColorScheme", "putWord", "(II)V"⟩, 7) := ⟨⟨by decide +kernel, by decide +kernel⟩, List.mem_of_getElem? (i := 23) (by decide +kernel), List.mem_of_getElem? (i := 188) (by decide +kernel), List.mem_of_getElem? (i := 189) (by decide +kernel)⟩
theorem lw_p1 : lw_okq (⟨"java/lang/Throwable", "fillInStackTrace", "(I)Ljava/lang/Throwable;"⟩, 6) := ⟨⟨by decide +kernel, by decide +kernel⟩, List.mem_of_getElem? (i := 334) (by decide +kernel), List.mem_of_getElem? (i := 332) (by decide +kernel), List.mem_of_getElem? (i := 333) (by decide +kernel)⟩
theorem lw_p2 : lw_okq (⟨"ColorScheme$SetupReader", "readStatement", "(LColorScheme$Design;)V"⟩, 4) := ⟨⟨by decide +kernel, by decide +kernel⟩, List.mem_of_getElem? (i := 31) (by decide +kernel), List.mem_of_getElem? (i := 472) (by decide +kernel), List.mem_of_getElem? (i := 473) (by decide +kernel)⟩
theorem lw_p3 : lw_okq (⟨"ColorScheme$SetupReader", "readRole", "(LColorScheme$Design;)V"⟩, 4) := ⟨⟨by decide +kernel, by decide +kernel⟩, List.mem_of_getElem? (i := 31) (by decide +kernel), List.mem_of_getElem? (i := 478) (by decide +kernel), List.mem_of_getElem? (i := 479) (by decide +kernel)⟩
theorem lw_p4 : lw_okq (⟨"ColorScheme$SetupReader", "readColour", "()I"⟩, 4) := ⟨⟨by decide +kernel, by decide +kernel⟩, List.mem_of_getElem? (i := 31) (by decide +kernel), List.mem_of_getElem? (i := 484) (by decide +kernel), List.mem_of_getElem? (i := 485) (by decide +kernel)⟩
theorem lw_p5 : lw_okq (⟨"ColorScheme$SetupReader", "readRule", "(LColorScheme$Design;Z)V"⟩, 4) := ⟨⟨by decide +kernel, by decide +kernel⟩, List.mem_of_getElem? (i := 31) (by decide +kernel), List.mem_of_getElem? (i := 508) (by decide +kernel), List.mem_of_getElem? (i := 509) (by decide +kernel)⟩
theorem lw_p6 : lw_okq (⟨"ColorScheme$Floor", "sum", "(I)I"⟩, 4) := ⟨⟨by decide +kernel, by decide +kernel⟩, List.mem_of_getElem? (i := 67) (by decide +kernel), List.mem_of_getElem? (i := 539) (by decide +kernel), List.mem_of_getElem? (i := 540) (by decide +kernel)⟩
theorem lw_p7 : lw_okq (⟨"ColorScheme$Floor", "term", "(I)I"⟩, 4) := ⟨⟨by decide +kernel, by decide +kernel⟩, List.mem_of_getElem? (i := 67) (by decide +kernel), List.mem_of_getElem? (i := 543) (by decide +kernel), List.mem_of_getElem? (i := 544) (by decide +kernel)⟩
theorem lw_p8 : lw_okq (⟨"ColorScheme$Floor", "factor", "(I)I"⟩, 4) := ⟨⟨by decide +kernel, by decide +kernel⟩, List.mem_of_getElem? (i := 67) (by decide +kernel), List.mem_of_getElem? (i := 547) (by decide +kernel), List.mem_of_getElem? (i := 548) (by decide +kernel)⟩
theorem lw_p9 : lw_okq (⟨"ColorScheme$SetupReader", "setTextNeeds", "(LColorScheme$Design;)V"⟩, 4) := ⟨⟨by decide +kernel, by decide +kernel⟩, List.mem_of_getElem? (i := 31) (by decide +kernel), List.mem_of_getElem? (i := 581) (by decide +kernel), List.mem_of_getElem? (i := 582) (by decide +kernel)⟩
theorem lw_p10 : lw_okq (⟨"ColorScheme", "requireRole", "(I)V"⟩, 7) := ⟨⟨by decide +kernel, by decide +kernel⟩, List.mem_of_getElem? (i := 23) (by decide +kernel), List.mem_of_getElem? (i := 607) (by decide +kernel), List.mem_of_getElem? (i := 608) (by decide +kernel)⟩
theorem lw_p11 : lw_okq (⟨"ColorScheme", "requireScheme", "(I)V"⟩, 7) := ⟨⟨by decide +kernel, by decide +kernel⟩, List.mem_of_getElem? (i := 23) (by decide +kernel), List.mem_of_getElem? (i := 627) (by decide +kernel), List.mem_of_getElem? (i := 628) (by decide +kernel)⟩
theorem lw_p12 : lw_okq (⟨"ColorScheme", "requireSight", "(I)V"⟩, 7) := ⟨⟨by decide +kernel, by decide +kernel⟩, List.mem_of_getElem? (i := 23) (by decide +kernel), List.mem_of_getElem? (i := 662) (by decide +kernel), List.mem_of_getElem? (i := 663) (by decide +kernel)⟩
theorem lw_p13 : lw_okq (⟨"ColorScheme", "requireColour", "(I)V"⟩, 7) := ⟨⟨by decide +kernel, by decide +kernel⟩, List.mem_of_getElem? (i := 23) (by decide +kernel), List.mem_of_getElem? (i := 686) (by decide +kernel), List.mem_of_getElem? (i := 687) (by decide +kernel)⟩
theorem lw_p14 : lw_okq (⟨"ColorScheme", "requireRule", "(I)V"⟩, 7) := ⟨⟨by decide +kernel, by decide +kernel⟩, List.mem_of_getElem? (i := 23) (by decide +kernel), List.mem_of_getElem? (i := 703) (by decide +kernel), List.mem_of_getElem? (i := 704) (by decide +kernel)⟩
theorem lw_p15 : lw_okq (⟨"ColorSchemeModel", "fails", "(ZI)Z"⟩, 20) := ⟨⟨by decide +kernel, by decide +kernel⟩, List.mem_of_getElem? (i := 844) (by decide +kernel), List.mem_of_getElem? (i := 928) (by decide +kernel), List.mem_of_getElem? (i := 929) (by decide +kernel)⟩
def lw_privs_1 : List (MethodName × Nat) := [(⟨"ColorScheme", "putWord", "(II)V"⟩, 7), (⟨"java/lang/Throwable", "fillInStackTrace", "(I)Ljava/lang/Throwable;"⟩, 6), (⟨"ColorScheme$SetupReader", "readStatement", "(LColorScheme$Design;)V"⟩, 4), (⟨"ColorScheme$SetupReader", "readRole", "(LColorScheme$Design;)V"⟩, 4), (⟨"ColorScheme$SetupReader", "readColour", "()I"⟩, 4), (⟨"ColorScheme$SetupReader", "readRule", "(LColorScheme$Design;Z)V"⟩, 4), (⟨"ColorScheme$Floor", "sum", "(I)I"⟩, 4), (⟨"ColorScheme$Floor", "term", "(I)I"⟩, 4), (⟨"ColorScheme$Floor", "factor", "(I)I"⟩, 4), (⟨"ColorScheme$SetupReader", "setTextNeeds", "(LColorScheme$Design;)V"⟩, 4), (⟨"ColorScheme", "requireRole", "(I)V"⟩, 7), (⟨"ColorScheme", "requireScheme", "(I)V"⟩, 7), (⟨"ColorScheme", "requireSight", "(I)V"⟩, 7), (⟨"ColorScheme", "requireColour", "(I)V"⟩, 7), (⟨"ColorScheme", "requireRule", "(I)V"⟩, 7), (⟨"ColorSchemeModel", "fails", "(ZI)Z"⟩, 20)]
theorem lw_r1 : ∀ q ∈ lw_privs_1, lw_okq q := List.forall_mem_cons.mpr ⟨lw_p0, List.forall_mem_cons.mpr ⟨lw_p1, List.forall_mem_cons.mpr ⟨lw_p2, List.forall_mem_cons.mpr ⟨lw_p3, List.forall_mem_cons.mpr ⟨lw_p4, List.forall_mem_cons.mpr ⟨lw_p5, List.forall_mem_cons.mpr ⟨lw_p6, List.forall_mem_cons.mpr ⟨lw_p7, List.forall_mem_cons.mpr ⟨lw_p8, List.forall_mem_cons.mpr ⟨lw_p9, List.forall_mem_cons.mpr ⟨lw_p10, List.forall_mem_cons.mpr ⟨lw_p11, List.forall_mem_cons.mpr ⟨lw_p12, List.forall_mem_cons.mpr ⟨lw_p13, List.forall_mem_cons.mpr ⟨lw_p14, List.forall_mem_cons.mpr ⟨lw_p15, fun _ h => absurd h List.not_mem_nil⟩⟩⟩⟩⟩⟩⟩⟩⟩⟩⟩⟩⟩⟩⟩⟩
theorem lw_p16 : lw_okq (⟨"ColorSchemeModel", "takeWord", "(Ljava/lang/String;)Z"⟩, 20) := ⟨⟨by decide +kernel, by decide +kernel⟩, List.mem_of_getElem? (i := 844) (by decide +kernel), List.mem_of_getElem? (i := 933) (by decide +kernel), List.mem_of_getElem? (i := 934) (by decide +kernel)⟩
theorem lw_p17 : lw_okq (⟨"ColorSchemeModel", "isGood", "()Z"⟩, 20) := ⟨⟨by decide +kernel, by decide +kernel⟩, List.mem_of_getElem? (i := 844) (by decide +kernel), List.mem_of_getElem? (i := 937) (by decide +kernel), List.mem_of_getElem? (i := 938) (by decide +kernel)⟩
theorem lw_p18 : lw_okq (⟨"ColorSchemeModel", "next", "()I"⟩, 20) := ⟨⟨by decide +kernel, by decide +kernel⟩, List.mem_of_getElem? (i := 844) (by decide +kernel), List.mem_of_getElem? (i := 941) (by decide +kernel), List.mem_of_getElem? (i := 942) (by decide +kernel)⟩
theorem lw_p19 : lw_okq (⟨"ColorSchemeModel", "byteAt", "(I)I"⟩, 20) := ⟨⟨by decide +kernel, by decide +kernel⟩, List.mem_of_getElem? (i := 844) (by decide +kernel), List.mem_of_getElem? (i := 945) (by decide +kernel), List.mem_of_getElem? (i := 946) (by decide +kernel)⟩
theorem lw_p20 : lw_okq (⟨"ColorSchemeModel", "report", "(II)V"⟩, 20) := ⟨⟨by decide +kernel, by decide +kernel⟩, List.mem_of_getElem? (i := 844) (by decide +kernel), List.mem_of_getElem? (i := 951) (by decide +kernel), List.mem_of_getElem? (i := 952) (by decide +kernel)⟩
theorem lw_p21 : lw_okq (⟨"ColorSchemeModel", "expect", "(I)V"⟩, 20) := ⟨⟨by decide +kernel, by decide +kernel⟩, List.mem_of_getElem? (i := 844) (by decide +kernel), List.mem_of_getElem? (i := 955) (by decide +kernel), List.mem_of_getElem? (i := 956) (by decide +kernel)⟩
theorem lw_p22 : lw_okq (⟨"ColorSchemeModel", "statement", "()V"⟩, 20) := ⟨⟨by decide +kernel, by decide +kernel⟩, List.mem_of_getElem? (i := 844) (by decide +kernel), List.mem_of_getElem? (i := 959) (by decide +kernel), List.mem_of_getElem? (i := 960) (by decide +kernel)⟩
theorem lw_p23 : lw_okq (⟨"ColorSchemeModel", "readRole", "(I)V"⟩, 20) := ⟨⟨by decide +kernel, by decide +kernel⟩, List.mem_of_getElem? (i := 844) (by decide +kernel), List.mem_of_getElem? (i := 964) (by decide +kernel), List.mem_of_getElem? (i := 965) (by decide +kernel)⟩
theorem lw_p24 : lw_okq (⟨"ColorSchemeModel", "number", "(II)I"⟩, 20) := ⟨⟨by decide +kernel, by decide +kernel⟩, List.mem_of_getElem? (i := 844) (by decide +kernel), List.mem_of_getElem? (i := 968) (by decide +kernel), List.mem_of_getElem? (i := 969) (by decide +kernel)⟩
theorem lw_p25 : lw_okq (⟨"ColorSchemeModel", "readRule", "(IZ)V"⟩, 20) := ⟨⟨by decide +kernel, by decide +kernel⟩, List.mem_of_getElem? (i := 844) (by decide +kernel), List.mem_of_getElem? (i := 989) (by decide +kernel), List.mem_of_getElem? (i := 990) (by decide +kernel)⟩
theorem lw_p26 : lw_okq (⟨"ColorSchemeModel", "once", "(II)V"⟩, 20) := ⟨⟨by decide +kernel, by decide +kernel⟩, List.mem_of_getElem? (i := 844) (by decide +kernel), List.mem_of_getElem? (i := 998) (by decide +kernel), List.mem_of_getElem? (i := 999) (by decide +kernel)⟩
theorem lw_p27 : lw_okq (⟨"ColorSchemeModel", "sum", "()V"⟩, 20) := ⟨⟨by decide +kernel, by decide +kernel⟩, List.mem_of_getElem? (i := 844) (by decide +kernel), List.mem_of_getElem? (i := 1002) (by decide +kernel), List.mem_of_getElem? (i := 1003) (by decide +kernel)⟩
theorem lw_p28 : lw_okq (⟨"ColorSchemeModel", "term", "()V"⟩, 20) := ⟨⟨by decide +kernel, by decide +kernel⟩, List.mem_of_getElem? (i := 844) (by decide +kernel), List.mem_of_getElem? (i := 1006) (by decide +kernel), List.mem_of_getElem? (i := 1007) (by decide +kernel)⟩
theorem lw_p29 : lw_okq (⟨"ColorSchemeModel", "factor", "()V"⟩, 20) := ⟨⟨by decide +kernel, by decide +kernel⟩, List.mem_of_getElem? (i := 844) (by decide +kernel), List.mem_of_getElem? (i := 1010) (by decide +kernel), List.mem_of_getElem? (i := 1011) (by decide +kernel)⟩
theorem lw_p30 : lw_okq (⟨"ColorSchemeModel", "emit", "(I)V"⟩, 20) := ⟨⟨by decide +kernel, by decide +kernel⟩, List.mem_of_getElem? (i := 844) (by decide +kernel), List.mem_of_getElem? (i := 1015) (by decide +kernel), List.mem_of_getElem? (i := 1016) (by decide +kernel)⟩
theorem lw_p31 : lw_okq (⟨"ColorSchemeModel", "remember", "()V"⟩, 20) := ⟨⟨by decide +kernel, by decide +kernel⟩, List.mem_of_getElem? (i := 844) (by decide +kernel), List.mem_of_getElem? (i := 1019) (by decide +kernel), List.mem_of_getElem? (i := 1020) (by decide +kernel)⟩
def lw_privs_2 : List (MethodName × Nat) := [(⟨"ColorSchemeModel", "takeWord", "(Ljava/lang/String;)Z"⟩, 20), (⟨"ColorSchemeModel", "isGood", "()Z"⟩, 20), (⟨"ColorSchemeModel", "next", "()I"⟩, 20), (⟨"ColorSchemeModel", "byteAt", "(I)I"⟩, 20), (⟨"ColorSchemeModel", "report", "(II)V"⟩, 20), (⟨"ColorSchemeModel", "expect", "(I)V"⟩, 20), (⟨"ColorSchemeModel", "statement", "()V"⟩, 20), (⟨"ColorSchemeModel", "readRole", "(I)V"⟩, 20), (⟨"ColorSchemeModel", "number", "(II)I"⟩, 20), (⟨"ColorSchemeModel", "readRule", "(IZ)V"⟩, 20), (⟨"ColorSchemeModel", "once", "(II)V"⟩, 20), (⟨"ColorSchemeModel", "sum", "()V"⟩, 20), (⟨"ColorSchemeModel", "term", "()V"⟩, 20), (⟨"ColorSchemeModel", "factor", "()V"⟩, 20), (⟨"ColorSchemeModel", "emit", "(I)V"⟩, 20), (⟨"ColorSchemeModel", "remember", "()V"⟩, 20)]
theorem lw_r2 : ∀ q ∈ lw_privs_2, lw_okq q := List.forall_mem_cons.mpr ⟨lw_p16, List.forall_mem_cons.mpr ⟨lw_p17, List.forall_mem_cons.mpr ⟨lw_p18, List.forall_mem_cons.mpr ⟨lw_p19, List.forall_mem_cons.mpr ⟨lw_p20, List.forall_mem_cons.mpr ⟨lw_p21, List.forall_mem_cons.mpr ⟨lw_p22, List.forall_mem_cons.mpr ⟨lw_p23, List.forall_mem_cons.mpr ⟨lw_p24, List.forall_mem_cons.mpr ⟨lw_p25, List.forall_mem_cons.mpr ⟨lw_p26, List.forall_mem_cons.mpr ⟨lw_p27, List.forall_mem_cons.mpr ⟨lw_p28, List.forall_mem_cons.mpr ⟨lw_p29, List.forall_mem_cons.mpr ⟨lw_p30, List.forall_mem_cons.mpr ⟨lw_p31, fun _ h => absurd h List.not_mem_nil⟩⟩⟩⟩⟩⟩⟩⟩⟩⟩⟩⟩⟩⟩⟩⟩
theorem lw_p32 : lw_okq (⟨"ColorSchemeModel", "layNeeds", "()V"⟩, 20) := ⟨⟨by decide +kernel, by decide +kernel⟩, List.mem_of_getElem? (i := 844) (by decide +kernel), List.mem_of_getElem? (i := 1026) (by decide +kernel), List.mem_of_getElem? (i := 1027) (by decide +kernel)⟩
theorem lw_p33 : lw_okq (⟨"ColorSchemeModel", "reckonNeed", "(II)I"⟩, 20) := ⟨⟨by decide +kernel, by decide +kernel⟩, List.mem_of_getElem? (i := 844) (by decide +kernel), List.mem_of_getElem? (i := 1030) (by decide +kernel), List.mem_of_getElem? (i := 1031) (by decide +kernel)⟩
theorem lw_p34 : lw_okq (⟨"ColorSchemeModel", "noRole", "(I)Z"⟩, 20) := ⟨⟨by decide +kernel, by decide +kernel⟩, List.mem_of_getElem? (i := 844) (by decide +kernel), List.mem_of_getElem? (i := 1060) (by decide +kernel), List.mem_of_getElem? (i := 1061) (by decide +kernel)⟩
theorem lw_p35 : lw_okq (⟨"ColorSchemeModel", "noScheme", "(I)Z"⟩, 20) := ⟨⟨by decide +kernel, by decide +kernel⟩, List.mem_of_getElem? (i := 844) (by decide +kernel), List.mem_of_getElem? (i := 1064) (by decide +kernel), List.mem_of_getElem? (i := 1065) (by decide +kernel)⟩
theorem lw_p36 : lw_okq (⟨"ColorSchemeModel", "colourOf", "(II)I"⟩, 20) := ⟨⟨by decide +kernel, by decide +kernel⟩, List.mem_of_getElem? (i := 844) (by decide +kernel), List.mem_of_getElem? (i := 1068) (by decide +kernel), List.mem_of_getElem? (i := 1069) (by decide +kernel)⟩
theorem lw_p37 : lw_okq (⟨"ColorSchemeModel", "noSight", "(I)Z"⟩, 20) := ⟨⟨by decide +kernel, by decide +kernel⟩, List.mem_of_getElem? (i := 844) (by decide +kernel), List.mem_of_getElem? (i := 1106) (by decide +kernel), List.mem_of_getElem? (i := 1107) (by decide +kernel)⟩
theorem lw_p38 : lw_okq (⟨"ColorSchemeModel", "noColour", "(I)Z"⟩, 20) := ⟨⟨by decide +kernel, by decide +kernel⟩, List.mem_of_getElem? (i := 844) (by decide +kernel), List.mem_of_getElem? (i := 1133) (by decide +kernel), List.mem_of_getElem? (i := 1134) (by decide +kernel)⟩
theorem lw_p39 : lw_okq (⟨"ColorSchemeModel", "noRule", "(II)Z"⟩, 20) := ⟨⟨by decide +kernel, by decide +kernel⟩, List.mem_of_getElem? (i := 844) (by decide +kernel), List.mem_of_getElem? (i := 1142) (by decide +kernel), List.mem_of_getElem? (i := 1143) (by decide +kernel)⟩
theorem lw_p40 : lw_okq (⟨"ColorSchemeModel", "needOf", "(II)I"⟩, 20) := ⟨⟨by decide +kernel, by decide +kernel⟩, List.mem_of_getElem? (i := 844) (by decide +kernel), List.mem_of_getElem? (i := 1146) (by decide +kernel), List.mem_of_getElem? (i := 1147) (by decide +kernel)⟩
theorem lw_p41 : lw_okq (⟨"ColorSchemeModel", "valueOf", "(II)I"⟩, 20) := ⟨⟨by decide +kernel, by decide +kernel⟩, List.mem_of_getElem? (i := 844) (by decide +kernel), List.mem_of_getElem? (i := 1154) (by decide +kernel), List.mem_of_getElem? (i := 1155) (by decide +kernel)⟩
theorem lw_p42 : lw_okq (⟨"ColorSchemeModel", "allViolated", "()I"⟩, 20) := ⟨⟨by decide +kernel, by decide +kernel⟩, List.mem_of_getElem? (i := 844) (by decide +kernel), List.mem_of_getElem? (i := 1162) (by decide +kernel), List.mem_of_getElem? (i := 1163) (by decide +kernel)⟩
theorem lw_p43 : lw_okq (⟨"ColorSchemeModel", "violatedIn", "(I)I"⟩, 20) := ⟨⟨by decide +kernel, by decide +kernel⟩, List.mem_of_getElem? (i := 844) (by decide +kernel), List.mem_of_getElem? (i := 1166) (by decide +kernel), List.mem_of_getElem? (i := 1167) (by decide +kernel)⟩
theorem lw_p44 : lw_okq (⟨"ColorSchemeModel", "isViolated", "(II)Z"⟩, 20) := ⟨⟨by decide +kernel, by decide +kernel⟩, List.mem_of_getElem? (i := 844) (by decide +kernel), List.mem_of_getElem? (i := 1170) (by decide +kernel), List.mem_of_getElem? (i := 1171) (by decide +kernel)⟩
theorem lw_p45 : lw_okq (⟨"ColorSchemeModel", "findShift", "(II)Z"⟩, 20) := ⟨⟨by decide +kernel, by decide +kernel⟩, List.mem_of_getElem? (i := 844) (by decide +kernel), List.mem_of_getElem? (i := 1186) (by decide +kernel), List.mem_of_getElem? (i := 1187) (by decide +kernel)⟩
theorem lw_p46 : lw_okq (⟨"ColorSchemeModel", "mends", "(IIIII)Z"⟩, 20) := ⟨⟨by decide +kernel, by decide +kernel⟩, List.mem_of_getElem? (i := 844) (by decide +kernel), List.mem_of_getElem? (i := 1190) (by decide +kernel), List.mem_of_getElem? (i := 1191) (by decide +kernel)⟩
theorem lw_p47 : lw_okq (⟨"ColorSchemeModel", "makeShift", "(III)I"⟩, 20) := ⟨⟨by decide +kernel, by decide +kernel⟩, List.mem_of_getElem? (i := 844) (by decide +kernel), List.mem_of_getElem? (i := 1213) (by decide +kernel), List.mem_of_getElem? (i := 1214) (by decide +kernel)⟩
def lw_privs_3 : List (MethodName × Nat) := [(⟨"ColorSchemeModel", "layNeeds", "()V"⟩, 20), (⟨"ColorSchemeModel", "reckonNeed", "(II)I"⟩, 20), (⟨"ColorSchemeModel", "noRole", "(I)Z"⟩, 20), (⟨"ColorSchemeModel", "noScheme", "(I)Z"⟩, 20), (⟨"ColorSchemeModel", "colourOf", "(II)I"⟩, 20), (⟨"ColorSchemeModel", "noSight", "(I)Z"⟩, 20), (⟨"ColorSchemeModel", "noColour", "(I)Z"⟩, 20), (⟨"ColorSchemeModel", "noRule", "(II)Z"⟩, 20), (⟨"ColorSchemeModel", "needOf", "(II)I"⟩, 20), (⟨"ColorSchemeModel", "valueOf", "(II)I"⟩, 20), (⟨"ColorSchemeModel", "allViolated", "()I"⟩, 20), (⟨"ColorSchemeModel", "violatedIn", "(I)I"⟩, 20), (⟨"ColorSchemeModel", "isViolated", "(II)Z"⟩, 20), (⟨"ColorSchemeModel", "findShift", "(II)Z"⟩, 20), (⟨"ColorSchemeModel", "mends", "(IIIII)Z"⟩, 20), (⟨"ColorSchemeModel", "makeShift", "(III)I"⟩, 20)]
theorem lw_r3 : ∀ q ∈ lw_privs_3, lw_okq q := List.forall_mem_cons.mpr ⟨lw_p32, List.forall_mem_cons.mpr ⟨lw_p33, List.forall_mem_cons.mpr ⟨lw_p34, List.forall_mem_cons.mpr ⟨lw_p35, List.forall_mem_cons.mpr ⟨lw_p36, List.forall_mem_cons.mpr ⟨lw_p37, List.forall_mem_cons.mpr ⟨lw_p38, List.forall_mem_cons.mpr ⟨lw_p39, List.forall_mem_cons.mpr ⟨lw_p40, List.forall_mem_cons.mpr ⟨lw_p41, List.forall_mem_cons.mpr ⟨lw_p42, List.forall_mem_cons.mpr ⟨lw_p43, List.forall_mem_cons.mpr ⟨lw_p44, List.forall_mem_cons.mpr ⟨lw_p45, List.forall_mem_cons.mpr ⟨lw_p46, List.forall_mem_cons.mpr ⟨lw_p47, fun _ h => absurd h List.not_mem_nil⟩⟩⟩⟩⟩⟩⟩⟩⟩⟩⟩⟩⟩⟩⟩⟩
theorem lw_p48 : lw_okq (⟨"ColorSchemeModel", "findAny", "()Z"⟩, 20) := ⟨⟨by decide +kernel, by decide +kernel⟩, List.mem_of_getElem? (i := 844) (by decide +kernel), List.mem_of_getElem? (i := 1221) (by decide +kernel), List.mem_of_getElem? (i := 1222) (by decide +kernel)⟩
def lw_privs_4 : List (MethodName × Nat) := [(⟨"ColorSchemeModel", "findAny", "()Z"⟩, 20)]
theorem lw_r4 : ∀ q ∈ lw_privs_4, lw_okq q := List.forall_mem_cons.mpr ⟨lw_p48, fun _ h => absurd h List.not_mem_nil⟩
def lw_privs : List (MethodName × Nat) := lw_privs_1 ++ (lw_privs_2 ++ (lw_privs_3 ++ (lw_privs_4)))
def lw_tbl : List Cond := k2_sels lw_privs ++ tables_1
theorem lw_privs_ok : ∀ q ∈ lw_privs, lw_okq q := by
  show ∀ q ∈ lw_privs_1 ++ (lw_privs_2 ++ (lw_privs_3 ++ (lw_privs_4))), lw_okq q
  exact List.forall_mem_append.mpr ⟨lw_r1, List.forall_mem_append.mpr ⟨lw_r2, List.forall_mem_append.mpr ⟨lw_r3, lw_r4⟩⟩⟩
-- ===== end of PART A; then your names; then what follows =====
end
section
/-! ===== BEGIN words of one list among another's, by their places ===== -/
theorem goodIn_r {big : List Cond} (ws : List Cond) (ps : List Nat) (hp : ws = ps.filterMap (fun i => big[i]?)) (h : ws.all goodWord = true) : GoodIn big ws := by
  intro w hw
  have h1 := List.all_eq_true.mp h w hw
  rw [hp] at hw
  obtain ⟨i, -, hi⟩ := List.mem_filterMap.mp hw
  have hm : w ∈ big := by first | exact List.mem_of_getElem? hi | exact List.getElem?_mem hi
  exact ⟨hm, good_of_word h1⟩
theorem goodIn_app {big a b : List Cond} (ha : GoodIn big a) (hb : GoodIn big b) : GoodIn big (a ++ b) := fun w h => (List.mem_append.mp h).elim (ha w) (hb w)
theorem goodIn_ca {big a b : List Cond} {c : Cond} (ha : GoodIn big (c :: a)) (hb : GoodIn big b) : GoodIn big (c :: (a ++ b)) := fun w h => (List.mem_cons.mp h).elim (fun e => ha w (List.mem_cons.mpr (Or.inl e))) (fun h => (List.mem_append.mp h).elim (fun h => ha w (List.mem_cons.mpr (Or.inr h))) (hb w))
theorem goodIn_sub {big ws : List Cond} (hm : ∀ w ∈ ws, w ∈ big) (h : ws.all goodWord = true) : GoodIn big ws := fun w hw => ⟨hm w hw, good_of_word (List.all_eq_true.mp h w hw)⟩
/-! ===== END ===== -/

/-! ===== BEGIN new T[n][m]: the outer array a place, the inner ones among the pooled ===== -/
/-- f, but v at every address of l -/
def vr_up {α : Type} (f : Nat → α) (l : List Nat) (v : α) : Nat → α := fun a => if a ∈ l then v else f a
theorem vr_up_in {α : Type} {f : Nat → α} {l : List Nat} {v : α} {a : Nat} (h : a ∈ l) : vr_up f l v a = v := if_pos h
theorem vr_up_ne {α : Type} {f : Nat → α} {l : List Nat} {v : α} {a : Nat} (h : a ∉ l) : vr_up f l v a = f a := if_neg h
theorem vr_rows {L l : List Nat} {f : Nat → va_E} {e : va_E} (h : ∀ a, a ∈ l → a ∉ L) : va_pl L f ++ l.map (fun a => (a, e)) = va_pl (L ++ l) (vr_up f l e) := by
  unfold va_pl
  rw [List.map_append]
  congr 1
  · apply List.map_congr_left
    intro a ha
    rw [vr_up_ne (fun q => h a q ha)]
  · apply List.map_congr_left
    intro a ha
    rw [vr_up_in ha]
theorem vr_lay {X rows : va_W} {x : Nat × va_E} {pl : va_W} {D : va_G} {cl : List vw_C} {H : Heap} (hP : va_P D cl (((X ++ pl) ++ [x]) ++ rows) H) : va_P D cl ((X ++ [x]) ++ (pl ++ rows)) H := by
  rw [List.append_assoc (X ++ pl)] at hP
  have h := va_P.swap hP
  rw [← List.append_assoc X] at h
  have h2 := va_P.swap h
  rw [List.append_assoc (X ++ [x])] at h2
  exact h2
theorem vr_layD {X rows : va_W} {x : Nat × va_E} {pl : va_W} {A : Nat → Prop} (hD : va_D A (((X ++ pl) ++ [x]) ++ rows)) : va_D A ((X ++ [x]) ++ (pl ++ rows)) := by
  rw [List.append_assoc (X ++ pl)] at hD
  have h := va_D.swap hD
  rw [← List.append_assoc X] at h
  have h2 := va_D.swap h
  rw [List.append_assoc (X ++ [x])] at h2
  exact h2
theorem vr_outer (c : ClassId) (N h0 : Nat) : ∀ i : Nat, Jvm.Free.Multi.outerC c N h0 i = arrV c N (fun j => va_rf (if j < i then some (h0 + 1 + j) else none))
  | 0 => by
    show ({ cls := c, slots := Array.replicate N .null, vm := .none } : Cell) = _
    rw [arrV_new]
    refine congrArg (arrV c N) (funext fun j => ?_)
    simp [va_rf]
  | i + 1 => by
    show (Jvm.Free.Multi.outerC c N h0 i).setSlot i (.ref (h0 + 1 + i)) = _
    rw [vr_outer c N h0 i, arrV_store]
    refine congrArg (arrV c N) (funext fun j => ?_)
    by_cases e : j = i
    · subst e
      simp [updV, va_rf]
    · by_cases h : j < i
      · simp [updV, e, h, Nat.lt_succ_of_lt h]
      · simp [updV, e, h, show ¬ j < i + 1 by omega]
section VGM
variable {p : Program} {l : Launch} {e : Env} {R : Room} {s : State} {m : MethodId} {args : Array Value} {below : List Frame} {meth : Method} {c : Code} {H : Heap} {locs : List Loc} {cells slots : Nat} {Q : State → Prop}
variable {cc : ByteArray} {pc : Nat} {ls : Array Slot} {rest : List Value} {D : va_G} {cl : List vw_C} {A : Nat → Prop} {a : Nat} {tys : List (ClassId × FieldType)} {ws : va_W} {H0 : Heap}
/-- an array of arrays has a class (the name is wanted by va_mna below, and the printed rows don't define it) -/
def va_AOA (ty : FieldType) (U : State) : Prop := (Cond.arrayOver (.array ty)).before #[] U = true
theorem va_AOA.use {ty : FieldType} {args : Array Value} {U : State} (h : va_AOA ty U) : (Cond.arrayOver (.array ty)).before args U = true := h
theorem va_mna {X : va_W} {L : List Nat} {f : Nat → va_E} {cc : ByteArray} (hexec : p.tables.exec = Jvm.exec) (hb : c.code = cc) {own : String} {index : Nat} {ty : FieldType} {cy : ClassId} (hown : s.vm.findClass own = some m.cls) (hclink : (Cond.classLink own index ("[" ++ (FieldType.array ty).toString)).before args s = true) (hover : va_AOA ty s) (harr : (Cond.arrayClass ty).before args s = true) (hcy : s.vm.findClass (FieldType.array ty).toString = some cy)
    (hK : va_K D cl tys s) (hP : va_P D cl (X ++ va_pl L f) H) (hD : va_D A (X ++ va_pl L f)) (hS : va_S A H0 H locs) (hA : ∀ q, H0.size ≤ q → A q) {n k : Int32} {N' K' : Nat} {z : vp_A} (hn : ¬ n < 0) (hk : ¬ k < 0) (hN : n.toNatClampNeg = N') (hM : k.toNatClampNeg = K')
    (hb1 : N' * 4 ≤ 536870912) (hb2 : K' * componentBytes ty ≤ 536870912) (hb3 : K' ≤ 536870912) (hdf : fits ty (defaultValue ty) = true) (hdd : (defaultValue ty).isDefault = true) (hcells : cells + (1 + N') ≤ R.cells) (hslots : slots + (N' + N' * K') ≤ R.slots) (hz : ∀ c : ClassId, Jvm.Free.Multi.innerC c K' (defaultValue ty) = vp_cell c z) (hdg : decode cc pc = .ok (.multianewarray index 2, 4))
    (kk : ∀ (q : Nat) (r : Nat → Nat) (cA : ClassId) (H1 : Heap), (∀ i j : Nat, i < N' → j < N' → r i = r j → i = j) → (∀ i : Nat, i < N' → r i ∉ L) → va_K D cl (tys ++ [(cA, .array ty)]) s →
      va_P D cl ((X ++ [(q, .inl (cA, N', .inr (.inr (.inr (.inr (fun i => if i < N' then some (r i) else none))))))]) ++ va_pl (L ++ (List.range N').map r) (vr_up f ((List.range N').map r) (.inl (cy, z)))) H1 → va_D A ((X ++ [(q, .inl (cA, N', .inr (.inr (.inr (.inr (fun i => if i < N' then some (r i) else none))))))]) ++ va_pl (L ++ (List.range N').map r) (vr_up f ((List.range N').map r) (.inl (cy, z)))) → va_S A H0 H1 locs →
      W p l e R s m args below meth c H1 locs (cells + 1 + N') (slots + N' + N' * K') Q (F0 m (pc + 4) ls (.ref q :: rest))) : W p l e R s m args below meth c H locs cells slots Q (F0 m pc ls (.int k :: .int n :: rest)) := by
  subst hN
  subst hM
  intro T hT Xs
  obtain ⟨vm₁, cA, comp, -, fA, fC, hO, -, X', step⟩ := Xs.multianewarray2F hexec hown hclink (va_AOA.use hover) harr (g := F0 m pc ls (.int k :: .int n :: rest)) rfl (by rw [hb]; exact hdg) rfl hn hk hb1 hb2 hb3 hdf hdd hcells hslots
  have ec : some cy = some comp := hcy.symm.trans fC
  cases ec
  generalize hF : Jvm.Free.Multi.fill (T.setVm vm₁) cA cy n.toNatClampNeg k.toNatClampNeg (defaultValue ty) n.toNatClampNeg = F at X' step
  have hTh : (T.setVm vm₁).heap = H := hT
  obtain ⟨f1, f2, -, -⟩ := Jvm.Free.Multi.fill_facts (T.setVm vm₁) cA cy n.toNatClampNeg k.toNatClampNeg (defaultValue ty) n.toNatClampNeg
  rw [hF, hTh] at f1 f2
  have hold : ∀ x : Nat, x < H.size → F.heap[x]? = H[x]? := fun x hx => by
    have := Jvm.Free.Multi.fill_old (T.setVm vm₁) cA cy n.toNatClampNeg k.toNatClampNeg (defaultValue ty) (a := x) (by rw [hTh]; exact hx) n.toNatClampNeg
    rw [hF, hTh] at this
    exact this
  have hrow : ∀ j : Nat, j < n.toNatClampNeg → F.heap[H.size + 1 + j]? = some (vp_cell cy z) := fun j hj => by
    have := Jvm.Free.Multi.fill_inner (T.setVm vm₁) cA cy n.toNatClampNeg k.toNatClampNeg (defaultValue ty) n.toNatClampNeg j hj
    rw [hF, hTh, hz] at this
    exact this
  have hout : Jvm.Free.Multi.outerC cA n.toNatClampNeg H.size n.toNatClampNeg = vp_cell cA (n.toNatClampNeg, .inr (.inr (.inr (.inr (fun i => if i < n.toNatClampNeg then some (H.size + 1 + i) else none))))) := by
    rw [vp_cell_q]
    exact vr_outer cA n.toNatClampNeg H.size n.toNatClampNeg
  rw [hout] at f2
  have hlt : ∀ a, a ∈ L → a < H.size := fun a ha => by
    obtain ⟨k9, hk9⟩ := va_pl_get (X := X) (f := f) ha
    exact (hP k9 _ hk9).lt
  have hnl : ∀ i : Nat, i < n.toNatClampNeg → H.size + 1 + i ∉ L := fun i _ h => by
    have := hlt _ h
    omega
  have hnm : ∀ a, a ∈ (List.range n.toNatClampNeg).map (fun i => H.size + 1 + i) → a ∉ L := fun a ha h => by
    obtain ⟨i, -, rfl⟩ := List.mem_map.mp ha
    have := hlt _ h
    omega
  have hP0 : va_P D cl (X ++ va_pl L f) F.heap := hP.kept (fun k9 x hx => hold x.1 ((hP k9 x hx).lt))
  have hP1 : va_P D cl ((X ++ va_pl L f) ++ [(H.size, .inl (cA, n.toNatClampNeg, .inr (.inr (.inr (.inr (fun i => if i < n.toNatClampNeg then some (H.size + 1 + i) else none))))))]) F.heap := hP0.app (fun k9 x hx => by
    have h0 : k9 < 1 := (List.getElem?_eq_some_iff.mp hx).1
    rw [show k9 = 0 by omega] at hx
    cases hx
    exact f2)
  have hP2 : va_P D cl (((X ++ va_pl L f) ++ [(H.size, .inl (cA, n.toNatClampNeg, .inr (.inr (.inr (.inr (fun i => if i < n.toNatClampNeg then some (H.size + 1 + i) else none))))))]) ++ ((List.range n.toNatClampNeg).map (fun i => H.size + 1 + i)).map (fun a => (a, .inl (cy, z)))) F.heap := hP1.app (fun k9 x hx => by
    obtain ⟨a, ha, rfl⟩ := List.mem_map.mp (List.mem_of_getElem? hx)
    obtain ⟨i, hi, rfl⟩ := List.mem_map.mp ha
    exact hrow i (List.mem_range.mp hi))
  have hD2 : va_D A (((X ++ va_pl L f) ++ [(H.size, .inl (cA, n.toNatClampNeg, .inr (.inr (.inr (.inr (fun i => if i < n.toNatClampNeg then some (H.size + 1 + i) else none))))))]) ++ ((List.range n.toNatClampNeg).map (fun i => H.size + 1 + i)).map (fun a => (a, .inl (cy, z)))) := by
    have hD1 := hD.push (e := .inl (cA, n.toNatClampNeg, .inr (.inr (.inr (.inr (fun i => if i < n.toNatClampNeg then some (H.size + 1 + i) else none)))))) hP rfl (hA _ hS.1)
    generalize hW1 : (X ++ va_pl L f) ++ [(H.size, .inl (cA, n.toNatClampNeg, .inr (.inr (.inr (.inr (fun i => if i < n.toNatClampNeg then some (H.size + 1 + i) else none))))))] = W1 at hD1 hP1 ⊢
    have hle : ∀ (k9 : Nat) (x : Nat × va_E), W1[k9]? = some x → x.1 ≤ H.size := fun k9 x hx => by
      rw [← hW1] at hx
      by_cases hl : k9 < (X ++ va_pl L f).length
      · rw [List.getElem?_append_left hl] at hx
        exact Nat.le_of_lt ((hP k9 x hx).lt)
      · rw [List.getElem?_append_right (by omega)] at hx
        have h0 : k9 - (X ++ va_pl L f).length < 1 := (List.getElem?_eq_some_iff.mp hx).1
        rw [show k9 - (X ++ va_pl L f).length = 0 by omega] at hx
        cases hx
        exact Nat.le_refl _
    have hr : ∀ (k9 : Nat) (x : Nat × va_E), (((List.range n.toNatClampNeg).map (fun i => H.size + 1 + i)).map (fun a => ((a, .inl (cy, z)) : Nat × va_E)))[k9]? = some x → x.1 = H.size + 1 + k9 := fun k9 x hx => by
      rw [List.getElem?_map, List.getElem?_map] at hx
      by_cases h9 : k9 < n.toNatClampNeg
      · rw [List.getElem?_range h9] at hx
        cases hx
        rfl
      · have hn0 : (List.range n.toNatClampNeg)[k9]? = none := List.getElem?_eq_none (by rw [List.length_range]; omega)
        rw [hn0] at hx
        cases hx
    refine ⟨fun i j x y hi hj hxy => ?_, fun k9 x hx => ?_⟩
    · by_cases h1 : i < W1.length <;> by_cases h2 : j < W1.length
      · rw [List.getElem?_append_left h1] at hi
        rw [List.getElem?_append_left h2] at hj
        exact hD1.1 i j x y hi hj hxy
      · rw [List.getElem?_append_left h1] at hi
        rw [List.getElem?_append_right (by omega)] at hj
        have := hle _ _ hi
        have := hr _ _ hj
        omega
      · rw [List.getElem?_append_right (by omega)] at hi
        rw [List.getElem?_append_left h2] at hj
        have := hle _ _ hj
        have := hr _ _ hi
        omega
      · rw [List.getElem?_append_right (by omega)] at hi hj
        have := hr _ _ hi
        have := hr _ _ hj
        omega
    · by_cases h1 : k9 < W1.length
      · rw [List.getElem?_append_left h1] at hx
        exact hD1.2 k9 x hx
      · rw [List.getElem?_append_right (by omega)] at hx
        have := hr _ _ hx
        exact hA _ (by have := hS.1; omega)
  have hAr : ArrOfT s cA (.array ty) := fun N9 z9 => by
    obtain ⟨-, k9, hk9, cm9, hkk9⟩ := (hO 0 0 0).1
    exact ⟨(fun q hq => by cases hq), k9, hk9, cm9, hkk9⟩
  have hK2 : va_K D cl (tys ++ [(cA, .array ty)]) s := ⟨hK.1, fun k9 x hx => by
    by_cases hl : k9 < tys.length
    · rw [List.getElem?_append_left hl] at hx
      exact hK.2 k9 x hx
    · rw [List.getElem?_append_right (by omega)] at hx
      have h0 : k9 - tys.length < 1 := (List.getElem?_eq_some_iff.mp hx).1
      rw [show k9 - tys.length = 0 by omega] at hx
      cases hx
      exact ⟨hAr, fA⟩⟩
  obtain ⟨t, a1, b1⟩ := kk H.size (fun i => H.size + 1 + i) cA F.heap (fun i j _ _ h => by have h9 : H.size + 1 + i = H.size + 1 + j := h; omega) hnl hK2 (by rw [← vr_rows hnm]; exact vr_lay hP2) (by rw [← vr_rows hnm]; exact vr_layD hD2) ⟨by rw [f1]; have := hS.1; omega, fun x h1 h2 => (hold x (Nat.lt_of_lt_of_le h1 hS.1)).trans (hS.2.1 x h1 h2), hS.2.2⟩ F rfl X'
  refine ⟨t, step t ?_, b1⟩
  have e : T.heap.size = H.size := by rw [hT]
  rw [e]
  exact a1
end VGM
/-! ===== END ===== -/

/-! ===== BEGIN exceptions that leave a method, and their catching by the caller (launches without stack traces) ===== -/
section VXA
/-! The laws vx_back, vx_callV, vx_callS, vx_callSW, vx_throw0, vx_throwS follow proofs of the library, with one case more: JvmDerived/Free/Laws.lean (Back.of_free), Shelf42/LK1.lean (callV, callS), Shelf/KitTraced.lean (throwNew0V, throwNewS). -/
/-- where a method has thrown q: the class by its name, the cell, what was written, the world -/
def vx_T (XC : String → State → State → Prop) (st : State) (q : Addr) (t : State) (mc ms : Nat) (free : Addr → Prop) : Prop :=
  ∃ (E : String) (ce : Cell) (L : List Loc), XC E st t ∧ t.heap[q]? = some ce ∧ ce.vm = .none ∧ st.vm.findClass E = some ce.cls ∧ st.WarmedH t.vm ∧ st.sameButNew ({ t with vm := st.vm } : State) L mc ms ∧ ∀ z ∈ L, free z.base
def vx_Q (Qc : Array Value → State → Outcome → State → Prop) (XC : String → State → State → Prop) (mc ms : Nat) (free : Addr → Prop) : Array Value → State → Outcome → State → Prop := fun a st o t =>
  (Qc a st o t ∧ ∃ L, FrameEnd st o t L mc ms ∧ ∀ q ∈ L, free q.base) ∨ ∃ q, o = .threw q ∧ vx_T XC st q t mc ms free
/-- a callee that returns or throws -/
def vx_Met (l : Launch) (y : MethodName) (ws : List Cond) (rm : Room) (Pc : Array Value → State → Prop) (Qc : Array Value → State → Outcome → State → Prop) (XC : String → State → State → Prop) (mc ms : Nat) (free : Addr → Prop) : Prop :=
  MetFree l y (headSpec ws rm) Pc (fun _ _ _ _ _ => True) (vx_Q Qc XC mc ms free)
def vx_Post (XC : String → State → State → Prop) (mc ms : Nat) (free : Addr → Prop) : Pt → Array Value → Addr → Pt → Prop := fun A a q B =>
  ∃ (g : JFrame) (mk : MethodId) (t : State) (L : List Loc) (E : String) (ce : Cell), B.U.heap = t.heap ∧ B.U.vm = t.vm ∧ XC E (A.U.calling g mk a) t ∧ t.heap[q]? = some ce ∧ ce.vm = .none ∧ A.U.vm.findClass E = some ce.cls ∧ B.locs = A.locs ++ L ∧ (∀ z ∈ L, free z.base) ∧ B.cells = A.cells + mc ∧ B.slots = A.slots + ms
def vx_Back (l : Launch) (R : Room) (p : Program) (e : Env) (below : List Frame) (s : State) (sargs : Array Value) (y : MethodName) (len W9 : Nat)
    (Pre : Pt → Array Value → Prop) (Post : Pt → Array Value → Option Value → Pt → Prop) (PostX : Pt → Array Value → Addr → Pt → Prop) : Prop :=
  ∀ (m : MethodId) (meth : Method) (c : Code) (A : Pt) (g : JFrame) (ig : Instr) (mk : MethodId) (a : Array Value),
    Stand p l e R s m sargs below meth c A.U A.locs A.cells A.slots → g.method = m → g.locals.size = c.maxLocals → decode c.code g.pc = .ok (ig, len) →
    2 * g.monitorRoom + (g.stack.map fun v => v.category).sum ≤ W9 → A.U.methodNamed? y = some mk → Pre A a →
    (∃ (v : Option Value) (B : Pt), Stand p l e R s m sargs below meth c B.U B.locs B.cells B.slots ∧ Post A a v B ∧
      Steps p.tables e below (doInvoke e (A.U.setTop g) [] mk a).1 (B.U.setTop { g with pc := g.pc + len, stack := v.toList ++ g.stack })) ∨
    (∃ (q : Addr) (B : Pt), Stand p l e R s m sargs below meth c B.U B.locs B.cells B.slots ∧ PostX A a q B ∧
      Steps p.tables e below (doInvoke e (A.U.setTop g) [] mk a).1 ((B.U.setTop g).pushFrame (.throwing q)))
section Payer
variable {l : Launch} {R : Room} {p : Program} {e : Env} {below : List Frame} {s : State} {sargs : Array Value} {y : MethodName} {len W9 : Nat}
theorem vx_back {ws : List Cond} {rm : Room} {Pc : Array Value → State → Prop} {Qc : Array Value → State → Outcome → State → Prop} {XC : String → State → State → Prop} {mc ms : Nat} {free : Addr → Prop} {bytes : ByteArray} {maxL : Nat} {ret : Option FieldType}
    (hM : vx_Met l y ws rm Pc Qc XC mc ms free) (hblind : FrameBlind Pc) (hrc : rm.cells = mc) (hrs : rm.slots = ms)
    (hframes : rm.frames + 1 ≤ R.frames) (hlocals : W9 + (maxL + 11) + rm.locals ≤ R.locals)
    (hws : ∀ w ∈ ws, ∀ a' U, s.WarmedH U.vm → w.before a' U = true) (hcode : Cond.code y bytes maxL ret ∈ ws) (hinit : ∀ a' U, s.WarmedH U.vm → (Cond.initialized y.cls).before a' U = true) :
    vx_Back l R p e below s sargs y len W9 (PreOf R mc ms Pc) (PostOf Qc mc ms free) (vx_Post XC mc ms free) := by
  intro m meth c A g ig mk a X hg hsize hdg hW hn hp
  have h1 : (headSpec ws rm).pre.before a A.U = true := atoms_intro fun w hw => hws w hw _ _ X.warmed
  have h2 : (Cond.code y bytes maxL ret).before a A.U = true := hws _ hcode _ _ X.warmed
  have h3 : (Cond.initialized y.cls).before a A.U = true := hinit _ _ X.warmed
  have h4 : A.cells + (headSpec ws rm).room.cells ≤ R.cells := by rw [show (headSpec ws rm).room.cells = mc from hrc]; exact hp.1
  have h5 : A.slots + (headSpec ws rm).room.slots ≤ R.slots := by rw [show (headSpec ws rm).room.slots = ms from hrs]; exact hp.2.1
  have hPc : Pc a (A.U.calling g mk a) := hblind _ _ _ _ hp.2.2
  obtain ⟨U, Ls, c0, s0⟩ := A
  dsimp only [Pt.U, Pt.locs, Pt.cells, Pt.slots] at h1 h2 h3 h4 h5 X hn hPc ⊢
  obtain ⟨methY, cY, hmY, hcY, -, hlY, -, -, -, -⟩ := Cond.code_spec hn h2
  obtain ⟨kY, hkY, -⟩ := className_of_methodNamed hn
  have hinitY : kY.init = .initialized := Cond.initialized_spec (findClass_of_methodNamed hn) hkY h3
  have h : At U g.method c below := by rw [hg]; exact X.here
  have hlocals9 : W9 + (maxL + 11) + (headSpec ws rm).room.locals ≤ R.locals := hlocals
  have happ : (headSpec ws rm).appliesLoose y e.platform (U.calling g mk a) = true :=
    Spec.appliesLoose_calling (g := g) h hdg hn hkY hinitY
      (X.room_calling (g := g) (R' := (headSpec ws rm).room) hsize hmY hcY hframes (by rw [hlY]; omega) h4 h5) h1
  obtain ⟨mid, hmid⟩ := h.above
  have hfr : (U.setTop g).frames = (.java g :: mid) ++ below := by rw [State.frames_setTop' g h.top, hmid]; rfl
  obtain ⟨o, s₂, hsteps, -, hend, hq⟩ := Steps.callFree hM p X.admits X.cas X.clock (acts := []) hfr happ hPc trivial
  have hq' : vx_Q Qc XC mc ms free a (U.calling g mk a) o s₂ := hq
  rw [State.frames_setTop' g h.top] at hend
  obtain ⟨g₀, hg0⟩ := Option.isSome_iff_exists.mp h.top
  obtain ⟨r, hr⟩ := State.topJava?_eq_some.mp hg0
  have hr' : (({ U with heap := s₂.heap, slotsUsed := s₂.slotsUsed } : State).setVm s₂.vm).frames = .java g₀ :: r := hr
  rcases hq' with ⟨hqc, L, hfe, hL⟩ | ⟨q, rfl, E, ce, L, hx, hce, hcv, hcl, hW₂, hsm, hL⟩
  · obtain ⟨⟨v, rfl⟩, hW₂, e2, q2, q3, q4, q5, q6⟩ := id hfe
    have e3 : s₂ = ({ (U.calling g mk a).setFrames s₂.frames with heap := s₂.heap, slotsUsed := s₂.slotsUsed } : State).setVm s₂.vm := by
      have : s₂ = ({ s₂ with vm := (U.calling g mk a).vm } : State).setVm s₂.vm := rfl
      rw [e2] at this
      exact this
    obtain ⟨c₂, i₂, len₂, hc₂, hd₂, hf₂⟩ := hend
    have hW' : U.WarmedH s₂.vm := hW₂
    have hcc : c₂ = c := by
      have h1 : s₂.code? g.method = U.code? g.method := by
        rw [State.code?_eq, State.code?_eq, hW'.alike.method?]
      exact Option.some.inj (hc₂.symm.trans (h1.trans h.code))
    subst hcc
    have hlen : len₂ = len := by rw [hdg] at hd₂; cases hd₂; rfl
    subst hlen
    have hs₂ : s₂ = (({ U with heap := s₂.heap, slotsUsed := s₂.slotsUsed } : State).setVm s₂.vm).setTop { g with pc := g.pc + len₂, stack := v.toList ++ g.stack } := by
      refine e3.trans ?_
      rw [hf₂, State.calling_eq h.top, State.setFrames_setFrames, State.setTop_of_frames _ hr', hr]
      rfl
    have hsame : U.sameButNew ({ U with heap := s₂.heap, slotsUsed := s₂.slotsUsed } : State) L mc ms := by
      refine ⟨?_, q2, q3, q4, q5, q6⟩
      obtain ⟨t, ht, -⟩ := State.frames_cons hr
      show ({ U with heap := s₂.heap, slotsUsed := s₂.slotsUsed } : State) = { U.setFrames U.frames with heap := s₂.heap, slotsUsed := s₂.slotsUsed }
      rw [State.setFrames_self ht]
    subst hg
    refine Or.inl ⟨v, ⟨(({ U with heap := s₂.heap, slotsUsed := s₂.slotsUsed } : State).setVm s₂.vm), Ls ++ L, c0 + mc, s0 + ms⟩,
      ⟨X.admits, X.cas, X.clock, X.frames, X.room, X.hears, X.method, X.code, (X.here.setHeapUsed s₂.heap s₂.slotsUsed).setVm hW'.alike, X.tail, State.WarmedH.trans X.warmed hW', X.limits, X.bytes, X.same.trans (hsame.setVm s.vm)⟩,
      ⟨g, mk, s₂, L, rfl, rfl, hqc, rfl, hL, rfl, rfl⟩, ?_⟩
    show Steps p.tables e below _ ((({ U with heap := s₂.heap, slotsUsed := s₂.slotsUsed } : State).setVm s₂.vm).setTop { g with pc := g.pc + len₂, stack := v.toList ++ g.stack })
    rw [← hs₂]
    exact hsteps
  · obtain ⟨e2, q2, q3, q4, q5, q6⟩ := id hsm
    have e3 : s₂ = ({ (U.calling g mk a).setFrames s₂.frames with heap := s₂.heap, slotsUsed := s₂.slotsUsed } : State).setVm s₂.vm := by
      have : s₂ = ({ s₂ with vm := (U.calling g mk a).vm } : State).setVm s₂.vm := rfl
      rw [e2] at this
      exact this
    have hf₂ : s₂.frames = .throwing q :: .java g :: U.frames.tail := hend
    have hW' : U.WarmedH s₂.vm := hW₂
    have hs₂ : s₂ = ((({ U with heap := s₂.heap, slotsUsed := s₂.slotsUsed } : State).setVm s₂.vm).setTop g).pushFrame (.throwing q) := by
      refine e3.trans ?_
      rw [hf₂, State.calling_eq h.top, State.setFrames_setFrames, State.pushFrame, State.frames_setTop _ hr', State.setTop_of_frames _ hr', State.setFrames_setFrames, hr]
      rfl
    have hsame : U.sameButNew ({ U with heap := s₂.heap, slotsUsed := s₂.slotsUsed } : State) L mc ms := by
      refine ⟨?_, q2, q3, q4, q5, q6⟩
      obtain ⟨t, ht, -⟩ := State.frames_cons hr
      show ({ U with heap := s₂.heap, slotsUsed := s₂.slotsUsed } : State) = { U.setFrames U.frames with heap := s₂.heap, slotsUsed := s₂.slotsUsed }
      rw [State.setFrames_self ht]
    subst hg
    refine Or.inr ⟨q, ⟨(({ U with heap := s₂.heap, slotsUsed := s₂.slotsUsed } : State).setVm s₂.vm), Ls ++ L, c0 + mc, s0 + ms⟩,
      ⟨X.admits, X.cas, X.clock, X.frames, X.room, X.hears, X.method, X.code, (X.here.setHeapUsed s₂.heap s₂.slotsUsed).setVm hW'.alike, X.tail, State.WarmedH.trans X.warmed hW', X.limits, X.bytes, X.same.trans (hsame.setVm s.vm)⟩,
      ⟨g, mk, s₂, L, E, ce, rfl, rfl, hx, hce, hcv, hcl, rfl, hL, rfl, rfl⟩, ?_⟩
    show Steps p.tables e below _ (((({ U with heap := s₂.heap, slotsUsed := s₂.slotsUsed } : State).setVm s₂.vm).setTop g).pushFrame (.throwing q))
    rw [← hs₂]
    exact hsteps
end Payer
section Calls
variable {p : Program} {l : Launch} {e : Env} {R : Room} {s : State} {m : MethodId} {args : Array Value} {below : List Frame} {meth : Method} {c : Code} {T : State} {locs : List Loc} {cells slots : Nat}
theorem vx_callV (X : Stand p l e R s m args below meth c T locs cells slots) (hexec : p.tables.exec = Jvm.exec) {own C : String} {index : Nat} {y : MethodName} {bytes : ByteArray} {maxL : Nat} {ret : Option FieldType}
    (hown : s.vm.findClass own = some m.cls) (hlink : (Cond.methodLink own index y).before args s = true) (hinst : (Cond.instanceMethod y).before args s = true) (hsel : (Cond.selects C y y).before args s = true)
    (hcode : (Cond.code y bytes maxL ret).before args s = true) (hy : y.cls ≠ "java/lang/invoke/MethodHandle" ∧ y.cls ≠ "java/lang/invoke/VarHandle")
    {W9 : Nat} {Pre : Pt → Array Value → Prop} {Post : Pt → Array Value → Option Value → Pt → Prop} {PostX : Pt → Array Value → Addr → Pt → Prop} (hK : vx_Back l R p e below s args y 3 W9 Pre Post PostX)
    {b : Addr} {cellB : Cell} (hcell : T.heap[b]? = some cellB) (hobj : cellB.vm.isStatics = false) (hcls : s.vm.findClass C = some cellB.cls)
    {g : JFrame} (hg : g.method = m) (hsize : g.locals.size = c.maxLocals) {argsL rest : List Value} (hlen : ∀ sig, parseMethodDescriptor y.desc = some sig → argsL.length = sig.parameters.length)
    (hstack : g.stack = argsL.reverse ++ .ref b :: rest) (hW : 2 * g.monitorRoom + (rest.map fun v => v.category).sum ≤ W9) (hdg : decode c.code g.pc = .ok (.invokevirtual index, 3))
    (hpre : ∀ vm₁, s.WarmedH vm₁ → Pre ⟨T.setVm vm₁, locs, cells, slots⟩ (Value.ref b :: argsL).toArray) :
    (∃ (v : Option Value) (vm₁ : Vm) (B : Pt), s.WarmedH vm₁ ∧ Stand p l e R s m args below meth c B.U B.locs B.cells B.slots ∧ Post ⟨T.setVm vm₁, locs, cells, slots⟩ (Value.ref b :: argsL).toArray v B ∧
      ∀ target, Steps p.tables e below (B.U.setTop { g with pc := g.pc + 3, stack := v.toList ++ rest }) target → Steps p.tables e below (T.setTop g) target) ∨
    (∃ (q : Addr) (vm₁ : Vm) (B : Pt), s.WarmedH vm₁ ∧ Stand p l e R s m args below meth c B.U B.locs B.cells B.slots ∧ PostX ⟨T.setVm vm₁, locs, cells, slots⟩ (Value.ref b :: argsL).toArray q B ∧
      Steps p.tables e below (T.setTop g) ((B.U.setTop { g with stack := rest }).pushFrame (.throwing q))) := by
  obtain ⟨mk, methM, hnamed, hmethM, hstM, habM⟩ := Cond.instanceMethod_spec hinst
  obtain ⟨methM', cM, hmethM', -, -, -, -, -, -, hsigM⟩ := Cond.code_spec hnamed hcode
  cases hmethM.symm.trans hmethM'
  obtain ⟨c2, r2, m2, q1, q2, q3, q4, kP, hkP, hkPi⟩ := Cond.selects_spec hsel
  cases hcls.symm.trans q1
  cases (State.methodFound?_of_named hnamed hy).symm.trans q2
  cases hnamed.symm.trans q3
  have hselP : selectMethod e.platform s.vm cellB.cls mk = .method mk := by rw [Launch.admits_selectMethod X.admits]; exact q4
  obtain ⟨vm₁, X₁, hstep₁⟩ := X.invokevirtual hexec hown hlink hnamed hmethM hstM hkP hkPi hy (a := b) (cell := cellB) hcell
    (fun z h => by rw [h] at hobj; cases hobj) hselP hmethM habM hkP hkPi (g := g) hg (argsL := argsL) (rest := rest) (hlen _ hsigM) hstack hdg
  rcases hK m meth c ⟨T.setVm vm₁, locs, cells, slots⟩ { g with stack := rest } (.invokevirtual index) mk (Value.ref b :: argsL).toArray X₁ hg hsize hdg hW (X₁.named hnamed) (hpre vm₁ X₁.warmed) with ⟨v, B, X', hpost, hsteps⟩ | ⟨q, B, X', hpost, hsteps⟩
  · exact Or.inl ⟨v, vm₁, B, X₁.warmed, X', hpost, fun target h => hstep₁ _ fun acts => by rw [doInvoke_state]; exact hsteps.trans h⟩
  · exact Or.inr ⟨q, vm₁, B, X₁.warmed, X', hpost, hstep₁ _ fun acts => by rw [doInvoke_state]; exact hsteps⟩
theorem vx_callS (X : Stand p l e R s m args below meth c T locs cells slots) (hexec : p.tables.exec = Jvm.exec) {own : String} {index : Nat} {y : MethodName} {bytes : ByteArray} {maxL : Nat} {ret : Option FieldType}
    (hown : s.vm.findClass own = some m.cls) (hlink : (Cond.methodLink own index y).before args s = true) (hstat : (Cond.static y).before args s = true) (hinit : (Cond.initialized y.cls).before args s = true)
    (hcode : (Cond.code y bytes maxL ret).before args s = true) (hy : y.cls ≠ "java/lang/invoke/MethodHandle" ∧ y.cls ≠ "java/lang/invoke/VarHandle")
    {W9 : Nat} {Pre : Pt → Array Value → Prop} {Post : Pt → Array Value → Option Value → Pt → Prop} {PostX : Pt → Array Value → Addr → Pt → Prop} (hK : vx_Back l R p e below s args y 3 W9 Pre Post PostX)
    {g : JFrame} (hg : g.method = m) (hsize : g.locals.size = c.maxLocals) {argsL rest : List Value} (hlen : ∀ sig, parseMethodDescriptor y.desc = some sig → argsL.length = sig.parameters.length)
    (hstack : g.stack = argsL.reverse ++ rest) (hW : 2 * g.monitorRoom + (rest.map fun v => v.category).sum ≤ W9) (hdg : decode c.code g.pc = .ok (.invokestatic index, 3))
    (hpre : ∀ vm₁, s.WarmedH vm₁ → Pre ⟨T.setVm vm₁, locs, cells, slots⟩ argsL.toArray) :
    (∃ (v : Option Value) (vm₁ : Vm) (B : Pt), s.WarmedH vm₁ ∧ Stand p l e R s m args below meth c B.U B.locs B.cells B.slots ∧ Post ⟨T.setVm vm₁, locs, cells, slots⟩ argsL.toArray v B ∧
      ∀ target, Steps p.tables e below (B.U.setTop { g with pc := g.pc + 3, stack := v.toList ++ rest }) target → Steps p.tables e below (T.setTop g) target) ∨
    (∃ (q : Addr) (vm₁ : Vm) (B : Pt), s.WarmedH vm₁ ∧ Stand p l e R s m args below meth c B.U B.locs B.cells B.slots ∧ PostX ⟨T.setVm vm₁, locs, cells, slots⟩ argsL.toArray q B ∧
      Steps p.tables e below (T.setTop g) ((B.U.setTop { g with stack := rest }).pushFrame (.throwing q))) := by
  obtain ⟨mk, hnamed⟩ := Cond.code_named hcode
  obtain ⟨methM, cM, hmethM, -, -, -, -, -, -, hsigM⟩ := Cond.code_spec hnamed hcode
  have hstatic : methM.isStatic = true := Cond.static_spec hnamed hmethM hstat
  obtain ⟨kP, hkP, -⟩ := className_of_methodNamed hnamed
  have hinitP : kP.init = .initialized := Cond.initialized_spec (findClass_of_methodNamed hnamed) hkP hinit
  obtain ⟨vm₁, X₁, hstep₁⟩ := X.invokestatic hexec hown hlink hnamed hmethM hstatic hkP hinitP hy (g := g) hg (argsL := argsL) (rest := rest) (hlen _ hsigM) hstack hdg
  rcases hK m meth c ⟨T.setVm vm₁, locs, cells, slots⟩ { g with stack := rest } (.invokestatic index) mk argsL.toArray X₁ hg hsize hdg hW (X₁.named hnamed) (hpre vm₁ X₁.warmed) with ⟨v, B, X', hpost, hsteps⟩ | ⟨q, B, X', hpost, hsteps⟩
  · exact Or.inl ⟨v, vm₁, B, X₁.warmed, X', hpost, fun target h => hstep₁ _ fun acts => by rw [doInvoke_state]; exact hsteps.trans h⟩
  · exact Or.inr ⟨q, vm₁, B, X₁.warmed, X', hpost, hstep₁ _ fun acts => by rw [doInvoke_state]; exact hsteps⟩
end Calls
theorem vx_cls {s : State} {T : State} {vm₁ : Vm} {E : String} {k : ClassId} (hW : s.WarmedH vm₁) (h : (T.setVm vm₁).vm.findClass E = some k) : s.vm.findClass E = some k := by
  have h1 : vm₁.findClass E = some k := h
  rw [hW.alike.findClass] at h1
  exact h1
/-- the method's frame g, with q thrown over it -/
def vx_W (p : Program) (l : Launch) (e : Env) (R : Room) (s : State) (m : MethodId) (args : Array Value) (below : List Frame) (meth : Method) (c : Code) (H : Heap) (locs : List Loc) (cells slots : Nat) (Q : State → Prop) (g : JFrame) (q : Addr) : Prop :=
  ∀ T : State, T.heap = H → Stand p l e R s m args below meth c T locs cells slots → ∃ t, Steps p.tables e below ((T.setTop g).pushFrame (.throwing q)) t ∧ Q t
def vx_Run (p : Program) (l : Launch) (e : Env) (R : Room) (s : State) (m : MethodId) (args : Array Value) (below : List Frame) (meth : Method) (c : Code) (H : Heap) (locs : List Loc) (cells slots mc ms : Nat) (g : JFrame) (rest : List Value) (Qa : State → Outcome → State → Prop) (XC : String → State → State → Prop) (free : Addr → Prop) : Prop :=
  ∀ T : State, T.heap = H → Stand p l e R s m args below meth c T locs cells slots →
    (∃ (v : Option Value) (st₀ t T' : State) (L : List Loc), st₀.heap = H ∧ Stand p l e R s m args below meth c T' (locs ++ L) (cells + mc) (slots + ms) ∧ (∀ q ∈ L, free q.base) ∧ T'.heap = t.heap ∧ T'.vm = t.vm ∧ Qa st₀ (.returned v) t ∧
      Goes p e below T g T' { g with pc := g.pc + 3, stack := v.toList ++ rest }) ∨
    (∃ (q : Addr) (st₀ t T' : State) (L : List Loc) (E : String) (ce : Cell), st₀.heap = H ∧ Stand p l e R s m args below meth c T' (locs ++ L) (cells + mc) (slots + ms) ∧ (∀ z ∈ L, free z.base) ∧ T'.heap = t.heap ∧ T'.vm = t.vm ∧ XC E st₀ t ∧ t.heap[q]? = some ce ∧ ce.vm = .none ∧ s.vm.findClass E = some ce.cls ∧
      Steps p.tables e below (T.setTop g) ((T'.setTop { g with stack := rest }).pushFrame (.throwing q)))
def vx_X {S : Type} (px : S → Prop) (B : String → S → State → Prop) (A : Nat → Prop) : String → State → State → Prop := fun E st t => ∃ u : S, px u ∧ B E u t ∧ va_F A st t
section Runs
variable {p : Program} {l : Launch} {e : Env} {R : Room} {s : State} {m : MethodId} {args : Array Value} {below : List Frame} {meth : Method} {c : Code} {H : Heap} {locs : List Loc} {cells slots : Nat}
variable {y : MethodName} {bytes cc : ByteArray} {maxL nL mc ms n index : Nat} {ret : Option FieldType} {ws : List Cond} {rm : Room} {Pc : Array Value → State → Prop} {Qc : Array Value → State → Outcome → State → Prop} {XC : String → State → State → Prop} {free : Addr → Prop} {Ts : List Cond} {own C : String} {b : Addr} {As rest : List Value} {g : JFrame}
theorem vx_callBack (cb : CallB R s args own index y bytes maxL ret ws rm mc ms n) (hM : vx_Met l y ws rm Pc Qc XC mc ms free) (hbl : FrameBlind Pc) : vx_Back l R p e below s args y 3 8 (PreOf R mc ms Pc) (PostOf Qc mc ms free) (vx_Post XC mc ms free) := by
  obtain ⟨hrc, hrs, hfr, hlo, hws, hcw, -, hini, -⟩ := cb
  exact vx_back (bytes := bytes) (maxL := maxL) (ret := ret) hM hbl hrc hrs hfr hlo hws hcw (fun a' U hW => word_at hW (Or.inl (by first | rfl | simp [Cond.onTables, Cond.keeps, Cond.steady])) hini)
theorem vx_runV (S : CallFix p m c cc nL s args Ts own) (hM : vx_Met l y ws rm Pc Qc XC mc ms free) (cw : CallW R s args own C index y bytes maxL ret ws rm mc ms n) (hp : PreV s H C b Pc As)
    (hg : g.method = m) (hn : As.length = n) (hsize : g.locals.size = nL) (hstack : g.stack = As.reverse ++ .ref b :: rest) (hW : 2 * g.monitorRoom + (rest.map fun v => v.category).sum ≤ 8) (hdg : decode cc g.pc = .ok (.invokevirtual index, 3)) (hf : cells + mc ≤ R.cells ∧ slots + ms ≤ R.slots) :
    vx_Run p l e R s m args below meth c H locs cells slots mc ms g rest (Qc (Value.ref b :: As).toArray) XC free := by
  have hK : vx_Back l R p e below s args y 3 8 (PreOf R mc ms Pc) (PostOf Qc mc ms free) (vx_Post XC mc ms free) := vx_callBack cw.1 hM hp.1
  obtain ⟨⟨-, -, -, -, -, -, hcode, -, hy, hlen, hl⟩, hin, hse⟩ := cw
  obtain ⟨hx, hb, hml, ho, -⟩ := S
  obtain ⟨-, ⟨cellB, hcB, hoB, hclB⟩, hPc⟩ := hp
  intro T hT X
  rcases vx_callV X hx (C := C) (bytes := bytes) (maxL := maxL) (ret := ret) ho hl hin hse hcode hy hK (by rw [hT]; exact hcB) hoB hclB hg (hsize.trans hml.symm) (argsL := As) (rest := rest) (fun sig h => hn.trans (hlen sig h)) hstack hW (by rw [hb]; exact hdg)
    (fun vm₁ hW₁ => ⟨hf.1, hf.2, hPc (T.setVm vm₁) hT hW₁⟩) with ⟨v, vm₁, ⟨U', l2, c2, s2⟩, hW₁, X', ⟨g', mk, t, L, e1, e2, hq, h1, hL, h2, h3⟩, st⟩ | ⟨q, vm₁, ⟨U', l2, c2, s2⟩, hW₁, X', ⟨g', mk, t, L, E, ce, e1, e2, hq, hce, hcv, hcl, h1, hL, h2, h3⟩, st⟩
  · dsimp only [Pt.U, Pt.locs, Pt.cells, Pt.slots] at X' e1 e2 h1 h2 h3 st
    subst h1; subst h2; subst h3
    exact Or.inl ⟨v, (T.setVm vm₁).calling g' mk (Value.ref b :: As).toArray, t, U', L, hT, X', hL, e1, e2, hq, st⟩
  · dsimp only [Pt.U, Pt.locs, Pt.cells, Pt.slots] at X' e1 e2 h1 h2 h3 st hcl
    subst h1; subst h2; subst h3
    exact Or.inr ⟨q, (T.setVm vm₁).calling g' mk (Value.ref b :: As).toArray, t, U', L, E, ce, hT, X', hL, e1, e2, hq, hce, hcv, vx_cls hW₁ hcl, st⟩
theorem vx_runS (S : CallFix p m c cc nL s args Ts own) (hM : vx_Met l y ws rm Pc Qc XC mc ms free) (cw : CallB R s args own index y bytes maxL ret ws rm mc ms n ∧ (Cond.static y).before args s = true) (hp : PreS s H Pc As)
    (hg : g.method = m) (hn : As.length = n) (hsize : g.locals.size = nL) (hstack : g.stack = As.reverse ++ rest) (hW : 2 * g.monitorRoom + (rest.map fun v => v.category).sum ≤ 8) (hdg : decode cc g.pc = .ok (.invokestatic index, 3)) (hf : cells + mc ≤ R.cells ∧ slots + ms ≤ R.slots) :
    vx_Run p l e R s m args below meth c H locs cells slots mc ms g rest (Qc As.toArray) XC free := by
  have hK : vx_Back l R p e below s args y 3 8 (PreOf R mc ms Pc) (PostOf Qc mc ms free) (vx_Post XC mc ms free) := vx_callBack cw.1 hM hp.1
  obtain ⟨⟨-, -, -, -, -, -, hcode, hini, hy, hlen, hl⟩, hstt⟩ := cw
  obtain ⟨hx, hb, hml, ho, -⟩ := S
  intro T hT X
  rcases vx_callS X hx (bytes := bytes) (maxL := maxL) (ret := ret) ho hl hstt hini hcode hy hK hg (hsize.trans hml.symm) (argsL := As) (rest := rest) (fun sig h => hn.trans (hlen sig h)) hstack hW (by rw [hb]; exact hdg)
    (fun vm₁ hW₁ => ⟨hf.1, hf.2, hp.2 (T.setVm vm₁) hT hW₁⟩) with ⟨v, vm₁, ⟨U', l2, c2, s2⟩, hW₁, X', ⟨g', mk, t, L, e1, e2, hq, h1, hL, h2, h3⟩, st⟩ | ⟨q, vm₁, ⟨U', l2, c2, s2⟩, hW₁, X', ⟨g', mk, t, L, E, ce, e1, e2, hq, hce, hcv, hcl, h1, hL, h2, h3⟩, st⟩
  · dsimp only [Pt.U, Pt.locs, Pt.cells, Pt.slots] at X' e1 e2 h1 h2 h3 st
    subst h1; subst h2; subst h3
    exact Or.inl ⟨v, (T.setVm vm₁).calling g' mk As.toArray, t, U', L, hT, X', hL, e1, e2, hq, st⟩
  · dsimp only [Pt.U, Pt.locs, Pt.cells, Pt.slots] at X' e1 e2 h1 h2 h3 st hcl
    subst h1; subst h2; subst h3
    exact Or.inr ⟨q, (T.setVm vm₁).calling g' mk As.toArray, t, U', L, E, ce, hT, X', hL, e1, e2, hq, hce, hcv, vx_cls hW₁ hcl, st⟩
end Runs
section Rows
variable {p : Program} {l : Launch} {e : Env} {R : Room} {s : State} {m : MethodId} {args : Array Value} {below : List Frame} {meth : Method} {c : Code} {H : Heap} {locs : List Loc} {cells slots : Nat} {Q : State → Prop}
variable {mc ms : Nat} {free : Addr → Prop} {A0 A1 : Nat → Prop} {H0 : Heap} {a : Array Value} {pc : Nat} {ls : Array Slot} {st0 rest : List Value}
theorem vx_keep {st₀ t T' : State} {L : List Loc} (h0 : st₀.heap = H) (e1 : T'.heap = t.heap) (hS : va_S A0 H0 H locs) (hA : ∀ q, q < H.size → A1 q → A0 q) (hf : ∀ q, free q → A0 q) (hL : ∀ q ∈ L, free q.base) (hF : va_F A1 st₀ t) :
    H.size ≤ T'.heap.size ∧ (∀ q : Nat, q < H.size → ¬ A1 q → T'.heap[q]? = H[q]?) ∧ va_S A0 H0 T'.heap (locs ++ L) := by
  obtain ⟨hz, hk⟩ := hF
  rw [h0] at hz hk
  exact ⟨by rw [e1]; exact hz, fun q h1 h2 => by rw [e1]; exact hk q h1 h2,
    ⟨Nat.le_trans hS.1 (by rw [e1]; exact hz), fun q h1 h2 => by rw [e1, hk q (Nat.lt_of_lt_of_le h1 hS.1) (fun z => h2 (hA q (Nat.lt_of_lt_of_le h1 hS.1) z))]; exact hS.2.1 q h1 h2, fun q hq => by
      rcases List.mem_append.mp hq with h | h
      · exact hS.2.2 q h
      · exact hf _ (hL q h)⟩⟩
theorem vx_calli {S SX : Type} {post : Int32 → S → Prop} {px : SX → Prop} {B : S → State → Prop} {BX : String → SX → State → Prop} {AX : Nat → Prop} (hr : vx_Run p l e R s m args below meth c H locs cells slots mc ms (F0 m pc ls st0) rest (va_Qi post B A1 a) (vx_X px BX AX) free) (hS : va_S A0 H0 H locs) (hA : ∀ q, q < H.size → A1 q → A0 q) (hf : ∀ q, free q → A0 q) (hAX : ∀ q, q < H.size → AX q → A0 q)
    (kx : ∀ (E : String) (ce : Cell) (q9 : Addr) (u : SX) (t : State) (H1 : Heap) (locs1 : List Loc), t.heap = H1 → s.vm.Alike t.vm → px u → BX E u t → H.size ≤ H1.size → (∀ q : Nat, q < H.size → ¬ AX q → H1[q]? = H[q]?) → va_S A0 H0 H1 locs1 → H1[q9]? = some ce → ce.vm = .none → s.vm.findClass E = some ce.cls → vx_W p l e R s m args below meth c H1 locs1 (cells + mc) (slots + ms) Q (F0 m pc ls rest) q9)
    (kk : ∀ (r : Int32) (u : S) (t : State) (H1 : Heap) (locs1 : List Loc), t.heap = H1 → s.vm.Alike t.vm → post r u → B u t → H.size ≤ H1.size → (∀ q : Nat, q < H.size → ¬ A1 q → H1[q]? = H[q]?) → va_S A0 H0 H1 locs1 → W p l e R s m args below meth c H1 locs1 (cells + mc) (slots + ms) Q (F0 m (pc + 3) ls (.int r :: rest))) : W p l e R s m args below meth c H locs cells slots Q (F0 m pc ls st0) := by
  intro T hT X
  rcases hr T hT X with ⟨v, st₀, t, T', L, h0, X', hL, e1, e2, ⟨⟨r, u, hv, hp, hb⟩, hF⟩, st⟩ | ⟨q, st₀, t, T', L, E, ce, h0, X', hL, e1, e2, ⟨u, hp, hb, hF⟩, hce, hcv, hcl, st⟩
  · cases hv
    obtain ⟨k1, k2, k3⟩ := vx_keep h0 e1 hS hA hf hL hF
    obtain ⟨t2, a1, b1⟩ := kk r u t T'.heap (locs ++ L) e1.symm (by rw [← e2]; exact X'.warmed.alike) hp hb k1 k2 k3 T' rfl X'
    exact ⟨t2, st t2 a1, b1⟩
  · obtain ⟨k1, k2, k3⟩ := vx_keep h0 e1 hS hAX hf hL hF
    obtain ⟨t2, a1, b1⟩ := kx E ce q u t T'.heap (locs ++ L) e1.symm (by rw [← e2]; exact X'.warmed.alike) hp hb k1 k2 k3 (by rw [e1]; exact hce) hcv hcl T' rfl X'
    exact ⟨t2, st.trans a1, b1⟩
theorem vx_calll {S SX : Type} {post : Int64 → S → Prop} {px : SX → Prop} {B : S → State → Prop} {BX : String → SX → State → Prop} {AX : Nat → Prop} (hr : vx_Run p l e R s m args below meth c H locs cells slots mc ms (F0 m pc ls st0) rest (va_Ql post B A1 a) (vx_X px BX AX) free) (hS : va_S A0 H0 H locs) (hA : ∀ q, q < H.size → A1 q → A0 q) (hf : ∀ q, free q → A0 q) (hAX : ∀ q, q < H.size → AX q → A0 q)
    (kx : ∀ (E : String) (ce : Cell) (q9 : Addr) (u : SX) (t : State) (H1 : Heap) (locs1 : List Loc), t.heap = H1 → s.vm.Alike t.vm → px u → BX E u t → H.size ≤ H1.size → (∀ q : Nat, q < H.size → ¬ AX q → H1[q]? = H[q]?) → va_S A0 H0 H1 locs1 → H1[q9]? = some ce → ce.vm = .none → s.vm.findClass E = some ce.cls → vx_W p l e R s m args below meth c H1 locs1 (cells + mc) (slots + ms) Q (F0 m pc ls rest) q9)
    (kk : ∀ (r : Int64) (u : S) (t : State) (H1 : Heap) (locs1 : List Loc), t.heap = H1 → s.vm.Alike t.vm → post r u → B u t → H.size ≤ H1.size → (∀ q : Nat, q < H.size → ¬ A1 q → H1[q]? = H[q]?) → va_S A0 H0 H1 locs1 → W p l e R s m args below meth c H1 locs1 (cells + mc) (slots + ms) Q (F0 m (pc + 3) ls (.long r :: rest))) : W p l e R s m args below meth c H locs cells slots Q (F0 m pc ls st0) := by
  intro T hT X
  rcases hr T hT X with ⟨v, st₀, t, T', L, h0, X', hL, e1, e2, ⟨⟨r, u, hv, hp, hb⟩, hF⟩, st⟩ | ⟨q, st₀, t, T', L, E, ce, h0, X', hL, e1, e2, ⟨u, hp, hb, hF⟩, hce, hcv, hcl, st⟩
  · cases hv
    obtain ⟨k1, k2, k3⟩ := vx_keep h0 e1 hS hA hf hL hF
    obtain ⟨t2, a1, b1⟩ := kk r u t T'.heap (locs ++ L) e1.symm (by rw [← e2]; exact X'.warmed.alike) hp hb k1 k2 k3 T' rfl X'
    exact ⟨t2, st t2 a1, b1⟩
  · obtain ⟨k1, k2, k3⟩ := vx_keep h0 e1 hS hAX hf hL hF
    obtain ⟨t2, a1, b1⟩ := kx E ce q u t T'.heap (locs ++ L) e1.symm (by rw [← e2]; exact X'.warmed.alike) hp hb k1 k2 k3 (by rw [e1]; exact hce) hcv hcl T' rfl X'
    exact ⟨t2, st.trans a1, b1⟩
theorem vx_callf {S SX : Type} {post : UInt32 → S → Prop} {px : SX → Prop} {B : S → State → Prop} {BX : String → SX → State → Prop} {AX : Nat → Prop} (hr : vx_Run p l e R s m args below meth c H locs cells slots mc ms (F0 m pc ls st0) rest (va_Qf post B A1 a) (vx_X px BX AX) free) (hS : va_S A0 H0 H locs) (hA : ∀ q, q < H.size → A1 q → A0 q) (hf : ∀ q, free q → A0 q) (hAX : ∀ q, q < H.size → AX q → A0 q)
    (kx : ∀ (E : String) (ce : Cell) (q9 : Addr) (u : SX) (t : State) (H1 : Heap) (locs1 : List Loc), t.heap = H1 → s.vm.Alike t.vm → px u → BX E u t → H.size ≤ H1.size → (∀ q : Nat, q < H.size → ¬ AX q → H1[q]? = H[q]?) → va_S A0 H0 H1 locs1 → H1[q9]? = some ce → ce.vm = .none → s.vm.findClass E = some ce.cls → vx_W p l e R s m args below meth c H1 locs1 (cells + mc) (slots + ms) Q (F0 m pc ls rest) q9)
    (kk : ∀ (r : UInt32) (u : S) (t : State) (H1 : Heap) (locs1 : List Loc), t.heap = H1 → s.vm.Alike t.vm → post r u → B u t → H.size ≤ H1.size → (∀ q : Nat, q < H.size → ¬ A1 q → H1[q]? = H[q]?) → va_S A0 H0 H1 locs1 → W p l e R s m args below meth c H1 locs1 (cells + mc) (slots + ms) Q (F0 m (pc + 3) ls (.float r :: rest))) : W p l e R s m args below meth c H locs cells slots Q (F0 m pc ls st0) := by
  intro T hT X
  rcases hr T hT X with ⟨v, st₀, t, T', L, h0, X', hL, e1, e2, ⟨⟨r, u, hv, hp, hb⟩, hF⟩, st⟩ | ⟨q, st₀, t, T', L, E, ce, h0, X', hL, e1, e2, ⟨u, hp, hb, hF⟩, hce, hcv, hcl, st⟩
  · cases hv
    obtain ⟨k1, k2, k3⟩ := vx_keep h0 e1 hS hA hf hL hF
    obtain ⟨t2, a1, b1⟩ := kk r u t T'.heap (locs ++ L) e1.symm (by rw [← e2]; exact X'.warmed.alike) hp hb k1 k2 k3 T' rfl X'
    exact ⟨t2, st t2 a1, b1⟩
  · obtain ⟨k1, k2, k3⟩ := vx_keep h0 e1 hS hAX hf hL hF
    obtain ⟨t2, a1, b1⟩ := kx E ce q u t T'.heap (locs ++ L) e1.symm (by rw [← e2]; exact X'.warmed.alike) hp hb k1 k2 k3 (by rw [e1]; exact hce) hcv hcl T' rfl X'
    exact ⟨t2, st.trans a1, b1⟩
theorem vx_calld {S SX : Type} {post : UInt64 → S → Prop} {px : SX → Prop} {B : S → State → Prop} {BX : String → SX → State → Prop} {AX : Nat → Prop} (hr : vx_Run p l e R s m args below meth c H locs cells slots mc ms (F0 m pc ls st0) rest (va_Qd post B A1 a) (vx_X px BX AX) free) (hS : va_S A0 H0 H locs) (hA : ∀ q, q < H.size → A1 q → A0 q) (hf : ∀ q, free q → A0 q) (hAX : ∀ q, q < H.size → AX q → A0 q)
    (kx : ∀ (E : String) (ce : Cell) (q9 : Addr) (u : SX) (t : State) (H1 : Heap) (locs1 : List Loc), t.heap = H1 → s.vm.Alike t.vm → px u → BX E u t → H.size ≤ H1.size → (∀ q : Nat, q < H.size → ¬ AX q → H1[q]? = H[q]?) → va_S A0 H0 H1 locs1 → H1[q9]? = some ce → ce.vm = .none → s.vm.findClass E = some ce.cls → vx_W p l e R s m args below meth c H1 locs1 (cells + mc) (slots + ms) Q (F0 m pc ls rest) q9)
    (kk : ∀ (r : UInt64) (u : S) (t : State) (H1 : Heap) (locs1 : List Loc), t.heap = H1 → s.vm.Alike t.vm → post r u → B u t → H.size ≤ H1.size → (∀ q : Nat, q < H.size → ¬ A1 q → H1[q]? = H[q]?) → va_S A0 H0 H1 locs1 → W p l e R s m args below meth c H1 locs1 (cells + mc) (slots + ms) Q (F0 m (pc + 3) ls (.double r :: rest))) : W p l e R s m args below meth c H locs cells slots Q (F0 m pc ls st0) := by
  intro T hT X
  rcases hr T hT X with ⟨v, st₀, t, T', L, h0, X', hL, e1, e2, ⟨⟨r, u, hv, hp, hb⟩, hF⟩, st⟩ | ⟨q, st₀, t, T', L, E, ce, h0, X', hL, e1, e2, ⟨u, hp, hb, hF⟩, hce, hcv, hcl, st⟩
  · cases hv
    obtain ⟨k1, k2, k3⟩ := vx_keep h0 e1 hS hA hf hL hF
    obtain ⟨t2, a1, b1⟩ := kk r u t T'.heap (locs ++ L) e1.symm (by rw [← e2]; exact X'.warmed.alike) hp hb k1 k2 k3 T' rfl X'
    exact ⟨t2, st t2 a1, b1⟩
  · obtain ⟨k1, k2, k3⟩ := vx_keep h0 e1 hS hAX hf hL hF
    obtain ⟨t2, a1, b1⟩ := kx E ce q u t T'.heap (locs ++ L) e1.symm (by rw [← e2]; exact X'.warmed.alike) hp hb k1 k2 k3 (by rw [e1]; exact hce) hcv hcl T' rfl X'
    exact ⟨t2, st.trans a1, b1⟩
theorem vx_callv {S SX : Type} {post : S → Prop} {px : SX → Prop} {B : S → State → Prop} {BX : String → SX → State → Prop} {AX : Nat → Prop} (hr : vx_Run p l e R s m args below meth c H locs cells slots mc ms (F0 m pc ls st0) rest (va_Qv post B A1 a) (vx_X px BX AX) free) (hS : va_S A0 H0 H locs) (hA : ∀ q, q < H.size → A1 q → A0 q) (hf : ∀ q, free q → A0 q) (hAX : ∀ q, q < H.size → AX q → A0 q)
    (kx : ∀ (E : String) (ce : Cell) (q9 : Addr) (u : SX) (t : State) (H1 : Heap) (locs1 : List Loc), t.heap = H1 → s.vm.Alike t.vm → px u → BX E u t → H.size ≤ H1.size → (∀ q : Nat, q < H.size → ¬ AX q → H1[q]? = H[q]?) → va_S A0 H0 H1 locs1 → H1[q9]? = some ce → ce.vm = .none → s.vm.findClass E = some ce.cls → vx_W p l e R s m args below meth c H1 locs1 (cells + mc) (slots + ms) Q (F0 m pc ls rest) q9)
    (kk : ∀ (u : S) (t : State) (H1 : Heap) (locs1 : List Loc), t.heap = H1 → s.vm.Alike t.vm → post u → B u t → H.size ≤ H1.size → (∀ q : Nat, q < H.size → ¬ A1 q → H1[q]? = H[q]?) → va_S A0 H0 H1 locs1 → W p l e R s m args below meth c H1 locs1 (cells + mc) (slots + ms) Q (F0 m (pc + 3) ls (rest))) : W p l e R s m args below meth c H locs cells slots Q (F0 m pc ls st0) := by
  intro T hT X
  rcases hr T hT X with ⟨v, st₀, t, T', L, h0, X', hL, e1, e2, ⟨⟨u, hv, hp, hb⟩, hF⟩, st⟩ | ⟨q, st₀, t, T', L, E, ce, h0, X', hL, e1, e2, ⟨u, hp, hb, hF⟩, hce, hcv, hcl, st⟩
  · cases hv
    obtain ⟨k1, k2, k3⟩ := vx_keep h0 e1 hS hA hf hL hF
    obtain ⟨t2, a1, b1⟩ := kk u t T'.heap (locs ++ L) e1.symm (by rw [← e2]; exact X'.warmed.alike) hp hb k1 k2 k3 T' rfl X'
    exact ⟨t2, st t2 a1, b1⟩
  · obtain ⟨k1, k2, k3⟩ := vx_keep h0 e1 hS hAX hf hL hF
    obtain ⟨t2, a1, b1⟩ := kx E ce q u t T'.heap (locs ++ L) e1.symm (by rw [← e2]; exact X'.warmed.alike) hp hb k1 k2 k3 (by rw [e1]; exact hce) hcv hcl T' rfl X'
    exact ⟨t2, st.trans a1, b1⟩
/-- caught by the row x of this method's table; the rows ahead don't take it -/
theorem vx_catch {own name : String} {E : String} {ce : Cell} {q : Addr} (hown : s.vm.findClass own = some m.cls) (pre : List ExceptionTableEntry) (x : ExceptionTableEntry) (suf : List ExceptionTableEntry) (hsplit : c.exceptionTable.toList = pre ++ x :: suf)
    (hpass : ∀ z ∈ pre, covers z pc = false ∨ (z.catchType ≠ 0 ∧ ∃ nm : String, (Cond.classLink own z.catchType nm).before args s = true ∧ va_Nc E nm s)) (hx : covers x pc = true) (h0 : x.catchType ≠ 0)
    (hlink : (Cond.classLink own x.catchType name).before args s = true) (hcast : (Cond.castable E name).before args s = true) (hcell : H[q]? = some ce) (hv : ce.vm = .none) (hcl : s.vm.findClass E = some ce.cls)
    (kk : W p l e R s m args below meth c H locs cells slots Q (F0 m x.handlerPc ls [.ref q])) : vx_W p l e R s m args below meth c H locs cells slots Q (F0 m pc ls rest) q := by
  intro T hT X
  have hpl : e.platform.magicAccessors = ({} : Platform).magicAccessors := by rw [X.admits.platform]
  obtain ⟨c3, c4, hc3, hc4, hasg⟩ := Cond.castable_spec hcast
  cases Option.some.inj (hc3.symm.trans hcl)
  obtain ⟨c5, hc5, hcl5⟩ := Cond.classLink_spec hown hlink e.platform hpl
  cases Option.some.inj (hc4.symm.trans hc5)
  obtain ⟨vm', X', st⟩ := X.thenCaughtThrough q (g := F0 m pc ls rest) rfl (Steps.refl _) (by rw [hT]; exact hcell) (by rw [hv]; rfl) (by obtain ⟨k9, h9, -⟩ := Vm.findClass_spec hcl; exact ⟨k9, h9⟩) pre x suf hsplit
    (fun z hz => by
      rcases hpass z hz with h | ⟨hz0, nm, hl1, hn1⟩
      · exact Or.inl h
      · obtain ⟨c6, hc6, hcl6⟩ := Cond.classLink_spec hown hl1 e.platform hpl
        obtain ⟨a8, b8, h1, h2, h3⟩ := hn1
        cases Option.some.inj (h1.symm.trans hcl)
        cases Option.some.inj (h2.symm.trans hc6)
        exact Or.inr ⟨hz0, _, hcl6, h3⟩) hx (Or.inr ⟨h0, c4, hcl5, hasg⟩)
  obtain ⟨t, a1, b1⟩ := kk (T.setVm vm') hT X'
  exact ⟨t, st.trans a1, b1⟩
end Rows
section Ends
variable {p : Program} {l : Launch} {e : Env} {R : Room} {s : State} {m : MethodId} {args : Array Value} {below : List Frame} {meth : Method} {c : Code} {H : Heap} {locs : List Loc} {cells slots : Nat} {Q : State → Prop}
variable {mc ms : Nat} {free : Addr → Prop} {A0 A1 : Nat → Prop} {H0 : Heap} {a : Array Value} {ls : Array Slot} {st0 rest : List Value}
variable {Qc : Array Value → State → Outcome → State → Prop} {XC : String → State → State → Prop}
/-- what a body that may throw owes at its end -/
def vx_MQ (below : List Frame) (Qc : Array Value → State → Outcome → State → Prop) (XC : String → State → State → Prop) (a : Array Value) (s : State) (mc ms : Nat) (free : Addr → Prop) : State → Prop := fun t =>
  ∃ o, t.status = .running ∧ Ended t below o ∧ vx_Q Qc XC mc ms free a s o t
theorem vx_ret {g : JFrame} {mc ms : Nat} (k : W p l e R s m args below meth c H locs cells slots (MQ below Qc args s mc ms free) g) : W p l e R s m args below meth c H locs cells slots (vx_MQ below Qc XC args s mc ms free) g := by
  intro T hT X
  obtain ⟨t, a1, o, b1, b2, b3, b4⟩ := k T hT X
  exact ⟨t, a1, o, b1, b2, Or.inl ⟨b3, b4⟩⟩
/-- not caught here: it goes on to the caller -/
theorem vx_widen {g : JFrame} {q : Addr} {k n : Nat} (h1 : cells ≤ k) (h2 : slots ≤ n) (kk : vx_W p l e R s m args below meth c H locs k n Q g q) : vx_W p l e R s m args below meth c H locs cells slots Q g q := fun T hT X => kk T hT (stand_widen X h1 h2)
theorem vx_out {pc : Nat} {E : String} {ce : Cell} {q : Addr} {mc ms : Nat} (hout : ∀ x ∈ c.exceptionTable.toList, covers x pc = false) (hlocks : meth.locks = false) (hcell : H[q]? = some ce) (hv : ce.vm = .none) (hcl : s.vm.findClass E = some ce.cls)
    (hx : ∀ t : State, t.heap = H → s.vm.Alike t.vm → XC E s t) (hf : ∀ z ∈ locs, free z.base) (hc : cells ≤ mc) (hs : slots ≤ ms) :
    vx_W p l e R s m args below meth c H locs cells slots (vx_MQ below Qc XC args s mc ms free) (F0 m pc ls rest) q := by
  intro T hT X
  obtain ⟨st1, hrun, hend, hW, hsm⟩ := X.leaveThrown q (g := F0 m pc ls rest) rfl rfl rfl hout hlocks
  have hcell9 : (T.setFrames (.throwing q :: below)).heap[q]? = some ce := by
    show T.heap[q]? = some ce
    rw [hT]; exact hcell
  exact ⟨_, st1, .threw q, hrun, hend, Or.inr ⟨q, rfl, E, ce, locs, hx _ hT hW.alike, hcell9, hv, hcl, hW, hsm.mono hc hs, hf⟩⟩
theorem vx_frame {U : State} {k n : Nat} (h : s.sameButNew ({ U with vm := s.vm } : State) locs k n) : s.heap.size ≤ U.heap.size ∧ ∀ q : Nat, q < s.heap.size → (∀ z ∈ locs, z.base ≠ q) → U.heap[q]? = s.heap[q]? := by
  obtain ⟨-, h2, -, -, -, h6⟩ := h
  refine ⟨h2, fun q hq hz => ?_⟩
  obtain ⟨c9, e1, e2, e3, e4⟩ := h6 q _ (Array.getElem?_eq_getElem hq)
  have hs : c9.slots = (s.heap[q]).slots := Array.ext_getElem? fun i => e4 i fun hm => hz _ hm rfl
  have h9 : c9 = s.heap[q] := by
    rw [hs] at e2
    exact e2
  have e5 : U.heap[q]? = some c9 := e1
  rw [e5, h9, Array.getElem?_eq_getElem hq]
/-- the words of a throw but the four that speak of the heap -/
def vx_no (w : Cond) : Bool := decide (w ≠ .isRef (.static Bundle.tN "UNASSIGNED_STACK" Bundle.steD)) && decide (w ≠ .isRef (.static Bundle.tN "SUPPRESSED_SENTINEL" Bundle.listD)) && decide (w ≠ .laysStatic Bundle.tN "UNASSIGNED_STACK" Bundle.steD) && decide (w ≠ .laysStatic Bundle.tN "SUPPRESSED_SENTINEL" Bundle.listD)
def vx_at0 (own : String) (ic : Nat) (X : String) (names : List String) : List Cond := (Bundle.ownAtoms0 own ic X names).filter vx_no
def vx_atS (own : String) (ic : Nat) (X : String) (names : List String) : List Cond := (Bundle.ownAtoms own ic X names).filter vx_no
/-- a word that the tables alone decide, or a good one -/
def vx_ot (w : Cond) : Bool := w.onTables || goodWord w
theorem vx_ot_at {args a' : Array Value} {s U : State} {w : Cond} (hW : s.WarmedH U.vm) (hvm : s.vm = U.vm) (hg : vx_ot w = true) (h : w.before args s = true) : w.before a' U = true := by
  simp only [vx_ot, Bool.or_eq_true] at hg
  rcases hg with hg | hg
  · exact va_tabs hg hvm h
  · exact word_at hW (good_of_word hg) h
/-- a list's words: the good ones out of the method's own list, the others by premises of their own -/
theorem vx_hat {args : Array Value} {s : State} {L B : List Cond} (h1 : ∀ w ∈ L.filter goodWord, w.before args s = true) (h2 : ∀ w ∈ L.filter (fun w => !goodWord w), w ∈ B) (h3 : ∀ w ∈ B, w.before args s = true) : ∀ w ∈ L, w.before args s = true := by
  intro w hw
  by_cases g : goodWord w = true
  · exact h1 w (List.mem_filter.mpr ⟨hw, g⟩)
  · refine h3 w (h2 w (List.mem_filter.mpr ⟨hw, ?_⟩))
    show (!goodWord w) = true
    cases hgw : goodWord w
    · rfl
    · exact absurd hgw g
theorem vx_c {args : Array Value} {s : State} {w : Cond} {B : List Cond} (h : w.before args s = true) (t : ∀ w ∈ B, w.before args s = true) : ∀ w' ∈ w :: B, w'.before args s = true := fun w' h' => (List.mem_cons.mp h').elim (fun e => by rw [e]; exact h) (t w')
theorem vx_n {args : Array Value} {s : State} : ∀ w ∈ ([] : List Cond), w.before args s = true := fun _ h => nomatch h
theorem vx_own {args : Array Value} {s : State} {L : List Cond} (h1 : ∀ w ∈ L.filter vx_no, w.before args s = true)
    (hU : (Cond.isRef (.static Bundle.tN "UNASSIGNED_STACK" Bundle.steD)).before args s = true) (hN : (Cond.isRef (.static Bundle.tN "SUPPRESSED_SENTINEL" Bundle.listD)).before args s = true)
    (lU : (Cond.laysStatic Bundle.tN "UNASSIGNED_STACK" Bundle.steD).before args s = true) (lN : (Cond.laysStatic Bundle.tN "SUPPRESSED_SENTINEL" Bundle.listD).before args s = true) : ∀ w ∈ L, w.before args s = true := by
  intro w hw
  by_cases e1 : w = .isRef (.static Bundle.tN "UNASSIGNED_STACK" Bundle.steD)
  · rw [e1]; exact hU
  · by_cases e2 : w = .isRef (.static Bundle.tN "SUPPRESSED_SENTINEL" Bundle.listD)
    · rw [e2]; exact hN
    · by_cases e3 : w = .laysStatic Bundle.tN "UNASSIGNED_STACK" Bundle.steD
      · rw [e3]; exact lU
      · by_cases e4 : w = .laysStatic Bundle.tN "SUPPRESSED_SENTINEL" Bundle.listD
        · rw [e4]; exact lN
        · exact h1 w (List.mem_filter.mpr ⟨hw, by unfold vx_no; rw [decide_eq_true e1, decide_eq_true e2, decide_eq_true e3, decide_eq_true e4]; rfl⟩)
/-- where a static field lies, its class's statics cell in H -/
def vx_L (C n d : String) (A : Nat → Prop) (U : State) (H : Heap) : Prop := ∃ (c : ClassId) (k : Class) (i : Nat) (f : Field) (a : Nat) (cell : Cell), U.vm.findClass C = some c ∧ U.fieldFound? C n d = some (c, k, i, f) ∧ f.isStatic = true ∧ k.statics = some a ∧ H[a]? = some cell ∧ cell.vm.isStatics = true ∧ cell.cls = c ∧ f.slot < cell.slots.size ∧ k.staticTypes[f.slot]? = some f.type ∧ ¬ A a
theorem vx_L.moved {C n d : String} {A : Nat → Prop} {u U : State} {H : Heap} (hvm : u.vm.Alike U.vm) (h : vx_L C n d A u H) : vx_L C n d A U H := by
  obtain ⟨c, k, i, f, a, cell, h1, h2, h3, h4, h5, h6, h7, h8, h9, h10⟩ := h
  obtain ⟨k', hi', he⟩ := State.fieldFound?_setVm hvm h2
  exact ⟨c, k', i, f, a, cell, by rw [hvm.findClass]; exact h1, hi', h3, by rw [he]; exact h4, h5, h6, h7, h8, by rw [he]; exact h9, h10⟩
theorem vx_L.kept {C n d : String} {A : Nat → Prop} {U : State} {H H1 : Heap} (h : vx_L C n d A U H) (hq : ∀ a : Nat, a < H.size → ¬ A a → H1[a]? = H[a]?) : vx_L C n d A U H1 := by
  obtain ⟨c, k, i, f, a, cell, h1, h2, h3, h4, h5, h6, h7, h8, h9, h10⟩ := h
  exact ⟨c, k, i, f, a, cell, h1, h2, h3, h4, by rw [hq a (Array.getElem?_eq_some_iff.mp h5).1 h10]; exact h5, h6, h7, h8, h9, h10⟩
theorem vx_L.narrow {C n d : String} {A B : Nat → Prop} {U : State} {H : Heap} (h : vx_L C n d A U H) (hAB : ∀ q, B q → A q) : vx_L C n d B U H := by
  obtain ⟨c, k, i, f, a, cell, h1, h2, h3, h4, h5, h6, h7, h8, h9, h10⟩ := h
  exact ⟨c, k, i, f, a, cell, h1, h2, h3, h4, h5, h6, h7, h8, h9, fun z => h10 (hAB _ z)⟩
theorem vx_L.word {C n d : String} {A : Nat → Prop} {s : State} {args : Array Value} (h : vx_L C n d A s s.heap) : (Cond.laysStatic C n d).before args s = true := by
  obtain ⟨c, k, i, f, a, cell, h1, h2, h3, h4, h5, h6, h7, h8, h9, -⟩ := h
  show (Cond.laysStatic C n d).holds args s none s [] = true
  exact Cond.laysStatic_of h1 h2 h3 h4 h5 h6 h7 h8 h9
/-- .. and what it holds: null or some reference -/
def vx_Zq (C n d : String) (A : Nat → Prop) (U : State) (H : Heap) : Prop := va_Zq C n d A U H ∧ vx_L C n d A U H
theorem vx_Zq.moved {C n d : String} {A : Nat → Prop} {u U : State} {H : Heap} (hvm : u.vm.Alike U.vm) (h : vx_Zq C n d A u H) : vx_Zq C n d A U H := ⟨va_Zq.moved hvm h.1, vx_L.moved hvm h.2⟩
theorem vx_Zq.kept {C n d : String} {A : Nat → Prop} {U : State} {H H1 : Heap} (h : vx_Zq C n d A U H) (hq : ∀ a : Nat, a < H.size → ¬ A a → H1[a]? = H[a]?) : vx_Zq C n d A U H1 := ⟨va_Zq.kept h.1 hq, vx_L.kept h.2 hq⟩
theorem vx_Zq.narrow {C n d : String} {A B : Nat → Prop} {U : State} {H : Heap} (h : vx_Zq C n d A U H) (hAB : ∀ q, B q → A q) : vx_Zq C n d B U H := ⟨va_Zq.narrow h.1 hAB, vx_L.narrow h.2 hAB⟩
theorem vx_Zqof {args : Array Value} {s : State} {C n d : String} {A : Nat → Prop} (hl : (Cond.laysStatic C n d).before args s = true) (hini : (Cond.initialized C).before args s = true) (h : (Cond.isRef (.static C n d)).before args s = true) (hA : ∀ a : Nat, a < s.heap.size → ¬ A a) : vx_Zq C n d A s s.heap := by
  refine ⟨va_Zqof hl hini h hA, ?_⟩
  obtain ⟨c, k, i, f, a, cell, h1, h2, h3, h4, h5, h6, h7, h8, h9⟩ := Cond.laysStatic_spec hl
  exact ⟨c, k, i, f, a, cell, h1, h2, h3, h4, h5, h6, h7, h8, h9, hA a (Array.getElem?_eq_some_iff.mp h5).1⟩
theorem vx_isRef {C n d : String} {v : Value} {A : Nat → Prop} {s : State} {args : Array Value} (h : va_Z C n d v A s s.heap) (hv : v.isRef = true) : (Cond.isRef (.static C n d)).before args s = true := by
  obtain ⟨cf, kf, fi, f, a, cell, h1, h2, h3, h4, h5, h6, h7, -⟩ := h
  have he : (Term.static C n d).eval args s none [] s = some v := by
    simp [Term.eval, State.fieldNamed?, h1, h2, h4, h5, h6, h7]
  simp only [Cond.before, Cond.holds, Cond.value, he]
  cases v <;> simp_all [Value.isRef]
theorem vx_isRefq {C n d : String} {A : Nat → Prop} {s : State} {args : Array Value} (h : va_Zq C n d A s s.heap) : (Cond.isRef (.static C n d)).before args s = true := by
  rcases h with h | ⟨t, h⟩
  · exact vx_isRef h rfl
  · exact vx_isRef h rfl
/-- the same frame, seen from here: as if the method were called anew in this heap -/
theorem vx_rebase {T : State} (X : Stand p l e R s m args below meth c T locs cells slots) {R' : Room} (hf : R'.frames ≤ R.frames) (hl : R'.locals ≤ R.locals) (hc : cells + R'.cells ≤ R.cells) (hs : slots + R'.slots ≤ R.slots) :
    Stand p l e R' ((T.setVm s.vm).setFrames (.invoking m args :: below)) m args below meth c T [] 0 0 := by
  have htop : (T.setVm s.vm).topJava?.isSome := X.here.top
  have hF : ((T.setVm s.vm).setFrames (.invoking m args :: below)).frames = .invoking m args :: below := State.frames_setFrames _ (State.cur_lt_of_top htop)
  obtain ⟨g₀, hg0⟩ := Option.isSome_iff_exists.mp htop
  obtain ⟨r, hr⟩ := State.topJava?_eq_some.mp hg0
  have hl9 : e.platform.stackLimits (T.setVm s.vm).me = e.platform.stackLimits s.me := X.limits
  have hb9 : (T.setVm s.vm).me.stackBytes = s.me.stackBytes := X.bytes
  refine ⟨X.admits, X.cas, X.clock, hF, ?_, X.hears, X.method, X.code, X.here, X.tail, X.warmed, ?_, ?_, ?_⟩
  · have h := X.room
    have hU : ((T.setVm s.vm).setFrames (.invoking m args :: below)).localsInUse = s.localsInUse := by
      rw [State.localsInUse_invoking hF (meth := meth) (c := c) X.method X.code, State.localsInUse_invoking X.frames X.method X.code]
    simp only [State.hasRoom, Bool.and_eq_true, decide_eq_true_eq] at h ⊢
    obtain ⟨⟨⟨⟨h1, h2, h3, h4, h5, h6⟩, h7⟩, h8⟩, h9⟩ := h
    rw [X.frames, List.length_cons] at h2 h3
    have q1 := X.heapSize
    have q2 := X.used
    simp only [hF, hU, List.length_cons, State.stackLimits_setFrames, State.stackBytes_setFrames, hl9, hb9]
    refine ⟨⟨⟨⟨by omega, by omega, by omega, by omega, by omega, h6⟩, ?_⟩, ?_⟩, X.book⟩
    · show T.heap.size + R'.cells ≤ e.platform.maxCells
      omega
    · show T.slotsUsed + R'.slots ≤ e.platform.maxSlots
      omega
  · rw [State.stackLimits_setFrames]; rfl
  · rw [State.stackBytes_setFrames]; rfl
  · refine ⟨?_, Nat.le_refl _, Nat.le_refl _, ?_, ?_, fun a c9 h9 => ⟨c9, h9, rfl, rfl, fun _ _ => rfl⟩⟩
    · obtain ⟨t, ht, -⟩ := State.frames_cons hr
      show T.setVm s.vm = { ((T.setVm s.vm).setFrames (.invoking m args :: below)).setFrames (T.setVm s.vm).frames with heap := T.heap, slotsUsed := T.slotsUsed }
      rw [State.setFrames_setFrames, State.setFrames_self ht]
      rfl
    · show T.slotsUsed = T.slotsUsed + ((T.heap.toList.drop T.heap.size).map (·.slots.size)).sum
      rw [List.drop_eq_nil_of_le (Nat.le_of_eq Array.length_toList)]
      rfl
    · show ((T.heap.toList.drop T.heap.size).map (·.slots.size)).sum ≤ 0
      rw [List.drop_eq_nil_of_le (Nat.le_of_eq Array.length_toList)]
      exact Nat.le_refl _
/-- 'throw new E()': new; dup; invokespecial; athrow -/
theorem vx_throw0 {cc : ByteArray} {pc : Nat} (hexec : p.tables.exec = Jvm.exec) (hb : c.code = cc) (hl : l.stackTraces = false) {own cls : String} {names : List String} {ik ic mc ms : Nat} {A : Nat → Prop}
    (hown : s.vm.findClass own = some m.cls) (hcls : Bundle.fit cls = true) (hnames : ∀ n ∈ names, Bundle.fit n = true)
    (hk : (Cond.classLink own ik cls).before args s = true) (hini : (Cond.initialized cls).before args s = true) (hat : ∀ w ∈ vx_at0 own ic cls names, w.before args s = true)
    (hgood : ∀ w ∈ Cond.classLink own ik cls :: Cond.initialized cls :: vx_at0 own ic cls names, vx_ot w = true)
    (hU : vx_Zq Bundle.tN "UNASSIGNED_STACK" Bundle.steD A s s.heap) (hN : vx_Zq Bundle.tN "SUPPRESSED_SENTINEL" Bundle.listD A s s.heap) (hS : va_S A s.heap H locs) (hsize : ls.size = c.maxLocals)
    (d0 : decode cc pc = .ok (.new ik, 3)) (d3 : decode cc (pc + 3) = .ok (.dup, 1)) (d4 : decode cc (pc + 4) = .ok (.invokespecial ic, 3)) (d7 : decode cc (pc + 7) = .ok (.athrow, 1))
    (hout : ∀ x ∈ c.exceptionTable.toList, covers x (pc + 7) = false)
    (hRframes : names.length + 3 < R.frames) (hRlocals : (rest.map fun v => v.category).sum + (13 * (names.length + 1) + 42) ≤ R.locals) (hRcells : cells + 1 ≤ R.cells) (hRslots : slots + 6 ≤ R.slots) (hlocks : meth.locks = false)
    (hx : ∀ t : State, s.vm.Alike t.vm → H.size ≤ t.heap.size → (∀ q : Nat, q < H.size → t.heap[q]? = H[q]?) → XC cls s t)
    (hf : ∀ z ∈ locs, free z.base) (hc : cells + 1 ≤ mc) (hs : slots + 6 ≤ ms) :
    W p l e R s m args below meth c H locs cells slots (vx_MQ below Qc XC args s mc ms free) (F0 m pc ls rest) := by
  intro T hT X
  have htr : e.platform.stackTraces = false := (show e.platform.stackTraces = l.stackTraces by rw [X.admits.platform]).trans hl
  have Y := vx_rebase X (R' := { frames := R.frames, locals := R.locals, cells := 1, slots := 6 }) (Nat.le_refl _) (Nat.le_refl _) hRcells hRslots
  obtain ⟨s', hA⟩ : ∃ z, z = (T.setVm s.vm).setFrames (.invoking m args :: below) := ⟨_, rfl⟩
  rw [← hA] at Y
  have hvm : s'.vm = s.vm := by rw [hA]; rfl
  have hhp : s'.heap = H := by rw [hA]; exact hT
  have hW0 : s.WarmedH s'.vm := by rw [hvm]; exact State.WarmedH.refl s
  have hat' : ∀ w ∈ vx_at0 own ic cls names, w.before args s' = true := fun w hw => vx_ot_at hW0 hvm.symm (hgood w (List.mem_cons_of_mem _ (List.mem_cons_of_mem _ hw))) (hat w hw)
  have hk' : (Cond.classLink own ik cls).before args s' = true := vx_ot_at hW0 hvm.symm (hgood _ List.mem_cons_self) hk
  have hini' : (Cond.initialized cls).before args s' = true := vx_ot_at hW0 hvm.symm (hgood _ (List.mem_cons_of_mem _ List.mem_cons_self)) hini
  have hU' : vx_Zq Bundle.tN "UNASSIGNED_STACK" Bundle.steD A s' s'.heap := by rw [hhp]; exact vx_Zq.moved hW0.alike (hU.kept hS.2.1)
  have hN' : vx_Zq Bundle.tN "SUPPRESSED_SENTINEL" Bundle.listD A s' s'.heap := by rw [hhp]; exact vx_Zq.moved hW0.alike (hN.kept hS.2.1)
  have h : ∀ w ∈ Bundle.ownAtoms0 own ic cls names, w.before args s' = true := vx_own hat' (vx_isRefq hU'.1) (vx_isRefq hN'.1) hU'.2.word hN'.2.word
  have hown' : s'.vm.findClass own = some m.cls := by rw [hvm]; exact hown
  have hins : (Cond.instantiable cls 6).before args s' = true := h _ (by simp [Bundle.ownAtoms0])
  obtain ⟨vm₁, cX, kX, hfX, hkX, -, -, X₁, st1⟩ := Y.newCold hexec (own := own) (C := cls) (index := ik) (n := 6) hown' hk' hins hini'
    (g := F0 m pc ls rest) rfl (by rw [hb]; exact d0) (Nat.le_refl _) (Nat.le_refl _)
  generalize hT1 : (T.setVm vm₁).pushCell { cls := cX, slots := kX.instanceTypes.map defaultValue, vm := .none } = T1 at X₁ st1
  have hcat : (Value.ref T.heap.size).category = 1 := rfl
  have hcellA : T1.heap[T.heap.size]? = some (freshCell cX kX) := by rw [← hT1]; exact State.heap_pushCell_size _ _
  have d3' : decode c.code (pc + 3) = .ok (.dup, 1) := by rw [hb]; exact d3
  obtain ⟨U, hsteps, hrun, hend, hW, hsame, ce, hce, hO⟩ := X₁.ctorThrow0 hexec htr (own := own) (cls := cls) (names := names) (ic := ic) hown' hcls hnames h (fun x hx => nomatch hx) hfX hkX hcellA (by rw [hhp, hT]; exact Nat.le_refl _)
    (g := { method := m, pc := pc + 4, locals := ls, stack := .ref T.heap.size :: .ref T.heap.size :: rest, locked := none }) rfl hsize rfl rfl (rest := rest) rfl
    (by rw [hb]; exact d4) (by rw [hb]; exact d7) hout hRframes (by simp only [List.map_cons, List.sum_cons, hcat]; omega) hlocks
  obtain ⟨f1, f2⟩ := vx_frame hsame
  rw [hhp] at f1 f2
  have hWs : s.WarmedH U.vm := State.WarmedH.trans hW0 hW
  have hcl : s.vm.findClass cls = some ce.cls := by
    have h9 := hO.cls
    rw [hvm] at h9
    exact h9
  have hall : s.sameButNew ({ U with vm := s.vm } : State) locs mc ms := by
    subst hA
    obtain ⟨e1, e2⟩ := hsame
    rw [State.setFrames_setFrames] at e1
    have h2 : (T.setVm s.vm).sameButNew ({ U with vm := s.vm } : State) [] (0 + 1) (0 + 6) := ⟨e1, e2⟩
    have h3 := X.same.trans h2
    rw [List.append_nil] at h3
    exact h3.mono hc hs
  refine ⟨U, ?_, .threw T.heap.size, hrun, hend, Or.inr ⟨T.heap.size, rfl, cls, ce, locs, hx U hWs.alike f1 (fun q hq => f2 q hq (fun z hz => nomatch hz)), hce, hO.vm, hcl, hWs, hall, hf⟩⟩
  refine st1 _ ?_
  show Steps p.tables e below (T1.setTop { method := m, pc := pc + 3, locals := ls, stack := .ref T.heap.size :: rest, locked := none }) _
  jvm_step X₁.here [X₁.here.top, hexec, d3', Value.category]
  exact hsteps
/-- 'throw new E("text")': new; dup; ldc; invokespecial; athrow -/
theorem vx_throwS {cc : ByteArray} {pc : Nat} (hexec : p.tables.exec = Jvm.exec) (hb : c.code = cc) (hl : l.stackTraces = false) {own cls text : String} {names : List String} {ik is ic mc ms sa : Nat} {A : Nat → Prop}
    (hown : s.vm.findClass own = some m.cls) (hcls : Bundle.fit cls = true) (hnames : ∀ n ∈ names, Bundle.fit n = true)
    (hk : (Cond.classLink own ik cls).before args s = true) (hini : (Cond.initialized cls).before args s = true) (hstr : vk_R own is text sa s) (hat : ∀ w ∈ vx_atS own ic cls names, w.before args s = true)
    (hgood : ∀ w ∈ Cond.classLink own ik cls :: Cond.initialized cls :: vx_atS own ic cls names, vx_ot w = true)
    (hU : vx_Zq Bundle.tN "UNASSIGNED_STACK" Bundle.steD A s s.heap) (hN : vx_Zq Bundle.tN "SUPPRESSED_SENTINEL" Bundle.listD A s s.heap) (hS : va_S A s.heap H locs) (hsize : ls.size = c.maxLocals)
    (d0 : decode cc pc = .ok (.new ik, 3)) (d3 : decode cc (pc + 3) = .ok (.dup, 1)) (d4 : decode cc (pc + 4) = .ok (.ldc is, 2)) (d6 : decode cc (pc + 6) = .ok (.invokespecial ic, 3)) (d9 : decode cc (pc + 9) = .ok (.athrow, 1))
    (hout : ∀ x ∈ c.exceptionTable.toList, covers x (pc + 9) = false)
    (hRframes : names.length + 3 < R.frames) (hRlocals : (rest.map fun v => v.category).sum + (13 * (names.length + 1) + 43) ≤ R.locals) (hRcells : cells + 1 ≤ R.cells) (hRslots : slots + 6 ≤ R.slots) (hlocks : meth.locks = false)
    (hx : ∀ t : State, s.vm.Alike t.vm → H.size ≤ t.heap.size → (∀ q : Nat, q < H.size → t.heap[q]? = H[q]?) → XC cls s t)
    (hf : ∀ z ∈ locs, free z.base) (hc : cells + 1 ≤ mc) (hs : slots + 6 ≤ ms) :
    W p l e R s m args below meth c H locs cells slots (vx_MQ below Qc XC args s mc ms free) (F0 m pc ls rest) := by
  intro T hT X
  have htr : e.platform.stackTraces = false := (show e.platform.stackTraces = l.stackTraces by rw [X.admits.platform]).trans hl
  have Y := vx_rebase X (R' := { frames := R.frames, locals := R.locals, cells := 1, slots := 6 }) (Nat.le_refl _) (Nat.le_refl _) hRcells hRslots
  obtain ⟨s', hA⟩ : ∃ z, z = (T.setVm s.vm).setFrames (.invoking m args :: below) := ⟨_, rfl⟩
  rw [← hA] at Y
  have hvm : s'.vm = s.vm := by rw [hA]; rfl
  have hhp : s'.heap = H := by rw [hA]; exact hT
  have hW0 : s.WarmedH s'.vm := by rw [hvm]; exact State.WarmedH.refl s
  have hat' : ∀ w ∈ vx_atS own ic cls names, w.before args s' = true := fun w hw => vx_ot_at hW0 hvm.symm (hgood w (List.mem_cons_of_mem _ (List.mem_cons_of_mem _ hw))) (hat w hw)
  have hk' : (Cond.classLink own ik cls).before args s' = true := vx_ot_at hW0 hvm.symm (hgood _ List.mem_cons_self) hk
  have hini' : (Cond.initialized cls).before args s' = true := vx_ot_at hW0 hvm.symm (hgood _ (List.mem_cons_of_mem _ List.mem_cons_self)) hini
  have hU' : vx_Zq Bundle.tN "UNASSIGNED_STACK" Bundle.steD A s' s'.heap := by rw [hhp]; exact vx_Zq.moved hW0.alike (hU.kept hS.2.1)
  have hN' : vx_Zq Bundle.tN "SUPPRESSED_SENTINEL" Bundle.listD A s' s'.heap := by rw [hhp]; exact vx_Zq.moved hW0.alike (hN.kept hS.2.1)
  have h : ∀ w ∈ Bundle.ownAtoms own ic cls names, w.before args s' = true := vx_own hat' (vx_isRefq hU'.1) (vx_isRefq hN'.1) hU'.2.word hN'.2.word
  have hown' : s'.vm.findClass own = some m.cls := by rw [hvm]; exact hown
  have hins : (Cond.instantiable cls 6).before args s' = true := h _ (by simp [Bundle.ownAtoms])
  obtain ⟨vm₁, cX, kX, hfX, hkX, -, -, X₁, st1⟩ := Y.newCold hexec (own := own) (C := cls) (index := ik) (n := 6) hown' hk' hins hini'
    (g := F0 m pc ls rest) rfl (by rw [hb]; exact d0) (Nat.le_refl _) (Nat.le_refl _)
  generalize hT1 : (T.setVm vm₁).pushCell { cls := cX, slots := kX.instanceTypes.map defaultValue, vm := .none } = T1 at X₁ st1
  have hcat : (Value.ref T.heap.size).category = 1 := rfl
  have hcellA : T1.heap[T.heap.size]? = some (freshCell cX kX) := by rw [← hT1]; exact State.heap_pushCell_size _ _
  have d3' : decode c.code (pc + 3) = .ok (.dup, 1) := by rw [hb]; exact d3
  have d4' : decode c.code (pc + 4) = .ok (.ldc is, 2) := by rw [hb]; exact d4
  have hstr' : vk_R own is text sa s' := vk_R.warm hW0 hstr
  obtain ⟨U, hsteps, hrun, hend, hW, hsame, ce, hce, hO⟩ := X₁.ctorThrowS hexec htr (own := own) (cls := cls) (names := names) (ic := ic) hown' hcls hnames h (fun x hx => nomatch hx) hfX hkX hcellA (by rw [hhp, hT]; exact Nat.le_refl _) (msg := .ref sa) rfl
    (g := { method := m, pc := pc + 6, locals := ls, stack := .ref sa :: .ref T.heap.size :: .ref T.heap.size :: rest, locked := none }) rfl hsize rfl rfl (rest := rest) rfl
    (by rw [hb]; exact d6) (by rw [hb]; exact d9) hout hRframes (by simp only [List.map_cons, List.sum_cons, hcat]; omega) hlocks
  obtain ⟨f1, f2⟩ := vx_frame hsame
  rw [hhp] at f1 f2
  have hWs : s.WarmedH U.vm := State.WarmedH.trans hW0 hW
  have hcl : s.vm.findClass cls = some ce.cls := by
    have h9 := hO.cls
    rw [hvm] at h9
    exact h9
  have hall : s.sameButNew ({ U with vm := s.vm } : State) locs mc ms := by
    subst hA
    obtain ⟨e1, e2⟩ := hsame
    rw [State.setFrames_setFrames] at e1
    have h2 : (T.setVm s.vm).sameButNew ({ U with vm := s.vm } : State) [] (0 + 1) (0 + 6) := ⟨e1, e2⟩
    have h3 := X.same.trans h2
    rw [List.append_nil] at h3
    exact h3.mono hc hs
  refine ⟨U, ?_, .threw T.heap.size, hrun, hend, Or.inr ⟨T.heap.size, rfl, cls, ce, locs, hx U hWs.alike f1 (fun q hq => f2 q hq (fun z hz => nomatch hz)), hce, hO.vm, hcl, hWs, hall, hf⟩⟩
  refine st1 _ ?_
  show Steps p.tables e below (T1.setTop { method := m, pc := pc + 3, locals := ls, stack := .ref T.heap.size :: rest, locked := none }) _
  jvm_step X₁.here [X₁.here.top, hexec, d3', Value.category]
  exact X₁.ldcString hexec (own := own) (text := text) (index := is) (a := sa) hown' hstr'.1 hstr'.2
    (g := { method := m, pc := pc + 4, locals := ls, stack := .ref T.heap.size :: .ref T.heap.size :: rest, locked := none }) rfl d4' _ hsteps
/-- 'throw new E("text")', the text by a wide index -/
theorem vx_throwSW {cc : ByteArray} {pc : Nat} (hexec : p.tables.exec = Jvm.exec) (hb : c.code = cc) (hl : l.stackTraces = false) {own cls text : String} {names : List String} {ik is ic mc ms sa : Nat} {A : Nat → Prop}
    (hown : s.vm.findClass own = some m.cls) (hcls : Bundle.fit cls = true) (hnames : ∀ n ∈ names, Bundle.fit n = true)
    (hk : (Cond.classLink own ik cls).before args s = true) (hini : (Cond.initialized cls).before args s = true) (hstr : vk_R own is text sa s) (hat : ∀ w ∈ vx_atS own ic cls names, w.before args s = true)
    (hgood : ∀ w ∈ Cond.classLink own ik cls :: Cond.initialized cls :: vx_atS own ic cls names, vx_ot w = true)
    (hU : vx_Zq Bundle.tN "UNASSIGNED_STACK" Bundle.steD A s s.heap) (hN : vx_Zq Bundle.tN "SUPPRESSED_SENTINEL" Bundle.listD A s s.heap) (hS : va_S A s.heap H locs) (hsize : ls.size = c.maxLocals)
    (d0 : decode cc pc = .ok (.new ik, 3)) (d3 : decode cc (pc + 3) = .ok (.dup, 1)) (d4 : decode cc (pc + 4) = .ok (.ldc_w is, 3)) (d7 : decode cc (pc + 7) = .ok (.invokespecial ic, 3)) (d10 : decode cc (pc + 10) = .ok (.athrow, 1))
    (hout : ∀ x ∈ c.exceptionTable.toList, covers x (pc + 10) = false)
    (hRframes : names.length + 3 < R.frames) (hRlocals : (rest.map fun v => v.category).sum + (13 * (names.length + 1) + 43) ≤ R.locals) (hRcells : cells + 1 ≤ R.cells) (hRslots : slots + 6 ≤ R.slots) (hlocks : meth.locks = false)
    (hx : ∀ t : State, s.vm.Alike t.vm → H.size ≤ t.heap.size → (∀ q : Nat, q < H.size → t.heap[q]? = H[q]?) → XC cls s t)
    (hf : ∀ z ∈ locs, free z.base) (hc : cells + 1 ≤ mc) (hs : slots + 6 ≤ ms) :
    W p l e R s m args below meth c H locs cells slots (vx_MQ below Qc XC args s mc ms free) (F0 m pc ls rest) := by
  intro T hT X
  have htr : e.platform.stackTraces = false := (show e.platform.stackTraces = l.stackTraces by rw [X.admits.platform]).trans hl
  have Y := vx_rebase X (R' := { frames := R.frames, locals := R.locals, cells := 1, slots := 6 }) (Nat.le_refl _) (Nat.le_refl _) hRcells hRslots
  obtain ⟨s', hA⟩ : ∃ z, z = (T.setVm s.vm).setFrames (.invoking m args :: below) := ⟨_, rfl⟩
  rw [← hA] at Y
  have hvm : s'.vm = s.vm := by rw [hA]; rfl
  have hhp : s'.heap = H := by rw [hA]; exact hT
  have hW0 : s.WarmedH s'.vm := by rw [hvm]; exact State.WarmedH.refl s
  have hat' : ∀ w ∈ vx_atS own ic cls names, w.before args s' = true := fun w hw => vx_ot_at hW0 hvm.symm (hgood w (List.mem_cons_of_mem _ (List.mem_cons_of_mem _ hw))) (hat w hw)
  have hk' : (Cond.classLink own ik cls).before args s' = true := vx_ot_at hW0 hvm.symm (hgood _ List.mem_cons_self) hk
  have hini' : (Cond.initialized cls).before args s' = true := vx_ot_at hW0 hvm.symm (hgood _ (List.mem_cons_of_mem _ List.mem_cons_self)) hini
  have hU' : vx_Zq Bundle.tN "UNASSIGNED_STACK" Bundle.steD A s' s'.heap := by rw [hhp]; exact vx_Zq.moved hW0.alike (hU.kept hS.2.1)
  have hN' : vx_Zq Bundle.tN "SUPPRESSED_SENTINEL" Bundle.listD A s' s'.heap := by rw [hhp]; exact vx_Zq.moved hW0.alike (hN.kept hS.2.1)
  have h : ∀ w ∈ Bundle.ownAtoms own ic cls names, w.before args s' = true := vx_own hat' (vx_isRefq hU'.1) (vx_isRefq hN'.1) hU'.2.word hN'.2.word
  have hown' : s'.vm.findClass own = some m.cls := by rw [hvm]; exact hown
  have hins : (Cond.instantiable cls 6).before args s' = true := h _ (by simp [Bundle.ownAtoms])
  obtain ⟨vm₁, cX, kX, hfX, hkX, -, -, X₁, st1⟩ := Y.newCold hexec (own := own) (C := cls) (index := ik) (n := 6) hown' hk' hins hini'
    (g := F0 m pc ls rest) rfl (by rw [hb]; exact d0) (Nat.le_refl _) (Nat.le_refl _)
  generalize hT1 : (T.setVm vm₁).pushCell { cls := cX, slots := kX.instanceTypes.map defaultValue, vm := .none } = T1 at X₁ st1
  have hcat : (Value.ref T.heap.size).category = 1 := rfl
  have hcellA : T1.heap[T.heap.size]? = some (freshCell cX kX) := by rw [← hT1]; exact State.heap_pushCell_size _ _
  have d3' : decode c.code (pc + 3) = .ok (.dup, 1) := by rw [hb]; exact d3
  have d4' : decode c.code (pc + 4) = .ok (.ldc_w is, 3) := by rw [hb]; exact d4
  have hstr' : vk_R own is text sa s' := vk_R.warm hW0 hstr
  obtain ⟨U, hsteps, hrun, hend, hW, hsame, ce, hce, hO⟩ := X₁.ctorThrowS hexec htr (own := own) (cls := cls) (names := names) (ic := ic) hown' hcls hnames h (fun x hx => nomatch hx) hfX hkX hcellA (by rw [hhp, hT]; exact Nat.le_refl _) (msg := .ref sa) rfl
    (g := { method := m, pc := pc + 7, locals := ls, stack := .ref sa :: .ref T.heap.size :: .ref T.heap.size :: rest, locked := none }) rfl hsize rfl rfl (rest := rest) rfl
    (by rw [hb]; exact d7) (by rw [hb]; exact d10) hout hRframes (by simp only [List.map_cons, List.sum_cons, hcat]; omega) hlocks
  obtain ⟨f1, f2⟩ := vx_frame hsame
  rw [hhp] at f1 f2
  have hWs : s.WarmedH U.vm := State.WarmedH.trans hW0 hW
  have hcl : s.vm.findClass cls = some ce.cls := by
    have h9 := hO.cls
    rw [hvm] at h9
    exact h9
  have hall : s.sameButNew ({ U with vm := s.vm } : State) locs mc ms := by
    subst hA
    obtain ⟨e1, e2⟩ := hsame
    rw [State.setFrames_setFrames] at e1
    have h2 : (T.setVm s.vm).sameButNew ({ U with vm := s.vm } : State) [] (0 + 1) (0 + 6) := ⟨e1, e2⟩
    have h3 := X.same.trans h2
    rw [List.append_nil] at h3
    exact h3.mono hc hs
  refine ⟨U, ?_, .threw T.heap.size, hrun, hend, Or.inr ⟨T.heap.size, rfl, cls, ce, locs, hx U hWs.alike f1 (fun q hq => f2 q hq (fun z hz => nomatch hz)), hce, hO.vm, hcl, hWs, hall, hf⟩⟩
  refine st1 _ ?_
  show Steps p.tables e below (T1.setTop { method := m, pc := pc + 3, locals := ls, stack := .ref T.heap.size :: rest, locked := none }) _
  jvm_step X₁.here [X₁.here.top, hexec, d3', Value.category]
  exact X₁.ldcStringW hexec (own := own) (text := text) (index := is) (a := sa) hown' hstr'.1 hstr'.2
    (g := { method := m, pc := pc + 4, locals := ls, stack := .ref T.heap.size :: .ref T.heap.size :: rest, locked := none }) rfl d4' _ hsteps
end Ends
section Bodies
variable {l : Launch}
theorem vx_ofW {y : MethodName} {ws ws' : List Cond} {rm : Room} {Pc : Array Value → State → Prop} {Qc : Array Value → State → Outcome → State → Prop} {XC : String → State → State → Prop} {mc ms : Nat} {free : Addr → Prop} {cc : ByteArray} {maxL : Nat} {ret : Option FieldType}
    (hy : plainName y.cls = true) (hw : ws = Cond.code y cc maxL ret :: ws')
    (body : ∀ p e s m args below meth c s₁, BodyLoose p l y (headSpec ws rm) cc maxL ret e s m args below meth c s₁ → c.maxLocals = maxL → (∀ x ∈ c.exceptionTable.toList, False) → Pc args s →
      W p l e (headSpec ws rm).room s m args below meth c s.heap [] 0 0 (vx_MQ below Qc XC args s mc ms free) (entryFrame m args maxL)) : vx_Met l y ws rm Pc Qc XC mc ms free := by
  refine MetFree.of_bodyS (code := cc) (maxLocals := maxL) (ret := ret) hy ?_ ?_
  · intro args s m h hn
    obtain ⟨meth, c, h1, h2, h3, h4, h5, h6, -, -⟩ := Cond.code_spec hn (atoms_spec (ws := ws) h _ (by rw [hw]; exact List.mem_cons_self))
    exact ⟨meth, c, h1, h2, h3, h4, h5, h6⟩
  · intro p e s m args below meth c s₁ B hml hP _
    have hh0 : s₁.heap = s.heap := by rw [B.state]; rfl
    have ht : ∀ x ∈ c.exceptionTable.toList, False := by
      obtain ⟨meth9, c9, h1, h2, -, -, -, -, h7, -⟩ := Cond.code_spec B.named (atoms_spec (ws := ws) B.pre _ (by rw [hw]; exact List.mem_cons_self))
      cases Option.some.inj (h1.symm.trans B.method)
      cases Option.some.inj (h2.symm.trans (Stand.of_body B).code)
      intro x hx
      rw [Array.isEmpty_iff.mp h7] at hx
      cases hx
    obtain ⟨t, a1, o, b1, b2, b3⟩ := body p e s m args below meth c s₁ B hml ht hP s₁ hh0 (Stand.of_body B)
    exact ⟨t, o, a1, b1, b2, b3⟩
/-- the table of a body with handlers -/
theorem vx_table {p : Program} {x y : MethodName} {S : Spec} {cc bytes : ByteArray} {maxL maxL' : Nat} {ret ret' : Option FieldType} {e : Env} {s s₁ : State} {m : MethodId} {args : Array Value} {below : List Frame} {meth : Method} {c : Code} {hh : List (Nat × Nat × Nat × Nat)}
    (B : BodyLoose p l y S cc maxL ret e s m args below meth c s₁) (h : (Cond.codeWith y bytes maxL' ret' hh).before args s = true) : c.exceptionTable.toList = tableOf hh := by
  obtain ⟨m9, meth9, c9, hn9, h1, h2, -, -, h6, -⟩ := Cond.codeWith_spec h
  cases Option.some.inj (hn9.symm.trans B.named)
  cases Option.some.inj (h1.symm.trans B.method)
  cases Option.some.inj (h2.symm.trans (Stand.of_body B).code)
  rw [← h6, table_eq]
end Bodies
end VXA
/-! ===== END ===== -/
/-! ===== BEGIN a static call of a method with an exception table ===== -/
section VXS
variable {p : Program} {l : Launch} {e : Env} {R : Room} {s : State} {m : MethodId} {args : Array Value} {below : List Frame} {meth : Method} {c : Code} {T : State} {H : Heap} {locs : List Loc} {cells slots : Nat}
abbrev vx_CSW (R : Room) (s : State) (args : Array Value) (own : String) (index : Nat) (y : MethodName) (bytes : ByteArray) (maxL : Nat) (ret : Option FieldType) (hh : List (Nat × Nat × Nat × Nat)) (ws : List Cond) (rm : Room) (mc ms n : Nat) : Prop :=
  (rm.cells = mc ∧ rm.slots = ms ∧ rm.frames + 1 ≤ R.frames ∧ 8 + (maxL + 11) + rm.locals ≤ R.locals ∧ (∀ w ∈ ws, ∀ (a' : Array Value) (U : State), s.WarmedH U.vm → w.before a' U = true) ∧ Cond.codeWith y bytes maxL ret hh ∈ ws) ∧
  (Cond.codeWith y bytes maxL ret hh).before args s = true ∧ (Cond.initialized y.cls).before args s = true ∧ (y.cls ≠ "java/lang/invoke/MethodHandle" ∧ y.cls ≠ "java/lang/invoke/VarHandle") ∧
  (∀ sig, parseMethodDescriptor y.desc = some sig → n = sig.parameters.length) ∧ (Cond.methodLink own index y).before args s = true ∧ (Cond.static y).before args s = true
theorem vx_cwSW {own : String} {index maxL mc ms : Nat} {y : MethodName} {bytes : ByteArray} {ret : Option FieldType} {hh : List (Nat × Nat × Nat × Nat)} {Ts ws ws' : List Cond} {rm : Room} (n : Nat) (ht : ∀ w ∈ Ts, w.before args s = true) (hT : GoodIn Ts (va_wsS own index y ws)) (hw : ws = Cond.codeWith y bytes maxL ret hh :: ws') (hrc : rm.cells = mc) (hrs : rm.slots = ms)
    (hd : y.cls ≠ "java/lang/invoke/MethodHandle" ∧ y.cls ≠ "java/lang/invoke/VarHandle" ∧ (parseMethodDescriptor y.desc).map (fun d => d.parameters.length) = some n) (hR : rm.frames + 1 ≤ R.frames ∧ 8 + (maxL + 11) + rm.locals ≤ R.locals) :
    vx_CSW R s args own index y bytes maxL ret hh ws rm mc ms n := by
  have ok : ∀ w ∈ va_wsS own index y ws, w.before args s = true := fun w h => ht w (hT w h).1
  have hG : GoodIn Ts ws := fun w h => hT w (by unfold va_wsS; exact List.mem_append_right _ h)
  have hc : Cond.codeWith y bytes maxL ret hh ∈ ws := by rw [hw]; exact List.mem_cons_self
  refine ⟨⟨hrc, hrs, hR.1, hR.2, pay_in ht hG, hc⟩, ht _ (hG _ hc).1, ok _ (by simp [va_wsS]), ⟨hd.1, hd.2.1⟩, fun sig h => ?_, ok _ (by simp [va_wsS]), ok _ (by simp [va_wsS])⟩
  have h2 := hd.2.2
  rw [h] at h2
  exact (Option.some.inj h2).symm
theorem vx_callSW (X : Stand p l e R s m args below meth c T locs cells slots) (hexec : p.tables.exec = Jvm.exec) {own : String} {index : Nat} {y : MethodName} {bytes : ByteArray} {maxL : Nat} {ret : Option FieldType} {hh : List (Nat × Nat × Nat × Nat)}
    (hown : s.vm.findClass own = some m.cls) (hlink : (Cond.methodLink own index y).before args s = true) (hstat : (Cond.static y).before args s = true) (hinit : (Cond.initialized y.cls).before args s = true)
    (hcode : (Cond.codeWith y bytes maxL ret hh).before args s = true) (hy : y.cls ≠ "java/lang/invoke/MethodHandle" ∧ y.cls ≠ "java/lang/invoke/VarHandle")
    {W9 : Nat} {Pre : Pt → Array Value → Prop} {Post : Pt → Array Value → Option Value → Pt → Prop} (hK : Back l R p e below s args y 3 W9 Pre Post)
    {g : JFrame} (hg : g.method = m) (hsize : g.locals.size = c.maxLocals) {argsL rest : List Value} (hlen : ∀ sig, parseMethodDescriptor y.desc = some sig → argsL.length = sig.parameters.length)
    (hstack : g.stack = argsL.reverse ++ rest) (hW : 2 * g.monitorRoom + (rest.map fun v => v.category).sum ≤ W9) (hdg : decode c.code g.pc = .ok (.invokestatic index, 3))
    (hpre : ∀ vm₁, s.WarmedH vm₁ → Pre ⟨T.setVm vm₁, locs, cells, slots⟩ argsL.toArray) :
    ∃ (v : Option Value) (vm₁ : Vm) (B : Pt), s.WarmedH vm₁ ∧ Stand p l e R s m args below meth c B.U B.locs B.cells B.slots ∧ Post ⟨T.setVm vm₁, locs, cells, slots⟩ argsL.toArray v B ∧
      ∀ target, Steps p.tables e below (B.U.setTop { g with pc := g.pc + 3, stack := v.toList ++ rest }) target → Steps p.tables e below (T.setTop g) target := by
  obtain ⟨mk, methM, cM, hnamed, hmethM, -, -, -, -, -, -, hsigM⟩ := Cond.codeWith_spec hcode
  have hstatic : methM.isStatic = true := Cond.static_spec hnamed hmethM hstat
  obtain ⟨kP, hkP, -⟩ := className_of_methodNamed hnamed
  have hinitP : kP.init = .initialized := Cond.initialized_spec (findClass_of_methodNamed hnamed) hkP hinit
  obtain ⟨vm₁, X₁, hstep₁⟩ := X.invokestatic hexec hown hlink hnamed hmethM hstatic hkP hinitP hy (g := g) hg (argsL := argsL) (rest := rest) (hlen _ hsigM) hstack hdg
  obtain ⟨v, B, X', hpost, hsteps⟩ := hK m meth c ⟨T.setVm vm₁, locs, cells, slots⟩ { g with stack := rest } (.invokestatic index) mk argsL.toArray X₁ hg hsize hdg hW (X₁.named hnamed) (hpre vm₁ X₁.warmed)
  exact ⟨v, vm₁, B, X₁.warmed, X', hpost, fun target h => hstep₁ _ fun acts => by rw [doInvoke_state]; exact hsteps.trans h⟩
theorem vx_runSW {y : MethodName} {bytes cc : ByteArray} {maxL nL mc ms n index : Nat} {ret : Option FieldType} {hh : List (Nat × Nat × Nat × Nat)} {ws : List Cond} {rm : Room} {Pc : Array Value → State → Prop} {Qc : Array Value → State → Outcome → State → Prop} {free : Addr → Prop} {Ts : List Cond} {own : String} {As rest : List Value} {g : JFrame}
    (S : CallFix p m c cc nL s args Ts own) (hM : Met l y ws rm Pc Qc mc ms free) (cw : vx_CSW R s args own index y bytes maxL ret hh ws rm mc ms n) (hp : PreS s H Pc As)
    (hg : g.method = m) (hn : As.length = n) (hsize : g.locals.size = nL) (hstack : g.stack = As.reverse ++ rest) (hW : 2 * g.monitorRoom + (rest.map fun v => v.category).sum ≤ 8) (hdg : decode cc g.pc = .ok (.invokestatic index, 3)) (hf : cells + mc ≤ R.cells ∧ slots + ms ≤ R.slots) :
    va_Run p l e R s m args below meth c H locs cells slots mc ms g rest (Qc As.toArray) (free) := by
  obtain ⟨⟨hrc, hrs, hfr, hlo, hws, hcw⟩, hcode, hini, hy, hlen, hl, hstt⟩ := cw
  have hK : Back l R p e below s args y 3 8 (PreOf R mc ms Pc) (PostOf Qc mc ms free) := va_backW (hh := hh) (bytes := bytes) (maxL := maxL) (ret := ret) hM hp.1 hrc hrs hfr hlo hws hcw (fun a' U hW => word_at hW (Or.inl (by first | rfl | simp [Cond.onTables, Cond.keeps, Cond.steady])) hini)
  obtain ⟨hx, hb, hml, ho, -⟩ := S
  intro T hT X
  obtain ⟨v, vm₁, ⟨U', l2, c2, s2⟩, hW₁, X', ⟨g', mk, t, L, e1, e2, hq, h1, hL, h2, h3⟩, st⟩ := vx_callSW X hx (hh := hh) (bytes := bytes) (maxL := maxL) (ret := ret) ho hl hstt hini hcode hy hK hg (hsize.trans hml.symm) (argsL := As) (rest := rest) (fun sig h => hn.trans (hlen sig h)) hstack hW (by rw [hb]; exact hdg)
    (fun vm₁ hW₁ => ⟨hf.1, hf.2, hp.2 (T.setVm vm₁) hT hW₁⟩)
  dsimp only [Pt.U, Pt.locs, Pt.cells, Pt.slots] at X' e1 e2 h1 h2 h3 st
  subst h1; subst h2; subst h3
  exact ⟨v, (T.setVm vm₁).calling g' mk As.toArray, t, U', L, hT, X', hL, e1, e2, hq, st⟩
/-- not caught here, past rows that name other classes: it goes on to the caller -/
theorem vx_outP {p : Program} {l : Launch} {e : Env} {R : Room} {s : State} {m : MethodId} {args : Array Value} {below : List Frame} {meth : Method} {c : Code} {H : Heap} {locs : List Loc} {cells slots : Nat} {free : Addr → Prop} {ls : Array Slot} {rest : List Value} {Qc : Array Value → State → Outcome → State → Prop} {XC : String → State → State → Prop}
    {pc : Nat} {own E : String} {ce : Cell} {q : Addr} {mc ms : Nat} (hown : s.vm.findClass own = some m.cls) (hlocks : meth.locks = false)
    (hpass : ∀ z ∈ c.exceptionTable.toList, covers z pc = false ∨ (z.catchType ≠ 0 ∧ ∃ nm : String, (Cond.classLink own z.catchType nm).before args s = true ∧ va_Nc E nm s)) (hcell : H[q]? = some ce) (hv : ce.vm = .none) (hcl : s.vm.findClass E = some ce.cls)
    (hx : ∀ t : State, t.heap = H → s.vm.Alike t.vm → XC E s t) (hf : ∀ z ∈ locs, free z.base) (hc : cells ≤ mc) (hs : slots ≤ ms) :
    vx_W p l e R s m args below meth c H locs cells slots (vx_MQ below Qc XC args s mc ms free) (F0 m pc ls rest) q := by
  intro T hT X
  have hpl : e.platform.magicAccessors = ({} : Platform).magicAccessors := by rw [X.admits.platform]
  obtain ⟨vm', hW', X', st⟩ := X.outThrough hlocks q (g := F0 m pc ls rest) rfl rfl rfl (cell := ce) (by rw [hT]; exact hcell) (by rw [hv]; rfl)
    (by obtain ⟨k9, h9, -⟩ := Vm.findClass_spec hcl; exact ⟨k9, h9⟩) (fun z hz => by
      rcases hpass z hz with h | ⟨hz0, nm, hl1, hn1⟩
      · exact Or.inl h
      · obtain ⟨c6, hc6, hcl6⟩ := Cond.classLink_spec hown hl1 e.platform hpl
        obtain ⟨a8, b8, h1, h2, h3⟩ := hn1
        cases Option.some.inj (h1.symm.trans hcl)
        cases Option.some.inj (h2.symm.trans hc6)
        exact Or.inr ⟨hz0, _, hcl6, h3⟩)
  obtain ⟨g₀, hfr⟩ := X'.frames_eq
  have hcell9 : ((T.setVm vm').setFrames (.throwing q :: below)).heap[q]? = some ce := by
    show T.heap[q]? = some ce
    rw [hT]; exact hcell
  have hend : Ended ((T.setVm vm').setFrames (.throwing q :: below)) below (.threw q) := State.frames_setFrames _ (State.cur_lt_of_frames hfr)
  refine ⟨(T.setVm vm').setFrames (.throwing q :: below), ?_, .threw q, X'.here.running, hend, Or.inr ⟨q, rfl, E, ce, locs, hx _ hT (X'.ends _).1.alike, hcell9, hv, hcl, (X'.ends _).1, (X'.ends _).2.mono hc hs, hf⟩⟩
  rw [X.pushThrowing_eq]
  exact st
/-- a thing of a world lies in the heap -/
theorem vx_lt {D : va_G} {cl : List vw_C} {ws : va_W} {H1 : Heap} (h : va_P D cl ws H1) {k : Nat} {q : Nat × va_E} (hk : ws[k]? = some q) : q.1 < H1.size := (h k q hk).lt
end VXS
/-! ===== END ===== -/
/-! ===== BEGIN methods with a table of their own: called by a name, returning or throwing ===== -/
section VXH
/-! vx_backW, vx_callVX, vx_callSX, vx_callVW, vx_runVW, vx_runVX, vx_runSX, vx_ofWH follow the same proofs as their sisters above (Free/Laws.lean, Shelf42/LK1.lean); vx_outP calls Shelf42/NT130.lean (outThrough). -/
section
variable {l : Launch} {R : Room} {p : Program} {e : Env} {below : List Frame} {s : State} {sargs : Array Value} {y : MethodName} {len W9 : Nat}
theorem vx_backW {ws : List Cond} {rm : Room} {Pc : Array Value → State → Prop} {Qc : Array Value → State → Outcome → State → Prop} {XC : String → State → State → Prop} {mc ms : Nat} {free : Addr → Prop} {bytes : ByteArray} {maxL : Nat} {ret : Option FieldType} {hh : List (Nat × Nat × Nat × Nat)}
    (hM : vx_Met l y ws rm Pc Qc XC mc ms free) (hblind : FrameBlind Pc) (hrc : rm.cells = mc) (hrs : rm.slots = ms)
    (hframes : rm.frames + 1 ≤ R.frames) (hlocals : W9 + (maxL + 11) + rm.locals ≤ R.locals)
    (hws : ∀ w ∈ ws, ∀ a' U, s.WarmedH U.vm → w.before a' U = true) (hcode : Cond.codeWith y bytes maxL ret hh ∈ ws) (hinit : ∀ a' U, s.WarmedH U.vm → (Cond.initialized y.cls).before a' U = true) :
    vx_Back l R p e below s sargs y len W9 (PreOf R mc ms Pc) (PostOf Qc mc ms free) (vx_Post XC mc ms free) := by
  intro m meth c A g ig mk a X hg hsize hdg hW hn hp
  have h1 : (headSpec ws rm).pre.before a A.U = true := atoms_intro fun w hw => hws w hw _ _ X.warmed
  have h2 : (Cond.codeWith y bytes maxL ret hh).before a A.U = true := hws _ hcode _ _ X.warmed
  have h3 : (Cond.initialized y.cls).before a A.U = true := hinit _ _ X.warmed
  have h4 : A.cells + (headSpec ws rm).room.cells ≤ R.cells := by rw [show (headSpec ws rm).room.cells = mc from hrc]; exact hp.1
  have h5 : A.slots + (headSpec ws rm).room.slots ≤ R.slots := by rw [show (headSpec ws rm).room.slots = ms from hrs]; exact hp.2.1
  have hPc : Pc a (A.U.calling g mk a) := hblind _ _ _ _ hp.2.2
  obtain ⟨U, Ls, c0, s0⟩ := A
  dsimp only [Pt.U, Pt.locs, Pt.cells, Pt.slots] at h1 h2 h3 h4 h5 X hn hPc ⊢
  obtain ⟨m9, methY, cY, hn9, hmY, hcY, -, hlY, -⟩ := Cond.codeWith_spec h2
  cases Option.some.inj (hn9.symm.trans hn)
  obtain ⟨kY, hkY, -⟩ := className_of_methodNamed hn
  have hinitY : kY.init = .initialized := Cond.initialized_spec (findClass_of_methodNamed hn) hkY h3
  have h : At U g.method c below := by rw [hg]; exact X.here
  have hlocals9 : W9 + (maxL + 11) + (headSpec ws rm).room.locals ≤ R.locals := hlocals
  have happ : (headSpec ws rm).appliesLoose y e.platform (U.calling g mk a) = true :=
    Spec.appliesLoose_calling (g := g) h hdg hn hkY hinitY
      (X.room_calling (g := g) (R' := (headSpec ws rm).room) hsize hmY hcY hframes (by rw [hlY]; omega) h4 h5) h1
  obtain ⟨mid, hmid⟩ := h.above
  have hfr : (U.setTop g).frames = (.java g :: mid) ++ below := by rw [State.frames_setTop' g h.top, hmid]; rfl
  obtain ⟨o, s₂, hsteps, -, hend, hq⟩ := Steps.callFree hM p X.admits X.cas X.clock (acts := []) hfr happ hPc trivial
  have hq' : vx_Q Qc XC mc ms free a (U.calling g mk a) o s₂ := hq
  rw [State.frames_setTop' g h.top] at hend
  obtain ⟨g₀, hg0⟩ := Option.isSome_iff_exists.mp h.top
  obtain ⟨r, hr⟩ := State.topJava?_eq_some.mp hg0
  have hr' : (({ U with heap := s₂.heap, slotsUsed := s₂.slotsUsed } : State).setVm s₂.vm).frames = .java g₀ :: r := hr
  rcases hq' with ⟨hqc, L, hfe, hL⟩ | ⟨q, rfl, E, ce, L, hx, hce, hcv, hcl, hW₂, hsm, hL⟩
  · obtain ⟨⟨v, rfl⟩, hW₂, e2, q2, q3, q4, q5, q6⟩ := id hfe
    have e3 : s₂ = ({ (U.calling g mk a).setFrames s₂.frames with heap := s₂.heap, slotsUsed := s₂.slotsUsed } : State).setVm s₂.vm := by
      have : s₂ = ({ s₂ with vm := (U.calling g mk a).vm } : State).setVm s₂.vm := rfl
      rw [e2] at this
      exact this
    obtain ⟨c₂, i₂, len₂, hc₂, hd₂, hf₂⟩ := hend
    have hW' : U.WarmedH s₂.vm := hW₂
    have hcc : c₂ = c := by
      have h1 : s₂.code? g.method = U.code? g.method := by
        rw [State.code?_eq, State.code?_eq, hW'.alike.method?]
      exact Option.some.inj (hc₂.symm.trans (h1.trans h.code))
    subst hcc
    have hlen : len₂ = len := by rw [hdg] at hd₂; cases hd₂; rfl
    subst hlen
    have hs₂ : s₂ = (({ U with heap := s₂.heap, slotsUsed := s₂.slotsUsed } : State).setVm s₂.vm).setTop { g with pc := g.pc + len₂, stack := v.toList ++ g.stack } := by
      refine e3.trans ?_
      rw [hf₂, State.calling_eq h.top, State.setFrames_setFrames, State.setTop_of_frames _ hr', hr]
      rfl
    have hsame : U.sameButNew ({ U with heap := s₂.heap, slotsUsed := s₂.slotsUsed } : State) L mc ms := by
      refine ⟨?_, q2, q3, q4, q5, q6⟩
      obtain ⟨t, ht, -⟩ := State.frames_cons hr
      show ({ U with heap := s₂.heap, slotsUsed := s₂.slotsUsed } : State) = { U.setFrames U.frames with heap := s₂.heap, slotsUsed := s₂.slotsUsed }
      rw [State.setFrames_self ht]
    subst hg
    refine Or.inl ⟨v, ⟨(({ U with heap := s₂.heap, slotsUsed := s₂.slotsUsed } : State).setVm s₂.vm), Ls ++ L, c0 + mc, s0 + ms⟩,
      ⟨X.admits, X.cas, X.clock, X.frames, X.room, X.hears, X.method, X.code, (X.here.setHeapUsed s₂.heap s₂.slotsUsed).setVm hW'.alike, X.tail, State.WarmedH.trans X.warmed hW', X.limits, X.bytes, X.same.trans (hsame.setVm s.vm)⟩,
      ⟨g, mk, s₂, L, rfl, rfl, hqc, rfl, hL, rfl, rfl⟩, ?_⟩
    show Steps p.tables e below _ ((({ U with heap := s₂.heap, slotsUsed := s₂.slotsUsed } : State).setVm s₂.vm).setTop { g with pc := g.pc + len₂, stack := v.toList ++ g.stack })
    rw [← hs₂]
    exact hsteps
  · obtain ⟨e2, q2, q3, q4, q5, q6⟩ := id hsm
    have e3 : s₂ = ({ (U.calling g mk a).setFrames s₂.frames with heap := s₂.heap, slotsUsed := s₂.slotsUsed } : State).setVm s₂.vm := by
      have : s₂ = ({ s₂ with vm := (U.calling g mk a).vm } : State).setVm s₂.vm := rfl
      rw [e2] at this
      exact this
    have hf₂ : s₂.frames = .throwing q :: .java g :: U.frames.tail := hend
    have hW' : U.WarmedH s₂.vm := hW₂
    have hs₂ : s₂ = ((({ U with heap := s₂.heap, slotsUsed := s₂.slotsUsed } : State).setVm s₂.vm).setTop g).pushFrame (.throwing q) := by
      refine e3.trans ?_
      rw [hf₂, State.calling_eq h.top, State.setFrames_setFrames, State.pushFrame, State.frames_setTop _ hr', State.setTop_of_frames _ hr', State.setFrames_setFrames, hr]
      rfl
    have hsame : U.sameButNew ({ U with heap := s₂.heap, slotsUsed := s₂.slotsUsed } : State) L mc ms := by
      refine ⟨?_, q2, q3, q4, q5, q6⟩
      obtain ⟨t, ht, -⟩ := State.frames_cons hr
      show ({ U with heap := s₂.heap, slotsUsed := s₂.slotsUsed } : State) = { U.setFrames U.frames with heap := s₂.heap, slotsUsed := s₂.slotsUsed }
      rw [State.setFrames_self ht]
    subst hg
    refine Or.inr ⟨q, ⟨(({ U with heap := s₂.heap, slotsUsed := s₂.slotsUsed } : State).setVm s₂.vm), Ls ++ L, c0 + mc, s0 + ms⟩,
      ⟨X.admits, X.cas, X.clock, X.frames, X.room, X.hears, X.method, X.code, (X.here.setHeapUsed s₂.heap s₂.slotsUsed).setVm hW'.alike, X.tail, State.WarmedH.trans X.warmed hW', X.limits, X.bytes, X.same.trans (hsame.setVm s.vm)⟩,
      ⟨g, mk, s₂, L, E, ce, rfl, rfl, hx, hce, hcv, hcl, rfl, hL, rfl, rfl⟩, ?_⟩
    show Steps p.tables e below _ (((({ U with heap := s₂.heap, slotsUsed := s₂.slotsUsed } : State).setVm s₂.vm).setTop g).pushFrame (.throwing q))
    rw [← hs₂]
    exact hsteps
end
variable {p : Program} {l : Launch} {e : Env} {R : Room} {s : State} {m : MethodId} {args : Array Value} {below : List Frame} {meth : Method} {c : Code} {T : State} {H : Heap} {locs : List Loc} {cells slots : Nat}
theorem vx_callVX (X : Stand p l e R s m args below meth c T locs cells slots) (hexec : p.tables.exec = Jvm.exec) {own C : String} {index : Nat} {y : MethodName} {bytes : ByteArray} {maxL : Nat} {ret : Option FieldType} {hh : List (Nat × Nat × Nat × Nat)}
    (hown : s.vm.findClass own = some m.cls) (hlink : (Cond.methodLink own index y).before args s = true) (hinst : (Cond.instanceMethod y).before args s = true) (hsel : (Cond.selects C y y).before args s = true)
    (hcode : (Cond.codeWith y bytes maxL ret hh).before args s = true) (hy : y.cls ≠ "java/lang/invoke/MethodHandle" ∧ y.cls ≠ "java/lang/invoke/VarHandle")
    {W9 : Nat} {Pre : Pt → Array Value → Prop} {Post : Pt → Array Value → Option Value → Pt → Prop} {PostX : Pt → Array Value → Addr → Pt → Prop} (hK : vx_Back l R p e below s args y 3 W9 Pre Post PostX)
    {b : Addr} {cellB : Cell} (hcell : T.heap[b]? = some cellB) (hobj : cellB.vm.isStatics = false) (hcls : s.vm.findClass C = some cellB.cls)
    {g : JFrame} (hg : g.method = m) (hsize : g.locals.size = c.maxLocals) {argsL rest : List Value} (hlen : ∀ sig, parseMethodDescriptor y.desc = some sig → argsL.length = sig.parameters.length)
    (hstack : g.stack = argsL.reverse ++ .ref b :: rest) (hW : 2 * g.monitorRoom + (rest.map fun v => v.category).sum ≤ W9) (hdg : decode c.code g.pc = .ok (.invokevirtual index, 3))
    (hpre : ∀ vm₁, s.WarmedH vm₁ → Pre ⟨T.setVm vm₁, locs, cells, slots⟩ (Value.ref b :: argsL).toArray) :
    (∃ (v : Option Value) (vm₁ : Vm) (B : Pt), s.WarmedH vm₁ ∧ Stand p l e R s m args below meth c B.U B.locs B.cells B.slots ∧ Post ⟨T.setVm vm₁, locs, cells, slots⟩ (Value.ref b :: argsL).toArray v B ∧
      ∀ target, Steps p.tables e below (B.U.setTop { g with pc := g.pc + 3, stack := v.toList ++ rest }) target → Steps p.tables e below (T.setTop g) target) ∨
    (∃ (q : Addr) (vm₁ : Vm) (B : Pt), s.WarmedH vm₁ ∧ Stand p l e R s m args below meth c B.U B.locs B.cells B.slots ∧ PostX ⟨T.setVm vm₁, locs, cells, slots⟩ (Value.ref b :: argsL).toArray q B ∧
      Steps p.tables e below (T.setTop g) ((B.U.setTop { g with stack := rest }).pushFrame (.throwing q))) := by
  obtain ⟨mk, methM, hnamed, hmethM, hstM, habM⟩ := Cond.instanceMethod_spec hinst
  obtain ⟨m8, methM', cM, hn8, hmethM', -, -, -, -, -, -, hsigM⟩ := Cond.codeWith_spec hcode
  cases Option.some.inj (hn8.symm.trans hnamed)
  cases hmethM.symm.trans hmethM'
  obtain ⟨c2, r2, m2, q1, q2, q3, q4, kP, hkP, hkPi⟩ := Cond.selects_spec hsel
  cases hcls.symm.trans q1
  cases (State.methodFound?_of_named hnamed hy).symm.trans q2
  cases hnamed.symm.trans q3
  have hselP : selectMethod e.platform s.vm cellB.cls mk = .method mk := by rw [Launch.admits_selectMethod X.admits]; exact q4
  obtain ⟨vm₁, X₁, hstep₁⟩ := X.invokevirtual hexec hown hlink hnamed hmethM hstM hkP hkPi hy (a := b) (cell := cellB) hcell
    (fun z h => by rw [h] at hobj; cases hobj) hselP hmethM habM hkP hkPi (g := g) hg (argsL := argsL) (rest := rest) (hlen _ hsigM) hstack hdg
  rcases hK m meth c ⟨T.setVm vm₁, locs, cells, slots⟩ { g with stack := rest } (.invokevirtual index) mk (Value.ref b :: argsL).toArray X₁ hg hsize hdg hW (X₁.named hnamed) (hpre vm₁ X₁.warmed) with ⟨v, B, X', hpost, hsteps⟩ | ⟨q, B, X', hpost, hsteps⟩
  · exact Or.inl ⟨v, vm₁, B, X₁.warmed, X', hpost, fun target h => hstep₁ _ fun acts => by rw [doInvoke_state]; exact hsteps.trans h⟩
  · exact Or.inr ⟨q, vm₁, B, X₁.warmed, X', hpost, hstep₁ _ fun acts => by rw [doInvoke_state]; exact hsteps⟩
theorem vx_callSX (X : Stand p l e R s m args below meth c T locs cells slots) (hexec : p.tables.exec = Jvm.exec) {own : String} {index : Nat} {y : MethodName} {bytes : ByteArray} {maxL : Nat} {ret : Option FieldType} {hh : List (Nat × Nat × Nat × Nat)}
    (hown : s.vm.findClass own = some m.cls) (hlink : (Cond.methodLink own index y).before args s = true) (hstat : (Cond.static y).before args s = true) (hinit : (Cond.initialized y.cls).before args s = true)
    (hcode : (Cond.codeWith y bytes maxL ret hh).before args s = true) (hy : y.cls ≠ "java/lang/invoke/MethodHandle" ∧ y.cls ≠ "java/lang/invoke/VarHandle")
    {W9 : Nat} {Pre : Pt → Array Value → Prop} {Post : Pt → Array Value → Option Value → Pt → Prop} {PostX : Pt → Array Value → Addr → Pt → Prop} (hK : vx_Back l R p e below s args y 3 W9 Pre Post PostX)
    {g : JFrame} (hg : g.method = m) (hsize : g.locals.size = c.maxLocals) {argsL rest : List Value} (hlen : ∀ sig, parseMethodDescriptor y.desc = some sig → argsL.length = sig.parameters.length)
    (hstack : g.stack = argsL.reverse ++ rest) (hW : 2 * g.monitorRoom + (rest.map fun v => v.category).sum ≤ W9) (hdg : decode c.code g.pc = .ok (.invokestatic index, 3))
    (hpre : ∀ vm₁, s.WarmedH vm₁ → Pre ⟨T.setVm vm₁, locs, cells, slots⟩ argsL.toArray) :
    (∃ (v : Option Value) (vm₁ : Vm) (B : Pt), s.WarmedH vm₁ ∧ Stand p l e R s m args below meth c B.U B.locs B.cells B.slots ∧ Post ⟨T.setVm vm₁, locs, cells, slots⟩ argsL.toArray v B ∧
      ∀ target, Steps p.tables e below (B.U.setTop { g with pc := g.pc + 3, stack := v.toList ++ rest }) target → Steps p.tables e below (T.setTop g) target) ∨
    (∃ (q : Addr) (vm₁ : Vm) (B : Pt), s.WarmedH vm₁ ∧ Stand p l e R s m args below meth c B.U B.locs B.cells B.slots ∧ PostX ⟨T.setVm vm₁, locs, cells, slots⟩ argsL.toArray q B ∧
      Steps p.tables e below (T.setTop g) ((B.U.setTop { g with stack := rest }).pushFrame (.throwing q))) := by
  obtain ⟨mk, methM, cM, hnamed, hmethM, -, -, -, -, -, -, hsigM⟩ := Cond.codeWith_spec hcode
  have hstatic : methM.isStatic = true := Cond.static_spec hnamed hmethM hstat
  obtain ⟨kP, hkP, -⟩ := className_of_methodNamed hnamed
  have hinitP : kP.init = .initialized := Cond.initialized_spec (findClass_of_methodNamed hnamed) hkP hinit
  obtain ⟨vm₁, X₁, hstep₁⟩ := X.invokestatic hexec hown hlink hnamed hmethM hstatic hkP hinitP hy (g := g) hg (argsL := argsL) (rest := rest) (hlen _ hsigM) hstack hdg
  rcases hK m meth c ⟨T.setVm vm₁, locs, cells, slots⟩ { g with stack := rest } (.invokestatic index) mk argsL.toArray X₁ hg hsize hdg hW (X₁.named hnamed) (hpre vm₁ X₁.warmed) with ⟨v, B, X', hpost, hsteps⟩ | ⟨q, B, X', hpost, hsteps⟩
  · exact Or.inl ⟨v, vm₁, B, X₁.warmed, X', hpost, fun target h => hstep₁ _ fun acts => by rw [doInvoke_state]; exact hsteps.trans h⟩
  · exact Or.inr ⟨q, vm₁, B, X₁.warmed, X', hpost, hstep₁ _ fun acts => by rw [doInvoke_state]; exact hsteps⟩
theorem vx_callVW (X : Stand p l e R s m args below meth c T locs cells slots) (hexec : p.tables.exec = Jvm.exec) {own C : String} {index : Nat} {y : MethodName} {bytes : ByteArray} {maxL : Nat} {ret : Option FieldType} {hh : List (Nat × Nat × Nat × Nat)}
    (hown : s.vm.findClass own = some m.cls) (hlink : (Cond.methodLink own index y).before args s = true) (hinst : (Cond.instanceMethod y).before args s = true) (hsel : (Cond.selects C y y).before args s = true)
    (hcode : (Cond.codeWith y bytes maxL ret hh).before args s = true) (hy : y.cls ≠ "java/lang/invoke/MethodHandle" ∧ y.cls ≠ "java/lang/invoke/VarHandle")
    {W9 : Nat} {Pre : Pt → Array Value → Prop} {Post : Pt → Array Value → Option Value → Pt → Prop} (hK : Back l R p e below s args y 3 W9 Pre Post)
    {b : Addr} {cellB : Cell} (hcell : T.heap[b]? = some cellB) (hobj : cellB.vm.isStatics = false) (hcls : s.vm.findClass C = some cellB.cls)
    {g : JFrame} (hg : g.method = m) (hsize : g.locals.size = c.maxLocals) {argsL rest : List Value} (hlen : ∀ sig, parseMethodDescriptor y.desc = some sig → argsL.length = sig.parameters.length)
    (hstack : g.stack = argsL.reverse ++ .ref b :: rest) (hW : 2 * g.monitorRoom + (rest.map fun v => v.category).sum ≤ W9) (hdg : decode c.code g.pc = .ok (.invokevirtual index, 3))
    (hpre : ∀ vm₁, s.WarmedH vm₁ → Pre ⟨T.setVm vm₁, locs, cells, slots⟩ (Value.ref b :: argsL).toArray) :
    ∃ (v : Option Value) (vm₁ : Vm) (B : Pt), s.WarmedH vm₁ ∧ Stand p l e R s m args below meth c B.U B.locs B.cells B.slots ∧ Post ⟨T.setVm vm₁, locs, cells, slots⟩ (Value.ref b :: argsL).toArray v B ∧
      ∀ target, Steps p.tables e below (B.U.setTop { g with pc := g.pc + 3, stack := v.toList ++ rest }) target → Steps p.tables e below (T.setTop g) target := by
  obtain ⟨mk, methM, hnamed, hmethM, hstM, habM⟩ := Cond.instanceMethod_spec hinst
  obtain ⟨m8, methM', cM, hn8, hmethM', -, -, -, -, -, -, hsigM⟩ := Cond.codeWith_spec hcode
  cases Option.some.inj (hn8.symm.trans hnamed)
  cases hmethM.symm.trans hmethM'
  obtain ⟨c2, r2, m2, q1, q2, q3, q4, kP, hkP, hkPi⟩ := Cond.selects_spec hsel
  cases hcls.symm.trans q1
  cases (State.methodFound?_of_named hnamed hy).symm.trans q2
  cases hnamed.symm.trans q3
  have hselP : selectMethod e.platform s.vm cellB.cls mk = .method mk := by rw [Launch.admits_selectMethod X.admits]; exact q4
  obtain ⟨vm₁, X₁, hstep₁⟩ := X.invokevirtual hexec hown hlink hnamed hmethM hstM hkP hkPi hy (a := b) (cell := cellB) hcell
    (fun z h => by rw [h] at hobj; cases hobj) hselP hmethM habM hkP hkPi (g := g) hg (argsL := argsL) (rest := rest) (hlen _ hsigM) hstack hdg
  obtain ⟨v, B, X', hpost, hsteps⟩ := hK m meth c ⟨T.setVm vm₁, locs, cells, slots⟩ { g with stack := rest } (.invokevirtual index) mk (Value.ref b :: argsL).toArray X₁ hg hsize hdg hW (X₁.named hnamed) (hpre vm₁ X₁.warmed)
  exact ⟨v, vm₁, B, X₁.warmed, X', hpost, fun target h => hstep₁ _ fun acts => by rw [doInvoke_state]; exact hsteps.trans h⟩
abbrev vx_CVW (R : Room) (s : State) (args : Array Value) (own C : String) (index : Nat) (y : MethodName) (bytes : ByteArray) (maxL : Nat) (ret : Option FieldType) (hh : List (Nat × Nat × Nat × Nat)) (ws : List Cond) (rm : Room) (mc ms n : Nat) : Prop :=
  (rm.cells = mc ∧ rm.slots = ms ∧ rm.frames + 1 ≤ R.frames ∧ 8 + (maxL + 11) + rm.locals ≤ R.locals ∧ (∀ w ∈ ws, ∀ (a' : Array Value) (U : State), s.WarmedH U.vm → w.before a' U = true) ∧ Cond.codeWith y bytes maxL ret hh ∈ ws) ∧
  (Cond.codeWith y bytes maxL ret hh).before args s = true ∧ (Cond.initialized y.cls).before args s = true ∧ (y.cls ≠ "java/lang/invoke/MethodHandle" ∧ y.cls ≠ "java/lang/invoke/VarHandle") ∧
  (∀ sig, parseMethodDescriptor y.desc = some sig → n = sig.parameters.length) ∧ (Cond.methodLink own index y).before args s = true ∧ (Cond.instanceMethod y).before args s = true ∧ (Cond.selects C y y).before args s = true
theorem vx_cwVW {own C : String} {index maxL mc ms : Nat} {y : MethodName} {bytes : ByteArray} {ret : Option FieldType} {hh : List (Nat × Nat × Nat × Nat)} {Ts ws ws' : List Cond} {rm : Room} (n : Nat) (ht : ∀ w ∈ Ts, w.before args s = true) (hT : GoodIn Ts (wsV own index C y ws)) (hw : ws = Cond.codeWith y bytes maxL ret hh :: ws') (hrc : rm.cells = mc) (hrs : rm.slots = ms)
    (hd : y.cls = C ∧ y.cls ≠ "java/lang/invoke/MethodHandle" ∧ y.cls ≠ "java/lang/invoke/VarHandle" ∧ (parseMethodDescriptor y.desc).map (fun d => d.parameters.length) = some n) (hR : rm.frames + 1 ≤ R.frames ∧ 8 + (maxL + 11) + rm.locals ≤ R.locals) :
    vx_CVW R s args own C index y bytes maxL ret hh ws rm mc ms n := by
  obtain ⟨hC, hd⟩ := hd
  subst hC
  have ok : ∀ w ∈ wsV own index y.cls y ws, w.before args s = true := fun w h => ht w (hT w h).1
  have hG : GoodIn Ts ws := fun w h => hT w (by unfold wsV; exact List.mem_append_right _ h)
  have hc : Cond.codeWith y bytes maxL ret hh ∈ ws := by rw [hw]; exact List.mem_cons_self
  refine ⟨⟨hrc, hrs, hR.1, hR.2, pay_in ht hG, hc⟩, ht _ (hG _ hc).1, ok _ (by simp [wsV]), ⟨hd.1, hd.2.1⟩, fun sig h => ?_, ok _ (by simp [wsV]), ok _ (by simp [wsV]), ok _ (by simp [wsV])⟩
  have h2 := hd.2.2
  rw [h] at h2
  exact (Option.some.inj h2).symm
theorem vx_runVW {y : MethodName} {bytes cc : ByteArray} {maxL nL mc ms n index : Nat} {ret : Option FieldType} {hh : List (Nat × Nat × Nat × Nat)} {ws : List Cond} {rm : Room} {Pc : Array Value → State → Prop} {Qc : Array Value → State → Outcome → State → Prop} {free : Addr → Prop} {Ts : List Cond} {own C : String} {b : Addr} {As rest : List Value} {g : JFrame}
    (S : CallFix p m c cc nL s args Ts own) (hM : Met l y ws rm Pc Qc mc ms free) (cw : vx_CVW R s args own C index y bytes maxL ret hh ws rm mc ms n) (hp : PreV s H C b Pc As)
    (hg : g.method = m) (hn : As.length = n) (hsize : g.locals.size = nL) (hstack : g.stack = As.reverse ++ .ref b :: rest) (hW : 2 * g.monitorRoom + (rest.map fun v => v.category).sum ≤ 8) (hdg : decode cc g.pc = .ok (.invokevirtual index, 3)) (hf : cells + mc ≤ R.cells ∧ slots + ms ≤ R.slots) :
    va_Run p l e R s m args below meth c H locs cells slots mc ms g rest (Qc (Value.ref b :: As).toArray) free := by
  obtain ⟨⟨hrc, hrs, hfr, hlo, hws, hcw⟩, hcode, hini, hy, hlen, hl, hin, hse⟩ := cw
  have hK : Back l R p e below s args y 3 8 (PreOf R mc ms Pc) (PostOf Qc mc ms free) := va_backW (hh := hh) (bytes := bytes) (maxL := maxL) (ret := ret) hM hp.1 hrc hrs hfr hlo hws hcw (fun a' U hW => word_at hW (Or.inl (by first | rfl | simp [Cond.onTables, Cond.keeps, Cond.steady])) hini)
  obtain ⟨hx, hb, hml, ho, -⟩ := S
  obtain ⟨-, ⟨cellB, hcB, hoB, hclB⟩, hPc⟩ := hp
  intro T hT X
  obtain ⟨v, vm₁, ⟨U', l2, c2, s2⟩, hW₁, X', ⟨g', mk, t, L, e1, e2, hq, h1, hL, h2, h3⟩, st⟩ := vx_callVW X hx (C := C) (hh := hh) (bytes := bytes) (maxL := maxL) (ret := ret) ho hl hin hse hcode hy hK (by rw [hT]; exact hcB) hoB hclB hg (hsize.trans hml.symm) (argsL := As) (rest := rest) (fun sig h => hn.trans (hlen sig h)) hstack hW (by rw [hb]; exact hdg)
    (fun vm₁ hW₁ => ⟨hf.1, hf.2, hPc (T.setVm vm₁) hT hW₁⟩)
  dsimp only [Pt.U, Pt.locs, Pt.cells, Pt.slots] at X' e1 e2 h1 h2 h3 st
  subst h1; subst h2; subst h3
  exact ⟨v, (T.setVm vm₁).calling g' mk (Value.ref b :: As).toArray, t, U', L, hT, X', hL, e1, e2, hq, st⟩
section
variable {y : MethodName} {bytes cc : ByteArray} {maxL nL mc ms n index : Nat} {ret : Option FieldType} {ws : List Cond} {rm : Room} {Pc : Array Value → State → Prop} {Qc : Array Value → State → Outcome → State → Prop} {XC : String → State → State → Prop} {free : Addr → Prop} {Ts : List Cond} {own C : String} {b : Addr} {As rest : List Value} {g : JFrame}
theorem vx_runVX {hh : List (Nat × Nat × Nat × Nat)} (S : CallFix p m c cc nL s args Ts own) (hM : vx_Met l y ws rm Pc Qc XC mc ms free) (cw : vx_CVW R s args own C index y bytes maxL ret hh ws rm mc ms n) (hp : PreV s H C b Pc As)
    (hg : g.method = m) (hn : As.length = n) (hsize : g.locals.size = nL) (hstack : g.stack = As.reverse ++ .ref b :: rest) (hW : 2 * g.monitorRoom + (rest.map fun v => v.category).sum ≤ 8) (hdg : decode cc g.pc = .ok (.invokevirtual index, 3)) (hf : cells + mc ≤ R.cells ∧ slots + ms ≤ R.slots) :
    vx_Run p l e R s m args below meth c H locs cells slots mc ms g rest (Qc (Value.ref b :: As).toArray) XC free := by
  obtain ⟨⟨hrc, hrs, hfr, hlo, hws, hcw⟩, hcode, hini, hy, hlen, hl, hin, hse⟩ := cw
  have hK : vx_Back l R p e below s args y 3 8 (PreOf R mc ms Pc) (PostOf Qc mc ms free) (vx_Post XC mc ms free) := vx_backW (hh := hh) (bytes := bytes) (maxL := maxL) (ret := ret) hM hp.1 hrc hrs hfr hlo hws hcw (fun a' U hW => word_at hW (Or.inl (by first | rfl | simp [Cond.onTables, Cond.keeps, Cond.steady])) hini)
  obtain ⟨hx, hb, hml, ho, -⟩ := S
  obtain ⟨-, ⟨cellB, hcB, hoB, hclB⟩, hPc⟩ := hp
  intro T hT X
  rcases vx_callVX X hx (C := C) (hh := hh) (bytes := bytes) (maxL := maxL) (ret := ret) ho hl hin hse hcode hy hK (by rw [hT]; exact hcB) hoB hclB hg (hsize.trans hml.symm) (argsL := As) (rest := rest) (fun sig h => hn.trans (hlen sig h)) hstack hW (by rw [hb]; exact hdg)
    (fun vm₁ hW₁ => ⟨hf.1, hf.2, hPc (T.setVm vm₁) hT hW₁⟩) with ⟨v, vm₁, ⟨U', l2, c2, s2⟩, hW₁, X', ⟨g', mk, t, L, e1, e2, hq, h1, hL, h2, h3⟩, st⟩ | ⟨q, vm₁, ⟨U', l2, c2, s2⟩, hW₁, X', ⟨g', mk, t, L, E, ce, e1, e2, hq, hce, hcv, hcl, h1, hL, h2, h3⟩, st⟩
  · dsimp only [Pt.U, Pt.locs, Pt.cells, Pt.slots] at X' e1 e2 h1 h2 h3 st
    subst h1; subst h2; subst h3
    exact Or.inl ⟨v, (T.setVm vm₁).calling g' mk (Value.ref b :: As).toArray, t, U', L, hT, X', hL, e1, e2, hq, st⟩
  · dsimp only [Pt.U, Pt.locs, Pt.cells, Pt.slots] at X' e1 e2 h1 h2 h3 st hcl
    subst h1; subst h2; subst h3
    exact Or.inr ⟨q, (T.setVm vm₁).calling g' mk (Value.ref b :: As).toArray, t, U', L, E, ce, hT, X', hL, e1, e2, hq, hce, hcv, vx_cls hW₁ hcl, st⟩
theorem vx_runSX {hh : List (Nat × Nat × Nat × Nat)} (S : CallFix p m c cc nL s args Ts own) (hM : vx_Met l y ws rm Pc Qc XC mc ms free) (cw : vx_CSW R s args own index y bytes maxL ret hh ws rm mc ms n) (hp : PreS s H Pc As)
    (hg : g.method = m) (hn : As.length = n) (hsize : g.locals.size = nL) (hstack : g.stack = As.reverse ++ rest) (hW : 2 * g.monitorRoom + (rest.map fun v => v.category).sum ≤ 8) (hdg : decode cc g.pc = .ok (.invokestatic index, 3)) (hf : cells + mc ≤ R.cells ∧ slots + ms ≤ R.slots) :
    vx_Run p l e R s m args below meth c H locs cells slots mc ms g rest (Qc As.toArray) XC free := by
  obtain ⟨⟨hrc, hrs, hfr, hlo, hws, hcw⟩, hcode, hini, hy, hlen, hl, hstt⟩ := cw
  have hK : vx_Back l R p e below s args y 3 8 (PreOf R mc ms Pc) (PostOf Qc mc ms free) (vx_Post XC mc ms free) := vx_backW (hh := hh) (bytes := bytes) (maxL := maxL) (ret := ret) hM hp.1 hrc hrs hfr hlo hws hcw (fun a' U hW => word_at hW (Or.inl (by first | rfl | simp [Cond.onTables, Cond.keeps, Cond.steady])) hini)
  obtain ⟨hx, hb, hml, ho, -⟩ := S
  intro T hT X
  rcases vx_callSX X hx (hh := hh) (bytes := bytes) (maxL := maxL) (ret := ret) ho hl hstt hini hcode hy hK hg (hsize.trans hml.symm) (argsL := As) (rest := rest) (fun sig h => hn.trans (hlen sig h)) hstack hW (by rw [hb]; exact hdg)
    (fun vm₁ hW₁ => ⟨hf.1, hf.2, hp.2 (T.setVm vm₁) hT hW₁⟩) with ⟨v, vm₁, ⟨U', l2, c2, s2⟩, hW₁, X', ⟨g', mk, t, L, e1, e2, hq, h1, hL, h2, h3⟩, st⟩ | ⟨q, vm₁, ⟨U', l2, c2, s2⟩, hW₁, X', ⟨g', mk, t, L, E, ce, e1, e2, hq, hce, hcv, hcl, h1, hL, h2, h3⟩, st⟩
  · dsimp only [Pt.U, Pt.locs, Pt.cells, Pt.slots] at X' e1 e2 h1 h2 h3 st
    subst h1; subst h2; subst h3
    exact Or.inl ⟨v, (T.setVm vm₁).calling g' mk As.toArray, t, U', L, hT, X', hL, e1, e2, hq, st⟩
  · dsimp only [Pt.U, Pt.locs, Pt.cells, Pt.slots] at X' e1 e2 h1 h2 h3 st hcl
    subst h1; subst h2; subst h3
    exact Or.inr ⟨q, (T.setVm vm₁).calling g' mk As.toArray, t, U', L, E, ce, hT, X', hL, e1, e2, hq, hce, hcv, vx_cls hW₁ hcl, st⟩
end
end VXH
theorem vx_ofWH {l : Launch} {y : MethodName} {ws ws' : List Cond} {rm : Room} {Pc : Array Value → State → Prop} {Qc : Array Value → State → Outcome → State → Prop} {XC : String → State → State → Prop} {mc ms : Nat} {free : Addr → Prop} {cc : ByteArray} {maxL : Nat} {ret : Option FieldType} {hh : List (Nat × Nat × Nat × Nat)}
    (hy : plainName y.cls = true) (hw : ws = Cond.codeWith y cc maxL ret hh :: ws')
    (body : ∀ p e s m args below meth c s₁, BodyLoose p l y (headSpec ws rm) cc maxL ret e s m args below meth c s₁ → c.maxLocals = maxL → Pc args s →
      W p l e (headSpec ws rm).room s m args below meth c s.heap [] 0 0 (vx_MQ below Qc XC args s mc ms free) (entryFrame m args maxL)) : vx_Met l y ws rm Pc Qc XC mc ms free := by
  refine MetFree.of_bodyS (code := cc) (maxLocals := maxL) (ret := ret) hy ?_ ?_
  · intro args s m h hn
    obtain ⟨m9, meth, c, hn9, h1, h2, h3, h4, -, h5, h6, -⟩ := Cond.codeWith_spec (atoms_spec (ws := ws) h _ (by rw [hw]; exact List.mem_cons_self))
    cases hn.symm.trans hn9
    exact ⟨meth, c, h1, h2, h3, h4, h5, h6⟩
  · intro p e s m args below meth c s₁ B hml hP _
    have hh0 : s₁.heap = s.heap := by rw [B.state]; rfl
    obtain ⟨t, a1, o, b1, b2, b3⟩ := body p e s m args below meth c s₁ B hml hP s₁ hh0 (Stand.of_body B)
    exact ⟨t, o, a1, b1, b2, b3⟩
/-! ===== END ===== -/
end
section
def RX0 : String := "ColorScheme$Colours"
def TX0 : u_T := fun k => match k with
  | _ => ("", "", "", false)
def tyX0 : Nat → FieldType := fun k => match k with
  | _ => .int
theorem nmX0 : ∀ a, a < 0 → ∀ b, b < 0 → a ≠ b → (TX0 a).2.1 ≠ (TX0 b).2.1 := by decide +kernel
theorem tyX0_ok : ∀ k, k < 0 → parseFieldDescriptor (TX0 k).2.2.1 = some (tyX0 k) := by decide +kernel
abbrev cX0_red : ByteArray := prog_2_method_2_code
def yX0_red : MethodName := ⟨RX0, "red", "(I)I"⟩
abbrev cX0_green : ByteArray := prog_2_method_3_code
def yX0_green : MethodName := ⟨RX0, "green", "(I)I"⟩
abbrev cX0_blue : ByteArray := prog_2_method_4_code
def yX0_blue : MethodName := ⟨RX0, "blue", "(I)I"⟩
abbrev cX0_joined : ByteArray := prog_2_method_5_code
def yX0_joined : MethodName := ⟨RX0, "joined", "(III)I"⟩
abbrev cX0_luminanceOf : ByteArray := prog_2_method_6_code
def yX0_luminanceOf : MethodName := ⟨RX0, "luminanceOf", "(I)I"⟩
abbrev cX0_contrastOf : ByteArray := prog_2_method_7_code
def yX0_contrastOf : MethodName := ⟨RX0, "contrastOf", "(II)I"⟩
abbrev cX0_seenWith : ByteArray := prog_2_method_8_code
def yX0_seenWith : MethodName := ⟨RX0, "seenWith", "(II)I"⟩
abbrev cX0_seenChannel : ByteArray := prog_2_method_9_code
def yX0_seenChannel : MethodName := ⟨RX0, "seenChannel", "(II)I"⟩
abbrev cX0_differenceOf : ByteArray := prog_2_method_10_code
def yX0_differenceOf : MethodName := ⟨RX0, "differenceOf", "(III)I"⟩
abbrev cX0_shifted : ByteArray := prog_2_method_11_code
def yX0_shifted : MethodName := ⟨RX0, "shifted", "(II)I"⟩
def RX1 : String := "ColorScheme$Design"
def TX1 : u_T := fun k => match k with
  | 0 => ("ColorScheme$Design", "roles", "I", false)
  | 1 => ("ColorScheme$Design", "colours", "[[I", true)
  | 2 => ("ColorScheme$Design", "fixed", "[Z", true)
  | 3 => ("ColorScheme$Design", "rules", "I", false)
  | 4 => ("ColorScheme$Design", "firsts", "[I", true)
  | 5 => ("ColorScheme$Design", "seconds", "[I", true)
  | 6 => ("ColorScheme$Design", "sights", "[I", true)
  | _ => ("ColorScheme$Design", "needs", "[[I", true)
def tyX1 : Nat → FieldType := fun k => match k with
  | 0 => .int
  | 1 => .array (.array .int)
  | 2 => .array .boolean
  | 3 => .int
  | 4 => .array .int
  | 5 => .array .int
  | 6 => .array .int
  | _ => .array (.array .int)
theorem nmX1 : ∀ a, a < 8 → ∀ b, b < 8 → a ≠ b → (TX1 a).2.1 ≠ (TX1 b).2.1 := by decide +kernel
theorem tyX1_ok : ∀ k, k < 8 → parseFieldDescriptor (TX1 k).2.2.1 = some (tyX1 k) := by decide +kernel
abbrev cX1_init : ByteArray := prog_3_method_1_code
def yX1_init : MethodName := ⟨RX1, "<init>", "()V"⟩
abbrev cX1_clear : ByteArray := prog_3_method_2_code
def yX1_clear : MethodName := ⟨RX1, "clear", "()V"⟩
abbrev cX1_addRole : ByteArray := prog_3_method_3_code
def yX1_addRole : MethodName := ⟨RX1, "addRole", "(IIZ)V"⟩
abbrev cX1_addRule : ByteArray := prog_3_method_4_code
def yX1_addRule : MethodName := ⟨RX1, "addRule", "(IIII)V"⟩
abbrev cX1_copyFrom : ByteArray := prog_3_method_5_code
def yX1_copyFrom : MethodName := ⟨RX1, "copyFrom", "(LColorScheme$Design;)V"⟩
abbrev cX1_exchangeColours : ByteArray := prog_3_method_6_code
def yX1_exchangeColours : MethodName := ⟨RX1, "exchangeColours", "()V"⟩
abbrev cX1_nearestRole : ByteArray := prog_3_method_7_code
def yX1_nearestRole : MethodName := ⟨RX1, "nearestRole", "(II)I"⟩
abbrev cX1_ruleValue : ByteArray := prog_3_method_8_code
def yX1_ruleValue : MethodName := ⟨RX1, "ruleValue", "(II)I"⟩
abbrev cX1_isKept : ByteArray := prog_3_method_9_code
def yX1_isKept : MethodName := ⟨RX1, "isKept", "(II)Z"⟩
abbrev cX1_leastMargin : ByteArray := prog_3_method_10_code
def yX1_leastMargin : MethodName := ⟨RX1, "leastMargin", "(I)I"⟩
abbrev cX1_violatedIn : ByteArray := prog_3_method_11_code
def yX1_violatedIn : MethodName := ⟨RX1, "violatedIn", "(I)I"⟩
abbrev cX1_violationPlace : ByteArray := prog_3_method_12_code
def yX1_violationPlace : MethodName := ⟨RX1, "violationPlace", "(I)I"⟩
abbrev cX1_bestChoice : ByteArray := prog_3_method_13_code
def yX1_bestChoice : MethodName := ⟨RX1, "bestChoice", "(II)I"⟩
abbrev cX1_choiceAmount : ByteArray := prog_3_method_14_code
def yX1_choiceAmount : MethodName := ⟨RX1, "choiceAmount", "(I)I"⟩
abbrev cX1_choiceRole : ByteArray := prog_3_method_15_code
def yX1_choiceRole : MethodName := ⟨RX1, "choiceRole", "(II)I"⟩
abbrev cX1_mendFirst : ByteArray := prog_3_method_16_code
def yX1_mendFirst : MethodName := ⟨RX1, "mendFirst", "()Z"⟩
def RX2 : String := "ColorScheme$Floor"
def TX2 : u_T := fun k => match k with
  | 0 => ("ColorScheme$Floor", "tokens", "LColorScheme$Tokens;", true)
  | 1 => ("ColorScheme$Floor", "place", "I", false)
  | 2 => ("ColorScheme$Floor", "size", "I", false)
  | _ => ("ColorScheme$Floor", "scheme", "I", false)
def tyX2 : Nat → FieldType := fun k => match k with
  | 0 => .object "ColorScheme$Tokens"
  | 1 => .int
  | 2 => .int
  | _ => .int
theorem nmX2 : ∀ a, a < 4 → ∀ b, b < 4 → a ≠ b → (TX2 a).2.1 ≠ (TX2 b).2.1 := by decide +kernel
theorem tyX2_ok : ∀ k, k < 4 → parseFieldDescriptor (TX2 k).2.2.1 = some (tyX2 k) := by decide +kernel
abbrev cX2_init : ByteArray := prog_4_method_1_code
def yX2_init : MethodName := ⟨RX2, "<init>", "(LColorScheme$Tokens;)V"⟩
abbrev cX2_forget : ByteArray := prog_4_method_2_code
def yX2_forget : MethodName := ⟨RX2, "forget", "()V"⟩
abbrev cX2_isThere : ByteArray := prog_4_method_3_code
def yX2_isThere : MethodName := ⟨RX2, "isThere", "()Z"⟩
abbrev cX2_readSum : ByteArray := prog_4_method_4_code
def yX2_readSum : MethodName := ⟨RX2, "readSum", "()V"⟩
abbrev cX2_textNeed : ByteArray := prog_4_method_5_code
def yX2_textNeed : MethodName := ⟨RX2, "textNeed", "(II)I"⟩
abbrev cX2_sum : ByteArray := prog_4_method_6_code
def yX2_sum : MethodName := ⟨RX2, "sum", "(I)I"⟩
abbrev cX2_term : ByteArray := prog_4_method_7_code
def yX2_term : MethodName := ⟨RX2, "term", "(I)I"⟩
abbrev cX2_factor : ByteArray := prog_4_method_8_code
def yX2_factor : MethodName := ⟨RX2, "factor", "(I)I"⟩
abbrev cX2_product : ByteArray := prog_4_method_9_code
def yX2_product : MethodName := ⟨RX2, "product", "(II)I"⟩
abbrev cX2_quotient : ByteArray := prog_4_method_10_code
def yX2_quotient : MethodName := ⟨RX2, "quotient", "(II)I"⟩
def RX3 : String := "ColorScheme$History"
def TX3 : u_T := fun k => match k with
  | 0 => ("ColorScheme$History", "ring", "[LColorScheme$Design;", true)
  | 1 => ("ColorScheme$History", "next", "I", false)
  | _ => ("ColorScheme$History", "kept", "I", false)
def tyX3 : Nat → FieldType := fun k => match k with
  | 0 => .array (.object "ColorScheme$Design")
  | 1 => .int
  | _ => .int
theorem nmX3 : ∀ a, a < 3 → ∀ b, b < 3 → a ≠ b → (TX3 a).2.1 ≠ (TX3 b).2.1 := by decide +kernel
theorem tyX3_ok : ∀ k, k < 3 → parseFieldDescriptor (TX3 k).2.2.1 = some (tyX3 k) := by decide +kernel
abbrev cX3_init : ByteArray := prog_5_method_1_code
def yX3_init : MethodName := ⟨RX3, "<init>", "()V"⟩
abbrev cX3_keep : ByteArray := prog_5_method_2_code
def yX3_keep : MethodName := ⟨RX3, "keep", "(LColorScheme$Design;)V"⟩
abbrev cX3_takeBack : ByteArray := prog_5_method_3_code
def yX3_takeBack : MethodName := ⟨RX3, "takeBack", "(LColorScheme$Design;)V"⟩
def RX4 : String := "ColorScheme$SetupReader"
def TX4 : u_T := fun k => match k with
  | 0 => ("ColorScheme$SetupReader", "tokens", "LColorScheme$Tokens;", true)
  | 1 => ("ColorScheme$SetupReader", "floor", "LColorScheme$Floor;", true)
  | 2 => ("ColorScheme$SetupReader", "sizes", "[I", true)
  | _ => ("ColorScheme$SetupReader", "offsetOfError", "I", false)
def tyX4 : Nat → FieldType := fun k => match k with
  | 0 => .object "ColorScheme$Tokens"
  | 1 => .object "ColorScheme$Floor"
  | 2 => .array .int
  | _ => .int
theorem nmX4 : ∀ a, a < 4 → ∀ b, b < 4 → a ≠ b → (TX4 a).2.1 ≠ (TX4 b).2.1 := by decide +kernel
theorem tyX4_ok : ∀ k, k < 4 → parseFieldDescriptor (TX4 k).2.2.1 = some (tyX4 k) := by decide +kernel
abbrev cX4_init : ByteArray := prog_6_method_1_code
def yX4_init : MethodName := ⟨RX4, "<init>", "([B)V"⟩
abbrev cX4_errorStart : ByteArray := prog_6_method_2_code
def yX4_errorStart : MethodName := ⟨RX4, "errorStart", "()I"⟩
abbrev cX4_read : ByteArray := prog_6_method_3_code
def yX4_read : MethodName := ⟨RX4, "read", "(ILColorScheme$Design;)I"⟩
abbrev cX4_readStatement : ByteArray := prog_6_method_4_code
def yX4_readStatement : MethodName := ⟨RX4, "readStatement", "(LColorScheme$Design;)V"⟩
abbrev cX4_readRole : ByteArray := prog_6_method_5_code
def yX4_readRole : MethodName := ⟨RX4, "readRole", "(LColorScheme$Design;)V"⟩
abbrev cX4_readColour : ByteArray := prog_6_method_6_code
def yX4_readColour : MethodName := ⟨RX4, "readColour", "()I"⟩
abbrev cX4_readRule : ByteArray := prog_6_method_7_code
def yX4_readRule : MethodName := ⟨RX4, "readRule", "(LColorScheme$Design;Z)V"⟩
abbrev cX4_setTextNeeds : ByteArray := prog_6_method_8_code
def yX4_setTextNeeds : MethodName := ⟨RX4, "setTextNeeds", "(LColorScheme$Design;)V"⟩
def RX5 : String := "ColorScheme$Tokens"
def TX5 : u_T := fun k => match k with
  | 0 => ("ColorScheme$Tokens", "text", "[B", true)
  | 1 => ("ColorScheme$Tokens", "length", "I", false)
  | 2 => ("ColorScheme$Tokens", "kind", "I", false)
  | 3 => ("ColorScheme$Tokens", "start", "I", false)
  | 4 => ("ColorScheme$Tokens", "end", "I", false)
  | 5 => ("ColorScheme$Tokens", "number", "I", false)
  | _ => ("ColorScheme$Tokens", "error", "I", false)
def tyX5 : Nat → FieldType := fun k => match k with
  | 0 => .array .byte
  | 1 => .int
  | 2 => .int
  | 3 => .int
  | 4 => .int
  | 5 => .int
  | _ => .int
theorem nmX5 : ∀ a, a < 7 → ∀ b, b < 7 → a ≠ b → (TX5 a).2.1 ≠ (TX5 b).2.1 := by decide +kernel
theorem tyX5_ok : ∀ k, k < 7 → parseFieldDescriptor (TX5 k).2.2.1 = some (tyX5 k) := by decide +kernel
abbrev cX5_init : ByteArray := prog_7_method_1_code
def yX5_init : MethodName := ⟨RX5, "<init>", "([B)V"⟩
abbrev cX5_open : ByteArray := prog_7_method_2_code
def yX5_open : MethodName := ⟨RX5, "open", "(I)V"⟩
abbrev cX5_reopen : ByteArray := prog_7_method_3_code
def yX5_reopen : MethodName := ⟨RX5, "reopen", "(I)V"⟩
abbrev cX5_hasMore : ByteArray := prog_7_method_4_code
def yX5_hasMore : MethodName := ⟨RX5, "hasMore", "()Z"⟩
abbrev cX5_isNumber : ByteArray := prog_7_method_5_code
def yX5_isNumber : MethodName := ⟨RX5, "isNumber", "()Z"⟩
abbrev cX5_currentNumber : ByteArray := prog_7_method_6_code
def yX5_currentNumber : MethodName := ⟨RX5, "currentNumber", "()I"⟩
abbrev cX5_currentStart : ByteArray := prog_7_method_7_code
def yX5_currentStart : MethodName := ⟨RX5, "currentStart", "()I"⟩
abbrev cX5_currentEnd : ByteArray := prog_7_method_8_code
def yX5_currentEnd : MethodName := ⟨RX5, "currentEnd", "()I"⟩
abbrev cX5_firstError : ByteArray := prog_7_method_9_code
def yX5_firstError : MethodName := ⟨RX5, "firstError", "()I"⟩
abbrev cX5_fail : ByteArray := prog_7_method_10_code
def yX5_fail : MethodName := ⟨RX5, "fail", "(I)V"⟩
abbrev cX5_advance : ByteArray := prog_7_method_11_code
def yX5_advance : MethodName := ⟨RX5, "advance", "()V"⟩
abbrev cX5_isDigit : ByteArray := prog_7_method_12_code
def yX5_isDigit : MethodName := ⟨RX5, "isDigit", "(B)Z"⟩
abbrev cX5_isLetter : ByteArray := prog_7_method_13_code
def yX5_isLetter : MethodName := ⟨RX5, "isLetter", "(B)Z"⟩
abbrev cX5_isWord : ByteArray := prog_7_method_14_code
def yX5_isWord : MethodName := ⟨RX5, "isWord", "(Ljava/lang/String;)Z"⟩
abbrev cX5_isSign : ByteArray := prog_7_method_15_code
def yX5_isSign : MethodName := ⟨RX5, "isSign", "(C)Z"⟩
abbrev cX5_passWord : ByteArray := prog_7_method_16_code
def yX5_passWord : MethodName := ⟨RX5, "passWord", "(Ljava/lang/String;)Z"⟩
abbrev cX5_passSign : ByteArray := prog_7_method_17_code
def yX5_passSign : MethodName := ⟨RX5, "passSign", "(C)Z"⟩
abbrev cX5_needWord : ByteArray := prog_7_method_18_code
def yX5_needWord : MethodName := ⟨RX5, "needWord", "(Ljava/lang/String;)V"⟩
abbrev cX5_needSign : ByteArray := prog_7_method_19_code
def yX5_needSign : MethodName := ⟨RX5, "needSign", "(C)V"⟩
abbrev cX5_needNumber : ByteArray := prog_7_method_20_code
def yX5_needNumber : MethodName := ⟨RX5, "needNumber", "(II)I"⟩
def RX6 : String := "ColorScheme"
def TX6 : u_T := fun k => match k with
  | 0 => ("ColorScheme", "input", "[B", true)
  | 1 => ("ColorScheme", "reader", "LColorScheme$SetupReader;", true)
  | 2 => ("ColorScheme", "design", "LColorScheme$Design;", true)
  | 3 => ("ColorScheme", "draft", "LColorScheme$Design;", true)
  | 4 => ("ColorScheme", "history", "LColorScheme$History;", true)
  | 5 => ("ColorScheme", "inputLength", "I", false)
  | _ => ("ColorScheme", "latestErrorOffset", "I", false)
def tyX6 : Nat → FieldType := fun k => match k with
  | 0 => .array .byte
  | 1 => .object "ColorScheme$SetupReader"
  | 2 => .object "ColorScheme$Design"
  | 3 => .object "ColorScheme$Design"
  | 4 => .object "ColorScheme$History"
  | 5 => .int
  | _ => .int
theorem nmX6 : ∀ a, a < 7 → ∀ b, b < 7 → a ≠ b → (TX6 a).2.1 ≠ (TX6 b).2.1 := by decide +kernel
theorem tyX6_ok : ∀ k, k < 7 → parseFieldDescriptor (TX6 k).2.2.1 = some (tyX6 k) := by decide +kernel
abbrev cX6_init : ByteArray := prog_1_method_1_code
def yX6_init : MethodName := ⟨RX6, "<init>", "()V"⟩
abbrev cX6_append : ByteArray := prog_1_method_2_code
def yX6_append : MethodName := ⟨RX6, "append", "(IIIII)I"⟩
abbrev cX6_load : ByteArray := prog_1_method_3_code
def yX6_load : MethodName := ⟨RX6, "load", "(I)I"⟩
abbrev cX6_errorOffset : ByteArray := prog_1_method_4_code
def yX6_errorOffset : MethodName := ⟨RX6, "errorOffset", "()I"⟩
abbrev cX6_roleCount : ByteArray := prog_1_method_5_code
def yX6_roleCount : MethodName := ⟨RX6, "roleCount", "()I"⟩
abbrev cX6_ruleCount : ByteArray := prog_1_method_6_code
def yX6_ruleCount : MethodName := ⟨RX6, "ruleCount", "()I"⟩
abbrev cX6_colour : ByteArray := prog_1_method_7_code
def yX6_colour : MethodName := ⟨RX6, "colour", "(II)I"⟩
abbrev cX6_isFixed : ByteArray := prog_1_method_8_code
def yX6_isFixed : MethodName := ⟨RX6, "isFixed", "(I)Z"⟩
abbrev cX6_luminance : ByteArray := prog_1_method_9_code
def yX6_luminance : MethodName := ⟨RX6, "luminance", "(II)I"⟩
abbrev cX6_contrast : ByteArray := prog_1_method_10_code
def yX6_contrast : MethodName := ⟨RX6, "contrast", "(III)I"⟩
abbrev cX6_seen : ByteArray := prog_1_method_11_code
def yX6_seen : MethodName := ⟨RX6, "seen", "(III)I"⟩
abbrev cX6_difference : ByteArray := prog_1_method_12_code
def yX6_difference : MethodName := ⟨RX6, "difference", "(IIII)I"⟩
abbrev cX6_nearest : ByteArray := prog_1_method_13_code
def yX6_nearest : MethodName := ⟨RX6, "nearest", "(II)I"⟩
abbrev cX6_need : ByteArray := prog_1_method_14_code
def yX6_need : MethodName := ⟨RX6, "need", "(II)I"⟩
abbrev cX6_value : ByteArray := prog_1_method_15_code
def yX6_value : MethodName := ⟨RX6, "value", "(II)I"⟩
abbrev cX6_violations : ByteArray := prog_1_method_16_code
def yX6_violations : MethodName := ⟨RX6, "violations", "()I"⟩
abbrev cX6_violation : ByteArray := prog_1_method_17_code
def yX6_violation : MethodName := ⟨RX6, "violation", "(I)I"⟩
abbrev cX6_smallestMargin : ByteArray := prog_1_method_18_code
def yX6_smallestMargin : MethodName := ⟨RX6, "smallestMargin", "(I)I"⟩
abbrev cX6_bestShift : ByteArray := prog_1_method_19_code
def yX6_bestShift : MethodName := ⟨RX6, "bestShift", "(II)I"⟩
abbrev cX6_shiftRole : ByteArray := prog_1_method_20_code
def yX6_shiftRole : MethodName := ⟨RX6, "shiftRole", "(II)I"⟩
abbrev cX6_setColour : ByteArray := prog_1_method_21_code
def yX6_setColour : MethodName := ⟨RX6, "setColour", "(III)I"⟩
abbrev cX6_setFixed : ByteArray := prog_1_method_22_code
def yX6_setFixed : MethodName := ⟨RX6, "setFixed", "(IZ)Z"⟩
abbrev cX6_shift : ByteArray := prog_1_method_23_code
def yX6_shift : MethodName := ⟨RX6, "shift", "(III)I"⟩
abbrev cX6_repair : ByteArray := prog_1_method_24_code
def yX6_repair : MethodName := ⟨RX6, "repair", "(I)I"⟩
abbrev cX6_swapSchemes : ByteArray := prog_1_method_25_code
def yX6_swapSchemes : MethodName := ⟨RX6, "swapSchemes", "()I"⟩
abbrev cX6_undo : ByteArray := prog_1_method_26_code
def yX6_undo : MethodName := ⟨RX6, "undo", "()I"⟩
abbrev cX6_checksum : ByteArray := prog_1_method_27_code
def yX6_checksum : MethodName := ⟨RX6, "checksum", "()J"⟩
abbrev cX6_putWord : ByteArray := prog_1_method_28_code
def yX6_putWord : MethodName := ⟨RX6, "putWord", "(II)V"⟩
abbrev cX6_requireRole : ByteArray := prog_1_method_29_code
def yX6_requireRole : MethodName := ⟨RX6, "requireRole", "(I)V"⟩
abbrev cX6_requireRule : ByteArray := prog_1_method_30_code
def yX6_requireRule : MethodName := ⟨RX6, "requireRule", "(I)V"⟩
abbrev cX6_requireScheme : ByteArray := prog_1_method_31_code
def yX6_requireScheme : MethodName := ⟨RX6, "requireScheme", "(I)V"⟩
abbrev cX6_requireSight : ByteArray := prog_1_method_32_code
def yX6_requireSight : MethodName := ⟨RX6, "requireSight", "(I)V"⟩
abbrev cX6_requireColour : ByteArray := prog_1_method_33_code
def yX6_requireColour : MethodName := ⟨RX6, "requireColour", "(I)V"⟩
abbrev cX6_limited : ByteArray := prog_1_method_34_code
def yX6_limited : MethodName := ⟨RX6, "limited", "(III)I"⟩
def RX7 : String := "ColorSchemeModel"
def TX7 : u_T := fun k => match k with
  | 0 => ("ColorSchemeModel", "thrown", "I", false)
  | 1 => ("ColorSchemeModel", "buffer", "[I", true)
  | 2 => ("ColorSchemeModel", "bufferLength", "I", false)
  | 3 => ("ColorSchemeModel", "textLength", "I", false)
  | 4 => ("ColorSchemeModel", "position", "I", false)
  | 5 => ("ColorSchemeModel", "error", "I", false)
  | 6 => ("ColorSchemeModel", "errorAt", "I", false)
  | 7 => ("ColorSchemeModel", "errorOffset", "I", false)
  | 8 => ("ColorSchemeModel", "data", "[I", true)
  | 9 => ("ColorSchemeModel", "draft", "[I", true)
  | 10 => ("ColorSchemeModel", "history", "[[I", true)
  | 11 => ("ColorSchemeModel", "undoDepth", "I", false)
  | 12 => ("ColorSchemeModel", "numberStart", "I", false)
  | 13 => ("ColorSchemeModel", "nesting", "I", false)
  | 14 => ("ColorSchemeModel", "seen", "I", false)
  | 15 => ("ColorSchemeModel", "stack", "[J", true)
  | 16 => ("ColorSchemeModel", "needs", "[I", true)
  | 17 => ("ColorSchemeModel", "foundAmount", "I", false)
  | 18 => ("ColorSchemeModel", "foundRole", "I", false)
  | _ => ("ColorSchemeModel", "foundScheme", "I", false)
def tyX7 : Nat → FieldType := fun k => match k with
  | 0 => .int
  | 1 => .array .int
  | 2 => .int
  | 3 => .int
  | 4 => .int
  | 5 => .int
  | 6 => .int
  | 7 => .int
  | 8 => .array .int
  | 9 => .array .int
  | 10 => .array (.array .int)
  | 11 => .int
  | 12 => .int
  | 13 => .int
  | 14 => .int
  | 15 => .array .long
  | 16 => .array .int
  | 17 => .int
  | 18 => .int
  | _ => .int
theorem nmX7 : ∀ a, a < 20 → ∀ b, b < 20 → a ≠ b → (TX7 a).2.1 ≠ (TX7 b).2.1 := by decide +kernel
theorem tyX7_ok : ∀ k, k < 20 → parseFieldDescriptor (TX7 k).2.2.1 = some (tyX7 k) := by decide +kernel
abbrev cX7_init : ByteArray := prog_9_method_1_code
def yX7_init : MethodName := ⟨RX7, "<init>", "()V"⟩
abbrev cX7_thrown : ByteArray := prog_9_method_2_code
def yX7_thrown : MethodName := ⟨RX7, "thrown", "()I"⟩
abbrev cX7_fails : ByteArray := prog_9_method_3_code
def yX7_fails : MethodName := ⟨RX7, "fails", "(ZI)Z"⟩
abbrev cX7_in : ByteArray := prog_9_method_4_code
def yX7_in : MethodName := ⟨RX7, "in", "(III)Z"⟩
abbrev cX7_min : ByteArray := prog_9_method_5_code
def yX7_min : MethodName := ⟨RX7, "min", "(II)I"⟩
abbrev cX7_max : ByteArray := prog_9_method_6_code
def yX7_max : MethodName := ⟨RX7, "max", "(II)I"⟩
abbrev cX7_copy : ByteArray := prog_9_method_7_code
def yX7_copy : MethodName := ⟨RX7, "copy", "([I[I)V"⟩
abbrev cX7_role : ByteArray := prog_9_method_8_code
def yX7_role : MethodName := ⟨RX7, "role", "(I)I"⟩
abbrev cX7_rule : ByteArray := prog_9_method_9_code
def yX7_rule : MethodName := ⟨RX7, "rule", "(I)I"⟩
abbrev cX7_mixed : ByteArray := prog_9_method_10_code
def yX7_mixed : MethodName := ⟨RX7, "mixed", "(III)I"⟩
abbrev cX7_append : ByteArray := prog_9_method_11_code
def yX7_append : MethodName := ⟨RX7, "append", "(IIIII)I"⟩
abbrev cX7_byteAt : ByteArray := prog_9_method_12_code
def yX7_byteAt : MethodName := ⟨RX7, "byteAt", "(I)I"⟩
abbrev cX7_next : ByteArray := prog_9_method_13_code
def yX7_next : MethodName := ⟨RX7, "next", "()I"⟩
abbrev cX7_isGood : ByteArray := prog_9_method_14_code
def yX7_isGood : MethodName := ⟨RX7, "isGood", "()Z"⟩
abbrev cX7_report : ByteArray := prog_9_method_15_code
def yX7_report : MethodName := ⟨RX7, "report", "(II)V"⟩
abbrev cX7_isDigit : ByteArray := prog_9_method_16_code
def yX7_isDigit : MethodName := ⟨RX7, "isDigit", "(I)Z"⟩
abbrev cX7_takeWord : ByteArray := prog_9_method_17_code
def yX7_takeWord : MethodName := ⟨RX7, "takeWord", "(Ljava/lang/String;)Z"⟩
abbrev cX7_expect : ByteArray := prog_9_method_18_code
def yX7_expect : MethodName := ⟨RX7, "expect", "(I)V"⟩
abbrev cX7_number : ByteArray := prog_9_method_19_code
def yX7_number : MethodName := ⟨RX7, "number", "(II)I"⟩
abbrev cX7_emit : ByteArray := prog_9_method_20_code
def yX7_emit : MethodName := ⟨RX7, "emit", "(I)V"⟩
abbrev cX7_factor : ByteArray := prog_9_method_21_code
def yX7_factor : MethodName := ⟨RX7, "factor", "()V"⟩
abbrev cX7_term : ByteArray := prog_9_method_22_code
def yX7_term : MethodName := ⟨RX7, "term", "()V"⟩
abbrev cX7_sum : ByteArray := prog_9_method_23_code
def yX7_sum : MethodName := ⟨RX7, "sum", "()V"⟩
abbrev cX7_once : ByteArray := prog_9_method_24_code
def yX7_once : MethodName := ⟨RX7, "once", "(II)V"⟩
abbrev cX7_readRole : ByteArray := prog_9_method_25_code
def yX7_readRole : MethodName := ⟨RX7, "readRole", "(I)V"⟩
abbrev cX7_readRule : ByteArray := prog_9_method_26_code
def yX7_readRule : MethodName := ⟨RX7, "readRule", "(IZ)V"⟩
abbrev cX7_statement : ByteArray := prog_9_method_27_code
def yX7_statement : MethodName := ⟨RX7, "statement", "()V"⟩
abbrev cX7_load : ByteArray := prog_9_method_28_code
def yX7_load : MethodName := ⟨RX7, "load", "(I)I"⟩
abbrev cX7_errorOffset : ByteArray := prog_9_method_29_code
def yX7_errorOffset : MethodName := ⟨RX7, "errorOffset", "()I"⟩
abbrev cX7_colourOf : ByteArray := prog_9_method_30_code
def yX7_colourOf : MethodName := ⟨RX7, "colourOf", "(II)I"⟩
abbrev cX7_red : ByteArray := prog_9_method_31_code
def yX7_red : MethodName := ⟨RX7, "red", "(I)I"⟩
abbrev cX7_green : ByteArray := prog_9_method_32_code
def yX7_green : MethodName := ⟨RX7, "green", "(I)I"⟩
abbrev cX7_blue : ByteArray := prog_9_method_33_code
def yX7_blue : MethodName := ⟨RX7, "blue", "(I)I"⟩
abbrev cX7_bright : ByteArray := prog_9_method_34_code
def yX7_bright : MethodName := ⟨RX7, "bright", "(I)I"⟩
abbrev cX7_contrastOf : ByteArray := prog_9_method_35_code
def yX7_contrastOf : MethodName := ⟨RX7, "contrastOf", "(II)I"⟩
abbrev cX7_held : ByteArray := prog_9_method_36_code
def yX7_held : MethodName := ⟨RX7, "held", "(I)I"⟩
abbrev cX7_channel : ByteArray := prog_9_method_37_code
def yX7_channel : MethodName := ⟨RX7, "channel", "(IIII)I"⟩
abbrev cX7_seenAs : ByteArray := prog_9_method_38_code
def yX7_seenAs : MethodName := ⟨RX7, "seenAs", "(II)I"⟩
abbrev cX7_apart : ByteArray := prog_9_method_39_code
def yX7_apart : MethodName := ⟨RX7, "apart", "(II)I"⟩
abbrev cX7_differenceOf : ByteArray := prog_9_method_40_code
def yX7_differenceOf : MethodName := ⟨RX7, "differenceOf", "(II)I"⟩
abbrev cX7_shifted : ByteArray := prog_9_method_41_code
def yX7_shifted : MethodName := ⟨RX7, "shifted", "(II)I"⟩
abbrev cX7_limited : ByteArray := prog_9_method_42_code
def yX7_limited : MethodName := ⟨RX7, "limited", "(J)J"⟩
abbrev cX7_operate : ByteArray := prog_9_method_43_code
def yX7_operate : MethodName := ⟨RX7, "operate", "(IJJ)J"⟩
abbrev cX7_reckonNeed : ByteArray := prog_9_method_44_code
def yX7_reckonNeed : MethodName := ⟨RX7, "reckonNeed", "(II)I"⟩
abbrev cX7_layNeeds : ByteArray := prog_9_method_45_code
def yX7_layNeeds : MethodName := ⟨RX7, "layNeeds", "()V"⟩
abbrev cX7_needOf : ByteArray := prog_9_method_46_code
def yX7_needOf : MethodName := ⟨RX7, "needOf", "(II)I"⟩
abbrev cX7_valueOf : ByteArray := prog_9_method_47_code
def yX7_valueOf : MethodName := ⟨RX7, "valueOf", "(II)I"⟩
abbrev cX7_isViolated : ByteArray := prog_9_method_48_code
def yX7_isViolated : MethodName := ⟨RX7, "isViolated", "(II)Z"⟩
abbrev cX7_violatedIn : ByteArray := prog_9_method_49_code
def yX7_violatedIn : MethodName := ⟨RX7, "violatedIn", "(I)I"⟩
abbrev cX7_mends : ByteArray := prog_9_method_50_code
def yX7_mends : MethodName := ⟨RX7, "mends", "(IIIII)Z"⟩
abbrev cX7_findShift : ByteArray := prog_9_method_51_code
def yX7_findShift : MethodName := ⟨RX7, "findShift", "(II)Z"⟩
abbrev cX7_findAny : ByteArray := prog_9_method_52_code
def yX7_findAny : MethodName := ⟨RX7, "findAny", "()Z"⟩
abbrev cX7_noRole : ByteArray := prog_9_method_53_code
def yX7_noRole : MethodName := ⟨RX7, "noRole", "(I)Z"⟩
abbrev cX7_noScheme : ByteArray := prog_9_method_54_code
def yX7_noScheme : MethodName := ⟨RX7, "noScheme", "(I)Z"⟩
abbrev cX7_noRule : ByteArray := prog_9_method_55_code
def yX7_noRule : MethodName := ⟨RX7, "noRule", "(II)Z"⟩
abbrev cX7_roleCount : ByteArray := prog_9_method_56_code
def yX7_roleCount : MethodName := ⟨RX7, "roleCount", "()I"⟩
abbrev cX7_ruleCount : ByteArray := prog_9_method_57_code
def yX7_ruleCount : MethodName := ⟨RX7, "ruleCount", "()I"⟩
abbrev cX7_colour : ByteArray := prog_9_method_58_code
def yX7_colour : MethodName := ⟨RX7, "colour", "(II)I"⟩
abbrev cX7_isFixed : ByteArray := prog_9_method_59_code
def yX7_isFixed : MethodName := ⟨RX7, "isFixed", "(I)Z"⟩
abbrev cX7_luminance : ByteArray := prog_9_method_60_code
def yX7_luminance : MethodName := ⟨RX7, "luminance", "(II)I"⟩
abbrev cX7_contrast : ByteArray := prog_9_method_61_code
def yX7_contrast : MethodName := ⟨RX7, "contrast", "(III)I"⟩
abbrev cX7_noSight : ByteArray := prog_9_method_62_code
def yX7_noSight : MethodName := ⟨RX7, "noSight", "(I)Z"⟩
abbrev cX7_seen : ByteArray := prog_9_method_63_code
def yX7_seen : MethodName := ⟨RX7, "seen", "(III)I"⟩
abbrev cX7_difference : ByteArray := prog_9_method_64_code
def yX7_difference : MethodName := ⟨RX7, "difference", "(IIII)I"⟩
abbrev cX7_noColour : ByteArray := prog_9_method_65_code
def yX7_noColour : MethodName := ⟨RX7, "noColour", "(I)Z"⟩
abbrev cX7_nearest : ByteArray := prog_9_method_66_code
def yX7_nearest : MethodName := ⟨RX7, "nearest", "(II)I"⟩
abbrev cX7_need : ByteArray := prog_9_method_67_code
def yX7_need : MethodName := ⟨RX7, "need", "(II)I"⟩
abbrev cX7_value : ByteArray := prog_9_method_68_code
def yX7_value : MethodName := ⟨RX7, "value", "(II)I"⟩
abbrev cX7_allViolated : ByteArray := prog_9_method_69_code
def yX7_allViolated : MethodName := ⟨RX7, "allViolated", "()I"⟩
abbrev cX7_violations : ByteArray := prog_9_method_70_code
def yX7_violations : MethodName := ⟨RX7, "violations", "()I"⟩
abbrev cX7_violation : ByteArray := prog_9_method_71_code
def yX7_violation : MethodName := ⟨RX7, "violation", "(I)I"⟩
abbrev cX7_smallestMargin : ByteArray := prog_9_method_72_code
def yX7_smallestMargin : MethodName := ⟨RX7, "smallestMargin", "(I)I"⟩
abbrev cX7_bestShift : ByteArray := prog_9_method_73_code
def yX7_bestShift : MethodName := ⟨RX7, "bestShift", "(II)I"⟩
abbrev cX7_shiftRole : ByteArray := prog_9_method_74_code
def yX7_shiftRole : MethodName := ⟨RX7, "shiftRole", "(II)I"⟩
abbrev cX7_remember : ByteArray := prog_9_method_75_code
def yX7_remember : MethodName := ⟨RX7, "remember", "()V"⟩
abbrev cX7_setColour : ByteArray := prog_9_method_76_code
def yX7_setColour : MethodName := ⟨RX7, "setColour", "(III)I"⟩
abbrev cX7_setFixed : ByteArray := prog_9_method_77_code
def yX7_setFixed : MethodName := ⟨RX7, "setFixed", "(IZ)Z"⟩
abbrev cX7_makeShift : ByteArray := prog_9_method_78_code
def yX7_makeShift : MethodName := ⟨RX7, "makeShift", "(III)I"⟩
abbrev cX7_shift : ByteArray := prog_9_method_79_code
def yX7_shift : MethodName := ⟨RX7, "shift", "(III)I"⟩
abbrev cX7_repair : ByteArray := prog_9_method_80_code
def yX7_repair : MethodName := ⟨RX7, "repair", "(I)I"⟩
abbrev cX7_swapSchemes : ByteArray := prog_9_method_81_code
def yX7_swapSchemes : MethodName := ⟨RX7, "swapSchemes", "()I"⟩
abbrev cX7_undo : ByteArray := prog_9_method_82_code
def yX7_undo : MethodName := ⟨RX7, "undo", "()I"⟩
abbrev cX7_checksum : ByteArray := prog_9_method_83_code
def yX7_checksum : MethodName := ⟨RX7, "checksum", "()J"⟩
def RJx145de : String := "java/io/Serializable"
def TJx145de : u_T := fun k => match k with
  | _ => ("", "", "", false)
def tyJx145de : Nat → FieldType := fun k => match k with
  | _ => .int
theorem nmJx145de : ∀ a, a < 0 → ∀ b, b < 0 → a ≠ b → (TJx145de a).2.1 ≠ (TJx145de b).2.1 := by decide +kernel
theorem tyJx145de_ok : ∀ k, k < 0 → parseFieldDescriptor (TJx145de k).2.2.1 = some (tyJx145de k) := by decide +kernel
def RJx9f9b0 : String := "java/lang/CharSequence"
def TJx9f9b0 : u_T := fun k => match k with
  | _ => ("", "", "", false)
def tyJx9f9b0 : Nat → FieldType := fun k => match k with
  | _ => .int
theorem nmJx9f9b0 : ∀ a, a < 0 → ∀ b, b < 0 → a ≠ b → (TJx9f9b0 a).2.1 ≠ (TJx9f9b0 b).2.1 := by decide +kernel
theorem tyJx9f9b0_ok : ∀ k, k < 0 → parseFieldDescriptor (TJx9f9b0 k).2.2.1 = some (tyJx9f9b0 k) := by decide +kernel
def RJxb160c : String := "java/lang/Comparable"
def TJxb160c : u_T := fun k => match k with
  | _ => ("", "", "", false)
def tyJxb160c : Nat → FieldType := fun k => match k with
  | _ => .int
theorem nmJxb160c : ∀ a, a < 0 → ∀ b, b < 0 → a ≠ b → (TJxb160c a).2.1 ≠ (TJxb160c b).2.1 := by decide +kernel
theorem tyJxb160c_ok : ∀ k, k < 0 → parseFieldDescriptor (TJxb160c k).2.2.1 = some (tyJxb160c k) := by decide +kernel
def RJ9 : String := "java/lang/Math"
def TJ9 : u_T := fun k => match k with
  | _ => ("", "", "", false)
def tyJ9 : Nat → FieldType := fun k => match k with
  | _ => .int
theorem nmJ9 : ∀ a, a < 0 → ∀ b, b < 0 → a ≠ b → (TJ9 a).2.1 ≠ (TJ9 b).2.1 := by decide +kernel
theorem tyJ9_ok : ∀ k, k < 0 → parseFieldDescriptor (TJ9 k).2.2.1 = some (tyJ9 k) := by decide +kernel
abbrev cJ9_abs_0f7a4 : ByteArray := prog_17_method_59_code
def yJ9_abs_0f7a4 : MethodName := ⟨RJ9, "abs", "(I)I"⟩
abbrev cJ9_max_7cf53 : ByteArray := prog_17_method_65_code
def yJ9_max_7cf53 : MethodName := ⟨RJ9, "max", "(II)I"⟩
abbrev cJ9_max_f86c9 : ByteArray := prog_17_method_66_code
def yJ9_max_f86c9 : MethodName := ⟨RJ9, "max", "(JJ)J"⟩
abbrev cJ9_min_7cf53 : ByteArray := prog_17_method_69_code
def yJ9_min_7cf53 : MethodName := ⟨RJ9, "min", "(II)I"⟩
abbrev cJ9_min_f86c9 : ByteArray := prog_17_method_70_code
def yJ9_min_f86c9 : MethodName := ⟨RJ9, "min", "(JJ)J"⟩
def RJ0 : String := "java/lang/String"
def TJ0 : u_T := fun k => match k with
  | _ => ("", "", "", false)
def tyJ0 : Nat → FieldType := fun k => match k with
  | _ => .int
theorem nmJ0 : ∀ a, a < 0 → ∀ b, b < 0 → a ≠ b → (TJ0 a).2.1 ≠ (TJ0 b).2.1 := by decide +kernel
theorem tyJ0_ok : ∀ k, k < 0 → parseFieldDescriptor (TJ0 k).2.2.1 = some (tyJ0 k) := by decide +kernel
abbrev cJ0_length_8abf5 : ByteArray := prog_19_method_54_code
def yJ0_length_8abf5 : MethodName := ⟨RJ0, "length", "()I"⟩
abbrev cJ0_charAt_5068e : ByteArray := prog_19_method_56_code
def yJ0_charAt_5068e : MethodName := ⟨RJ0, "charAt", "(I)C"⟩
abbrev cJ0_coder_7d493 : ByteArray := prog_19_method_152_code
def yJ0_coder_7d493 : MethodName := ⟨RJ0, "coder", "()B"⟩
abbrev cJ0_isLatin1_aae02 : ByteArray := prog_19_method_154_code
def yJ0_isLatin1_aae02 : MethodName := ⟨RJ0, "isLatin1", "()Z"⟩
abbrev cJ0_checkIndex_df160 : ByteArray := prog_19_method_155_code
def yJ0_checkIndex_df160 : MethodName := ⟨RJ0, "checkIndex", "(II)V"⟩
def RJ1 : String := "java/lang/StringLatin1"
def TJ1 : u_T := fun k => match k with
  | _ => ("", "", "", false)
def tyJ1 : Nat → FieldType := fun k => match k with
  | _ => .int
theorem nmJ1 : ∀ a, a < 0 → ∀ b, b < 0 → a ≠ b → (TJ1 a).2.1 ≠ (TJ1 b).2.1 := by decide +kernel
theorem tyJ1_ok : ∀ k, k < 0 → parseFieldDescriptor (TJ1 k).2.2.1 = some (tyJ1 k) := by decide +kernel
abbrev cJ1_charAt_3b067 : ByteArray := prog_20_method_2_code
def yJ1_charAt_3b067 : MethodName := ⟨RJ1, "charAt", "([BI)C"⟩
def RJ2 : String := "java/lang/StringUTF16"
def TJ2 : u_T := fun k => match k with
  | _ => ("", "", "", false)
def tyJ2 : Nat → FieldType := fun k => match k with
  | _ => .int
theorem nmJ2 : ∀ a, a < 0 → ∀ b, b < 0 → a ≠ b → (TJ2 a).2.1 ≠ (TJ2 b).2.1 := by decide +kernel
theorem tyJ2_ok : ∀ k, k < 0 → parseFieldDescriptor (TJ2 k).2.2.1 = some (tyJ2 k) := by decide +kernel
abbrev cJ2_getChar_3b067 : ByteArray := prog_21_method_5_code
def yJ2_getChar_3b067 : MethodName := ⟨RJ2, "getChar", "([BI)C"⟩
abbrev cJ2_length_9d52b : ByteArray := prog_21_method_6_code
def yJ2_length_9d52b : MethodName := ⟨RJ2, "length", "([B)I"⟩
abbrev cJ2_charAt_3b067 : ByteArray := prog_21_method_83_code
def yJ2_charAt_3b067 : MethodName := ⟨RJ2, "charAt", "([BI)C"⟩
abbrev cJ2_checkIndex_2214a : ByteArray := prog_21_method_91_code
def yJ2_checkIndex_2214a : MethodName := ⟨RJ2, "checkIndex", "(I[B)V"⟩
def RJ10 : String := "java/lang/System"
def TJ10 : u_T := fun k => match k with
  | _ => ("", "", "", false)
def tyJ10 : Nat → FieldType := fun k => match k with
  | _ => .int
theorem nmJ10 : ∀ a, a < 0 → ∀ b, b < 0 → a ≠ b → (TJ10 a).2.1 ≠ (TJ10 b).2.1 := by decide +kernel
theorem tyJ10_ok : ∀ k, k < 0 → parseFieldDescriptor (TJ10 k).2.2.1 = some (tyJ10 k) := by decide +kernel
def RJxfd54e : String := "java/lang/constant/Constable"
def TJxfd54e : u_T := fun k => match k with
  | _ => ("", "", "", false)
def tyJxfd54e : Nat → FieldType := fun k => match k with
  | _ => .int
theorem nmJxfd54e : ∀ a, a < 0 → ∀ b, b < 0 → a ≠ b → (TJxfd54e a).2.1 ≠ (TJxfd54e b).2.1 := by decide +kernel
theorem tyJxfd54e_ok : ∀ k, k < 0 → parseFieldDescriptor (TJxfd54e k).2.2.1 = some (tyJxfd54e k) := by decide +kernel
def RJx3cf43 : String := "java/lang/constant/ConstantDesc"
def TJx3cf43 : u_T := fun k => match k with
  | _ => ("", "", "", false)
def tyJx3cf43 : Nat → FieldType := fun k => match k with
  | _ => .int
theorem nmJx3cf43 : ∀ a, a < 0 → ∀ b, b < 0 → a ≠ b → (TJx3cf43 a).2.1 ≠ (TJx3cf43 b).2.1 := by decide +kernel
theorem tyJx3cf43_ok : ∀ k, k < 0 → parseFieldDescriptor (TJx3cf43 k).2.2.1 = some (tyJx3cf43 k) := by decide +kernel
def RJ3 : String := "jdk/internal/util/Preconditions"
def TJ3 : u_T := fun k => match k with
  | _ => ("", "", "", false)
def tyJ3 : Nat → FieldType := fun k => match k with
  | _ => .int
theorem nmJ3 : ∀ a, a < 0 → ∀ b, b < 0 → a ≠ b → (TJ3 a).2.1 ≠ (TJ3 b).2.1 := by decide +kernel
theorem tyJ3_ok : ∀ k, k < 0 → parseFieldDescriptor (TJ3 k).2.2.1 = some (tyJ3 k) := by decide +kernel
abbrev cJ3_checkIndex_8e157 : ByteArray := prog_27_method_11_code
def yJ3_checkIndex_8e157 : MethodName := ⟨RJ3, "checkIndex", "(IILjava/util/function/BiFunction;)I"⟩
def RL : String := "ColorSchemeLaw"
abbrev cL_load : ByteArray := method_3_code
def yL_load : MethodName := ⟨RL, "load", "(LColorScheme;I[J)I"⟩
abbrev cL_colour : ByteArray := method_4_code
def yL_colour : MethodName := ⟨RL, "colour", "(LColorScheme;II[J)I"⟩
abbrev cL_isFixed : ByteArray := method_5_code
def yL_isFixed : MethodName := ⟨RL, "isFixed", "(LColorScheme;I[J)I"⟩
abbrev cL_luminance : ByteArray := method_6_code
def yL_luminance : MethodName := ⟨RL, "luminance", "(LColorScheme;II[J)I"⟩
abbrev cL_contrast : ByteArray := method_7_code
def yL_contrast : MethodName := ⟨RL, "contrast", "(LColorScheme;III[J)I"⟩
abbrev cL_seen : ByteArray := method_8_code
def yL_seen : MethodName := ⟨RL, "seen", "(LColorScheme;III[J)I"⟩
abbrev cL_difference : ByteArray := method_9_code
def yL_difference : MethodName := ⟨RL, "difference", "(LColorScheme;IIII[J)I"⟩
abbrev cL_nearest : ByteArray := method_10_code
def yL_nearest : MethodName := ⟨RL, "nearest", "(LColorScheme;II[J)I"⟩
abbrev cL_need : ByteArray := method_11_code
def yL_need : MethodName := ⟨RL, "need", "(LColorScheme;II[J)I"⟩
abbrev cL_value : ByteArray := method_12_code
def yL_value : MethodName := ⟨RL, "value", "(LColorScheme;II[J)I"⟩
abbrev cL_violation : ByteArray := method_13_code
def yL_violation : MethodName := ⟨RL, "violation", "(LColorScheme;I[J)I"⟩
abbrev cL_smallestMargin : ByteArray := method_14_code
def yL_smallestMargin : MethodName := ⟨RL, "smallestMargin", "(LColorScheme;I[J)I"⟩
abbrev cL_bestShift : ByteArray := method_15_code
def yL_bestShift : MethodName := ⟨RL, "bestShift", "(LColorScheme;II[J)I"⟩
abbrev cL_shiftRole : ByteArray := method_16_code
def yL_shiftRole : MethodName := ⟨RL, "shiftRole", "(LColorScheme;II[J)I"⟩
abbrev cL_setColour : ByteArray := method_17_code
def yL_setColour : MethodName := ⟨RL, "setColour", "(LColorScheme;III[J)I"⟩
abbrev cL_setFixed : ByteArray := method_18_code
def yL_setFixed : MethodName := ⟨RL, "setFixed", "(LColorScheme;IZ[J)I"⟩
abbrev cL_shift : ByteArray := method_19_code
def yL_shift : MethodName := ⟨RL, "shift", "(LColorScheme;III[J)I"⟩
abbrev cL_repair : ByteArray := method_20_code
def yL_repair : MethodName := ⟨RL, "repair", "(LColorScheme;I[J)I"⟩
abbrev cL_law : ByteArray := code
def yL_law : MethodName := ⟨RL, "law", "([I)Z"⟩
abbrev vwCl : List vw_C := [(RX1, TX1, 8), (RX2, TX2, 4), (RX3, TX3, 3), (RX4, TX4, 4), (RX5, TX5, 7), (RX6, TX6, 7), (RX7, TX7, 20)]
end
section
theorem dX0_red_0 : decode cX0_red 0 = .ok (.iload_n 0, 1) := by decide +kernel
theorem dX0_red_1 : decode cX0_red 1 = .ok (.ldc 9, 2) := by decide +kernel
theorem dX0_red_3 : decode cX0_red 3 = .ok (.idiv, 1) := by decide +kernel
theorem dX0_red_4 : decode cX0_red 4 = .ok (.ireturn, 1) := by decide +kernel
theorem dX0_green_0 : decode cX0_green 0 = .ok (.iload_n 0, 1) := by decide +kernel
theorem dX0_green_1 : decode cX0_green 1 = .ok (.sipush 256, 3) := by decide +kernel
theorem dX0_green_4 : decode cX0_green 4 = .ok (.idiv, 1) := by decide +kernel
theorem dX0_green_5 : decode cX0_green 5 = .ok (.sipush 256, 3) := by decide +kernel
theorem dX0_green_8 : decode cX0_green 8 = .ok (.irem, 1) := by decide +kernel
theorem dX0_green_9 : decode cX0_green 9 = .ok (.ireturn, 1) := by decide +kernel
theorem dX0_blue_0 : decode cX0_blue 0 = .ok (.iload_n 0, 1) := by decide +kernel
theorem dX0_blue_1 : decode cX0_blue 1 = .ok (.sipush 256, 3) := by decide +kernel
theorem dX0_blue_4 : decode cX0_blue 4 = .ok (.irem, 1) := by decide +kernel
theorem dX0_blue_5 : decode cX0_blue 5 = .ok (.ireturn, 1) := by decide +kernel
theorem dX0_joined_0 : decode cX0_joined 0 = .ok (.ldc 9, 2) := by decide +kernel
theorem dX0_joined_2 : decode cX0_joined 2 = .ok (.iload_n 0, 1) := by decide +kernel
theorem dX0_joined_3 : decode cX0_joined 3 = .ok (.imul, 1) := by decide +kernel
theorem dX0_joined_4 : decode cX0_joined 4 = .ok (.sipush 256, 3) := by decide +kernel
theorem dX0_joined_7 : decode cX0_joined 7 = .ok (.iload_n 1, 1) := by decide +kernel
theorem dX0_joined_8 : decode cX0_joined 8 = .ok (.imul, 1) := by decide +kernel
theorem dX0_joined_9 : decode cX0_joined 9 = .ok (.iadd, 1) := by decide +kernel
theorem dX0_joined_10 : decode cX0_joined 10 = .ok (.iload_n 2, 1) := by decide +kernel
theorem dX0_joined_11 : decode cX0_joined 11 = .ok (.iadd, 1) := by decide +kernel
theorem dX0_joined_12 : decode cX0_joined 12 = .ok (.ireturn, 1) := by decide +kernel
theorem dX0_luminanceOf_0 : decode cX0_luminanceOf 0 = .ok (.iload_n 0, 1) := by decide +kernel
theorem dX0_luminanceOf_1 : decode cX0_luminanceOf 1 = .ok (.invokestatic 10, 3) := by decide +kernel
theorem dX0_luminanceOf_4 : decode cX0_luminanceOf 4 = .ok (.istore_n 1, 1) := by decide +kernel
theorem dX0_luminanceOf_5 : decode cX0_luminanceOf 5 = .ok (.iload_n 0, 1) := by decide +kernel
theorem dX0_luminanceOf_6 : decode cX0_luminanceOf 6 = .ok (.invokestatic 16, 3) := by decide +kernel
theorem dX0_luminanceOf_9 : decode cX0_luminanceOf 9 = .ok (.istore_n 2, 1) := by decide +kernel
theorem dX0_luminanceOf_10 : decode cX0_luminanceOf 10 = .ok (.iload_n 0, 1) := by decide +kernel
theorem dX0_luminanceOf_11 : decode cX0_luminanceOf 11 = .ok (.invokestatic 19, 3) := by decide +kernel
theorem dX0_luminanceOf_14 : decode cX0_luminanceOf 14 = .ok (.istore_n 3, 1) := by decide +kernel
theorem dX0_luminanceOf_15 : decode cX0_luminanceOf 15 = .ok (.sipush 2126, 3) := by decide +kernel
theorem dX0_luminanceOf_18 : decode cX0_luminanceOf 18 = .ok (.iload_n 1, 1) := by decide +kernel
theorem dX0_luminanceOf_19 : decode cX0_luminanceOf 19 = .ok (.imul, 1) := by decide +kernel
theorem dX0_luminanceOf_20 : decode cX0_luminanceOf 20 = .ok (.iload_n 1, 1) := by decide +kernel
theorem dX0_luminanceOf_21 : decode cX0_luminanceOf 21 = .ok (.imul, 1) := by decide +kernel
theorem dX0_luminanceOf_22 : decode cX0_luminanceOf 22 = .ok (.sipush 7152, 3) := by decide +kernel
theorem dX0_luminanceOf_25 : decode cX0_luminanceOf 25 = .ok (.iload_n 2, 1) := by decide +kernel
theorem dX0_luminanceOf_26 : decode cX0_luminanceOf 26 = .ok (.imul, 1) := by decide +kernel
theorem dX0_luminanceOf_27 : decode cX0_luminanceOf 27 = .ok (.iload_n 2, 1) := by decide +kernel
theorem dX0_luminanceOf_28 : decode cX0_luminanceOf 28 = .ok (.imul, 1) := by decide +kernel
theorem dX0_luminanceOf_29 : decode cX0_luminanceOf 29 = .ok (.iadd, 1) := by decide +kernel
theorem dX0_luminanceOf_30 : decode cX0_luminanceOf 30 = .ok (.sipush 722, 3) := by decide +kernel
theorem dX0_luminanceOf_33 : decode cX0_luminanceOf 33 = .ok (.iload_n 3, 1) := by decide +kernel
theorem dX0_luminanceOf_34 : decode cX0_luminanceOf 34 = .ok (.imul, 1) := by decide +kernel
theorem dX0_luminanceOf_35 : decode cX0_luminanceOf 35 = .ok (.iload_n 3, 1) := by decide +kernel
theorem dX0_luminanceOf_36 : decode cX0_luminanceOf 36 = .ok (.imul, 1) := by decide +kernel
theorem dX0_luminanceOf_37 : decode cX0_luminanceOf 37 = .ok (.iadd, 1) := by decide +kernel
theorem dX0_luminanceOf_38 : decode cX0_luminanceOf 38 = .ok (.sipush 10000, 3) := by decide +kernel
theorem dX0_luminanceOf_41 : decode cX0_luminanceOf 41 = .ok (.idiv, 1) := by decide +kernel
theorem dX0_luminanceOf_42 : decode cX0_luminanceOf 42 = .ok (.ireturn, 1) := by decide +kernel
theorem dX0_contrastOf_0 : decode cX0_contrastOf 0 = .ok (.iload_n 0, 1) := by decide +kernel
theorem dX0_contrastOf_1 : decode cX0_contrastOf 1 = .ok (.invokestatic 22, 3) := by decide +kernel
theorem dX0_contrastOf_4 : decode cX0_contrastOf 4 = .ok (.sipush 3251, 3) := by decide +kernel
theorem dX0_contrastOf_7 : decode cX0_contrastOf 7 = .ok (.iadd, 1) := by decide +kernel
theorem dX0_contrastOf_8 : decode cX0_contrastOf 8 = .ok (.istore_n 2, 1) := by decide +kernel
theorem dX0_contrastOf_9 : decode cX0_contrastOf 9 = .ok (.iload_n 1, 1) := by decide +kernel
theorem dX0_contrastOf_10 : decode cX0_contrastOf 10 = .ok (.invokestatic 22, 3) := by decide +kernel
theorem dX0_contrastOf_13 : decode cX0_contrastOf 13 = .ok (.sipush 3251, 3) := by decide +kernel
theorem dX0_contrastOf_16 : decode cX0_contrastOf 16 = .ok (.iadd, 1) := by decide +kernel
theorem dX0_contrastOf_17 : decode cX0_contrastOf 17 = .ok (.istore_n 3, 1) := by decide +kernel
theorem dX0_contrastOf_18 : decode cX0_contrastOf 18 = .ok (.iload_n 2, 1) := by decide +kernel
theorem dX0_contrastOf_19 : decode cX0_contrastOf 19 = .ok (.iload_n 3, 1) := by decide +kernel
theorem dX0_contrastOf_20 : decode cX0_contrastOf 20 = .ok (.invokestatic 25, 3) := by decide +kernel
theorem dX0_contrastOf_23 : decode cX0_contrastOf 23 = .ok (.istore 4, 2) := by decide +kernel
theorem dX0_contrastOf_25 : decode cX0_contrastOf 25 = .ok (.iload 4, 2) := by decide +kernel
theorem dX0_contrastOf_27 : decode cX0_contrastOf 27 = .ok (.ifCond .gt 7, 3) := by decide +kernel
theorem dX0_contrastOf_30 : decode cX0_contrastOf 30 = .ok (.iconst 0, 1) := by decide +kernel
theorem dX0_contrastOf_31 : decode cX0_contrastOf 31 = .ok (.goto 14, 3) := by decide +kernel
theorem dX0_contrastOf_34 : decode cX0_contrastOf 34 = .ok (.bipush 100, 2) := by decide +kernel
theorem dX0_contrastOf_36 : decode cX0_contrastOf 36 = .ok (.iload_n 2, 1) := by decide +kernel
theorem dX0_contrastOf_37 : decode cX0_contrastOf 37 = .ok (.iload_n 3, 1) := by decide +kernel
theorem dX0_contrastOf_38 : decode cX0_contrastOf 38 = .ok (.invokestatic 31, 3) := by decide +kernel
theorem dX0_contrastOf_41 : decode cX0_contrastOf 41 = .ok (.imul, 1) := by decide +kernel
theorem dX0_contrastOf_42 : decode cX0_contrastOf 42 = .ok (.iload 4, 2) := by decide +kernel
theorem dX0_contrastOf_44 : decode cX0_contrastOf 44 = .ok (.idiv, 1) := by decide +kernel
theorem dX0_contrastOf_45 : decode cX0_contrastOf 45 = .ok (.ireturn, 1) := by decide +kernel
theorem dX0_seenWith_0 : decode cX0_seenWith 0 = .ok (.bipush 9, 2) := by decide +kernel
theorem dX0_seenWith_2 : decode cX0_seenWith 2 = .ok (.iload_n 1, 1) := by decide +kernel
theorem dX0_seenWith_3 : decode cX0_seenWith 3 = .ok (.imul, 1) := by decide +kernel
theorem dX0_seenWith_4 : decode cX0_seenWith 4 = .ok (.istore_n 2, 1) := by decide +kernel
theorem dX0_seenWith_5 : decode cX0_seenWith 5 = .ok (.iload_n 0, 1) := by decide +kernel
theorem dX0_seenWith_6 : decode cX0_seenWith 6 = .ok (.iload_n 2, 1) := by decide +kernel
theorem dX0_seenWith_7 : decode cX0_seenWith 7 = .ok (.invokestatic 34, 3) := by decide +kernel
theorem dX0_seenWith_10 : decode cX0_seenWith 10 = .ok (.iload_n 0, 1) := by decide +kernel
theorem dX0_seenWith_11 : decode cX0_seenWith 11 = .ok (.iload_n 2, 1) := by decide +kernel
theorem dX0_seenWith_12 : decode cX0_seenWith 12 = .ok (.iconst 3, 1) := by decide +kernel
theorem dX0_seenWith_13 : decode cX0_seenWith 13 = .ok (.iadd, 1) := by decide +kernel
theorem dX0_seenWith_14 : decode cX0_seenWith 14 = .ok (.invokestatic 34, 3) := by decide +kernel
theorem dX0_seenWith_17 : decode cX0_seenWith 17 = .ok (.iload_n 0, 1) := by decide +kernel
theorem dX0_seenWith_18 : decode cX0_seenWith 18 = .ok (.iload_n 2, 1) := by decide +kernel
theorem dX0_seenWith_19 : decode cX0_seenWith 19 = .ok (.bipush 6, 2) := by decide +kernel
theorem dX0_seenWith_21 : decode cX0_seenWith 21 = .ok (.iadd, 1) := by decide +kernel
theorem dX0_seenWith_22 : decode cX0_seenWith 22 = .ok (.invokestatic 34, 3) := by decide +kernel
theorem dX0_seenWith_25 : decode cX0_seenWith 25 = .ok (.invokestatic 37, 3) := by decide +kernel
theorem dX0_seenWith_28 : decode cX0_seenWith 28 = .ok (.ireturn, 1) := by decide +kernel
theorem dX0_seenChannel_0 : decode cX0_seenChannel 0 = .ok (.getstatic 41, 3) := by decide +kernel
theorem dX0_seenChannel_3 : decode cX0_seenChannel 3 = .ok (.iload_n 1, 1) := by decide +kernel
theorem dX0_seenChannel_4 : decode cX0_seenChannel 4 = .ok (.iaload, 1) := by decide +kernel
theorem dX0_seenChannel_5 : decode cX0_seenChannel 5 = .ok (.iload_n 0, 1) := by decide +kernel
theorem dX0_seenChannel_6 : decode cX0_seenChannel 6 = .ok (.invokestatic 10, 3) := by decide +kernel
theorem dX0_seenChannel_9 : decode cX0_seenChannel 9 = .ok (.imul, 1) := by decide +kernel
theorem dX0_seenChannel_10 : decode cX0_seenChannel 10 = .ok (.getstatic 41, 3) := by decide +kernel
theorem dX0_seenChannel_13 : decode cX0_seenChannel 13 = .ok (.iload_n 1, 1) := by decide +kernel
theorem dX0_seenChannel_14 : decode cX0_seenChannel 14 = .ok (.iconst 1, 1) := by decide +kernel
theorem dX0_seenChannel_15 : decode cX0_seenChannel 15 = .ok (.iadd, 1) := by decide +kernel
theorem dX0_seenChannel_16 : decode cX0_seenChannel 16 = .ok (.iaload, 1) := by decide +kernel
theorem dX0_seenChannel_17 : decode cX0_seenChannel 17 = .ok (.iload_n 0, 1) := by decide +kernel
theorem dX0_seenChannel_18 : decode cX0_seenChannel 18 = .ok (.invokestatic 16, 3) := by decide +kernel
theorem dX0_seenChannel_21 : decode cX0_seenChannel 21 = .ok (.imul, 1) := by decide +kernel
theorem dX0_seenChannel_22 : decode cX0_seenChannel 22 = .ok (.iadd, 1) := by decide +kernel
theorem dX0_seenChannel_23 : decode cX0_seenChannel 23 = .ok (.getstatic 41, 3) := by decide +kernel
theorem dX0_seenChannel_26 : decode cX0_seenChannel 26 = .ok (.iload_n 1, 1) := by decide +kernel
theorem dX0_seenChannel_27 : decode cX0_seenChannel 27 = .ok (.iconst 2, 1) := by decide +kernel
theorem dX0_seenChannel_28 : decode cX0_seenChannel 28 = .ok (.iadd, 1) := by decide +kernel
theorem dX0_seenChannel_29 : decode cX0_seenChannel 29 = .ok (.iaload, 1) := by decide +kernel
theorem dX0_seenChannel_30 : decode cX0_seenChannel 30 = .ok (.iload_n 0, 1) := by decide +kernel
theorem dX0_seenChannel_31 : decode cX0_seenChannel 31 = .ok (.invokestatic 19, 3) := by decide +kernel
theorem dX0_seenChannel_34 : decode cX0_seenChannel 34 = .ok (.imul, 1) := by decide +kernel
theorem dX0_seenChannel_35 : decode cX0_seenChannel 35 = .ok (.iadd, 1) := by decide +kernel
theorem dX0_seenChannel_36 : decode cX0_seenChannel 36 = .ok (.istore_n 2, 1) := by decide +kernel
theorem dX0_seenChannel_37 : decode cX0_seenChannel 37 = .ok (.iload_n 2, 1) := by decide +kernel
theorem dX0_seenChannel_38 : decode cX0_seenChannel 38 = .ok (.sipush 1000, 3) := by decide +kernel
theorem dX0_seenChannel_41 : decode cX0_seenChannel 41 = .ok (.idiv, 1) := by decide +kernel
theorem dX0_seenChannel_42 : decode cX0_seenChannel 42 = .ok (.iconst 0, 1) := by decide +kernel
theorem dX0_seenChannel_43 : decode cX0_seenChannel 43 = .ok (.sipush 255, 3) := by decide +kernel
theorem dX0_seenChannel_46 : decode cX0_seenChannel 46 = .ok (.invokestatic 45, 3) := by decide +kernel
theorem dX0_seenChannel_49 : decode cX0_seenChannel 49 = .ok (.ireturn, 1) := by decide +kernel
theorem dX0_differenceOf_0 : decode cX0_differenceOf 0 = .ok (.bipush 9, 2) := by decide +kernel
theorem dX0_differenceOf_2 : decode cX0_differenceOf 2 = .ok (.iload_n 2, 1) := by decide +kernel
theorem dX0_differenceOf_3 : decode cX0_differenceOf 3 = .ok (.imul, 1) := by decide +kernel
theorem dX0_differenceOf_4 : decode cX0_differenceOf 4 = .ok (.istore_n 3, 1) := by decide +kernel
theorem dX0_differenceOf_5 : decode cX0_differenceOf 5 = .ok (.iconst 3, 1) := by decide +kernel
theorem dX0_differenceOf_6 : decode cX0_differenceOf 6 = .ok (.iload_n 0, 1) := by decide +kernel
theorem dX0_differenceOf_7 : decode cX0_differenceOf 7 = .ok (.iload_n 3, 1) := by decide +kernel
theorem dX0_differenceOf_8 : decode cX0_differenceOf 8 = .ok (.invokestatic 34, 3) := by decide +kernel
theorem dX0_differenceOf_11 : decode cX0_differenceOf 11 = .ok (.iload_n 1, 1) := by decide +kernel
theorem dX0_differenceOf_12 : decode cX0_differenceOf 12 = .ok (.iload_n 3, 1) := by decide +kernel
theorem dX0_differenceOf_13 : decode cX0_differenceOf 13 = .ok (.invokestatic 34, 3) := by decide +kernel
theorem dX0_differenceOf_16 : decode cX0_differenceOf 16 = .ok (.isub, 1) := by decide +kernel
theorem dX0_differenceOf_17 : decode cX0_differenceOf 17 = .ok (.invokestatic 48, 3) := by decide +kernel
theorem dX0_differenceOf_20 : decode cX0_differenceOf 20 = .ok (.imul, 1) := by decide +kernel
theorem dX0_differenceOf_21 : decode cX0_differenceOf 21 = .ok (.iconst 4, 1) := by decide +kernel
theorem dX0_differenceOf_22 : decode cX0_differenceOf 22 = .ok (.iload_n 0, 1) := by decide +kernel
theorem dX0_differenceOf_23 : decode cX0_differenceOf 23 = .ok (.iload_n 3, 1) := by decide +kernel
theorem dX0_differenceOf_24 : decode cX0_differenceOf 24 = .ok (.iconst 3, 1) := by decide +kernel
theorem dX0_differenceOf_25 : decode cX0_differenceOf 25 = .ok (.iadd, 1) := by decide +kernel
theorem dX0_differenceOf_26 : decode cX0_differenceOf 26 = .ok (.invokestatic 34, 3) := by decide +kernel
theorem dX0_differenceOf_29 : decode cX0_differenceOf 29 = .ok (.iload_n 1, 1) := by decide +kernel
theorem dX0_differenceOf_30 : decode cX0_differenceOf 30 = .ok (.iload_n 3, 1) := by decide +kernel
theorem dX0_differenceOf_31 : decode cX0_differenceOf 31 = .ok (.iconst 3, 1) := by decide +kernel
theorem dX0_differenceOf_32 : decode cX0_differenceOf 32 = .ok (.iadd, 1) := by decide +kernel
theorem dX0_differenceOf_33 : decode cX0_differenceOf 33 = .ok (.invokestatic 34, 3) := by decide +kernel
theorem dX0_differenceOf_36 : decode cX0_differenceOf 36 = .ok (.isub, 1) := by decide +kernel
theorem dX0_differenceOf_37 : decode cX0_differenceOf 37 = .ok (.invokestatic 48, 3) := by decide +kernel
theorem dX0_differenceOf_40 : decode cX0_differenceOf 40 = .ok (.imul, 1) := by decide +kernel
theorem dX0_differenceOf_41 : decode cX0_differenceOf 41 = .ok (.iadd, 1) := by decide +kernel
theorem dX0_differenceOf_42 : decode cX0_differenceOf 42 = .ok (.iconst 2, 1) := by decide +kernel
theorem dX0_differenceOf_43 : decode cX0_differenceOf 43 = .ok (.iload_n 0, 1) := by decide +kernel
theorem dX0_differenceOf_44 : decode cX0_differenceOf 44 = .ok (.iload_n 3, 1) := by decide +kernel
theorem dX0_differenceOf_45 : decode cX0_differenceOf 45 = .ok (.bipush 6, 2) := by decide +kernel
theorem dX0_differenceOf_47 : decode cX0_differenceOf 47 = .ok (.iadd, 1) := by decide +kernel
theorem dX0_differenceOf_48 : decode cX0_differenceOf 48 = .ok (.invokestatic 34, 3) := by decide +kernel
theorem dX0_differenceOf_51 : decode cX0_differenceOf 51 = .ok (.iload_n 1, 1) := by decide +kernel
theorem dX0_differenceOf_52 : decode cX0_differenceOf 52 = .ok (.iload_n 3, 1) := by decide +kernel
theorem dX0_differenceOf_53 : decode cX0_differenceOf 53 = .ok (.bipush 6, 2) := by decide +kernel
theorem dX0_differenceOf_55 : decode cX0_differenceOf 55 = .ok (.iadd, 1) := by decide +kernel
theorem dX0_differenceOf_56 : decode cX0_differenceOf 56 = .ok (.invokestatic 34, 3) := by decide +kernel
theorem dX0_differenceOf_59 : decode cX0_differenceOf 59 = .ok (.isub, 1) := by decide +kernel
theorem dX0_differenceOf_60 : decode cX0_differenceOf 60 = .ok (.invokestatic 48, 3) := by decide +kernel
theorem dX0_differenceOf_63 : decode cX0_differenceOf 63 = .ok (.imul, 1) := by decide +kernel
theorem dX0_differenceOf_64 : decode cX0_differenceOf 64 = .ok (.iadd, 1) := by decide +kernel
theorem dX0_differenceOf_65 : decode cX0_differenceOf 65 = .ok (.ireturn, 1) := by decide +kernel
theorem dX0_shifted_0 : decode cX0_shifted 0 = .ok (.iload_n 0, 1) := by decide +kernel
theorem dX0_shifted_1 : decode cX0_shifted 1 = .ok (.invokestatic 10, 3) := by decide +kernel
theorem dX0_shifted_4 : decode cX0_shifted 4 = .ok (.iload_n 1, 1) := by decide +kernel
theorem dX0_shifted_5 : decode cX0_shifted 5 = .ok (.iadd, 1) := by decide +kernel
theorem dX0_shifted_6 : decode cX0_shifted 6 = .ok (.iconst 0, 1) := by decide +kernel
theorem dX0_shifted_7 : decode cX0_shifted 7 = .ok (.sipush 255, 3) := by decide +kernel
theorem dX0_shifted_10 : decode cX0_shifted 10 = .ok (.invokestatic 45, 3) := by decide +kernel
theorem dX0_shifted_13 : decode cX0_shifted 13 = .ok (.iload_n 0, 1) := by decide +kernel
theorem dX0_shifted_14 : decode cX0_shifted 14 = .ok (.invokestatic 16, 3) := by decide +kernel
theorem dX0_shifted_17 : decode cX0_shifted 17 = .ok (.iload_n 1, 1) := by decide +kernel
theorem dX0_shifted_18 : decode cX0_shifted 18 = .ok (.iadd, 1) := by decide +kernel
theorem dX0_shifted_19 : decode cX0_shifted 19 = .ok (.iconst 0, 1) := by decide +kernel
theorem dX0_shifted_20 : decode cX0_shifted 20 = .ok (.sipush 255, 3) := by decide +kernel
theorem dX0_shifted_23 : decode cX0_shifted 23 = .ok (.invokestatic 45, 3) := by decide +kernel
theorem dX0_shifted_26 : decode cX0_shifted 26 = .ok (.iload_n 0, 1) := by decide +kernel
theorem dX0_shifted_27 : decode cX0_shifted 27 = .ok (.invokestatic 19, 3) := by decide +kernel
theorem dX0_shifted_30 : decode cX0_shifted 30 = .ok (.iload_n 1, 1) := by decide +kernel
theorem dX0_shifted_31 : decode cX0_shifted 31 = .ok (.iadd, 1) := by decide +kernel
theorem dX0_shifted_32 : decode cX0_shifted 32 = .ok (.iconst 0, 1) := by decide +kernel
theorem dX0_shifted_33 : decode cX0_shifted 33 = .ok (.sipush 255, 3) := by decide +kernel
theorem dX0_shifted_36 : decode cX0_shifted 36 = .ok (.invokestatic 45, 3) := by decide +kernel
theorem dX0_shifted_39 : decode cX0_shifted 39 = .ok (.invokestatic 37, 3) := by decide +kernel
theorem dX0_shifted_42 : decode cX0_shifted 42 = .ok (.ireturn, 1) := by decide +kernel
theorem dX1_init_0 : decode cX1_init 0 = .ok (.aload_n 0, 1) := by decide +kernel
theorem dX1_init_1 : decode cX1_init 1 = .ok (.invokespecial 3, 3) := by decide +kernel
theorem dX1_init_4 : decode cX1_init 4 = .ok (.aload_n 0, 1) := by decide +kernel
theorem dX1_init_5 : decode cX1_init 5 = .ok (.iconst 0, 1) := by decide +kernel
theorem dX1_init_6 : decode cX1_init 6 = .ok (.putfield 9, 3) := by decide +kernel
theorem dX1_init_9 : decode cX1_init 9 = .ok (.aload_n 0, 1) := by decide +kernel
theorem dX1_init_10 : decode cX1_init 10 = .ok (.iconst 2, 1) := by decide +kernel
theorem dX1_init_11 : decode cX1_init 11 = .ok (.bipush 10, 2) := by decide +kernel
theorem dX1_init_13 : decode cX1_init 13 = .ok (.multianewarray 15 2, 4) := by decide +kernel
theorem dX1_init_17 : decode cX1_init 17 = .ok (.putfield 17, 3) := by decide +kernel
theorem dX1_init_20 : decode cX1_init 20 = .ok (.aload_n 0, 1) := by decide +kernel
theorem dX1_init_21 : decode cX1_init 21 = .ok (.bipush 10, 2) := by decide +kernel
theorem dX1_init_23 : decode cX1_init 23 = .ok (.newarray .boolean, 2) := by decide +kernel
theorem dX1_init_25 : decode cX1_init 25 = .ok (.putfield 20, 3) := by decide +kernel
theorem dX1_init_28 : decode cX1_init 28 = .ok (.aload_n 0, 1) := by decide +kernel
theorem dX1_init_29 : decode cX1_init 29 = .ok (.iconst 0, 1) := by decide +kernel
theorem dX1_init_30 : decode cX1_init 30 = .ok (.putfield 24, 3) := by decide +kernel
theorem dX1_init_33 : decode cX1_init 33 = .ok (.aload_n 0, 1) := by decide +kernel
theorem dX1_init_34 : decode cX1_init 34 = .ok (.bipush 12, 2) := by decide +kernel
theorem dX1_init_36 : decode cX1_init 36 = .ok (.newarray .int, 2) := by decide +kernel
theorem dX1_init_38 : decode cX1_init 38 = .ok (.putfield 27, 3) := by decide +kernel
theorem dX1_init_41 : decode cX1_init 41 = .ok (.aload_n 0, 1) := by decide +kernel
theorem dX1_init_42 : decode cX1_init 42 = .ok (.bipush 12, 2) := by decide +kernel
theorem dX1_init_44 : decode cX1_init 44 = .ok (.newarray .int, 2) := by decide +kernel
theorem dX1_init_46 : decode cX1_init 46 = .ok (.putfield 31, 3) := by decide +kernel
theorem dX1_init_49 : decode cX1_init 49 = .ok (.aload_n 0, 1) := by decide +kernel
theorem dX1_init_50 : decode cX1_init 50 = .ok (.bipush 12, 2) := by decide +kernel
theorem dX1_init_52 : decode cX1_init 52 = .ok (.newarray .int, 2) := by decide +kernel
theorem dX1_init_54 : decode cX1_init 54 = .ok (.putfield 34, 3) := by decide +kernel
theorem dX1_init_57 : decode cX1_init 57 = .ok (.aload_n 0, 1) := by decide +kernel
theorem dX1_init_58 : decode cX1_init 58 = .ok (.iconst 2, 1) := by decide +kernel
theorem dX1_init_59 : decode cX1_init 59 = .ok (.bipush 12, 2) := by decide +kernel
theorem dX1_init_61 : decode cX1_init 61 = .ok (.multianewarray 15 2, 4) := by decide +kernel
theorem dX1_init_65 : decode cX1_init 65 = .ok (.putfield 37, 3) := by decide +kernel
theorem dX1_init_68 : decode cX1_init 68 = .ok (.return_, 1) := by decide +kernel
theorem dX1_clear_0 : decode cX1_clear 0 = .ok (.aload_n 0, 1) := by decide +kernel
theorem dX1_clear_1 : decode cX1_clear 1 = .ok (.iconst 0, 1) := by decide +kernel
theorem dX1_clear_2 : decode cX1_clear 2 = .ok (.putfield 9, 3) := by decide +kernel
theorem dX1_clear_5 : decode cX1_clear 5 = .ok (.aload_n 0, 1) := by decide +kernel
theorem dX1_clear_6 : decode cX1_clear 6 = .ok (.iconst 0, 1) := by decide +kernel
theorem dX1_clear_7 : decode cX1_clear 7 = .ok (.putfield 24, 3) := by decide +kernel
theorem dX1_clear_10 : decode cX1_clear 10 = .ok (.return_, 1) := by decide +kernel
theorem dX1_addRole_0 : decode cX1_addRole 0 = .ok (.aload_n 0, 1) := by decide +kernel
theorem dX1_addRole_1 : decode cX1_addRole 1 = .ok (.getfield 9, 3) := by decide +kernel
theorem dX1_addRole_4 : decode cX1_addRole 4 = .ok (.bipush 10, 2) := by decide +kernel
theorem dX1_addRole_6 : decode cX1_addRole 6 = .ok (.if_icmp .ge 47, 3) := by decide +kernel
theorem dX1_addRole_9 : decode cX1_addRole 9 = .ok (.aload_n 0, 1) := by decide +kernel
theorem dX1_addRole_10 : decode cX1_addRole 10 = .ok (.getfield 17, 3) := by decide +kernel
theorem dX1_addRole_13 : decode cX1_addRole 13 = .ok (.iconst 0, 1) := by decide +kernel
theorem dX1_addRole_14 : decode cX1_addRole 14 = .ok (.aaload, 1) := by decide +kernel
theorem dX1_addRole_15 : decode cX1_addRole 15 = .ok (.aload_n 0, 1) := by decide +kernel
theorem dX1_addRole_16 : decode cX1_addRole 16 = .ok (.getfield 9, 3) := by decide +kernel
theorem dX1_addRole_19 : decode cX1_addRole 19 = .ok (.iload_n 1, 1) := by decide +kernel
theorem dX1_addRole_20 : decode cX1_addRole 20 = .ok (.iastore, 1) := by decide +kernel
theorem dX1_addRole_21 : decode cX1_addRole 21 = .ok (.aload_n 0, 1) := by decide +kernel
theorem dX1_addRole_22 : decode cX1_addRole 22 = .ok (.getfield 17, 3) := by decide +kernel
theorem dX1_addRole_25 : decode cX1_addRole 25 = .ok (.iconst 1, 1) := by decide +kernel
theorem dX1_addRole_26 : decode cX1_addRole 26 = .ok (.aaload, 1) := by decide +kernel
theorem dX1_addRole_27 : decode cX1_addRole 27 = .ok (.aload_n 0, 1) := by decide +kernel
theorem dX1_addRole_28 : decode cX1_addRole 28 = .ok (.getfield 9, 3) := by decide +kernel
theorem dX1_addRole_31 : decode cX1_addRole 31 = .ok (.iload_n 2, 1) := by decide +kernel
theorem dX1_addRole_32 : decode cX1_addRole 32 = .ok (.iastore, 1) := by decide +kernel
theorem dX1_addRole_33 : decode cX1_addRole 33 = .ok (.aload_n 0, 1) := by decide +kernel
theorem dX1_addRole_34 : decode cX1_addRole 34 = .ok (.getfield 20, 3) := by decide +kernel
theorem dX1_addRole_37 : decode cX1_addRole 37 = .ok (.aload_n 0, 1) := by decide +kernel
theorem dX1_addRole_38 : decode cX1_addRole 38 = .ok (.getfield 9, 3) := by decide +kernel
theorem dX1_addRole_41 : decode cX1_addRole 41 = .ok (.iload_n 3, 1) := by decide +kernel
theorem dX1_addRole_42 : decode cX1_addRole 42 = .ok (.bastore, 1) := by decide +kernel
theorem dX1_addRole_43 : decode cX1_addRole 43 = .ok (.aload_n 0, 1) := by decide +kernel
theorem dX1_addRole_44 : decode cX1_addRole 44 = .ok (.dup, 1) := by decide +kernel
theorem dX1_addRole_45 : decode cX1_addRole 45 = .ok (.getfield 9, 3) := by decide +kernel
theorem dX1_addRole_48 : decode cX1_addRole 48 = .ok (.iconst 1, 1) := by decide +kernel
theorem dX1_addRole_49 : decode cX1_addRole 49 = .ok (.iadd, 1) := by decide +kernel
theorem dX1_addRole_50 : decode cX1_addRole 50 = .ok (.putfield 9, 3) := by decide +kernel
theorem dX1_addRole_53 : decode cX1_addRole 53 = .ok (.return_, 1) := by decide +kernel
theorem dX1_addRule_0 : decode cX1_addRule 0 = .ok (.aload_n 0, 1) := by decide +kernel
theorem dX1_addRule_1 : decode cX1_addRule 1 = .ok (.getfield 24, 3) := by decide +kernel
theorem dX1_addRule_4 : decode cX1_addRule 4 = .ok (.bipush 12, 2) := by decide +kernel
theorem dX1_addRule_6 : decode cX1_addRule 6 = .ok (.if_icmp .ge 69, 3) := by decide +kernel
theorem dX1_addRule_9 : decode cX1_addRule 9 = .ok (.aload_n 0, 1) := by decide +kernel
theorem dX1_addRule_10 : decode cX1_addRule 10 = .ok (.getfield 27, 3) := by decide +kernel
theorem dX1_addRule_13 : decode cX1_addRule 13 = .ok (.aload_n 0, 1) := by decide +kernel
theorem dX1_addRule_14 : decode cX1_addRule 14 = .ok (.getfield 24, 3) := by decide +kernel
theorem dX1_addRule_17 : decode cX1_addRule 17 = .ok (.iload_n 1, 1) := by decide +kernel
theorem dX1_addRule_18 : decode cX1_addRule 18 = .ok (.iastore, 1) := by decide +kernel
theorem dX1_addRule_19 : decode cX1_addRule 19 = .ok (.aload_n 0, 1) := by decide +kernel
theorem dX1_addRule_20 : decode cX1_addRule 20 = .ok (.getfield 31, 3) := by decide +kernel
theorem dX1_addRule_23 : decode cX1_addRule 23 = .ok (.aload_n 0, 1) := by decide +kernel
theorem dX1_addRule_24 : decode cX1_addRule 24 = .ok (.getfield 24, 3) := by decide +kernel
theorem dX1_addRule_27 : decode cX1_addRule 27 = .ok (.iload_n 2, 1) := by decide +kernel
theorem dX1_addRule_28 : decode cX1_addRule 28 = .ok (.iastore, 1) := by decide +kernel
theorem dX1_addRule_29 : decode cX1_addRule 29 = .ok (.aload_n 0, 1) := by decide +kernel
theorem dX1_addRule_30 : decode cX1_addRule 30 = .ok (.getfield 34, 3) := by decide +kernel
theorem dX1_addRule_33 : decode cX1_addRule 33 = .ok (.aload_n 0, 1) := by decide +kernel
theorem dX1_addRule_34 : decode cX1_addRule 34 = .ok (.getfield 24, 3) := by decide +kernel
theorem dX1_addRule_37 : decode cX1_addRule 37 = .ok (.iload_n 3, 1) := by decide +kernel
theorem dX1_addRule_38 : decode cX1_addRule 38 = .ok (.iastore, 1) := by decide +kernel
theorem dX1_addRule_39 : decode cX1_addRule 39 = .ok (.aload_n 0, 1) := by decide +kernel
theorem dX1_addRule_40 : decode cX1_addRule 40 = .ok (.getfield 37, 3) := by decide +kernel
theorem dX1_addRule_43 : decode cX1_addRule 43 = .ok (.iconst 0, 1) := by decide +kernel
theorem dX1_addRule_44 : decode cX1_addRule 44 = .ok (.aaload, 1) := by decide +kernel
theorem dX1_addRule_45 : decode cX1_addRule 45 = .ok (.aload_n 0, 1) := by decide +kernel
theorem dX1_addRule_46 : decode cX1_addRule 46 = .ok (.getfield 24, 3) := by decide +kernel
theorem dX1_addRule_49 : decode cX1_addRule 49 = .ok (.iload 4, 2) := by decide +kernel
theorem dX1_addRule_51 : decode cX1_addRule 51 = .ok (.iastore, 1) := by decide +kernel
theorem dX1_addRule_52 : decode cX1_addRule 52 = .ok (.aload_n 0, 1) := by decide +kernel
theorem dX1_addRule_53 : decode cX1_addRule 53 = .ok (.getfield 37, 3) := by decide +kernel
theorem dX1_addRule_56 : decode cX1_addRule 56 = .ok (.iconst 1, 1) := by decide +kernel
theorem dX1_addRule_57 : decode cX1_addRule 57 = .ok (.aaload, 1) := by decide +kernel
theorem dX1_addRule_58 : decode cX1_addRule 58 = .ok (.aload_n 0, 1) := by decide +kernel
theorem dX1_addRule_59 : decode cX1_addRule 59 = .ok (.getfield 24, 3) := by decide +kernel
theorem dX1_addRule_62 : decode cX1_addRule 62 = .ok (.iload 4, 2) := by decide +kernel
theorem dX1_addRule_64 : decode cX1_addRule 64 = .ok (.iastore, 1) := by decide +kernel
theorem dX1_addRule_65 : decode cX1_addRule 65 = .ok (.aload_n 0, 1) := by decide +kernel
theorem dX1_addRule_66 : decode cX1_addRule 66 = .ok (.dup, 1) := by decide +kernel
theorem dX1_addRule_67 : decode cX1_addRule 67 = .ok (.getfield 24, 3) := by decide +kernel
theorem dX1_addRule_70 : decode cX1_addRule 70 = .ok (.iconst 1, 1) := by decide +kernel
theorem dX1_addRule_71 : decode cX1_addRule 71 = .ok (.iadd, 1) := by decide +kernel
theorem dX1_addRule_72 : decode cX1_addRule 72 = .ok (.putfield 24, 3) := by decide +kernel
theorem dX1_addRule_75 : decode cX1_addRule 75 = .ok (.return_, 1) := by decide +kernel
theorem dX1_copyFrom_0 : decode cX1_copyFrom 0 = .ok (.aload_n 0, 1) := by decide +kernel
theorem dX1_copyFrom_1 : decode cX1_copyFrom 1 = .ok (.aload_n 1, 1) := by decide +kernel
theorem dX1_copyFrom_2 : decode cX1_copyFrom 2 = .ok (.getfield 9, 3) := by decide +kernel
theorem dX1_copyFrom_5 : decode cX1_copyFrom 5 = .ok (.putfield 9, 3) := by decide +kernel
theorem dX1_copyFrom_8 : decode cX1_copyFrom 8 = .ok (.aload_n 0, 1) := by decide +kernel
theorem dX1_copyFrom_9 : decode cX1_copyFrom 9 = .ok (.aload_n 1, 1) := by decide +kernel
theorem dX1_copyFrom_10 : decode cX1_copyFrom 10 = .ok (.getfield 24, 3) := by decide +kernel
theorem dX1_copyFrom_13 : decode cX1_copyFrom 13 = .ok (.putfield 24, 3) := by decide +kernel
theorem dX1_copyFrom_16 : decode cX1_copyFrom 16 = .ok (.iconst 0, 1) := by decide +kernel
theorem dX1_copyFrom_17 : decode cX1_copyFrom 17 = .ok (.istore_n 2, 1) := by decide +kernel
theorem dX1_copyFrom_18 : decode cX1_copyFrom 18 = .ok (.iload_n 2, 1) := by decide +kernel
theorem dX1_copyFrom_19 : decode cX1_copyFrom 19 = .ok (.iconst 2, 1) := by decide +kernel
theorem dX1_copyFrom_20 : decode cX1_copyFrom 20 = .ok (.if_icmp .ge 47, 3) := by decide +kernel
theorem dX1_copyFrom_23 : decode cX1_copyFrom 23 = .ok (.aload_n 1, 1) := by decide +kernel
theorem dX1_copyFrom_24 : decode cX1_copyFrom 24 = .ok (.getfield 17, 3) := by decide +kernel
theorem dX1_copyFrom_27 : decode cX1_copyFrom 27 = .ok (.iload_n 2, 1) := by decide +kernel
theorem dX1_copyFrom_28 : decode cX1_copyFrom 28 = .ok (.aaload, 1) := by decide +kernel
theorem dX1_copyFrom_29 : decode cX1_copyFrom 29 = .ok (.iconst 0, 1) := by decide +kernel
theorem dX1_copyFrom_30 : decode cX1_copyFrom 30 = .ok (.aload_n 0, 1) := by decide +kernel
theorem dX1_copyFrom_31 : decode cX1_copyFrom 31 = .ok (.getfield 17, 3) := by decide +kernel
theorem dX1_copyFrom_34 : decode cX1_copyFrom 34 = .ok (.iload_n 2, 1) := by decide +kernel
theorem dX1_copyFrom_35 : decode cX1_copyFrom 35 = .ok (.aaload, 1) := by decide +kernel
theorem dX1_copyFrom_36 : decode cX1_copyFrom 36 = .ok (.iconst 0, 1) := by decide +kernel
theorem dX1_copyFrom_37 : decode cX1_copyFrom 37 = .ok (.bipush 10, 2) := by decide +kernel
theorem dX1_copyFrom_39 : decode cX1_copyFrom 39 = .ok (.invokestatic 40, 3) := by decide +kernel
theorem dX1_copyFrom_42 : decode cX1_copyFrom 42 = .ok (.aload_n 1, 1) := by decide +kernel
theorem dX1_copyFrom_43 : decode cX1_copyFrom 43 = .ok (.getfield 37, 3) := by decide +kernel
theorem dX1_copyFrom_46 : decode cX1_copyFrom 46 = .ok (.iload_n 2, 1) := by decide +kernel
theorem dX1_copyFrom_47 : decode cX1_copyFrom 47 = .ok (.aaload, 1) := by decide +kernel
theorem dX1_copyFrom_48 : decode cX1_copyFrom 48 = .ok (.iconst 0, 1) := by decide +kernel
theorem dX1_copyFrom_49 : decode cX1_copyFrom 49 = .ok (.aload_n 0, 1) := by decide +kernel
theorem dX1_copyFrom_50 : decode cX1_copyFrom 50 = .ok (.getfield 37, 3) := by decide +kernel
theorem dX1_copyFrom_53 : decode cX1_copyFrom 53 = .ok (.iload_n 2, 1) := by decide +kernel
theorem dX1_copyFrom_54 : decode cX1_copyFrom 54 = .ok (.aaload, 1) := by decide +kernel
theorem dX1_copyFrom_55 : decode cX1_copyFrom 55 = .ok (.iconst 0, 1) := by decide +kernel
theorem dX1_copyFrom_56 : decode cX1_copyFrom 56 = .ok (.bipush 12, 2) := by decide +kernel
theorem dX1_copyFrom_58 : decode cX1_copyFrom 58 = .ok (.invokestatic 40, 3) := by decide +kernel
theorem dX1_copyFrom_61 : decode cX1_copyFrom 61 = .ok (.iinc 2 1, 3) := by decide +kernel
theorem dX1_copyFrom_64 : decode cX1_copyFrom 64 = .ok (.goto (-46), 3) := by decide +kernel
theorem dX1_copyFrom_67 : decode cX1_copyFrom 67 = .ok (.iconst 0, 1) := by decide +kernel
theorem dX1_copyFrom_68 : decode cX1_copyFrom 68 = .ok (.istore_n 2, 1) := by decide +kernel
theorem dX1_copyFrom_69 : decode cX1_copyFrom 69 = .ok (.iload_n 2, 1) := by decide +kernel
theorem dX1_copyFrom_70 : decode cX1_copyFrom 70 = .ok (.bipush 10, 2) := by decide +kernel
theorem dX1_copyFrom_72 : decode cX1_copyFrom 72 = .ok (.if_icmp .ge 21, 3) := by decide +kernel
theorem dX1_copyFrom_75 : decode cX1_copyFrom 75 = .ok (.aload_n 0, 1) := by decide +kernel
theorem dX1_copyFrom_76 : decode cX1_copyFrom 76 = .ok (.getfield 20, 3) := by decide +kernel
theorem dX1_copyFrom_79 : decode cX1_copyFrom 79 = .ok (.iload_n 2, 1) := by decide +kernel
theorem dX1_copyFrom_80 : decode cX1_copyFrom 80 = .ok (.aload_n 1, 1) := by decide +kernel
theorem dX1_copyFrom_81 : decode cX1_copyFrom 81 = .ok (.getfield 20, 3) := by decide +kernel
theorem dX1_copyFrom_84 : decode cX1_copyFrom 84 = .ok (.iload_n 2, 1) := by decide +kernel
theorem dX1_copyFrom_85 : decode cX1_copyFrom 85 = .ok (.baload, 1) := by decide +kernel
theorem dX1_copyFrom_86 : decode cX1_copyFrom 86 = .ok (.bastore, 1) := by decide +kernel
theorem dX1_copyFrom_87 : decode cX1_copyFrom 87 = .ok (.iinc 2 1, 3) := by decide +kernel
theorem dX1_copyFrom_90 : decode cX1_copyFrom 90 = .ok (.goto (-21), 3) := by decide +kernel
theorem dX1_copyFrom_93 : decode cX1_copyFrom 93 = .ok (.aload_n 1, 1) := by decide +kernel
theorem dX1_copyFrom_94 : decode cX1_copyFrom 94 = .ok (.getfield 27, 3) := by decide +kernel
theorem dX1_copyFrom_97 : decode cX1_copyFrom 97 = .ok (.iconst 0, 1) := by decide +kernel
theorem dX1_copyFrom_98 : decode cX1_copyFrom 98 = .ok (.aload_n 0, 1) := by decide +kernel
theorem dX1_copyFrom_99 : decode cX1_copyFrom 99 = .ok (.getfield 27, 3) := by decide +kernel
theorem dX1_copyFrom_102 : decode cX1_copyFrom 102 = .ok (.iconst 0, 1) := by decide +kernel
theorem dX1_copyFrom_103 : decode cX1_copyFrom 103 = .ok (.bipush 12, 2) := by decide +kernel
theorem dX1_copyFrom_105 : decode cX1_copyFrom 105 = .ok (.invokestatic 40, 3) := by decide +kernel
theorem dX1_copyFrom_108 : decode cX1_copyFrom 108 = .ok (.aload_n 1, 1) := by decide +kernel
theorem dX1_copyFrom_109 : decode cX1_copyFrom 109 = .ok (.getfield 31, 3) := by decide +kernel
theorem dX1_copyFrom_112 : decode cX1_copyFrom 112 = .ok (.iconst 0, 1) := by decide +kernel
theorem dX1_copyFrom_113 : decode cX1_copyFrom 113 = .ok (.aload_n 0, 1) := by decide +kernel
theorem dX1_copyFrom_114 : decode cX1_copyFrom 114 = .ok (.getfield 31, 3) := by decide +kernel
theorem dX1_copyFrom_117 : decode cX1_copyFrom 117 = .ok (.iconst 0, 1) := by decide +kernel
theorem dX1_copyFrom_118 : decode cX1_copyFrom 118 = .ok (.bipush 12, 2) := by decide +kernel
theorem dX1_copyFrom_120 : decode cX1_copyFrom 120 = .ok (.invokestatic 40, 3) := by decide +kernel
theorem dX1_copyFrom_123 : decode cX1_copyFrom 123 = .ok (.aload_n 1, 1) := by decide +kernel
theorem dX1_copyFrom_124 : decode cX1_copyFrom 124 = .ok (.getfield 34, 3) := by decide +kernel
theorem dX1_copyFrom_127 : decode cX1_copyFrom 127 = .ok (.iconst 0, 1) := by decide +kernel
theorem dX1_copyFrom_128 : decode cX1_copyFrom 128 = .ok (.aload_n 0, 1) := by decide +kernel
theorem dX1_copyFrom_129 : decode cX1_copyFrom 129 = .ok (.getfield 34, 3) := by decide +kernel
theorem dX1_copyFrom_132 : decode cX1_copyFrom 132 = .ok (.iconst 0, 1) := by decide +kernel
theorem dX1_copyFrom_133 : decode cX1_copyFrom 133 = .ok (.bipush 12, 2) := by decide +kernel
theorem dX1_copyFrom_135 : decode cX1_copyFrom 135 = .ok (.invokestatic 40, 3) := by decide +kernel
theorem dX1_copyFrom_138 : decode cX1_copyFrom 138 = .ok (.return_, 1) := by decide +kernel
theorem dX1_exchangeColours_0 : decode cX1_exchangeColours 0 = .ok (.iconst 0, 1) := by decide +kernel
theorem dX1_exchangeColours_1 : decode cX1_exchangeColours 1 = .ok (.istore_n 1, 1) := by decide +kernel
theorem dX1_exchangeColours_2 : decode cX1_exchangeColours 2 = .ok (.iload_n 1, 1) := by decide +kernel
theorem dX1_exchangeColours_3 : decode cX1_exchangeColours 3 = .ok (.aload_n 0, 1) := by decide +kernel
theorem dX1_exchangeColours_4 : decode cX1_exchangeColours 4 = .ok (.getfield 9, 3) := by decide +kernel
theorem dX1_exchangeColours_7 : decode cX1_exchangeColours 7 = .ok (.if_icmp .ge 43, 3) := by decide +kernel
theorem dX1_exchangeColours_10 : decode cX1_exchangeColours 10 = .ok (.aload_n 0, 1) := by decide +kernel
theorem dX1_exchangeColours_11 : decode cX1_exchangeColours 11 = .ok (.getfield 17, 3) := by decide +kernel
theorem dX1_exchangeColours_14 : decode cX1_exchangeColours 14 = .ok (.iconst 0, 1) := by decide +kernel
theorem dX1_exchangeColours_15 : decode cX1_exchangeColours 15 = .ok (.aaload, 1) := by decide +kernel
theorem dX1_exchangeColours_16 : decode cX1_exchangeColours 16 = .ok (.iload_n 1, 1) := by decide +kernel
theorem dX1_exchangeColours_17 : decode cX1_exchangeColours 17 = .ok (.iaload, 1) := by decide +kernel
theorem dX1_exchangeColours_18 : decode cX1_exchangeColours 18 = .ok (.istore_n 2, 1) := by decide +kernel
theorem dX1_exchangeColours_19 : decode cX1_exchangeColours 19 = .ok (.aload_n 0, 1) := by decide +kernel
theorem dX1_exchangeColours_20 : decode cX1_exchangeColours 20 = .ok (.getfield 17, 3) := by decide +kernel
theorem dX1_exchangeColours_23 : decode cX1_exchangeColours 23 = .ok (.iconst 0, 1) := by decide +kernel
theorem dX1_exchangeColours_24 : decode cX1_exchangeColours 24 = .ok (.aaload, 1) := by decide +kernel
theorem dX1_exchangeColours_25 : decode cX1_exchangeColours 25 = .ok (.iload_n 1, 1) := by decide +kernel
theorem dX1_exchangeColours_26 : decode cX1_exchangeColours 26 = .ok (.aload_n 0, 1) := by decide +kernel
theorem dX1_exchangeColours_27 : decode cX1_exchangeColours 27 = .ok (.getfield 17, 3) := by decide +kernel
theorem dX1_exchangeColours_30 : decode cX1_exchangeColours 30 = .ok (.iconst 1, 1) := by decide +kernel
theorem dX1_exchangeColours_31 : decode cX1_exchangeColours 31 = .ok (.aaload, 1) := by decide +kernel
theorem dX1_exchangeColours_32 : decode cX1_exchangeColours 32 = .ok (.iload_n 1, 1) := by decide +kernel
theorem dX1_exchangeColours_33 : decode cX1_exchangeColours 33 = .ok (.iaload, 1) := by decide +kernel
theorem dX1_exchangeColours_34 : decode cX1_exchangeColours 34 = .ok (.iastore, 1) := by decide +kernel
theorem dX1_exchangeColours_35 : decode cX1_exchangeColours 35 = .ok (.aload_n 0, 1) := by decide +kernel
theorem dX1_exchangeColours_36 : decode cX1_exchangeColours 36 = .ok (.getfield 17, 3) := by decide +kernel
theorem dX1_exchangeColours_39 : decode cX1_exchangeColours 39 = .ok (.iconst 1, 1) := by decide +kernel
theorem dX1_exchangeColours_40 : decode cX1_exchangeColours 40 = .ok (.aaload, 1) := by decide +kernel
theorem dX1_exchangeColours_41 : decode cX1_exchangeColours 41 = .ok (.iload_n 1, 1) := by decide +kernel
theorem dX1_exchangeColours_42 : decode cX1_exchangeColours 42 = .ok (.iload_n 2, 1) := by decide +kernel
theorem dX1_exchangeColours_43 : decode cX1_exchangeColours 43 = .ok (.iastore, 1) := by decide +kernel
theorem dX1_exchangeColours_44 : decode cX1_exchangeColours 44 = .ok (.iinc 1 1, 3) := by decide +kernel
theorem dX1_exchangeColours_47 : decode cX1_exchangeColours 47 = .ok (.goto (-45), 3) := by decide +kernel
theorem dX1_exchangeColours_50 : decode cX1_exchangeColours 50 = .ok (.return_, 1) := by decide +kernel
theorem dX1_nearestRole_0 : decode cX1_nearestRole 0 = .ok (.iconst (-1), 1) := by decide +kernel
theorem dX1_nearestRole_1 : decode cX1_nearestRole 1 = .ok (.istore_n 3, 1) := by decide +kernel
theorem dX1_nearestRole_2 : decode cX1_nearestRole 2 = .ok (.sipush 2296, 3) := by decide +kernel
theorem dX1_nearestRole_5 : decode cX1_nearestRole 5 = .ok (.istore 4, 2) := by decide +kernel
theorem dX1_nearestRole_7 : decode cX1_nearestRole 7 = .ok (.iconst 0, 1) := by decide +kernel
theorem dX1_nearestRole_8 : decode cX1_nearestRole 8 = .ok (.istore 5, 2) := by decide +kernel
theorem dX1_nearestRole_10 : decode cX1_nearestRole 10 = .ok (.iload 5, 2) := by decide +kernel
theorem dX1_nearestRole_12 : decode cX1_nearestRole 12 = .ok (.aload_n 0, 1) := by decide +kernel
theorem dX1_nearestRole_13 : decode cX1_nearestRole 13 = .ok (.getfield 9, 3) := by decide +kernel
theorem dX1_nearestRole_16 : decode cX1_nearestRole 16 = .ok (.if_icmp .ge 39, 3) := by decide +kernel
theorem dX1_nearestRole_19 : decode cX1_nearestRole 19 = .ok (.aload_n 0, 1) := by decide +kernel
theorem dX1_nearestRole_20 : decode cX1_nearestRole 20 = .ok (.getfield 17, 3) := by decide +kernel
theorem dX1_nearestRole_23 : decode cX1_nearestRole 23 = .ok (.iload_n 2, 1) := by decide +kernel
theorem dX1_nearestRole_24 : decode cX1_nearestRole 24 = .ok (.aaload, 1) := by decide +kernel
theorem dX1_nearestRole_25 : decode cX1_nearestRole 25 = .ok (.iload 5, 2) := by decide +kernel
theorem dX1_nearestRole_27 : decode cX1_nearestRole 27 = .ok (.iaload, 1) := by decide +kernel
theorem dX1_nearestRole_28 : decode cX1_nearestRole 28 = .ok (.iload_n 1, 1) := by decide +kernel
theorem dX1_nearestRole_29 : decode cX1_nearestRole 29 = .ok (.iconst 0, 1) := by decide +kernel
theorem dX1_nearestRole_30 : decode cX1_nearestRole 30 = .ok (.invokestatic 46, 3) := by decide +kernel
theorem dX1_nearestRole_33 : decode cX1_nearestRole 33 = .ok (.istore 6, 2) := by decide +kernel
theorem dX1_nearestRole_35 : decode cX1_nearestRole 35 = .ok (.iload 6, 2) := by decide +kernel
theorem dX1_nearestRole_37 : decode cX1_nearestRole 37 = .ok (.iload 4, 2) := by decide +kernel
theorem dX1_nearestRole_39 : decode cX1_nearestRole 39 = .ok (.if_icmp .ge 10, 3) := by decide +kernel
theorem dX1_nearestRole_42 : decode cX1_nearestRole 42 = .ok (.iload 5, 2) := by decide +kernel
theorem dX1_nearestRole_44 : decode cX1_nearestRole 44 = .ok (.istore_n 3, 1) := by decide +kernel
theorem dX1_nearestRole_45 : decode cX1_nearestRole 45 = .ok (.iload 6, 2) := by decide +kernel
theorem dX1_nearestRole_47 : decode cX1_nearestRole 47 = .ok (.istore 4, 2) := by decide +kernel
theorem dX1_nearestRole_49 : decode cX1_nearestRole 49 = .ok (.iinc 5 1, 3) := by decide +kernel
theorem dX1_nearestRole_52 : decode cX1_nearestRole 52 = .ok (.goto (-42), 3) := by decide +kernel
theorem dX1_nearestRole_55 : decode cX1_nearestRole 55 = .ok (.iload_n 3, 1) := by decide +kernel
theorem dX1_nearestRole_56 : decode cX1_nearestRole 56 = .ok (.ireturn, 1) := by decide +kernel
theorem dX1_ruleValue_0 : decode cX1_ruleValue 0 = .ok (.aload_n 0, 1) := by decide +kernel
theorem dX1_ruleValue_1 : decode cX1_ruleValue 1 = .ok (.getfield 17, 3) := by decide +kernel
theorem dX1_ruleValue_4 : decode cX1_ruleValue 4 = .ok (.iload_n 2, 1) := by decide +kernel
theorem dX1_ruleValue_5 : decode cX1_ruleValue 5 = .ok (.aaload, 1) := by decide +kernel
theorem dX1_ruleValue_6 : decode cX1_ruleValue 6 = .ok (.aload_n 0, 1) := by decide +kernel
theorem dX1_ruleValue_7 : decode cX1_ruleValue 7 = .ok (.getfield 27, 3) := by decide +kernel
theorem dX1_ruleValue_10 : decode cX1_ruleValue 10 = .ok (.iload_n 1, 1) := by decide +kernel
theorem dX1_ruleValue_11 : decode cX1_ruleValue 11 = .ok (.iaload, 1) := by decide +kernel
theorem dX1_ruleValue_12 : decode cX1_ruleValue 12 = .ok (.iaload, 1) := by decide +kernel
theorem dX1_ruleValue_13 : decode cX1_ruleValue 13 = .ok (.istore_n 3, 1) := by decide +kernel
theorem dX1_ruleValue_14 : decode cX1_ruleValue 14 = .ok (.aload_n 0, 1) := by decide +kernel
theorem dX1_ruleValue_15 : decode cX1_ruleValue 15 = .ok (.getfield 17, 3) := by decide +kernel
theorem dX1_ruleValue_18 : decode cX1_ruleValue 18 = .ok (.iload_n 2, 1) := by decide +kernel
theorem dX1_ruleValue_19 : decode cX1_ruleValue 19 = .ok (.aaload, 1) := by decide +kernel
theorem dX1_ruleValue_20 : decode cX1_ruleValue 20 = .ok (.aload_n 0, 1) := by decide +kernel
theorem dX1_ruleValue_21 : decode cX1_ruleValue 21 = .ok (.getfield 31, 3) := by decide +kernel
theorem dX1_ruleValue_24 : decode cX1_ruleValue 24 = .ok (.iload_n 1, 1) := by decide +kernel
theorem dX1_ruleValue_25 : decode cX1_ruleValue 25 = .ok (.iaload, 1) := by decide +kernel
theorem dX1_ruleValue_26 : decode cX1_ruleValue 26 = .ok (.iaload, 1) := by decide +kernel
theorem dX1_ruleValue_27 : decode cX1_ruleValue 27 = .ok (.istore 4, 2) := by decide +kernel
theorem dX1_ruleValue_29 : decode cX1_ruleValue 29 = .ok (.aload_n 0, 1) := by decide +kernel
theorem dX1_ruleValue_30 : decode cX1_ruleValue 30 = .ok (.getfield 34, 3) := by decide +kernel
theorem dX1_ruleValue_33 : decode cX1_ruleValue 33 = .ok (.iload_n 1, 1) := by decide +kernel
theorem dX1_ruleValue_34 : decode cX1_ruleValue 34 = .ok (.iaload, 1) := by decide +kernel
theorem dX1_ruleValue_35 : decode cX1_ruleValue 35 = .ok (.iconst (-1), 1) := by decide +kernel
theorem dX1_ruleValue_36 : decode cX1_ruleValue 36 = .ok (.if_icmp .ne 10, 3) := by decide +kernel
theorem dX1_ruleValue_39 : decode cX1_ruleValue 39 = .ok (.iload_n 3, 1) := by decide +kernel
theorem dX1_ruleValue_40 : decode cX1_ruleValue 40 = .ok (.iload 4, 2) := by decide +kernel
theorem dX1_ruleValue_42 : decode cX1_ruleValue 42 = .ok (.invokestatic 52, 3) := by decide +kernel
theorem dX1_ruleValue_45 : decode cX1_ruleValue 45 = .ok (.ireturn, 1) := by decide +kernel
theorem dX1_ruleValue_46 : decode cX1_ruleValue 46 = .ok (.iload_n 3, 1) := by decide +kernel
theorem dX1_ruleValue_47 : decode cX1_ruleValue 47 = .ok (.iload 4, 2) := by decide +kernel
theorem dX1_ruleValue_49 : decode cX1_ruleValue 49 = .ok (.aload_n 0, 1) := by decide +kernel
theorem dX1_ruleValue_50 : decode cX1_ruleValue 50 = .ok (.getfield 34, 3) := by decide +kernel
theorem dX1_ruleValue_53 : decode cX1_ruleValue 53 = .ok (.iload_n 1, 1) := by decide +kernel
theorem dX1_ruleValue_54 : decode cX1_ruleValue 54 = .ok (.iaload, 1) := by decide +kernel
theorem dX1_ruleValue_55 : decode cX1_ruleValue 55 = .ok (.invokestatic 46, 3) := by decide +kernel
theorem dX1_ruleValue_58 : decode cX1_ruleValue 58 = .ok (.ireturn, 1) := by decide +kernel
theorem dX1_isKept_0 : decode cX1_isKept 0 = .ok (.aload_n 0, 1) := by decide +kernel
theorem dX1_isKept_1 : decode cX1_isKept 1 = .ok (.iload_n 1, 1) := by decide +kernel
theorem dX1_isKept_2 : decode cX1_isKept 2 = .ok (.iload_n 2, 1) := by decide +kernel
theorem dX1_isKept_3 : decode cX1_isKept 3 = .ok (.invokevirtual 56, 3) := by decide +kernel
theorem dX1_isKept_6 : decode cX1_isKept 6 = .ok (.aload_n 0, 1) := by decide +kernel
theorem dX1_isKept_7 : decode cX1_isKept 7 = .ok (.getfield 37, 3) := by decide +kernel
theorem dX1_isKept_10 : decode cX1_isKept 10 = .ok (.iload_n 2, 1) := by decide +kernel
theorem dX1_isKept_11 : decode cX1_isKept 11 = .ok (.aaload, 1) := by decide +kernel
theorem dX1_isKept_12 : decode cX1_isKept 12 = .ok (.iload_n 1, 1) := by decide +kernel
theorem dX1_isKept_13 : decode cX1_isKept 13 = .ok (.iaload, 1) := by decide +kernel
theorem dX1_isKept_14 : decode cX1_isKept 14 = .ok (.if_icmp .lt 7, 3) := by decide +kernel
theorem dX1_isKept_17 : decode cX1_isKept 17 = .ok (.iconst 1, 1) := by decide +kernel
theorem dX1_isKept_18 : decode cX1_isKept 18 = .ok (.goto 4, 3) := by decide +kernel
theorem dX1_isKept_21 : decode cX1_isKept 21 = .ok (.iconst 0, 1) := by decide +kernel
theorem dX1_isKept_22 : decode cX1_isKept 22 = .ok (.ireturn, 1) := by decide +kernel
theorem dX1_leastMargin_0 : decode cX1_leastMargin 0 = .ok (.sipush 9999, 3) := by decide +kernel
theorem dX1_leastMargin_3 : decode cX1_leastMargin 3 = .ok (.istore_n 2, 1) := by decide +kernel
theorem dX1_leastMargin_4 : decode cX1_leastMargin 4 = .ok (.iconst 0, 1) := by decide +kernel
theorem dX1_leastMargin_5 : decode cX1_leastMargin 5 = .ok (.istore_n 3, 1) := by decide +kernel
theorem dX1_leastMargin_6 : decode cX1_leastMargin 6 = .ok (.iload_n 3, 1) := by decide +kernel
theorem dX1_leastMargin_7 : decode cX1_leastMargin 7 = .ok (.aload_n 0, 1) := by decide +kernel
theorem dX1_leastMargin_8 : decode cX1_leastMargin 8 = .ok (.getfield 24, 3) := by decide +kernel
theorem dX1_leastMargin_11 : decode cX1_leastMargin 11 = .ok (.if_icmp .ge 29, 3) := by decide +kernel
theorem dX1_leastMargin_14 : decode cX1_leastMargin 14 = .ok (.iload_n 2, 1) := by decide +kernel
theorem dX1_leastMargin_15 : decode cX1_leastMargin 15 = .ok (.aload_n 0, 1) := by decide +kernel
theorem dX1_leastMargin_16 : decode cX1_leastMargin 16 = .ok (.iload_n 3, 1) := by decide +kernel
theorem dX1_leastMargin_17 : decode cX1_leastMargin 17 = .ok (.iload_n 1, 1) := by decide +kernel
theorem dX1_leastMargin_18 : decode cX1_leastMargin 18 = .ok (.invokevirtual 56, 3) := by decide +kernel
theorem dX1_leastMargin_21 : decode cX1_leastMargin 21 = .ok (.aload_n 0, 1) := by decide +kernel
theorem dX1_leastMargin_22 : decode cX1_leastMargin 22 = .ok (.getfield 37, 3) := by decide +kernel
theorem dX1_leastMargin_25 : decode cX1_leastMargin 25 = .ok (.iload_n 1, 1) := by decide +kernel
theorem dX1_leastMargin_26 : decode cX1_leastMargin 26 = .ok (.aaload, 1) := by decide +kernel
theorem dX1_leastMargin_27 : decode cX1_leastMargin 27 = .ok (.iload_n 3, 1) := by decide +kernel
theorem dX1_leastMargin_28 : decode cX1_leastMargin 28 = .ok (.iaload, 1) := by decide +kernel
theorem dX1_leastMargin_29 : decode cX1_leastMargin 29 = .ok (.isub, 1) := by decide +kernel
theorem dX1_leastMargin_30 : decode cX1_leastMargin 30 = .ok (.invokestatic 59, 3) := by decide +kernel
theorem dX1_leastMargin_33 : decode cX1_leastMargin 33 = .ok (.istore_n 2, 1) := by decide +kernel
theorem dX1_leastMargin_34 : decode cX1_leastMargin 34 = .ok (.iinc 3 1, 3) := by decide +kernel
theorem dX1_leastMargin_37 : decode cX1_leastMargin 37 = .ok (.goto (-31), 3) := by decide +kernel
theorem dX1_leastMargin_40 : decode cX1_leastMargin 40 = .ok (.iload_n 2, 1) := by decide +kernel
theorem dX1_leastMargin_41 : decode cX1_leastMargin 41 = .ok (.ireturn, 1) := by decide +kernel
theorem dX1_violatedIn_0 : decode cX1_violatedIn 0 = .ok (.iconst 0, 1) := by decide +kernel
theorem dX1_violatedIn_1 : decode cX1_violatedIn 1 = .ok (.istore_n 2, 1) := by decide +kernel
theorem dX1_violatedIn_2 : decode cX1_violatedIn 2 = .ok (.iconst 0, 1) := by decide +kernel
theorem dX1_violatedIn_3 : decode cX1_violatedIn 3 = .ok (.istore_n 3, 1) := by decide +kernel
theorem dX1_violatedIn_4 : decode cX1_violatedIn 4 = .ok (.iload_n 3, 1) := by decide +kernel
theorem dX1_violatedIn_5 : decode cX1_violatedIn 5 = .ok (.aload_n 0, 1) := by decide +kernel
theorem dX1_violatedIn_6 : decode cX1_violatedIn 6 = .ok (.getfield 24, 3) := by decide +kernel
theorem dX1_violatedIn_9 : decode cX1_violatedIn 9 = .ok (.if_icmp .ge 29, 3) := by decide +kernel
theorem dX1_violatedIn_12 : decode cX1_violatedIn 12 = .ok (.aload_n 0, 1) := by decide +kernel
theorem dX1_violatedIn_13 : decode cX1_violatedIn 13 = .ok (.iload_n 3, 1) := by decide +kernel
theorem dX1_violatedIn_14 : decode cX1_violatedIn 14 = .ok (.iload_n 1, 1) := by decide +kernel
theorem dX1_violatedIn_15 : decode cX1_violatedIn 15 = .ok (.invokevirtual 56, 3) := by decide +kernel
theorem dX1_violatedIn_18 : decode cX1_violatedIn 18 = .ok (.aload_n 0, 1) := by decide +kernel
theorem dX1_violatedIn_19 : decode cX1_violatedIn 19 = .ok (.getfield 37, 3) := by decide +kernel
theorem dX1_violatedIn_22 : decode cX1_violatedIn 22 = .ok (.iload_n 1, 1) := by decide +kernel
theorem dX1_violatedIn_23 : decode cX1_violatedIn 23 = .ok (.aaload, 1) := by decide +kernel
theorem dX1_violatedIn_24 : decode cX1_violatedIn 24 = .ok (.iload_n 3, 1) := by decide +kernel
theorem dX1_violatedIn_25 : decode cX1_violatedIn 25 = .ok (.iaload, 1) := by decide +kernel
theorem dX1_violatedIn_26 : decode cX1_violatedIn 26 = .ok (.if_icmp .ge 6, 3) := by decide +kernel
theorem dX1_violatedIn_29 : decode cX1_violatedIn 29 = .ok (.iinc 2 1, 3) := by decide +kernel
theorem dX1_violatedIn_32 : decode cX1_violatedIn 32 = .ok (.iinc 3 1, 3) := by decide +kernel
theorem dX1_violatedIn_35 : decode cX1_violatedIn 35 = .ok (.goto (-31), 3) := by decide +kernel
theorem dX1_violatedIn_38 : decode cX1_violatedIn 38 = .ok (.iload_n 2, 1) := by decide +kernel
theorem dX1_violatedIn_39 : decode cX1_violatedIn 39 = .ok (.ireturn, 1) := by decide +kernel
theorem dX1_violationPlace_0 : decode cX1_violationPlace 0 = .ok (.iconst 0, 1) := by decide +kernel
theorem dX1_violationPlace_1 : decode cX1_violationPlace 1 = .ok (.istore_n 2, 1) := by decide +kernel
theorem dX1_violationPlace_2 : decode cX1_violationPlace 2 = .ok (.iconst 0, 1) := by decide +kernel
theorem dX1_violationPlace_3 : decode cX1_violationPlace 3 = .ok (.istore_n 3, 1) := by decide +kernel
theorem dX1_violationPlace_4 : decode cX1_violationPlace 4 = .ok (.iload_n 3, 1) := by decide +kernel
theorem dX1_violationPlace_5 : decode cX1_violationPlace 5 = .ok (.iconst 2, 1) := by decide +kernel
theorem dX1_violationPlace_6 : decode cX1_violationPlace 6 = .ok (.aload_n 0, 1) := by decide +kernel
theorem dX1_violationPlace_7 : decode cX1_violationPlace 7 = .ok (.getfield 24, 3) := by decide +kernel
theorem dX1_violationPlace_10 : decode cX1_violationPlace 10 = .ok (.imul, 1) := by decide +kernel
theorem dX1_violationPlace_11 : decode cX1_violationPlace 11 = .ok (.if_icmp .ge 32, 3) := by decide +kernel
theorem dX1_violationPlace_14 : decode cX1_violationPlace 14 = .ok (.aload_n 0, 1) := by decide +kernel
theorem dX1_violationPlace_15 : decode cX1_violationPlace 15 = .ok (.iload_n 3, 1) := by decide +kernel
theorem dX1_violationPlace_16 : decode cX1_violationPlace 16 = .ok (.iconst 2, 1) := by decide +kernel
theorem dX1_violationPlace_17 : decode cX1_violationPlace 17 = .ok (.idiv, 1) := by decide +kernel
theorem dX1_violationPlace_18 : decode cX1_violationPlace 18 = .ok (.iload_n 3, 1) := by decide +kernel
theorem dX1_violationPlace_19 : decode cX1_violationPlace 19 = .ok (.iconst 2, 1) := by decide +kernel
theorem dX1_violationPlace_20 : decode cX1_violationPlace 20 = .ok (.irem, 1) := by decide +kernel
theorem dX1_violationPlace_21 : decode cX1_violationPlace 21 = .ok (.invokevirtual 64, 3) := by decide +kernel
theorem dX1_violationPlace_24 : decode cX1_violationPlace 24 = .ok (.ifCond .ne 13, 3) := by decide +kernel
theorem dX1_violationPlace_27 : decode cX1_violationPlace 27 = .ok (.iload_n 2, 1) := by decide +kernel
theorem dX1_violationPlace_28 : decode cX1_violationPlace 28 = .ok (.iload_n 1, 1) := by decide +kernel
theorem dX1_violationPlace_29 : decode cX1_violationPlace 29 = .ok (.if_icmp .ne 5, 3) := by decide +kernel
theorem dX1_violationPlace_32 : decode cX1_violationPlace 32 = .ok (.iload_n 3, 1) := by decide +kernel
theorem dX1_violationPlace_33 : decode cX1_violationPlace 33 = .ok (.ireturn, 1) := by decide +kernel
theorem dX1_violationPlace_34 : decode cX1_violationPlace 34 = .ok (.iinc 2 1, 3) := by decide +kernel
theorem dX1_violationPlace_37 : decode cX1_violationPlace 37 = .ok (.iinc 3 1, 3) := by decide +kernel
theorem dX1_violationPlace_40 : decode cX1_violationPlace 40 = .ok (.goto (-36), 3) := by decide +kernel
theorem dX1_violationPlace_43 : decode cX1_violationPlace 43 = .ok (.iconst (-1), 1) := by decide +kernel
theorem dX1_violationPlace_44 : decode cX1_violationPlace 44 = .ok (.ireturn, 1) := by decide +kernel
theorem dX1_bestChoice_0 : decode cX1_bestChoice 0 = .ok (.aload_n 0, 1) := by decide +kernel
theorem dX1_bestChoice_1 : decode cX1_bestChoice 1 = .ok (.iload_n 2, 1) := by decide +kernel
theorem dX1_bestChoice_2 : decode cX1_bestChoice 2 = .ok (.invokevirtual 68, 3) := by decide +kernel
theorem dX1_bestChoice_5 : decode cX1_bestChoice 5 = .ok (.istore_n 3, 1) := by decide +kernel
theorem dX1_bestChoice_6 : decode cX1_bestChoice 6 = .ok (.iconst (-1), 1) := by decide +kernel
theorem dX1_bestChoice_7 : decode cX1_bestChoice 7 = .ok (.istore 4, 2) := by decide +kernel
theorem dX1_bestChoice_9 : decode cX1_bestChoice 9 = .ok (.iconst 0, 1) := by decide +kernel
theorem dX1_bestChoice_10 : decode cX1_bestChoice 10 = .ok (.istore 5, 2) := by decide +kernel
theorem dX1_bestChoice_12 : decode cX1_bestChoice 12 = .ok (.iload 5, 2) := by decide +kernel
theorem dX1_bestChoice_14 : decode cX1_bestChoice 14 = .ok (.sipush 1020, 3) := by decide +kernel
theorem dX1_bestChoice_17 : decode cX1_bestChoice 17 = .ok (.if_icmp .ge 96, 3) := by decide +kernel
theorem dX1_bestChoice_20 : decode cX1_bestChoice 20 = .ok (.iload 4, 2) := by decide +kernel
theorem dX1_bestChoice_22 : decode cX1_bestChoice 22 = .ok (.ifCond .ge 91, 3) := by decide +kernel
theorem dX1_bestChoice_25 : decode cX1_bestChoice 25 = .ok (.aload_n 0, 1) := by decide +kernel
theorem dX1_bestChoice_26 : decode cX1_bestChoice 26 = .ok (.iload_n 1, 1) := by decide +kernel
theorem dX1_bestChoice_27 : decode cX1_bestChoice 27 = .ok (.iload 5, 2) := by decide +kernel
theorem dX1_bestChoice_29 : decode cX1_bestChoice 29 = .ok (.invokevirtual 72, 3) := by decide +kernel
theorem dX1_bestChoice_32 : decode cX1_bestChoice 32 = .ok (.istore 6, 2) := by decide +kernel
theorem dX1_bestChoice_34 : decode cX1_bestChoice 34 = .ok (.aload_n 0, 1) := by decide +kernel
theorem dX1_bestChoice_35 : decode cX1_bestChoice 35 = .ok (.getfield 20, 3) := by decide +kernel
theorem dX1_bestChoice_38 : decode cX1_bestChoice 38 = .ok (.iload 6, 2) := by decide +kernel
theorem dX1_bestChoice_40 : decode cX1_bestChoice 40 = .ok (.baload, 1) := by decide +kernel
theorem dX1_bestChoice_41 : decode cX1_bestChoice 41 = .ok (.ifCond .ne 66, 3) := by decide +kernel
theorem dX1_bestChoice_44 : decode cX1_bestChoice 44 = .ok (.aload_n 0, 1) := by decide +kernel
theorem dX1_bestChoice_45 : decode cX1_bestChoice 45 = .ok (.getfield 17, 3) := by decide +kernel
theorem dX1_bestChoice_48 : decode cX1_bestChoice 48 = .ok (.iload_n 2, 1) := by decide +kernel
theorem dX1_bestChoice_49 : decode cX1_bestChoice 49 = .ok (.aaload, 1) := by decide +kernel
theorem dX1_bestChoice_50 : decode cX1_bestChoice 50 = .ok (.iload 6, 2) := by decide +kernel
theorem dX1_bestChoice_52 : decode cX1_bestChoice 52 = .ok (.iaload, 1) := by decide +kernel
theorem dX1_bestChoice_53 : decode cX1_bestChoice 53 = .ok (.istore 7, 2) := by decide +kernel
theorem dX1_bestChoice_55 : decode cX1_bestChoice 55 = .ok (.aload_n 0, 1) := by decide +kernel
theorem dX1_bestChoice_56 : decode cX1_bestChoice 56 = .ok (.getfield 17, 3) := by decide +kernel
theorem dX1_bestChoice_59 : decode cX1_bestChoice 59 = .ok (.iload_n 2, 1) := by decide +kernel
theorem dX1_bestChoice_60 : decode cX1_bestChoice 60 = .ok (.aaload, 1) := by decide +kernel
theorem dX1_bestChoice_61 : decode cX1_bestChoice 61 = .ok (.iload 6, 2) := by decide +kernel
theorem dX1_bestChoice_63 : decode cX1_bestChoice 63 = .ok (.iload 7, 2) := by decide +kernel
theorem dX1_bestChoice_65 : decode cX1_bestChoice 65 = .ok (.iload 5, 2) := by decide +kernel
theorem dX1_bestChoice_67 : decode cX1_bestChoice 67 = .ok (.invokestatic 75, 3) := by decide +kernel
theorem dX1_bestChoice_70 : decode cX1_bestChoice 70 = .ok (.invokestatic 78, 3) := by decide +kernel
theorem dX1_bestChoice_73 : decode cX1_bestChoice 73 = .ok (.iastore, 1) := by decide +kernel
theorem dX1_bestChoice_74 : decode cX1_bestChoice 74 = .ok (.aload_n 0, 1) := by decide +kernel
theorem dX1_bestChoice_75 : decode cX1_bestChoice 75 = .ok (.iload_n 1, 1) := by decide +kernel
theorem dX1_bestChoice_76 : decode cX1_bestChoice 76 = .ok (.iload_n 2, 1) := by decide +kernel
theorem dX1_bestChoice_77 : decode cX1_bestChoice 77 = .ok (.invokevirtual 64, 3) := by decide +kernel
theorem dX1_bestChoice_80 : decode cX1_bestChoice 80 = .ok (.ifCond .eq 16, 3) := by decide +kernel
theorem dX1_bestChoice_83 : decode cX1_bestChoice 83 = .ok (.aload_n 0, 1) := by decide +kernel
theorem dX1_bestChoice_84 : decode cX1_bestChoice 84 = .ok (.iload_n 2, 1) := by decide +kernel
theorem dX1_bestChoice_85 : decode cX1_bestChoice 85 = .ok (.invokevirtual 68, 3) := by decide +kernel
theorem dX1_bestChoice_88 : decode cX1_bestChoice 88 = .ok (.iload_n 3, 1) := by decide +kernel
theorem dX1_bestChoice_89 : decode cX1_bestChoice 89 = .ok (.if_icmp .ge 7, 3) := by decide +kernel
theorem dX1_bestChoice_92 : decode cX1_bestChoice 92 = .ok (.iload 5, 2) := by decide +kernel
theorem dX1_bestChoice_94 : decode cX1_bestChoice 94 = .ok (.istore 4, 2) := by decide +kernel
theorem dX1_bestChoice_96 : decode cX1_bestChoice 96 = .ok (.aload_n 0, 1) := by decide +kernel
theorem dX1_bestChoice_97 : decode cX1_bestChoice 97 = .ok (.getfield 17, 3) := by decide +kernel
theorem dX1_bestChoice_100 : decode cX1_bestChoice 100 = .ok (.iload_n 2, 1) := by decide +kernel
theorem dX1_bestChoice_101 : decode cX1_bestChoice 101 = .ok (.aaload, 1) := by decide +kernel
theorem dX1_bestChoice_102 : decode cX1_bestChoice 102 = .ok (.iload 6, 2) := by decide +kernel
theorem dX1_bestChoice_104 : decode cX1_bestChoice 104 = .ok (.iload 7, 2) := by decide +kernel
theorem dX1_bestChoice_106 : decode cX1_bestChoice 106 = .ok (.iastore, 1) := by decide +kernel
theorem dX1_bestChoice_107 : decode cX1_bestChoice 107 = .ok (.iinc 5 1, 3) := by decide +kernel
theorem dX1_bestChoice_110 : decode cX1_bestChoice 110 = .ok (.goto (-98), 3) := by decide +kernel
theorem dX1_bestChoice_113 : decode cX1_bestChoice 113 = .ok (.iload 4, 2) := by decide +kernel
theorem dX1_bestChoice_115 : decode cX1_bestChoice 115 = .ok (.ireturn, 1) := by decide +kernel
theorem dX1_choiceAmount_0 : decode cX1_choiceAmount 0 = .ok (.iload_n 0, 1) := by decide +kernel
theorem dX1_choiceAmount_1 : decode cX1_choiceAmount 1 = .ok (.iconst 4, 1) := by decide +kernel
theorem dX1_choiceAmount_2 : decode cX1_choiceAmount 2 = .ok (.idiv, 1) := by decide +kernel
theorem dX1_choiceAmount_3 : decode cX1_choiceAmount 3 = .ok (.iconst 1, 1) := by decide +kernel
theorem dX1_choiceAmount_4 : decode cX1_choiceAmount 4 = .ok (.iadd, 1) := by decide +kernel
theorem dX1_choiceAmount_5 : decode cX1_choiceAmount 5 = .ok (.istore_n 1, 1) := by decide +kernel
theorem dX1_choiceAmount_6 : decode cX1_choiceAmount 6 = .ok (.iload_n 0, 1) := by decide +kernel
theorem dX1_choiceAmount_7 : decode cX1_choiceAmount 7 = .ok (.iconst 2, 1) := by decide +kernel
theorem dX1_choiceAmount_8 : decode cX1_choiceAmount 8 = .ok (.idiv, 1) := by decide +kernel
theorem dX1_choiceAmount_9 : decode cX1_choiceAmount 9 = .ok (.iconst 2, 1) := by decide +kernel
theorem dX1_choiceAmount_10 : decode cX1_choiceAmount 10 = .ok (.irem, 1) := by decide +kernel
theorem dX1_choiceAmount_11 : decode cX1_choiceAmount 11 = .ok (.ifCond .ne 7, 3) := by decide +kernel
theorem dX1_choiceAmount_14 : decode cX1_choiceAmount 14 = .ok (.iload_n 1, 1) := by decide +kernel
theorem dX1_choiceAmount_15 : decode cX1_choiceAmount 15 = .ok (.goto 5, 3) := by decide +kernel
theorem dX1_choiceAmount_18 : decode cX1_choiceAmount 18 = .ok (.iload_n 1, 1) := by decide +kernel
theorem dX1_choiceAmount_19 : decode cX1_choiceAmount 19 = .ok (.ineg, 1) := by decide +kernel
theorem dX1_choiceAmount_20 : decode cX1_choiceAmount 20 = .ok (.ireturn, 1) := by decide +kernel
theorem dX1_choiceRole_0 : decode cX1_choiceRole 0 = .ok (.iload_n 2, 1) := by decide +kernel
theorem dX1_choiceRole_1 : decode cX1_choiceRole 1 = .ok (.iconst 2, 1) := by decide +kernel
theorem dX1_choiceRole_2 : decode cX1_choiceRole 2 = .ok (.irem, 1) := by decide +kernel
theorem dX1_choiceRole_3 : decode cX1_choiceRole 3 = .ok (.ifCond .ne 12, 3) := by decide +kernel
theorem dX1_choiceRole_6 : decode cX1_choiceRole 6 = .ok (.aload_n 0, 1) := by decide +kernel
theorem dX1_choiceRole_7 : decode cX1_choiceRole 7 = .ok (.getfield 27, 3) := by decide +kernel
theorem dX1_choiceRole_10 : decode cX1_choiceRole 10 = .ok (.iload_n 1, 1) := by decide +kernel
theorem dX1_choiceRole_11 : decode cX1_choiceRole 11 = .ok (.iaload, 1) := by decide +kernel
theorem dX1_choiceRole_12 : decode cX1_choiceRole 12 = .ok (.goto 9, 3) := by decide +kernel
theorem dX1_choiceRole_15 : decode cX1_choiceRole 15 = .ok (.aload_n 0, 1) := by decide +kernel
theorem dX1_choiceRole_16 : decode cX1_choiceRole 16 = .ok (.getfield 31, 3) := by decide +kernel
theorem dX1_choiceRole_19 : decode cX1_choiceRole 19 = .ok (.iload_n 1, 1) := by decide +kernel
theorem dX1_choiceRole_20 : decode cX1_choiceRole 20 = .ok (.iaload, 1) := by decide +kernel
theorem dX1_choiceRole_21 : decode cX1_choiceRole 21 = .ok (.ireturn, 1) := by decide +kernel
theorem dX1_mendFirst_0 : decode cX1_mendFirst 0 = .ok (.iconst 0, 1) := by decide +kernel
theorem dX1_mendFirst_1 : decode cX1_mendFirst 1 = .ok (.istore_n 1, 1) := by decide +kernel
theorem dX1_mendFirst_2 : decode cX1_mendFirst 2 = .ok (.iload_n 1, 1) := by decide +kernel
theorem dX1_mendFirst_3 : decode cX1_mendFirst 3 = .ok (.iconst 2, 1) := by decide +kernel
theorem dX1_mendFirst_4 : decode cX1_mendFirst 4 = .ok (.aload_n 0, 1) := by decide +kernel
theorem dX1_mendFirst_5 : decode cX1_mendFirst 5 = .ok (.getfield 24, 3) := by decide +kernel
theorem dX1_mendFirst_8 : decode cX1_mendFirst 8 = .ok (.imul, 1) := by decide +kernel
theorem dX1_mendFirst_9 : decode cX1_mendFirst 9 = .ok (.if_icmp .ge 80, 3) := by decide +kernel
theorem dX1_mendFirst_12 : decode cX1_mendFirst 12 = .ok (.iload_n 1, 1) := by decide +kernel
theorem dX1_mendFirst_13 : decode cX1_mendFirst 13 = .ok (.iconst 2, 1) := by decide +kernel
theorem dX1_mendFirst_14 : decode cX1_mendFirst 14 = .ok (.idiv, 1) := by decide +kernel
theorem dX1_mendFirst_15 : decode cX1_mendFirst 15 = .ok (.istore_n 2, 1) := by decide +kernel
theorem dX1_mendFirst_16 : decode cX1_mendFirst 16 = .ok (.iload_n 1, 1) := by decide +kernel
theorem dX1_mendFirst_17 : decode cX1_mendFirst 17 = .ok (.iconst 2, 1) := by decide +kernel
theorem dX1_mendFirst_18 : decode cX1_mendFirst 18 = .ok (.irem, 1) := by decide +kernel
theorem dX1_mendFirst_19 : decode cX1_mendFirst 19 = .ok (.istore_n 3, 1) := by decide +kernel
theorem dX1_mendFirst_20 : decode cX1_mendFirst 20 = .ok (.aload_n 0, 1) := by decide +kernel
theorem dX1_mendFirst_21 : decode cX1_mendFirst 21 = .ok (.iload_n 2, 1) := by decide +kernel
theorem dX1_mendFirst_22 : decode cX1_mendFirst 22 = .ok (.iload_n 3, 1) := by decide +kernel
theorem dX1_mendFirst_23 : decode cX1_mendFirst 23 = .ok (.invokevirtual 64, 3) := by decide +kernel
theorem dX1_mendFirst_26 : decode cX1_mendFirst 26 = .ok (.ifCond .eq 7, 3) := by decide +kernel
theorem dX1_mendFirst_29 : decode cX1_mendFirst 29 = .ok (.iconst (-1), 1) := by decide +kernel
theorem dX1_mendFirst_30 : decode cX1_mendFirst 30 = .ok (.goto 9, 3) := by decide +kernel
theorem dX1_mendFirst_33 : decode cX1_mendFirst 33 = .ok (.aload_n 0, 1) := by decide +kernel
theorem dX1_mendFirst_34 : decode cX1_mendFirst 34 = .ok (.iload_n 2, 1) := by decide +kernel
theorem dX1_mendFirst_35 : decode cX1_mendFirst 35 = .ok (.iload_n 3, 1) := by decide +kernel
theorem dX1_mendFirst_36 : decode cX1_mendFirst 36 = .ok (.invokevirtual 81, 3) := by decide +kernel
theorem dX1_mendFirst_39 : decode cX1_mendFirst 39 = .ok (.istore 4, 2) := by decide +kernel
theorem dX1_mendFirst_41 : decode cX1_mendFirst 41 = .ok (.iload 4, 2) := by decide +kernel
theorem dX1_mendFirst_43 : decode cX1_mendFirst 43 = .ok (.ifCond .lt 40, 3) := by decide +kernel
theorem dX1_mendFirst_46 : decode cX1_mendFirst 46 = .ok (.aload_n 0, 1) := by decide +kernel
theorem dX1_mendFirst_47 : decode cX1_mendFirst 47 = .ok (.iload_n 2, 1) := by decide +kernel
theorem dX1_mendFirst_48 : decode cX1_mendFirst 48 = .ok (.iload 4, 2) := by decide +kernel
theorem dX1_mendFirst_50 : decode cX1_mendFirst 50 = .ok (.invokevirtual 72, 3) := by decide +kernel
theorem dX1_mendFirst_53 : decode cX1_mendFirst 53 = .ok (.istore 5, 2) := by decide +kernel
theorem dX1_mendFirst_55 : decode cX1_mendFirst 55 = .ok (.aload_n 0, 1) := by decide +kernel
theorem dX1_mendFirst_56 : decode cX1_mendFirst 56 = .ok (.getfield 17, 3) := by decide +kernel
theorem dX1_mendFirst_59 : decode cX1_mendFirst 59 = .ok (.iload_n 3, 1) := by decide +kernel
theorem dX1_mendFirst_60 : decode cX1_mendFirst 60 = .ok (.aaload, 1) := by decide +kernel
theorem dX1_mendFirst_61 : decode cX1_mendFirst 61 = .ok (.iload 5, 2) := by decide +kernel
theorem dX1_mendFirst_63 : decode cX1_mendFirst 63 = .ok (.aload_n 0, 1) := by decide +kernel
theorem dX1_mendFirst_64 : decode cX1_mendFirst 64 = .ok (.getfield 17, 3) := by decide +kernel
theorem dX1_mendFirst_67 : decode cX1_mendFirst 67 = .ok (.iload_n 3, 1) := by decide +kernel
theorem dX1_mendFirst_68 : decode cX1_mendFirst 68 = .ok (.aaload, 1) := by decide +kernel
theorem dX1_mendFirst_69 : decode cX1_mendFirst 69 = .ok (.iload 5, 2) := by decide +kernel
theorem dX1_mendFirst_71 : decode cX1_mendFirst 71 = .ok (.iaload, 1) := by decide +kernel
theorem dX1_mendFirst_72 : decode cX1_mendFirst 72 = .ok (.iload 4, 2) := by decide +kernel
theorem dX1_mendFirst_74 : decode cX1_mendFirst 74 = .ok (.invokestatic 75, 3) := by decide +kernel
theorem dX1_mendFirst_77 : decode cX1_mendFirst 77 = .ok (.invokestatic 78, 3) := by decide +kernel
theorem dX1_mendFirst_80 : decode cX1_mendFirst 80 = .ok (.iastore, 1) := by decide +kernel
theorem dX1_mendFirst_81 : decode cX1_mendFirst 81 = .ok (.iconst 1, 1) := by decide +kernel
theorem dX1_mendFirst_82 : decode cX1_mendFirst 82 = .ok (.ireturn, 1) := by decide +kernel
theorem dX1_mendFirst_83 : decode cX1_mendFirst 83 = .ok (.iinc 1 1, 3) := by decide +kernel
theorem dX1_mendFirst_86 : decode cX1_mendFirst 86 = .ok (.goto (-84), 3) := by decide +kernel
theorem dX1_mendFirst_89 : decode cX1_mendFirst 89 = .ok (.iconst 0, 1) := by decide +kernel
theorem dX1_mendFirst_90 : decode cX1_mendFirst 90 = .ok (.ireturn, 1) := by decide +kernel
theorem dX2_init_0 : decode cX2_init 0 = .ok (.aload_n 0, 1) := by decide +kernel
theorem dX2_init_1 : decode cX2_init 1 = .ok (.invokespecial 3, 3) := by decide +kernel
theorem dX2_init_4 : decode cX2_init 4 = .ok (.aload_n 0, 1) := by decide +kernel
theorem dX2_init_5 : decode cX2_init 5 = .ok (.iconst (-1), 1) := by decide +kernel
theorem dX2_init_6 : decode cX2_init 6 = .ok (.putfield 11, 3) := by decide +kernel
theorem dX2_init_9 : decode cX2_init 9 = .ok (.aload_n 0, 1) := by decide +kernel
theorem dX2_init_10 : decode cX2_init 10 = .ok (.iconst 0, 1) := by decide +kernel
theorem dX2_init_11 : decode cX2_init 11 = .ok (.putfield 15, 3) := by decide +kernel
theorem dX2_init_14 : decode cX2_init 14 = .ok (.aload_n 0, 1) := by decide +kernel
theorem dX2_init_15 : decode cX2_init 15 = .ok (.iconst 0, 1) := by decide +kernel
theorem dX2_init_16 : decode cX2_init 16 = .ok (.putfield 18, 3) := by decide +kernel
theorem dX2_init_19 : decode cX2_init 19 = .ok (.aload_n 0, 1) := by decide +kernel
theorem dX2_init_20 : decode cX2_init 20 = .ok (.aload_n 1, 1) := by decide +kernel
theorem dX2_init_21 : decode cX2_init 21 = .ok (.putfield 21, 3) := by decide +kernel
theorem dX2_init_24 : decode cX2_init 24 = .ok (.return_, 1) := by decide +kernel
theorem dX2_forget_0 : decode cX2_forget 0 = .ok (.aload_n 0, 1) := by decide +kernel
theorem dX2_forget_1 : decode cX2_forget 1 = .ok (.iconst (-1), 1) := by decide +kernel
theorem dX2_forget_2 : decode cX2_forget 2 = .ok (.putfield 11, 3) := by decide +kernel
theorem dX2_forget_5 : decode cX2_forget 5 = .ok (.return_, 1) := by decide +kernel
theorem dX2_isThere_0 : decode cX2_isThere 0 = .ok (.aload_n 0, 1) := by decide +kernel
theorem dX2_isThere_1 : decode cX2_isThere 1 = .ok (.getfield 11, 3) := by decide +kernel
theorem dX2_isThere_4 : decode cX2_isThere 4 = .ok (.iconst (-1), 1) := by decide +kernel
theorem dX2_isThere_5 : decode cX2_isThere 5 = .ok (.if_icmp .eq 7, 3) := by decide +kernel
theorem dX2_isThere_8 : decode cX2_isThere 8 = .ok (.iconst 1, 1) := by decide +kernel
theorem dX2_isThere_9 : decode cX2_isThere 9 = .ok (.goto 4, 3) := by decide +kernel
theorem dX2_isThere_12 : decode cX2_isThere 12 = .ok (.iconst 0, 1) := by decide +kernel
theorem dX2_isThere_13 : decode cX2_isThere 13 = .ok (.ireturn, 1) := by decide +kernel
theorem dX2_readSum_0 : decode cX2_readSum 0 = .ok (.aload_n 0, 1) := by decide +kernel
theorem dX2_readSum_1 : decode cX2_readSum 1 = .ok (.aload_n 0, 1) := by decide +kernel
theorem dX2_readSum_2 : decode cX2_readSum 2 = .ok (.getfield 21, 3) := by decide +kernel
theorem dX2_readSum_5 : decode cX2_readSum 5 = .ok (.invokevirtual 25, 3) := by decide +kernel
theorem dX2_readSum_8 : decode cX2_readSum 8 = .ok (.putfield 11, 3) := by decide +kernel
theorem dX2_readSum_11 : decode cX2_readSum 11 = .ok (.aload_n 0, 1) := by decide +kernel
theorem dX2_readSum_12 : decode cX2_readSum 12 = .ok (.getfield 21, 3) := by decide +kernel
theorem dX2_readSum_15 : decode cX2_readSum 15 = .ok (.invokevirtual 31, 3) := by decide +kernel
theorem dX2_readSum_18 : decode cX2_readSum 18 = .ok (.aload_n 0, 1) := by decide +kernel
theorem dX2_readSum_19 : decode cX2_readSum 19 = .ok (.iconst 0, 1) := by decide +kernel
theorem dX2_readSum_20 : decode cX2_readSum 20 = .ok (.invokevirtual 34, 3) := by decide +kernel
theorem dX2_readSum_23 : decode cX2_readSum 23 = .ok (.pop, 1) := by decide +kernel
theorem dX2_readSum_24 : decode cX2_readSum 24 = .ok (.return_, 1) := by decide +kernel
theorem dX2_textNeed_0 : decode cX2_textNeed 0 = .ok (.aload_n 0, 1) := by decide +kernel
theorem dX2_textNeed_1 : decode cX2_textNeed 1 = .ok (.getfield 11, 3) := by decide +kernel
theorem dX2_textNeed_4 : decode cX2_textNeed 4 = .ok (.iconst (-1), 1) := by decide +kernel
theorem dX2_textNeed_5 : decode cX2_textNeed 5 = .ok (.if_icmp .ne 7, 3) := by decide +kernel
theorem dX2_textNeed_8 : decode cX2_textNeed 8 = .ok (.sipush 450, 3) := by decide +kernel
theorem dX2_textNeed_11 : decode cX2_textNeed 11 = .ok (.ireturn, 1) := by decide +kernel
theorem dX2_textNeed_12 : decode cX2_textNeed 12 = .ok (.aload_n 0, 1) := by decide +kernel
theorem dX2_textNeed_13 : decode cX2_textNeed 13 = .ok (.iload_n 1, 1) := by decide +kernel
theorem dX2_textNeed_14 : decode cX2_textNeed 14 = .ok (.putfield 15, 3) := by decide +kernel
theorem dX2_textNeed_17 : decode cX2_textNeed 17 = .ok (.aload_n 0, 1) := by decide +kernel
theorem dX2_textNeed_18 : decode cX2_textNeed 18 = .ok (.iload_n 2, 1) := by decide +kernel
theorem dX2_textNeed_19 : decode cX2_textNeed 19 = .ok (.putfield 18, 3) := by decide +kernel
theorem dX2_textNeed_22 : decode cX2_textNeed 22 = .ok (.aload_n 0, 1) := by decide +kernel
theorem dX2_textNeed_23 : decode cX2_textNeed 23 = .ok (.getfield 21, 3) := by decide +kernel
theorem dX2_textNeed_26 : decode cX2_textNeed 26 = .ok (.aload_n 0, 1) := by decide +kernel
theorem dX2_textNeed_27 : decode cX2_textNeed 27 = .ok (.getfield 11, 3) := by decide +kernel
theorem dX2_textNeed_30 : decode cX2_textNeed 30 = .ok (.invokevirtual 38, 3) := by decide +kernel
theorem dX2_textNeed_33 : decode cX2_textNeed 33 = .ok (.aload_n 0, 1) := by decide +kernel
theorem dX2_textNeed_34 : decode cX2_textNeed 34 = .ok (.iconst 0, 1) := by decide +kernel
theorem dX2_textNeed_35 : decode cX2_textNeed 35 = .ok (.invokevirtual 34, 3) := by decide +kernel
theorem dX2_textNeed_38 : decode cX2_textNeed 38 = .ok (.bipush 100, 2) := by decide +kernel
theorem dX2_textNeed_40 : decode cX2_textNeed 40 = .ok (.sipush 2100, 3) := by decide +kernel
theorem dX2_textNeed_43 : decode cX2_textNeed 43 = .ok (.invokestatic 42, 3) := by decide +kernel
theorem dX2_textNeed_46 : decode cX2_textNeed 46 = .ok (.ireturn, 1) := by decide +kernel
theorem dX2_sum_0 : decode cX2_sum 0 = .ok (.aload_n 0, 1) := by decide +kernel
theorem dX2_sum_1 : decode cX2_sum 1 = .ok (.iload_n 1, 1) := by decide +kernel
theorem dX2_sum_2 : decode cX2_sum 2 = .ok (.invokevirtual 46, 3) := by decide +kernel
theorem dX2_sum_5 : decode cX2_sum 5 = .ok (.istore_n 2, 1) := by decide +kernel
theorem dX2_sum_6 : decode cX2_sum 6 = .ok (.iconst 0, 1) := by decide +kernel
theorem dX2_sum_7 : decode cX2_sum 7 = .ok (.istore_n 3, 1) := by decide +kernel
theorem dX2_sum_8 : decode cX2_sum 8 = .ok (.iload_n 3, 1) := by decide +kernel
theorem dX2_sum_9 : decode cX2_sum 9 = .ok (.sipush 700, 3) := by decide +kernel
theorem dX2_sum_12 : decode cX2_sum 12 = .ok (.if_icmp .ge 66, 3) := by decide +kernel
theorem dX2_sum_15 : decode cX2_sum 15 = .ok (.aload_n 0, 1) := by decide +kernel
theorem dX2_sum_16 : decode cX2_sum 16 = .ok (.getfield 21, 3) := by decide +kernel
theorem dX2_sum_19 : decode cX2_sum 19 = .ok (.bipush 43, 2) := by decide +kernel
theorem dX2_sum_21 : decode cX2_sum 21 = .ok (.invokevirtual 49, 3) := by decide +kernel
theorem dX2_sum_24 : decode cX2_sum 24 = .ok (.ifCond .eq 21, 3) := by decide +kernel
theorem dX2_sum_27 : decode cX2_sum 27 = .ok (.iload_n 2, 1) := by decide +kernel
theorem dX2_sum_28 : decode cX2_sum 28 = .ok (.aload_n 0, 1) := by decide +kernel
theorem dX2_sum_29 : decode cX2_sum 29 = .ok (.iload_n 1, 1) := by decide +kernel
theorem dX2_sum_30 : decode cX2_sum 30 = .ok (.invokevirtual 46, 3) := by decide +kernel
theorem dX2_sum_33 : decode cX2_sum 33 = .ok (.iadd, 1) := by decide +kernel
theorem dX2_sum_34 : decode cX2_sum 34 = .ok (.ldc 53, 2) := by decide +kernel
theorem dX2_sum_36 : decode cX2_sum 36 = .ok (.ldc 54, 2) := by decide +kernel
theorem dX2_sum_38 : decode cX2_sum 38 = .ok (.invokestatic 42, 3) := by decide +kernel
theorem dX2_sum_41 : decode cX2_sum 41 = .ok (.istore_n 2, 1) := by decide +kernel
theorem dX2_sum_42 : decode cX2_sum 42 = .ok (.goto 30, 3) := by decide +kernel
theorem dX2_sum_45 : decode cX2_sum 45 = .ok (.aload_n 0, 1) := by decide +kernel
theorem dX2_sum_46 : decode cX2_sum 46 = .ok (.getfield 21, 3) := by decide +kernel
theorem dX2_sum_49 : decode cX2_sum 49 = .ok (.bipush 45, 2) := by decide +kernel
theorem dX2_sum_51 : decode cX2_sum 51 = .ok (.invokevirtual 49, 3) := by decide +kernel
theorem dX2_sum_54 : decode cX2_sum 54 = .ok (.ifCond .eq 24, 3) := by decide +kernel
theorem dX2_sum_57 : decode cX2_sum 57 = .ok (.iload_n 2, 1) := by decide +kernel
theorem dX2_sum_58 : decode cX2_sum 58 = .ok (.aload_n 0, 1) := by decide +kernel
theorem dX2_sum_59 : decode cX2_sum 59 = .ok (.iload_n 1, 1) := by decide +kernel
theorem dX2_sum_60 : decode cX2_sum 60 = .ok (.invokevirtual 46, 3) := by decide +kernel
theorem dX2_sum_63 : decode cX2_sum 63 = .ok (.isub, 1) := by decide +kernel
theorem dX2_sum_64 : decode cX2_sum 64 = .ok (.ldc 53, 2) := by decide +kernel
theorem dX2_sum_66 : decode cX2_sum 66 = .ok (.ldc 54, 2) := by decide +kernel
theorem dX2_sum_68 : decode cX2_sum 68 = .ok (.invokestatic 42, 3) := by decide +kernel
theorem dX2_sum_71 : decode cX2_sum 71 = .ok (.istore_n 2, 1) := by decide +kernel
theorem dX2_sum_72 : decode cX2_sum 72 = .ok (.iinc 3 1, 3) := by decide +kernel
theorem dX2_sum_75 : decode cX2_sum 75 = .ok (.goto (-67), 3) := by decide +kernel
theorem dX2_sum_78 : decode cX2_sum 78 = .ok (.iload_n 2, 1) := by decide +kernel
theorem dX2_sum_79 : decode cX2_sum 79 = .ok (.ireturn, 1) := by decide +kernel
theorem dX2_term_0 : decode cX2_term 0 = .ok (.aload_n 0, 1) := by decide +kernel
theorem dX2_term_1 : decode cX2_term 1 = .ok (.iload_n 1, 1) := by decide +kernel
theorem dX2_term_2 : decode cX2_term 2 = .ok (.invokevirtual 55, 3) := by decide +kernel
theorem dX2_term_5 : decode cX2_term 5 = .ok (.istore_n 2, 1) := by decide +kernel
theorem dX2_term_6 : decode cX2_term 6 = .ok (.iconst 0, 1) := by decide +kernel
theorem dX2_term_7 : decode cX2_term 7 = .ok (.istore_n 3, 1) := by decide +kernel
theorem dX2_term_8 : decode cX2_term 8 = .ok (.iload_n 3, 1) := by decide +kernel
theorem dX2_term_9 : decode cX2_term 9 = .ok (.sipush 700, 3) := by decide +kernel
theorem dX2_term_12 : decode cX2_term 12 = .ok (.if_icmp .ge 56, 3) := by decide +kernel
theorem dX2_term_15 : decode cX2_term 15 = .ok (.aload_n 0, 1) := by decide +kernel
theorem dX2_term_16 : decode cX2_term 16 = .ok (.getfield 21, 3) := by decide +kernel
theorem dX2_term_19 : decode cX2_term 19 = .ok (.bipush 42, 2) := by decide +kernel
theorem dX2_term_21 : decode cX2_term 21 = .ok (.invokevirtual 49, 3) := by decide +kernel
theorem dX2_term_24 : decode cX2_term 24 = .ok (.ifCond .eq 16, 3) := by decide +kernel
theorem dX2_term_27 : decode cX2_term 27 = .ok (.iload_n 2, 1) := by decide +kernel
theorem dX2_term_28 : decode cX2_term 28 = .ok (.aload_n 0, 1) := by decide +kernel
theorem dX2_term_29 : decode cX2_term 29 = .ok (.iload_n 1, 1) := by decide +kernel
theorem dX2_term_30 : decode cX2_term 30 = .ok (.invokevirtual 55, 3) := by decide +kernel
theorem dX2_term_33 : decode cX2_term 33 = .ok (.invokestatic 58, 3) := by decide +kernel
theorem dX2_term_36 : decode cX2_term 36 = .ok (.istore_n 2, 1) := by decide +kernel
theorem dX2_term_37 : decode cX2_term 37 = .ok (.goto 25, 3) := by decide +kernel
theorem dX2_term_40 : decode cX2_term 40 = .ok (.aload_n 0, 1) := by decide +kernel
theorem dX2_term_41 : decode cX2_term 41 = .ok (.getfield 21, 3) := by decide +kernel
theorem dX2_term_44 : decode cX2_term 44 = .ok (.bipush 47, 2) := by decide +kernel
theorem dX2_term_46 : decode cX2_term 46 = .ok (.invokevirtual 49, 3) := by decide +kernel
theorem dX2_term_49 : decode cX2_term 49 = .ok (.ifCond .eq 19, 3) := by decide +kernel
theorem dX2_term_52 : decode cX2_term 52 = .ok (.iload_n 2, 1) := by decide +kernel
theorem dX2_term_53 : decode cX2_term 53 = .ok (.aload_n 0, 1) := by decide +kernel
theorem dX2_term_54 : decode cX2_term 54 = .ok (.iload_n 1, 1) := by decide +kernel
theorem dX2_term_55 : decode cX2_term 55 = .ok (.invokevirtual 55, 3) := by decide +kernel
theorem dX2_term_58 : decode cX2_term 58 = .ok (.invokestatic 62, 3) := by decide +kernel
theorem dX2_term_61 : decode cX2_term 61 = .ok (.istore_n 2, 1) := by decide +kernel
theorem dX2_term_62 : decode cX2_term 62 = .ok (.iinc 3 1, 3) := by decide +kernel
theorem dX2_term_65 : decode cX2_term 65 = .ok (.goto (-57), 3) := by decide +kernel
theorem dX2_term_68 : decode cX2_term 68 = .ok (.iload_n 2, 1) := by decide +kernel
theorem dX2_term_69 : decode cX2_term 69 = .ok (.ireturn, 1) := by decide +kernel
theorem dX2_factor_0 : decode cX2_factor 0 = .ok (.aload_n 0, 1) := by decide +kernel
theorem dX2_factor_1 : decode cX2_factor 1 = .ok (.getfield 21, 3) := by decide +kernel
theorem dX2_factor_4 : decode cX2_factor 4 = .ok (.invokevirtual 65, 3) := by decide +kernel
theorem dX2_factor_7 : decode cX2_factor 7 = .ok (.ifCond .eq 15, 3) := by decide +kernel
theorem dX2_factor_10 : decode cX2_factor 10 = .ok (.aload_n 0, 1) := by decide +kernel
theorem dX2_factor_11 : decode cX2_factor 11 = .ok (.getfield 21, 3) := by decide +kernel
theorem dX2_factor_14 : decode cX2_factor 14 = .ok (.iconst 0, 1) := by decide +kernel
theorem dX2_factor_15 : decode cX2_factor 15 = .ok (.sipush 9999, 3) := by decide +kernel
theorem dX2_factor_18 : decode cX2_factor 18 = .ok (.invokevirtual 69, 3) := by decide +kernel
theorem dX2_factor_21 : decode cX2_factor 21 = .ok (.ireturn, 1) := by decide +kernel
theorem dX2_factor_22 : decode cX2_factor 22 = .ok (.aload_n 0, 1) := by decide +kernel
theorem dX2_factor_23 : decode cX2_factor 23 = .ok (.getfield 21, 3) := by decide +kernel
theorem dX2_factor_26 : decode cX2_factor 26 = .ok (.ldc 72, 2) := by decide +kernel
theorem dX2_factor_28 : decode cX2_factor 28 = .ok (.invokevirtual 73, 3) := by decide +kernel
theorem dX2_factor_31 : decode cX2_factor 31 = .ok (.ifCond .eq 8, 3) := by decide +kernel
theorem dX2_factor_34 : decode cX2_factor 34 = .ok (.aload_n 0, 1) := by decide +kernel
theorem dX2_factor_35 : decode cX2_factor 35 = .ok (.getfield 15, 3) := by decide +kernel
theorem dX2_factor_38 : decode cX2_factor 38 = .ok (.ireturn, 1) := by decide +kernel
theorem dX2_factor_39 : decode cX2_factor 39 = .ok (.aload_n 0, 1) := by decide +kernel
theorem dX2_factor_40 : decode cX2_factor 40 = .ok (.getfield 21, 3) := by decide +kernel
theorem dX2_factor_43 : decode cX2_factor 43 = .ok (.ldc 77, 2) := by decide +kernel
theorem dX2_factor_45 : decode cX2_factor 45 = .ok (.invokevirtual 73, 3) := by decide +kernel
theorem dX2_factor_48 : decode cX2_factor 48 = .ok (.ifCond .eq 8, 3) := by decide +kernel
theorem dX2_factor_51 : decode cX2_factor 51 = .ok (.aload_n 0, 1) := by decide +kernel
theorem dX2_factor_52 : decode cX2_factor 52 = .ok (.getfield 18, 3) := by decide +kernel
theorem dX2_factor_55 : decode cX2_factor 55 = .ok (.ireturn, 1) := by decide +kernel
theorem dX2_factor_56 : decode cX2_factor 56 = .ok (.aload_n 0, 1) := by decide +kernel
theorem dX2_factor_57 : decode cX2_factor 57 = .ok (.getfield 21, 3) := by decide +kernel
theorem dX2_factor_60 : decode cX2_factor 60 = .ok (.bipush 40, 2) := by decide +kernel
theorem dX2_factor_62 : decode cX2_factor 62 = .ok (.invokevirtual 78, 3) := by decide +kernel
theorem dX2_factor_65 : decode cX2_factor 65 = .ok (.ifCond .ne 14, 3) := by decide +kernel
theorem dX2_factor_68 : decode cX2_factor 68 = .ok (.aload_n 0, 1) := by decide +kernel
theorem dX2_factor_69 : decode cX2_factor 69 = .ok (.getfield 21, 3) := by decide +kernel
theorem dX2_factor_72 : decode cX2_factor 72 = .ok (.bipush (-2), 2) := by decide +kernel
theorem dX2_factor_74 : decode cX2_factor 74 = .ok (.invokevirtual 81, 3) := by decide +kernel
theorem dX2_factor_77 : decode cX2_factor 77 = .ok (.iconst 0, 1) := by decide +kernel
theorem dX2_factor_78 : decode cX2_factor 78 = .ok (.ireturn, 1) := by decide +kernel
theorem dX2_factor_79 : decode cX2_factor 79 = .ok (.iload_n 1, 1) := by decide +kernel
theorem dX2_factor_80 : decode cX2_factor 80 = .ok (.iconst 4, 1) := by decide +kernel
theorem dX2_factor_81 : decode cX2_factor 81 = .ok (.if_icmp .lt 14, 3) := by decide +kernel
theorem dX2_factor_84 : decode cX2_factor 84 = .ok (.aload_n 0, 1) := by decide +kernel
theorem dX2_factor_85 : decode cX2_factor 85 = .ok (.getfield 21, 3) := by decide +kernel
theorem dX2_factor_88 : decode cX2_factor 88 = .ok (.bipush (-5), 2) := by decide +kernel
theorem dX2_factor_90 : decode cX2_factor 90 = .ok (.invokevirtual 81, 3) := by decide +kernel
theorem dX2_factor_93 : decode cX2_factor 93 = .ok (.iconst 0, 1) := by decide +kernel
theorem dX2_factor_94 : decode cX2_factor 94 = .ok (.ireturn, 1) := by decide +kernel
theorem dX2_factor_95 : decode cX2_factor 95 = .ok (.aload_n 0, 1) := by decide +kernel
theorem dX2_factor_96 : decode cX2_factor 96 = .ok (.getfield 21, 3) := by decide +kernel
theorem dX2_factor_99 : decode cX2_factor 99 = .ok (.invokevirtual 31, 3) := by decide +kernel
theorem dX2_factor_102 : decode cX2_factor 102 = .ok (.aload_n 0, 1) := by decide +kernel
theorem dX2_factor_103 : decode cX2_factor 103 = .ok (.iload_n 1, 1) := by decide +kernel
theorem dX2_factor_104 : decode cX2_factor 104 = .ok (.iconst 1, 1) := by decide +kernel
theorem dX2_factor_105 : decode cX2_factor 105 = .ok (.iadd, 1) := by decide +kernel
theorem dX2_factor_106 : decode cX2_factor 106 = .ok (.invokevirtual 34, 3) := by decide +kernel
theorem dX2_factor_109 : decode cX2_factor 109 = .ok (.istore_n 2, 1) := by decide +kernel
theorem dX2_factor_110 : decode cX2_factor 110 = .ok (.aload_n 0, 1) := by decide +kernel
theorem dX2_factor_111 : decode cX2_factor 111 = .ok (.getfield 21, 3) := by decide +kernel
theorem dX2_factor_114 : decode cX2_factor 114 = .ok (.bipush 41, 2) := by decide +kernel
theorem dX2_factor_116 : decode cX2_factor 116 = .ok (.invokevirtual 84, 3) := by decide +kernel
theorem dX2_factor_119 : decode cX2_factor 119 = .ok (.iload_n 2, 1) := by decide +kernel
theorem dX2_factor_120 : decode cX2_factor 120 = .ok (.ireturn, 1) := by decide +kernel
theorem dX2_product_0 : decode cX2_product 0 = .ok (.iload_n 0, 1) := by decide +kernel
theorem dX2_product_1 : decode cX2_product 1 = .ok (.i2l, 1) := by decide +kernel
theorem dX2_product_2 : decode cX2_product 2 = .ok (.iload_n 1, 1) := by decide +kernel
theorem dX2_product_3 : decode cX2_product 3 = .ok (.i2l, 1) := by decide +kernel
theorem dX2_product_4 : decode cX2_product 4 = .ok (.lmul, 1) := by decide +kernel
theorem dX2_product_5 : decode cX2_product 5 = .ok (.lstore_n 2, 1) := by decide +kernel
theorem dX2_product_6 : decode cX2_product 6 = .ok (.ldc2_w 88, 3) := by decide +kernel
theorem dX2_product_9 : decode cX2_product 9 = .ok (.ldc2_w 90, 3) := by decide +kernel
theorem dX2_product_12 : decode cX2_product 12 = .ok (.lload_n 2, 1) := by decide +kernel
theorem dX2_product_13 : decode cX2_product 13 = .ok (.invokestatic 92, 3) := by decide +kernel
theorem dX2_product_16 : decode cX2_product 16 = .ok (.invokestatic 98, 3) := by decide +kernel
theorem dX2_product_19 : decode cX2_product 19 = .ok (.l2i, 1) := by decide +kernel
theorem dX2_product_20 : decode cX2_product 20 = .ok (.ireturn, 1) := by decide +kernel
theorem dX2_quotient_0 : decode cX2_quotient 0 = .ok (.iload_n 1, 1) := by decide +kernel
theorem dX2_quotient_1 : decode cX2_quotient 1 = .ok (.ifCond .ne 7, 3) := by decide +kernel
theorem dX2_quotient_4 : decode cX2_quotient 4 = .ok (.iconst 0, 1) := by decide +kernel
theorem dX2_quotient_5 : decode cX2_quotient 5 = .ok (.goto 6, 3) := by decide +kernel
theorem dX2_quotient_8 : decode cX2_quotient 8 = .ok (.iload_n 0, 1) := by decide +kernel
theorem dX2_quotient_9 : decode cX2_quotient 9 = .ok (.iload_n 1, 1) := by decide +kernel
theorem dX2_quotient_10 : decode cX2_quotient 10 = .ok (.idiv, 1) := by decide +kernel
theorem dX2_quotient_11 : decode cX2_quotient 11 = .ok (.ireturn, 1) := by decide +kernel
theorem dX3_init_0 : decode cX3_init 0 = .ok (.aload_n 0, 1) := by decide +kernel
theorem dX3_init_1 : decode cX3_init 1 = .ok (.invokespecial 3, 3) := by decide +kernel
theorem dX3_init_4 : decode cX3_init 4 = .ok (.aload_n 0, 1) := by decide +kernel
theorem dX3_init_5 : decode cX3_init 5 = .ok (.bipush 8, 2) := by decide +kernel
theorem dX3_init_7 : decode cX3_init 7 = .ok (.anewarray 9, 3) := by decide +kernel
theorem dX3_init_10 : decode cX3_init 10 = .ok (.putfield 11, 3) := by decide +kernel
theorem dX3_init_13 : decode cX3_init 13 = .ok (.aload_n 0, 1) := by decide +kernel
theorem dX3_init_14 : decode cX3_init 14 = .ok (.iconst 0, 1) := by decide +kernel
theorem dX3_init_15 : decode cX3_init 15 = .ok (.putfield 17, 3) := by decide +kernel
theorem dX3_init_18 : decode cX3_init 18 = .ok (.aload_n 0, 1) := by decide +kernel
theorem dX3_init_19 : decode cX3_init 19 = .ok (.iconst 0, 1) := by decide +kernel
theorem dX3_init_20 : decode cX3_init 20 = .ok (.putfield 21, 3) := by decide +kernel
theorem dX3_init_23 : decode cX3_init 23 = .ok (.iconst 0, 1) := by decide +kernel
theorem dX3_init_24 : decode cX3_init 24 = .ok (.istore_n 1, 1) := by decide +kernel
theorem dX3_init_25 : decode cX3_init 25 = .ok (.iload_n 1, 1) := by decide +kernel
theorem dX3_init_26 : decode cX3_init 26 = .ok (.bipush 8, 2) := by decide +kernel
theorem dX3_init_28 : decode cX3_init 28 = .ok (.if_icmp .ge 22, 3) := by decide +kernel
theorem dX3_init_31 : decode cX3_init 31 = .ok (.aload_n 0, 1) := by decide +kernel
theorem dX3_init_32 : decode cX3_init 32 = .ok (.getfield 11, 3) := by decide +kernel
theorem dX3_init_35 : decode cX3_init 35 = .ok (.iload_n 1, 1) := by decide +kernel
theorem dX3_init_36 : decode cX3_init 36 = .ok (.new 9, 3) := by decide +kernel
theorem dX3_init_39 : decode cX3_init 39 = .ok (.dup, 1) := by decide +kernel
theorem dX3_init_40 : decode cX3_init 40 = .ok (.invokespecial 24, 3) := by decide +kernel
theorem dX3_init_43 : decode cX3_init 43 = .ok (.aastore, 1) := by decide +kernel
theorem dX3_init_44 : decode cX3_init 44 = .ok (.iinc 1 1, 3) := by decide +kernel
theorem dX3_init_47 : decode cX3_init 47 = .ok (.goto (-22), 3) := by decide +kernel
theorem dX3_init_50 : decode cX3_init 50 = .ok (.return_, 1) := by decide +kernel
theorem dX3_keep_0 : decode cX3_keep 0 = .ok (.aload_n 0, 1) := by decide +kernel
theorem dX3_keep_1 : decode cX3_keep 1 = .ok (.getfield 11, 3) := by decide +kernel
theorem dX3_keep_4 : decode cX3_keep 4 = .ok (.aload_n 0, 1) := by decide +kernel
theorem dX3_keep_5 : decode cX3_keep 5 = .ok (.getfield 17, 3) := by decide +kernel
theorem dX3_keep_8 : decode cX3_keep 8 = .ok (.aaload, 1) := by decide +kernel
theorem dX3_keep_9 : decode cX3_keep 9 = .ok (.aload_n 1, 1) := by decide +kernel
theorem dX3_keep_10 : decode cX3_keep 10 = .ok (.invokevirtual 25, 3) := by decide +kernel
theorem dX3_keep_13 : decode cX3_keep 13 = .ok (.aload_n 0, 1) := by decide +kernel
theorem dX3_keep_14 : decode cX3_keep 14 = .ok (.aload_n 0, 1) := by decide +kernel
theorem dX3_keep_15 : decode cX3_keep 15 = .ok (.getfield 17, 3) := by decide +kernel
theorem dX3_keep_18 : decode cX3_keep 18 = .ok (.iconst 1, 1) := by decide +kernel
theorem dX3_keep_19 : decode cX3_keep 19 = .ok (.iadd, 1) := by decide +kernel
theorem dX3_keep_20 : decode cX3_keep 20 = .ok (.bipush 8, 2) := by decide +kernel
theorem dX3_keep_22 : decode cX3_keep 22 = .ok (.irem, 1) := by decide +kernel
theorem dX3_keep_23 : decode cX3_keep 23 = .ok (.putfield 17, 3) := by decide +kernel
theorem dX3_keep_26 : decode cX3_keep 26 = .ok (.aload_n 0, 1) := by decide +kernel
theorem dX3_keep_27 : decode cX3_keep 27 = .ok (.aload_n 0, 1) := by decide +kernel
theorem dX3_keep_28 : decode cX3_keep 28 = .ok (.getfield 21, 3) := by decide +kernel
theorem dX3_keep_31 : decode cX3_keep 31 = .ok (.iconst 1, 1) := by decide +kernel
theorem dX3_keep_32 : decode cX3_keep 32 = .ok (.iadd, 1) := by decide +kernel
theorem dX3_keep_33 : decode cX3_keep 33 = .ok (.bipush 8, 2) := by decide +kernel
theorem dX3_keep_35 : decode cX3_keep 35 = .ok (.invokestatic 29, 3) := by decide +kernel
theorem dX3_keep_38 : decode cX3_keep 38 = .ok (.putfield 21, 3) := by decide +kernel
theorem dX3_keep_41 : decode cX3_keep 41 = .ok (.return_, 1) := by decide +kernel
theorem dX3_takeBack_0 : decode cX3_takeBack 0 = .ok (.aload_n 0, 1) := by decide +kernel
theorem dX3_takeBack_1 : decode cX3_takeBack 1 = .ok (.getfield 21, 3) := by decide +kernel
theorem dX3_takeBack_4 : decode cX3_takeBack 4 = .ok (.ifCond .le 42, 3) := by decide +kernel
theorem dX3_takeBack_7 : decode cX3_takeBack 7 = .ok (.aload_n 0, 1) := by decide +kernel
theorem dX3_takeBack_8 : decode cX3_takeBack 8 = .ok (.dup, 1) := by decide +kernel
theorem dX3_takeBack_9 : decode cX3_takeBack 9 = .ok (.getfield 21, 3) := by decide +kernel
theorem dX3_takeBack_12 : decode cX3_takeBack 12 = .ok (.iconst 1, 1) := by decide +kernel
theorem dX3_takeBack_13 : decode cX3_takeBack 13 = .ok (.isub, 1) := by decide +kernel
theorem dX3_takeBack_14 : decode cX3_takeBack 14 = .ok (.putfield 21, 3) := by decide +kernel
theorem dX3_takeBack_17 : decode cX3_takeBack 17 = .ok (.aload_n 0, 1) := by decide +kernel
theorem dX3_takeBack_18 : decode cX3_takeBack 18 = .ok (.aload_n 0, 1) := by decide +kernel
theorem dX3_takeBack_19 : decode cX3_takeBack 19 = .ok (.getfield 17, 3) := by decide +kernel
theorem dX3_takeBack_22 : decode cX3_takeBack 22 = .ok (.bipush 8, 2) := by decide +kernel
theorem dX3_takeBack_24 : decode cX3_takeBack 24 = .ok (.iadd, 1) := by decide +kernel
theorem dX3_takeBack_25 : decode cX3_takeBack 25 = .ok (.iconst 1, 1) := by decide +kernel
theorem dX3_takeBack_26 : decode cX3_takeBack 26 = .ok (.isub, 1) := by decide +kernel
theorem dX3_takeBack_27 : decode cX3_takeBack 27 = .ok (.bipush 8, 2) := by decide +kernel
theorem dX3_takeBack_29 : decode cX3_takeBack 29 = .ok (.irem, 1) := by decide +kernel
theorem dX3_takeBack_30 : decode cX3_takeBack 30 = .ok (.putfield 17, 3) := by decide +kernel
theorem dX3_takeBack_33 : decode cX3_takeBack 33 = .ok (.aload_n 1, 1) := by decide +kernel
theorem dX3_takeBack_34 : decode cX3_takeBack 34 = .ok (.aload_n 0, 1) := by decide +kernel
theorem dX3_takeBack_35 : decode cX3_takeBack 35 = .ok (.getfield 11, 3) := by decide +kernel
theorem dX3_takeBack_38 : decode cX3_takeBack 38 = .ok (.aload_n 0, 1) := by decide +kernel
theorem dX3_takeBack_39 : decode cX3_takeBack 39 = .ok (.getfield 17, 3) := by decide +kernel
theorem dX3_takeBack_42 : decode cX3_takeBack 42 = .ok (.aaload, 1) := by decide +kernel
theorem dX3_takeBack_43 : decode cX3_takeBack 43 = .ok (.invokevirtual 25, 3) := by decide +kernel
theorem dX3_takeBack_46 : decode cX3_takeBack 46 = .ok (.return_, 1) := by decide +kernel
theorem dX4_init_0 : decode cX4_init 0 = .ok (.aload_n 0, 1) := by decide +kernel
theorem dX4_init_1 : decode cX4_init 1 = .ok (.invokespecial 3, 3) := by decide +kernel
theorem dX4_init_4 : decode cX4_init 4 = .ok (.aload_n 0, 1) := by decide +kernel
theorem dX4_init_5 : decode cX4_init 5 = .ok (.bipush 12, 2) := by decide +kernel
theorem dX4_init_7 : decode cX4_init 7 = .ok (.newarray .int, 2) := by decide +kernel
theorem dX4_init_9 : decode cX4_init 9 = .ok (.putfield 9, 3) := by decide +kernel
theorem dX4_init_12 : decode cX4_init 12 = .ok (.aload_n 0, 1) := by decide +kernel
theorem dX4_init_13 : decode cX4_init 13 = .ok (.iconst (-1), 1) := by decide +kernel
theorem dX4_init_14 : decode cX4_init 14 = .ok (.putfield 15, 3) := by decide +kernel
theorem dX4_init_17 : decode cX4_init 17 = .ok (.aload_n 0, 1) := by decide +kernel
theorem dX4_init_18 : decode cX4_init 18 = .ok (.new 19, 3) := by decide +kernel
theorem dX4_init_21 : decode cX4_init 21 = .ok (.dup, 1) := by decide +kernel
theorem dX4_init_22 : decode cX4_init 22 = .ok (.aload_n 1, 1) := by decide +kernel
theorem dX4_init_23 : decode cX4_init 23 = .ok (.invokespecial 21, 3) := by decide +kernel
theorem dX4_init_26 : decode cX4_init 26 = .ok (.putfield 24, 3) := by decide +kernel
theorem dX4_init_29 : decode cX4_init 29 = .ok (.aload_n 0, 1) := by decide +kernel
theorem dX4_init_30 : decode cX4_init 30 = .ok (.new 28, 3) := by decide +kernel
theorem dX4_init_33 : decode cX4_init 33 = .ok (.dup, 1) := by decide +kernel
theorem dX4_init_34 : decode cX4_init 34 = .ok (.aload_n 0, 1) := by decide +kernel
theorem dX4_init_35 : decode cX4_init 35 = .ok (.getfield 24, 3) := by decide +kernel
theorem dX4_init_38 : decode cX4_init 38 = .ok (.invokespecial 30, 3) := by decide +kernel
theorem dX4_init_41 : decode cX4_init 41 = .ok (.putfield 33, 3) := by decide +kernel
theorem dX4_init_44 : decode cX4_init 44 = .ok (.return_, 1) := by decide +kernel
theorem dX4_errorStart_0 : decode cX4_errorStart 0 = .ok (.aload_n 0, 1) := by decide +kernel
theorem dX4_errorStart_1 : decode cX4_errorStart 1 = .ok (.getfield 15, 3) := by decide +kernel
theorem dX4_errorStart_4 : decode cX4_errorStart 4 = .ok (.ireturn, 1) := by decide +kernel
theorem dX4_read_0 : decode cX4_read 0 = .ok (.aload_n 2, 1) := by decide +kernel
theorem dX4_read_1 : decode cX4_read 1 = .ok (.invokevirtual 37, 3) := by decide +kernel
theorem dX4_read_4 : decode cX4_read 4 = .ok (.aload_n 0, 1) := by decide +kernel
theorem dX4_read_5 : decode cX4_read 5 = .ok (.getfield 33, 3) := by decide +kernel
theorem dX4_read_8 : decode cX4_read 8 = .ok (.invokevirtual 42, 3) := by decide +kernel
theorem dX4_read_11 : decode cX4_read 11 = .ok (.aload_n 0, 1) := by decide +kernel
theorem dX4_read_12 : decode cX4_read 12 = .ok (.getfield 24, 3) := by decide +kernel
theorem dX4_read_15 : decode cX4_read 15 = .ok (.iload_n 1, 1) := by decide +kernel
theorem dX4_read_16 : decode cX4_read 16 = .ok (.invokevirtual 45, 3) := by decide +kernel
theorem dX4_read_19 : decode cX4_read 19 = .ok (.aload_n 0, 1) := by decide +kernel
theorem dX4_read_20 : decode cX4_read 20 = .ok (.getfield 24, 3) := by decide +kernel
theorem dX4_read_23 : decode cX4_read 23 = .ok (.ldc 49, 2) := by decide +kernel
theorem dX4_read_25 : decode cX4_read 25 = .ok (.invokevirtual 51, 3) := by decide +kernel
theorem dX4_read_28 : decode cX4_read 28 = .ok (.aload_n 0, 1) := by decide +kernel
theorem dX4_read_29 : decode cX4_read 29 = .ok (.getfield 24, 3) := by decide +kernel
theorem dX4_read_32 : decode cX4_read 32 = .ok (.bipush 59, 2) := by decide +kernel
theorem dX4_read_34 : decode cX4_read 34 = .ok (.invokevirtual 55, 3) := by decide +kernel
theorem dX4_read_37 : decode cX4_read 37 = .ok (.iconst 0, 1) := by decide +kernel
theorem dX4_read_38 : decode cX4_read 38 = .ok (.istore_n 3, 1) := by decide +kernel
theorem dX4_read_39 : decode cX4_read 39 = .ok (.iload_n 3, 1) := by decide +kernel
theorem dX4_read_40 : decode cX4_read 40 = .ok (.sipush 700, 3) := by decide +kernel
theorem dX4_read_43 : decode cX4_read 43 = .ok (.if_icmp .ge 33, 3) := by decide +kernel
theorem dX4_read_46 : decode cX4_read 46 = .ok (.aload_n 0, 1) := by decide +kernel
theorem dX4_read_47 : decode cX4_read 47 = .ok (.getfield 24, 3) := by decide +kernel
theorem dX4_read_50 : decode cX4_read 50 = .ok (.invokevirtual 59, 3) := by decide +kernel
theorem dX4_read_53 : decode cX4_read 53 = .ok (.ifCond .eq 23, 3) := by decide +kernel
theorem dX4_read_56 : decode cX4_read 56 = .ok (.aload_n 0, 1) := by decide +kernel
theorem dX4_read_57 : decode cX4_read 57 = .ok (.aload_n 2, 1) := by decide +kernel
theorem dX4_read_58 : decode cX4_read 58 = .ok (.invokevirtual 63, 3) := by decide +kernel
theorem dX4_read_61 : decode cX4_read 61 = .ok (.aload_n 0, 1) := by decide +kernel
theorem dX4_read_62 : decode cX4_read 62 = .ok (.getfield 24, 3) := by decide +kernel
theorem dX4_read_65 : decode cX4_read 65 = .ok (.bipush 59, 2) := by decide +kernel
theorem dX4_read_67 : decode cX4_read 67 = .ok (.invokevirtual 55, 3) := by decide +kernel
theorem dX4_read_70 : decode cX4_read 70 = .ok (.iinc 3 1, 3) := by decide +kernel
theorem dX4_read_73 : decode cX4_read 73 = .ok (.goto (-34), 3) := by decide +kernel
theorem dX4_read_76 : decode cX4_read 76 = .ok (.aload_n 0, 1) := by decide +kernel
theorem dX4_read_77 : decode cX4_read 77 = .ok (.getfield 24, 3) := by decide +kernel
theorem dX4_read_80 : decode cX4_read 80 = .ok (.invokevirtual 67, 3) := by decide +kernel
theorem dX4_read_83 : decode cX4_read 83 = .ok (.istore_n 3, 1) := by decide +kernel
theorem dX4_read_84 : decode cX4_read 84 = .ok (.aload_n 0, 1) := by decide +kernel
theorem dX4_read_85 : decode cX4_read 85 = .ok (.iload_n 3, 1) := by decide +kernel
theorem dX4_read_86 : decode cX4_read 86 = .ok (.ifCond .ne 7, 3) := by decide +kernel
theorem dX4_read_89 : decode cX4_read 89 = .ok (.iconst (-1), 1) := by decide +kernel
theorem dX4_read_90 : decode cX4_read 90 = .ok (.goto 10, 3) := by decide +kernel
theorem dX4_read_93 : decode cX4_read 93 = .ok (.aload_n 0, 1) := by decide +kernel
theorem dX4_read_94 : decode cX4_read 94 = .ok (.getfield 24, 3) := by decide +kernel
theorem dX4_read_97 : decode cX4_read 97 = .ok (.invokevirtual 71, 3) := by decide +kernel
theorem dX4_read_100 : decode cX4_read 100 = .ok (.putfield 15, 3) := by decide +kernel
theorem dX4_read_103 : decode cX4_read 103 = .ok (.iload_n 3, 1) := by decide +kernel
theorem dX4_read_104 : decode cX4_read 104 = .ok (.ifCond .ne 8, 3) := by decide +kernel
theorem dX4_read_107 : decode cX4_read 107 = .ok (.aload_n 0, 1) := by decide +kernel
theorem dX4_read_108 : decode cX4_read 108 = .ok (.aload_n 2, 1) := by decide +kernel
theorem dX4_read_109 : decode cX4_read 109 = .ok (.invokevirtual 74, 3) := by decide +kernel
theorem dX4_read_112 : decode cX4_read 112 = .ok (.iload_n 3, 1) := by decide +kernel
theorem dX4_read_113 : decode cX4_read 113 = .ok (.ireturn, 1) := by decide +kernel
theorem dX4_readStatement_0 : decode cX4_readStatement 0 = .ok (.aload_n 0, 1) := by decide +kernel
theorem dX4_readStatement_1 : decode cX4_readStatement 1 = .ok (.getfield 24, 3) := by decide +kernel
theorem dX4_readStatement_4 : decode cX4_readStatement 4 = .ok (.ldc 77, 2) := by decide +kernel
theorem dX4_readStatement_6 : decode cX4_readStatement 6 = .ok (.invokevirtual 79, 3) := by decide +kernel
theorem dX4_readStatement_9 : decode cX4_readStatement 9 = .ok (.ifCond .eq 11, 3) := by decide +kernel
theorem dX4_readStatement_12 : decode cX4_readStatement 12 = .ok (.aload_n 0, 1) := by decide +kernel
theorem dX4_readStatement_13 : decode cX4_readStatement 13 = .ok (.aload_n 1, 1) := by decide +kernel
theorem dX4_readStatement_14 : decode cX4_readStatement 14 = .ok (.invokevirtual 83, 3) := by decide +kernel
theorem dX4_readStatement_17 : decode cX4_readStatement 17 = .ok (.goto 86, 3) := by decide +kernel
theorem dX4_readStatement_20 : decode cX4_readStatement 20 = .ok (.aload_n 0, 1) := by decide +kernel
theorem dX4_readStatement_21 : decode cX4_readStatement 21 = .ok (.getfield 24, 3) := by decide +kernel
theorem dX4_readStatement_24 : decode cX4_readStatement 24 = .ok (.ldc 86, 2) := by decide +kernel
theorem dX4_readStatement_26 : decode cX4_readStatement 26 = .ok (.invokevirtual 79, 3) := by decide +kernel
theorem dX4_readStatement_29 : decode cX4_readStatement 29 = .ok (.ifCond .eq 12, 3) := by decide +kernel
theorem dX4_readStatement_32 : decode cX4_readStatement 32 = .ok (.aload_n 0, 1) := by decide +kernel
theorem dX4_readStatement_33 : decode cX4_readStatement 33 = .ok (.aload_n 1, 1) := by decide +kernel
theorem dX4_readStatement_34 : decode cX4_readStatement 34 = .ok (.iconst 1, 1) := by decide +kernel
theorem dX4_readStatement_35 : decode cX4_readStatement 35 = .ok (.invokevirtual 88, 3) := by decide +kernel
theorem dX4_readStatement_38 : decode cX4_readStatement 38 = .ok (.goto 65, 3) := by decide +kernel
theorem dX4_readStatement_41 : decode cX4_readStatement 41 = .ok (.aload_n 0, 1) := by decide +kernel
theorem dX4_readStatement_42 : decode cX4_readStatement 42 = .ok (.getfield 24, 3) := by decide +kernel
theorem dX4_readStatement_45 : decode cX4_readStatement 45 = .ok (.ldc 92, 2) := by decide +kernel
theorem dX4_readStatement_47 : decode cX4_readStatement 47 = .ok (.invokevirtual 79, 3) := by decide +kernel
theorem dX4_readStatement_50 : decode cX4_readStatement 50 = .ok (.ifCond .eq 12, 3) := by decide +kernel
theorem dX4_readStatement_53 : decode cX4_readStatement 53 = .ok (.aload_n 0, 1) := by decide +kernel
theorem dX4_readStatement_54 : decode cX4_readStatement 54 = .ok (.aload_n 1, 1) := by decide +kernel
theorem dX4_readStatement_55 : decode cX4_readStatement 55 = .ok (.iconst 0, 1) := by decide +kernel
theorem dX4_readStatement_56 : decode cX4_readStatement 56 = .ok (.invokevirtual 88, 3) := by decide +kernel
theorem dX4_readStatement_59 : decode cX4_readStatement 59 = .ok (.goto 44, 3) := by decide +kernel
theorem dX4_readStatement_62 : decode cX4_readStatement 62 = .ok (.aload_n 0, 1) := by decide +kernel
theorem dX4_readStatement_63 : decode cX4_readStatement 63 = .ok (.getfield 24, 3) := by decide +kernel
theorem dX4_readStatement_66 : decode cX4_readStatement 66 = .ok (.ldc 94, 2) := by decide +kernel
theorem dX4_readStatement_68 : decode cX4_readStatement 68 = .ok (.invokevirtual 79, 3) := by decide +kernel
theorem dX4_readStatement_71 : decode cX4_readStatement 71 = .ok (.ifCond .eq 23, 3) := by decide +kernel
theorem dX4_readStatement_74 : decode cX4_readStatement 74 = .ok (.aload_n 0, 1) := by decide +kernel
theorem dX4_readStatement_75 : decode cX4_readStatement 75 = .ok (.getfield 33, 3) := by decide +kernel
theorem dX4_readStatement_78 : decode cX4_readStatement 78 = .ok (.invokevirtual 95, 3) := by decide +kernel
theorem dX4_readStatement_81 : decode cX4_readStatement 81 = .ok (.ifCond .ne 13, 3) := by decide +kernel
theorem dX4_readStatement_84 : decode cX4_readStatement 84 = .ok (.aload_n 0, 1) := by decide +kernel
theorem dX4_readStatement_85 : decode cX4_readStatement 85 = .ok (.getfield 33, 3) := by decide +kernel
theorem dX4_readStatement_88 : decode cX4_readStatement 88 = .ok (.invokevirtual 98, 3) := by decide +kernel
theorem dX4_readStatement_91 : decode cX4_readStatement 91 = .ok (.goto 12, 3) := by decide +kernel
theorem dX4_readStatement_94 : decode cX4_readStatement 94 = .ok (.aload_n 0, 1) := by decide +kernel
theorem dX4_readStatement_95 : decode cX4_readStatement 95 = .ok (.getfield 24, 3) := by decide +kernel
theorem dX4_readStatement_98 : decode cX4_readStatement 98 = .ok (.bipush (-2), 2) := by decide +kernel
theorem dX4_readStatement_100 : decode cX4_readStatement 100 = .ok (.invokevirtual 101, 3) := by decide +kernel
theorem dX4_readStatement_103 : decode cX4_readStatement 103 = .ok (.return_, 1) := by decide +kernel
theorem dX4_readRole_0 : decode cX4_readRole 0 = .ok (.aload_n 1, 1) := by decide +kernel
theorem dX4_readRole_1 : decode cX4_readRole 1 = .ok (.getfield 104, 3) := by decide +kernel
theorem dX4_readRole_4 : decode cX4_readRole 4 = .ok (.bipush 10, 2) := by decide +kernel
theorem dX4_readRole_6 : decode cX4_readRole 6 = .ok (.if_icmp .lt 13, 3) := by decide +kernel
theorem dX4_readRole_9 : decode cX4_readRole 9 = .ok (.aload_n 0, 1) := by decide +kernel
theorem dX4_readRole_10 : decode cX4_readRole 10 = .ok (.getfield 24, 3) := by decide +kernel
theorem dX4_readRole_13 : decode cX4_readRole 13 = .ok (.bipush (-4), 2) := by decide +kernel
theorem dX4_readRole_15 : decode cX4_readRole 15 = .ok (.invokevirtual 101, 3) := by decide +kernel
theorem dX4_readRole_18 : decode cX4_readRole 18 = .ok (.return_, 1) := by decide +kernel
theorem dX4_readRole_19 : decode cX4_readRole 19 = .ok (.aload_n 0, 1) := by decide +kernel
theorem dX4_readRole_20 : decode cX4_readRole 20 = .ok (.getfield 24, 3) := by decide +kernel
theorem dX4_readRole_23 : decode cX4_readRole 23 = .ok (.invokevirtual 107, 3) := by decide +kernel
theorem dX4_readRole_26 : decode cX4_readRole 26 = .ok (.aload_n 0, 1) := by decide +kernel
theorem dX4_readRole_27 : decode cX4_readRole 27 = .ok (.invokevirtual 110, 3) := by decide +kernel
theorem dX4_readRole_30 : decode cX4_readRole 30 = .ok (.istore_n 2, 1) := by decide +kernel
theorem dX4_readRole_31 : decode cX4_readRole 31 = .ok (.ldc 113, 2) := by decide +kernel
theorem dX4_readRole_33 : decode cX4_readRole 33 = .ok (.iload_n 2, 1) := by decide +kernel
theorem dX4_readRole_34 : decode cX4_readRole 34 = .ok (.isub, 1) := by decide +kernel
theorem dX4_readRole_35 : decode cX4_readRole 35 = .ok (.istore_n 3, 1) := by decide +kernel
theorem dX4_readRole_36 : decode cX4_readRole 36 = .ok (.aload_n 0, 1) := by decide +kernel
theorem dX4_readRole_37 : decode cX4_readRole 37 = .ok (.getfield 24, 3) := by decide +kernel
theorem dX4_readRole_40 : decode cX4_readRole 40 = .ok (.ldc 114, 2) := by decide +kernel
theorem dX4_readRole_42 : decode cX4_readRole 42 = .ok (.invokevirtual 116, 3) := by decide +kernel
theorem dX4_readRole_45 : decode cX4_readRole 45 = .ok (.ifCond .eq 8, 3) := by decide +kernel
theorem dX4_readRole_48 : decode cX4_readRole 48 = .ok (.aload_n 0, 1) := by decide +kernel
theorem dX4_readRole_49 : decode cX4_readRole 49 = .ok (.invokevirtual 110, 3) := by decide +kernel
theorem dX4_readRole_52 : decode cX4_readRole 52 = .ok (.istore_n 3, 1) := by decide +kernel
theorem dX4_readRole_53 : decode cX4_readRole 53 = .ok (.aload_n 0, 1) := by decide +kernel
theorem dX4_readRole_54 : decode cX4_readRole 54 = .ok (.getfield 24, 3) := by decide +kernel
theorem dX4_readRole_57 : decode cX4_readRole 57 = .ok (.ldc 119, 2) := by decide +kernel
theorem dX4_readRole_59 : decode cX4_readRole 59 = .ok (.invokevirtual 116, 3) := by decide +kernel
theorem dX4_readRole_62 : decode cX4_readRole 62 = .ok (.istore 4, 2) := by decide +kernel
theorem dX4_readRole_64 : decode cX4_readRole 64 = .ok (.aload_n 0, 1) := by decide +kernel
theorem dX4_readRole_65 : decode cX4_readRole 65 = .ok (.getfield 24, 3) := by decide +kernel
theorem dX4_readRole_68 : decode cX4_readRole 68 = .ok (.invokevirtual 67, 3) := by decide +kernel
theorem dX4_readRole_71 : decode cX4_readRole 71 = .ok (.ifCond .ne 11, 3) := by decide +kernel
theorem dX4_readRole_74 : decode cX4_readRole 74 = .ok (.aload_n 1, 1) := by decide +kernel
theorem dX4_readRole_75 : decode cX4_readRole 75 = .ok (.iload_n 2, 1) := by decide +kernel
theorem dX4_readRole_76 : decode cX4_readRole 76 = .ok (.iload_n 3, 1) := by decide +kernel
theorem dX4_readRole_77 : decode cX4_readRole 77 = .ok (.iload 4, 2) := by decide +kernel
theorem dX4_readRole_79 : decode cX4_readRole 79 = .ok (.invokevirtual 121, 3) := by decide +kernel
theorem dX4_readRole_82 : decode cX4_readRole 82 = .ok (.return_, 1) := by decide +kernel
theorem dX4_readColour_0 : decode cX4_readColour 0 = .ok (.aload_n 0, 1) := by decide +kernel
theorem dX4_readColour_1 : decode cX4_readColour 1 = .ok (.getfield 24, 3) := by decide +kernel
theorem dX4_readColour_4 : decode cX4_readColour 4 = .ok (.iconst 0, 1) := by decide +kernel
theorem dX4_readColour_5 : decode cX4_readColour 5 = .ok (.sipush 255, 3) := by decide +kernel
theorem dX4_readColour_8 : decode cX4_readColour 8 = .ok (.invokevirtual 125, 3) := by decide +kernel
theorem dX4_readColour_11 : decode cX4_readColour 11 = .ok (.istore_n 1, 1) := by decide +kernel
theorem dX4_readColour_12 : decode cX4_readColour 12 = .ok (.aload_n 0, 1) := by decide +kernel
theorem dX4_readColour_13 : decode cX4_readColour 13 = .ok (.getfield 24, 3) := by decide +kernel
theorem dX4_readColour_16 : decode cX4_readColour 16 = .ok (.iconst 0, 1) := by decide +kernel
theorem dX4_readColour_17 : decode cX4_readColour 17 = .ok (.sipush 255, 3) := by decide +kernel
theorem dX4_readColour_20 : decode cX4_readColour 20 = .ok (.invokevirtual 125, 3) := by decide +kernel
theorem dX4_readColour_23 : decode cX4_readColour 23 = .ok (.istore_n 2, 1) := by decide +kernel
theorem dX4_readColour_24 : decode cX4_readColour 24 = .ok (.aload_n 0, 1) := by decide +kernel
theorem dX4_readColour_25 : decode cX4_readColour 25 = .ok (.getfield 24, 3) := by decide +kernel
theorem dX4_readColour_28 : decode cX4_readColour 28 = .ok (.iconst 0, 1) := by decide +kernel
theorem dX4_readColour_29 : decode cX4_readColour 29 = .ok (.sipush 255, 3) := by decide +kernel
theorem dX4_readColour_32 : decode cX4_readColour 32 = .ok (.invokevirtual 125, 3) := by decide +kernel
theorem dX4_readColour_35 : decode cX4_readColour 35 = .ok (.istore_n 3, 1) := by decide +kernel
theorem dX4_readColour_36 : decode cX4_readColour 36 = .ok (.iload_n 1, 1) := by decide +kernel
theorem dX4_readColour_37 : decode cX4_readColour 37 = .ok (.iload_n 2, 1) := by decide +kernel
theorem dX4_readColour_38 : decode cX4_readColour 38 = .ok (.iload_n 3, 1) := by decide +kernel
theorem dX4_readColour_39 : decode cX4_readColour 39 = .ok (.invokestatic 129, 3) := by decide +kernel
theorem dX4_readColour_42 : decode cX4_readColour 42 = .ok (.ireturn, 1) := by decide +kernel
theorem dX4_readRule_0 : decode cX4_readRule 0 = .ok (.aload_n 1, 1) := by decide +kernel
theorem dX4_readRule_1 : decode cX4_readRule 1 = .ok (.getfield 135, 3) := by decide +kernel
theorem dX4_readRule_4 : decode cX4_readRule 4 = .ok (.bipush 12, 2) := by decide +kernel
theorem dX4_readRule_6 : decode cX4_readRule 6 = .ok (.if_icmp .lt 13, 3) := by decide +kernel
theorem dX4_readRule_9 : decode cX4_readRule 9 = .ok (.aload_n 0, 1) := by decide +kernel
theorem dX4_readRule_10 : decode cX4_readRule 10 = .ok (.getfield 24, 3) := by decide +kernel
theorem dX4_readRule_13 : decode cX4_readRule 13 = .ok (.bipush (-4), 2) := by decide +kernel
theorem dX4_readRule_15 : decode cX4_readRule 15 = .ok (.invokevirtual 101, 3) := by decide +kernel
theorem dX4_readRule_18 : decode cX4_readRule 18 = .ok (.return_, 1) := by decide +kernel
theorem dX4_readRule_19 : decode cX4_readRule 19 = .ok (.aload_n 0, 1) := by decide +kernel
theorem dX4_readRule_20 : decode cX4_readRule 20 = .ok (.getfield 24, 3) := by decide +kernel
theorem dX4_readRule_23 : decode cX4_readRule 23 = .ok (.invokevirtual 107, 3) := by decide +kernel
theorem dX4_readRule_26 : decode cX4_readRule 26 = .ok (.aload_n 0, 1) := by decide +kernel
theorem dX4_readRule_27 : decode cX4_readRule 27 = .ok (.getfield 24, 3) := by decide +kernel
theorem dX4_readRule_30 : decode cX4_readRule 30 = .ok (.iconst 0, 1) := by decide +kernel
theorem dX4_readRule_31 : decode cX4_readRule 31 = .ok (.aload_n 1, 1) := by decide +kernel
theorem dX4_readRule_32 : decode cX4_readRule 32 = .ok (.getfield 104, 3) := by decide +kernel
theorem dX4_readRule_35 : decode cX4_readRule 35 = .ok (.iconst 1, 1) := by decide +kernel
theorem dX4_readRule_36 : decode cX4_readRule 36 = .ok (.isub, 1) := by decide +kernel
theorem dX4_readRule_37 : decode cX4_readRule 37 = .ok (.invokevirtual 125, 3) := by decide +kernel
theorem dX4_readRule_40 : decode cX4_readRule 40 = .ok (.istore_n 3, 1) := by decide +kernel
theorem dX4_readRule_41 : decode cX4_readRule 41 = .ok (.aload_n 0, 1) := by decide +kernel
theorem dX4_readRule_42 : decode cX4_readRule 42 = .ok (.getfield 24, 3) := by decide +kernel
theorem dX4_readRule_45 : decode cX4_readRule 45 = .ok (.invokevirtual 138, 3) := by decide +kernel
theorem dX4_readRule_48 : decode cX4_readRule 48 = .ok (.ifCond .eq 23, 3) := by decide +kernel
theorem dX4_readRule_51 : decode cX4_readRule 51 = .ok (.aload_n 0, 1) := by decide +kernel
theorem dX4_readRule_52 : decode cX4_readRule 52 = .ok (.getfield 24, 3) := by decide +kernel
theorem dX4_readRule_55 : decode cX4_readRule 55 = .ok (.invokevirtual 141, 3) := by decide +kernel
theorem dX4_readRule_58 : decode cX4_readRule 58 = .ok (.iload_n 3, 1) := by decide +kernel
theorem dX4_readRule_59 : decode cX4_readRule 59 = .ok (.if_icmp .ne 12, 3) := by decide +kernel
theorem dX4_readRule_62 : decode cX4_readRule 62 = .ok (.aload_n 0, 1) := by decide +kernel
theorem dX4_readRule_63 : decode cX4_readRule 63 = .ok (.getfield 24, 3) := by decide +kernel
theorem dX4_readRule_66 : decode cX4_readRule 66 = .ok (.bipush (-3), 2) := by decide +kernel
theorem dX4_readRule_68 : decode cX4_readRule 68 = .ok (.invokevirtual 101, 3) := by decide +kernel
theorem dX4_readRule_71 : decode cX4_readRule 71 = .ok (.aload_n 0, 1) := by decide +kernel
theorem dX4_readRule_72 : decode cX4_readRule 72 = .ok (.getfield 24, 3) := by decide +kernel
theorem dX4_readRule_75 : decode cX4_readRule 75 = .ok (.iconst 0, 1) := by decide +kernel
theorem dX4_readRule_76 : decode cX4_readRule 76 = .ok (.aload_n 1, 1) := by decide +kernel
theorem dX4_readRule_77 : decode cX4_readRule 77 = .ok (.getfield 104, 3) := by decide +kernel
theorem dX4_readRule_80 : decode cX4_readRule 80 = .ok (.iconst 1, 1) := by decide +kernel
theorem dX4_readRule_81 : decode cX4_readRule 81 = .ok (.isub, 1) := by decide +kernel
theorem dX4_readRule_82 : decode cX4_readRule 82 = .ok (.invokevirtual 125, 3) := by decide +kernel
theorem dX4_readRule_85 : decode cX4_readRule 85 = .ok (.istore 4, 2) := by decide +kernel
theorem dX4_readRule_87 : decode cX4_readRule 87 = .ok (.iload_n 2, 1) := by decide +kernel
theorem dX4_readRule_88 : decode cX4_readRule 88 = .ok (.ifCond .eq 7, 3) := by decide +kernel
theorem dX4_readRule_91 : decode cX4_readRule 91 = .ok (.iconst (-1), 1) := by decide +kernel
theorem dX4_readRule_92 : decode cX4_readRule 92 = .ok (.goto 12, 3) := by decide +kernel
theorem dX4_readRule_95 : decode cX4_readRule 95 = .ok (.aload_n 0, 1) := by decide +kernel
theorem dX4_readRule_96 : decode cX4_readRule 96 = .ok (.getfield 24, 3) := by decide +kernel
theorem dX4_readRule_99 : decode cX4_readRule 99 = .ok (.iconst 0, 1) := by decide +kernel
theorem dX4_readRule_100 : decode cX4_readRule 100 = .ok (.iconst 4, 1) := by decide +kernel
theorem dX4_readRule_101 : decode cX4_readRule 101 = .ok (.invokevirtual 125, 3) := by decide +kernel
theorem dX4_readRule_104 : decode cX4_readRule 104 = .ok (.istore 5, 2) := by decide +kernel
theorem dX4_readRule_106 : decode cX4_readRule 106 = .ok (.aload_n 0, 1) := by decide +kernel
theorem dX4_readRule_107 : decode cX4_readRule 107 = .ok (.getfield 24, 3) := by decide +kernel
theorem dX4_readRule_110 : decode cX4_readRule 110 = .ok (.iconst 1, 1) := by decide +kernel
theorem dX4_readRule_111 : decode cX4_readRule 111 = .ok (.iload_n 2, 1) := by decide +kernel
theorem dX4_readRule_112 : decode cX4_readRule 112 = .ok (.ifCond .eq 8, 3) := by decide +kernel
theorem dX4_readRule_115 : decode cX4_readRule 115 = .ok (.bipush 9, 2) := by decide +kernel
theorem dX4_readRule_117 : decode cX4_readRule 117 = .ok (.goto 6, 3) := by decide +kernel
theorem dX4_readRule_120 : decode cX4_readRule 120 = .ok (.sipush 2295, 3) := by decide +kernel
theorem dX4_readRule_123 : decode cX4_readRule 123 = .ok (.invokevirtual 125, 3) := by decide +kernel
theorem dX4_readRule_126 : decode cX4_readRule 126 = .ok (.istore 6, 2) := by decide +kernel
theorem dX4_readRule_128 : decode cX4_readRule 128 = .ok (.aload_n 0, 1) := by decide +kernel
theorem dX4_readRule_129 : decode cX4_readRule 129 = .ok (.getfield 24, 3) := by decide +kernel
theorem dX4_readRule_132 : decode cX4_readRule 132 = .ok (.invokevirtual 67, 3) := by decide +kernel
theorem dX4_readRule_135 : decode cX4_readRule 135 = .ok (.ifCond .ne 25, 3) := by decide +kernel
theorem dX4_readRule_138 : decode cX4_readRule 138 = .ok (.aload_n 0, 1) := by decide +kernel
theorem dX4_readRule_139 : decode cX4_readRule 139 = .ok (.getfield 9, 3) := by decide +kernel
theorem dX4_readRule_142 : decode cX4_readRule 142 = .ok (.aload_n 1, 1) := by decide +kernel
theorem dX4_readRule_143 : decode cX4_readRule 143 = .ok (.getfield 135, 3) := by decide +kernel
theorem dX4_readRule_146 : decode cX4_readRule 146 = .ok (.iload 6, 2) := by decide +kernel
theorem dX4_readRule_148 : decode cX4_readRule 148 = .ok (.iastore, 1) := by decide +kernel
theorem dX4_readRule_149 : decode cX4_readRule 149 = .ok (.aload_n 1, 1) := by decide +kernel
theorem dX4_readRule_150 : decode cX4_readRule 150 = .ok (.iload_n 3, 1) := by decide +kernel
theorem dX4_readRule_151 : decode cX4_readRule 151 = .ok (.iload 4, 2) := by decide +kernel
theorem dX4_readRule_153 : decode cX4_readRule 153 = .ok (.iload 5, 2) := by decide +kernel
theorem dX4_readRule_155 : decode cX4_readRule 155 = .ok (.iload 6, 2) := by decide +kernel
theorem dX4_readRule_157 : decode cX4_readRule 157 = .ok (.invokevirtual 144, 3) := by decide +kernel
theorem dX4_readRule_160 : decode cX4_readRule 160 = .ok (.return_, 1) := by decide +kernel
theorem dX4_setTextNeeds_0 : decode cX4_setTextNeeds 0 = .ok (.iconst 0, 1) := by decide +kernel
theorem dX4_setTextNeeds_1 : decode cX4_setTextNeeds 1 = .ok (.istore_n 2, 1) := by decide +kernel
theorem dX4_setTextNeeds_2 : decode cX4_setTextNeeds 2 = .ok (.iload_n 2, 1) := by decide +kernel
theorem dX4_setTextNeeds_3 : decode cX4_setTextNeeds 3 = .ok (.aload_n 1, 1) := by decide +kernel
theorem dX4_setTextNeeds_4 : decode cX4_setTextNeeds 4 = .ok (.getfield 135, 3) := by decide +kernel
theorem dX4_setTextNeeds_7 : decode cX4_setTextNeeds 7 = .ok (.if_icmp .ge 63, 3) := by decide +kernel
theorem dX4_setTextNeeds_10 : decode cX4_setTextNeeds 10 = .ok (.aload_n 1, 1) := by decide +kernel
theorem dX4_setTextNeeds_11 : decode cX4_setTextNeeds 11 = .ok (.getfield 148, 3) := by decide +kernel
theorem dX4_setTextNeeds_14 : decode cX4_setTextNeeds 14 = .ok (.iload_n 2, 1) := by decide +kernel
theorem dX4_setTextNeeds_15 : decode cX4_setTextNeeds 15 = .ok (.iaload, 1) := by decide +kernel
theorem dX4_setTextNeeds_16 : decode cX4_setTextNeeds 16 = .ok (.iconst (-1), 1) := by decide +kernel
theorem dX4_setTextNeeds_17 : decode cX4_setTextNeeds 17 = .ok (.if_icmp .ne 47, 3) := by decide +kernel
theorem dX4_setTextNeeds_20 : decode cX4_setTextNeeds 20 = .ok (.aload_n 1, 1) := by decide +kernel
theorem dX4_setTextNeeds_21 : decode cX4_setTextNeeds 21 = .ok (.getfield 151, 3) := by decide +kernel
theorem dX4_setTextNeeds_24 : decode cX4_setTextNeeds 24 = .ok (.iconst 0, 1) := by decide +kernel
theorem dX4_setTextNeeds_25 : decode cX4_setTextNeeds 25 = .ok (.aaload, 1) := by decide +kernel
theorem dX4_setTextNeeds_26 : decode cX4_setTextNeeds 26 = .ok (.iload_n 2, 1) := by decide +kernel
theorem dX4_setTextNeeds_27 : decode cX4_setTextNeeds 27 = .ok (.aload_n 0, 1) := by decide +kernel
theorem dX4_setTextNeeds_28 : decode cX4_setTextNeeds 28 = .ok (.getfield 33, 3) := by decide +kernel
theorem dX4_setTextNeeds_31 : decode cX4_setTextNeeds 31 = .ok (.aload_n 0, 1) := by decide +kernel
theorem dX4_setTextNeeds_32 : decode cX4_setTextNeeds 32 = .ok (.getfield 9, 3) := by decide +kernel
theorem dX4_setTextNeeds_35 : decode cX4_setTextNeeds 35 = .ok (.iload_n 2, 1) := by decide +kernel
theorem dX4_setTextNeeds_36 : decode cX4_setTextNeeds 36 = .ok (.iaload, 1) := by decide +kernel
theorem dX4_setTextNeeds_37 : decode cX4_setTextNeeds 37 = .ok (.iconst 0, 1) := by decide +kernel
theorem dX4_setTextNeeds_38 : decode cX4_setTextNeeds 38 = .ok (.invokevirtual 155, 3) := by decide +kernel
theorem dX4_setTextNeeds_41 : decode cX4_setTextNeeds 41 = .ok (.iastore, 1) := by decide +kernel
theorem dX4_setTextNeeds_42 : decode cX4_setTextNeeds 42 = .ok (.aload_n 1, 1) := by decide +kernel
theorem dX4_setTextNeeds_43 : decode cX4_setTextNeeds 43 = .ok (.getfield 151, 3) := by decide +kernel
theorem dX4_setTextNeeds_46 : decode cX4_setTextNeeds 46 = .ok (.iconst 1, 1) := by decide +kernel
theorem dX4_setTextNeeds_47 : decode cX4_setTextNeeds 47 = .ok (.aaload, 1) := by decide +kernel
theorem dX4_setTextNeeds_48 : decode cX4_setTextNeeds 48 = .ok (.iload_n 2, 1) := by decide +kernel
theorem dX4_setTextNeeds_49 : decode cX4_setTextNeeds 49 = .ok (.aload_n 0, 1) := by decide +kernel
theorem dX4_setTextNeeds_50 : decode cX4_setTextNeeds 50 = .ok (.getfield 33, 3) := by decide +kernel
theorem dX4_setTextNeeds_53 : decode cX4_setTextNeeds 53 = .ok (.aload_n 0, 1) := by decide +kernel
theorem dX4_setTextNeeds_54 : decode cX4_setTextNeeds 54 = .ok (.getfield 9, 3) := by decide +kernel
theorem dX4_setTextNeeds_57 : decode cX4_setTextNeeds 57 = .ok (.iload_n 2, 1) := by decide +kernel
theorem dX4_setTextNeeds_58 : decode cX4_setTextNeeds 58 = .ok (.iaload, 1) := by decide +kernel
theorem dX4_setTextNeeds_59 : decode cX4_setTextNeeds 59 = .ok (.iconst 1, 1) := by decide +kernel
theorem dX4_setTextNeeds_60 : decode cX4_setTextNeeds 60 = .ok (.invokevirtual 155, 3) := by decide +kernel
theorem dX4_setTextNeeds_63 : decode cX4_setTextNeeds 63 = .ok (.iastore, 1) := by decide +kernel
theorem dX4_setTextNeeds_64 : decode cX4_setTextNeeds 64 = .ok (.iinc 2 1, 3) := by decide +kernel
theorem dX4_setTextNeeds_67 : decode cX4_setTextNeeds 67 = .ok (.goto (-65), 3) := by decide +kernel
theorem dX4_setTextNeeds_70 : decode cX4_setTextNeeds 70 = .ok (.return_, 1) := by decide +kernel
theorem dX5_init_0 : decode cX5_init 0 = .ok (.aload_n 0, 1) := by decide +kernel
theorem dX5_init_1 : decode cX5_init 1 = .ok (.invokespecial 3, 3) := by decide +kernel
theorem dX5_init_4 : decode cX5_init 4 = .ok (.aload_n 0, 1) := by decide +kernel
theorem dX5_init_5 : decode cX5_init 5 = .ok (.iconst 0, 1) := by decide +kernel
theorem dX5_init_6 : decode cX5_init 6 = .ok (.putfield 9, 3) := by decide +kernel
theorem dX5_init_9 : decode cX5_init 9 = .ok (.aload_n 0, 1) := by decide +kernel
theorem dX5_init_10 : decode cX5_init 10 = .ok (.iconst 0, 1) := by decide +kernel
theorem dX5_init_11 : decode cX5_init 11 = .ok (.putfield 15, 3) := by decide +kernel
theorem dX5_init_14 : decode cX5_init 14 = .ok (.aload_n 0, 1) := by decide +kernel
theorem dX5_init_15 : decode cX5_init 15 = .ok (.iconst 0, 1) := by decide +kernel
theorem dX5_init_16 : decode cX5_init 16 = .ok (.putfield 18, 3) := by decide +kernel
theorem dX5_init_19 : decode cX5_init 19 = .ok (.aload_n 0, 1) := by decide +kernel
theorem dX5_init_20 : decode cX5_init 20 = .ok (.iconst 0, 1) := by decide +kernel
theorem dX5_init_21 : decode cX5_init 21 = .ok (.putfield 21, 3) := by decide +kernel
theorem dX5_init_24 : decode cX5_init 24 = .ok (.aload_n 0, 1) := by decide +kernel
theorem dX5_init_25 : decode cX5_init 25 = .ok (.iconst 0, 1) := by decide +kernel
theorem dX5_init_26 : decode cX5_init 26 = .ok (.putfield 24, 3) := by decide +kernel
theorem dX5_init_29 : decode cX5_init 29 = .ok (.aload_n 0, 1) := by decide +kernel
theorem dX5_init_30 : decode cX5_init 30 = .ok (.iconst 0, 1) := by decide +kernel
theorem dX5_init_31 : decode cX5_init 31 = .ok (.putfield 27, 3) := by decide +kernel
theorem dX5_init_34 : decode cX5_init 34 = .ok (.aload_n 0, 1) := by decide +kernel
theorem dX5_init_35 : decode cX5_init 35 = .ok (.aload_n 1, 1) := by decide +kernel
theorem dX5_init_36 : decode cX5_init 36 = .ok (.putfield 30, 3) := by decide +kernel
theorem dX5_init_39 : decode cX5_init 39 = .ok (.return_, 1) := by decide +kernel
theorem dX5_open_0 : decode cX5_open 0 = .ok (.aload_n 0, 1) := by decide +kernel
theorem dX5_open_1 : decode cX5_open 1 = .ok (.iload_n 1, 1) := by decide +kernel
theorem dX5_open_2 : decode cX5_open 2 = .ok (.aload_n 0, 1) := by decide +kernel
theorem dX5_open_3 : decode cX5_open 3 = .ok (.getfield 30, 3) := by decide +kernel
theorem dX5_open_6 : decode cX5_open 6 = .ok (.arraylength, 1) := by decide +kernel
theorem dX5_open_7 : decode cX5_open 7 = .ok (.invokestatic 34, 3) := by decide +kernel
theorem dX5_open_10 : decode cX5_open 10 = .ok (.putfield 9, 3) := by decide +kernel
theorem dX5_open_13 : decode cX5_open 13 = .ok (.aload_n 0, 1) := by decide +kernel
theorem dX5_open_14 : decode cX5_open 14 = .ok (.iconst 0, 1) := by decide +kernel
theorem dX5_open_15 : decode cX5_open 15 = .ok (.putfield 21, 3) := by decide +kernel
theorem dX5_open_18 : decode cX5_open 18 = .ok (.aload_n 0, 1) := by decide +kernel
theorem dX5_open_19 : decode cX5_open 19 = .ok (.iconst 0, 1) := by decide +kernel
theorem dX5_open_20 : decode cX5_open 20 = .ok (.putfield 27, 3) := by decide +kernel
theorem dX5_open_23 : decode cX5_open 23 = .ok (.aload_n 0, 1) := by decide +kernel
theorem dX5_open_24 : decode cX5_open 24 = .ok (.invokevirtual 40, 3) := by decide +kernel
theorem dX5_open_27 : decode cX5_open 27 = .ok (.return_, 1) := by decide +kernel
theorem dX5_reopen_0 : decode cX5_reopen 0 = .ok (.aload_n 0, 1) := by decide +kernel
theorem dX5_reopen_1 : decode cX5_reopen 1 = .ok (.iload_n 1, 1) := by decide +kernel
theorem dX5_reopen_2 : decode cX5_reopen 2 = .ok (.iconst 0, 1) := by decide +kernel
theorem dX5_reopen_3 : decode cX5_reopen 3 = .ok (.invokestatic 43, 3) := by decide +kernel
theorem dX5_reopen_6 : decode cX5_reopen 6 = .ok (.putfield 21, 3) := by decide +kernel
theorem dX5_reopen_9 : decode cX5_reopen 9 = .ok (.aload_n 0, 1) := by decide +kernel
theorem dX5_reopen_10 : decode cX5_reopen 10 = .ok (.invokevirtual 40, 3) := by decide +kernel
theorem dX5_reopen_13 : decode cX5_reopen 13 = .ok (.return_, 1) := by decide +kernel
theorem dX5_hasMore_0 : decode cX5_hasMore 0 = .ok (.aload_n 0, 1) := by decide +kernel
theorem dX5_hasMore_1 : decode cX5_hasMore 1 = .ok (.getfield 15, 3) := by decide +kernel
theorem dX5_hasMore_4 : decode cX5_hasMore 4 = .ok (.ifCond .eq 7, 3) := by decide +kernel
theorem dX5_hasMore_7 : decode cX5_hasMore 7 = .ok (.iconst 1, 1) := by decide +kernel
theorem dX5_hasMore_8 : decode cX5_hasMore 8 = .ok (.goto 4, 3) := by decide +kernel
theorem dX5_hasMore_11 : decode cX5_hasMore 11 = .ok (.iconst 0, 1) := by decide +kernel
theorem dX5_hasMore_12 : decode cX5_hasMore 12 = .ok (.ireturn, 1) := by decide +kernel
theorem dX5_isNumber_0 : decode cX5_isNumber 0 = .ok (.aload_n 0, 1) := by decide +kernel
theorem dX5_isNumber_1 : decode cX5_isNumber 1 = .ok (.getfield 15, 3) := by decide +kernel
theorem dX5_isNumber_4 : decode cX5_isNumber 4 = .ok (.iconst 1, 1) := by decide +kernel
theorem dX5_isNumber_5 : decode cX5_isNumber 5 = .ok (.if_icmp .ne 7, 3) := by decide +kernel
theorem dX5_isNumber_8 : decode cX5_isNumber 8 = .ok (.iconst 1, 1) := by decide +kernel
theorem dX5_isNumber_9 : decode cX5_isNumber 9 = .ok (.goto 4, 3) := by decide +kernel
theorem dX5_isNumber_12 : decode cX5_isNumber 12 = .ok (.iconst 0, 1) := by decide +kernel
theorem dX5_isNumber_13 : decode cX5_isNumber 13 = .ok (.ireturn, 1) := by decide +kernel
theorem dX5_currentNumber_0 : decode cX5_currentNumber 0 = .ok (.aload_n 0, 1) := by decide +kernel
theorem dX5_currentNumber_1 : decode cX5_currentNumber 1 = .ok (.getfield 24, 3) := by decide +kernel
theorem dX5_currentNumber_4 : decode cX5_currentNumber 4 = .ok (.ireturn, 1) := by decide +kernel
theorem dX5_currentStart_0 : decode cX5_currentStart 0 = .ok (.aload_n 0, 1) := by decide +kernel
theorem dX5_currentStart_1 : decode cX5_currentStart 1 = .ok (.getfield 18, 3) := by decide +kernel
theorem dX5_currentStart_4 : decode cX5_currentStart 4 = .ok (.ireturn, 1) := by decide +kernel
theorem dX5_currentEnd_0 : decode cX5_currentEnd 0 = .ok (.aload_n 0, 1) := by decide +kernel
theorem dX5_currentEnd_1 : decode cX5_currentEnd 1 = .ok (.getfield 21, 3) := by decide +kernel
theorem dX5_currentEnd_4 : decode cX5_currentEnd 4 = .ok (.ireturn, 1) := by decide +kernel
theorem dX5_firstError_0 : decode cX5_firstError 0 = .ok (.aload_n 0, 1) := by decide +kernel
theorem dX5_firstError_1 : decode cX5_firstError 1 = .ok (.getfield 27, 3) := by decide +kernel
theorem dX5_firstError_4 : decode cX5_firstError 4 = .ok (.ireturn, 1) := by decide +kernel
theorem dX5_fail_0 : decode cX5_fail 0 = .ok (.aload_n 0, 1) := by decide +kernel
theorem dX5_fail_1 : decode cX5_fail 1 = .ok (.getfield 27, 3) := by decide +kernel
theorem dX5_fail_4 : decode cX5_fail 4 = .ok (.ifCond .ne 13, 3) := by decide +kernel
theorem dX5_fail_7 : decode cX5_fail 7 = .ok (.aload_n 0, 1) := by decide +kernel
theorem dX5_fail_8 : decode cX5_fail 8 = .ok (.iload_n 1, 1) := by decide +kernel
theorem dX5_fail_9 : decode cX5_fail 9 = .ok (.putfield 27, 3) := by decide +kernel
theorem dX5_fail_12 : decode cX5_fail 12 = .ok (.aload_n 0, 1) := by decide +kernel
theorem dX5_fail_13 : decode cX5_fail 13 = .ok (.iconst 0, 1) := by decide +kernel
theorem dX5_fail_14 : decode cX5_fail 14 = .ok (.putfield 15, 3) := by decide +kernel
theorem dX5_fail_17 : decode cX5_fail 17 = .ok (.return_, 1) := by decide +kernel
theorem dX5_advance_0 : decode cX5_advance 0 = .ok (.aload_n 0, 1) := by decide +kernel
theorem dX5_advance_1 : decode cX5_advance 1 = .ok (.getfield 27, 3) := by decide +kernel
theorem dX5_advance_4 : decode cX5_advance 4 = .ok (.ifCond .eq 4, 3) := by decide +kernel
theorem dX5_advance_7 : decode cX5_advance 7 = .ok (.return_, 1) := by decide +kernel
theorem dX5_advance_8 : decode cX5_advance 8 = .ok (.aload_n 0, 1) := by decide +kernel
theorem dX5_advance_9 : decode cX5_advance 9 = .ok (.aload_n 0, 1) := by decide +kernel
theorem dX5_advance_10 : decode cX5_advance 10 = .ok (.getfield 21, 3) := by decide +kernel
theorem dX5_advance_13 : decode cX5_advance 13 = .ok (.putfield 18, 3) := by decide +kernel
theorem dX5_advance_16 : decode cX5_advance 16 = .ok (.aload_n 0, 1) := by decide +kernel
theorem dX5_advance_17 : decode cX5_advance 17 = .ok (.getfield 18, 3) := by decide +kernel
theorem dX5_advance_20 : decode cX5_advance 20 = .ok (.aload_n 0, 1) := by decide +kernel
theorem dX5_advance_21 : decode cX5_advance 21 = .ok (.getfield 9, 3) := by decide +kernel
theorem dX5_advance_24 : decode cX5_advance 24 = .ok (.if_icmp .ge 30, 3) := by decide +kernel
theorem dX5_advance_27 : decode cX5_advance 27 = .ok (.aload_n 0, 1) := by decide +kernel
theorem dX5_advance_28 : decode cX5_advance 28 = .ok (.getfield 30, 3) := by decide +kernel
theorem dX5_advance_31 : decode cX5_advance 31 = .ok (.aload_n 0, 1) := by decide +kernel
theorem dX5_advance_32 : decode cX5_advance 32 = .ok (.getfield 18, 3) := by decide +kernel
theorem dX5_advance_35 : decode cX5_advance 35 = .ok (.baload, 1) := by decide +kernel
theorem dX5_advance_36 : decode cX5_advance 36 = .ok (.bipush 32, 2) := by decide +kernel
theorem dX5_advance_38 : decode cX5_advance 38 = .ok (.if_icmp .ne 16, 3) := by decide +kernel
theorem dX5_advance_41 : decode cX5_advance 41 = .ok (.aload_n 0, 1) := by decide +kernel
theorem dX5_advance_42 : decode cX5_advance 42 = .ok (.dup, 1) := by decide +kernel
theorem dX5_advance_43 : decode cX5_advance 43 = .ok (.getfield 18, 3) := by decide +kernel
theorem dX5_advance_46 : decode cX5_advance 46 = .ok (.iconst 1, 1) := by decide +kernel
theorem dX5_advance_47 : decode cX5_advance 47 = .ok (.iadd, 1) := by decide +kernel
theorem dX5_advance_48 : decode cX5_advance 48 = .ok (.putfield 18, 3) := by decide +kernel
theorem dX5_advance_51 : decode cX5_advance 51 = .ok (.goto (-35), 3) := by decide +kernel
theorem dX5_advance_54 : decode cX5_advance 54 = .ok (.aload_n 0, 1) := by decide +kernel
theorem dX5_advance_55 : decode cX5_advance 55 = .ok (.aload_n 0, 1) := by decide +kernel
theorem dX5_advance_56 : decode cX5_advance 56 = .ok (.getfield 18, 3) := by decide +kernel
theorem dX5_advance_59 : decode cX5_advance 59 = .ok (.putfield 21, 3) := by decide +kernel
theorem dX5_advance_62 : decode cX5_advance 62 = .ok (.aload_n 0, 1) := by decide +kernel
theorem dX5_advance_63 : decode cX5_advance 63 = .ok (.iconst 0, 1) := by decide +kernel
theorem dX5_advance_64 : decode cX5_advance 64 = .ok (.putfield 24, 3) := by decide +kernel
theorem dX5_advance_67 : decode cX5_advance 67 = .ok (.aload_n 0, 1) := by decide +kernel
theorem dX5_advance_68 : decode cX5_advance 68 = .ok (.getfield 18, 3) := by decide +kernel
theorem dX5_advance_71 : decode cX5_advance 71 = .ok (.aload_n 0, 1) := by decide +kernel
theorem dX5_advance_72 : decode cX5_advance 72 = .ok (.getfield 9, 3) := by decide +kernel
theorem dX5_advance_75 : decode cX5_advance 75 = .ok (.if_icmp .lt 11, 3) := by decide +kernel
theorem dX5_advance_78 : decode cX5_advance 78 = .ok (.aload_n 0, 1) := by decide +kernel
theorem dX5_advance_79 : decode cX5_advance 79 = .ok (.iconst 0, 1) := by decide +kernel
theorem dX5_advance_80 : decode cX5_advance 80 = .ok (.putfield 15, 3) := by decide +kernel
theorem dX5_advance_83 : decode cX5_advance 83 = .ok (.goto 165, 3) := by decide +kernel
theorem dX5_advance_86 : decode cX5_advance 86 = .ok (.aload_n 0, 1) := by decide +kernel
theorem dX5_advance_87 : decode cX5_advance 87 = .ok (.getfield 30, 3) := by decide +kernel
theorem dX5_advance_90 : decode cX5_advance 90 = .ok (.aload_n 0, 1) := by decide +kernel
theorem dX5_advance_91 : decode cX5_advance 91 = .ok (.getfield 18, 3) := by decide +kernel
theorem dX5_advance_94 : decode cX5_advance 94 = .ok (.baload, 1) := by decide +kernel
theorem dX5_advance_95 : decode cX5_advance 95 = .ok (.invokestatic 46, 3) := by decide +kernel
theorem dX5_advance_98 : decode cX5_advance 98 = .ok (.ifCond .eq 76, 3) := by decide +kernel
theorem dX5_advance_101 : decode cX5_advance 101 = .ok (.aload_n 0, 1) := by decide +kernel
theorem dX5_advance_102 : decode cX5_advance 102 = .ok (.iconst 1, 1) := by decide +kernel
theorem dX5_advance_103 : decode cX5_advance 103 = .ok (.putfield 15, 3) := by decide +kernel
theorem dX5_advance_106 : decode cX5_advance 106 = .ok (.aload_n 0, 1) := by decide +kernel
theorem dX5_advance_107 : decode cX5_advance 107 = .ok (.getfield 21, 3) := by decide +kernel
theorem dX5_advance_110 : decode cX5_advance 110 = .ok (.aload_n 0, 1) := by decide +kernel
theorem dX5_advance_111 : decode cX5_advance 111 = .ok (.getfield 9, 3) := by decide +kernel
theorem dX5_advance_114 : decode cX5_advance 114 = .ok (.if_icmp .ge 134, 3) := by decide +kernel
theorem dX5_advance_117 : decode cX5_advance 117 = .ok (.aload_n 0, 1) := by decide +kernel
theorem dX5_advance_118 : decode cX5_advance 118 = .ok (.getfield 30, 3) := by decide +kernel
theorem dX5_advance_121 : decode cX5_advance 121 = .ok (.aload_n 0, 1) := by decide +kernel
theorem dX5_advance_122 : decode cX5_advance 122 = .ok (.getfield 21, 3) := by decide +kernel
theorem dX5_advance_125 : decode cX5_advance 125 = .ok (.baload, 1) := by decide +kernel
theorem dX5_advance_126 : decode cX5_advance 126 = .ok (.invokestatic 46, 3) := by decide +kernel
theorem dX5_advance_129 : decode cX5_advance 129 = .ok (.ifCond .eq 119, 3) := by decide +kernel
theorem dX5_advance_132 : decode cX5_advance 132 = .ok (.aload_n 0, 1) := by decide +kernel
theorem dX5_advance_133 : decode cX5_advance 133 = .ok (.bipush 10, 2) := by decide +kernel
theorem dX5_advance_135 : decode cX5_advance 135 = .ok (.aload_n 0, 1) := by decide +kernel
theorem dX5_advance_136 : decode cX5_advance 136 = .ok (.getfield 24, 3) := by decide +kernel
theorem dX5_advance_139 : decode cX5_advance 139 = .ok (.imul, 1) := by decide +kernel
theorem dX5_advance_140 : decode cX5_advance 140 = .ok (.aload_n 0, 1) := by decide +kernel
theorem dX5_advance_141 : decode cX5_advance 141 = .ok (.getfield 30, 3) := by decide +kernel
theorem dX5_advance_144 : decode cX5_advance 144 = .ok (.aload_n 0, 1) := by decide +kernel
theorem dX5_advance_145 : decode cX5_advance 145 = .ok (.getfield 21, 3) := by decide +kernel
theorem dX5_advance_148 : decode cX5_advance 148 = .ok (.baload, 1) := by decide +kernel
theorem dX5_advance_149 : decode cX5_advance 149 = .ok (.iadd, 1) := by decide +kernel
theorem dX5_advance_150 : decode cX5_advance 150 = .ok (.bipush 48, 2) := by decide +kernel
theorem dX5_advance_152 : decode cX5_advance 152 = .ok (.isub, 1) := by decide +kernel
theorem dX5_advance_153 : decode cX5_advance 153 = .ok (.ldc 50, 2) := by decide +kernel
theorem dX5_advance_155 : decode cX5_advance 155 = .ok (.invokestatic 34, 3) := by decide +kernel
theorem dX5_advance_158 : decode cX5_advance 158 = .ok (.putfield 24, 3) := by decide +kernel
theorem dX5_advance_161 : decode cX5_advance 161 = .ok (.aload_n 0, 1) := by decide +kernel
theorem dX5_advance_162 : decode cX5_advance 162 = .ok (.dup, 1) := by decide +kernel
theorem dX5_advance_163 : decode cX5_advance 163 = .ok (.getfield 21, 3) := by decide +kernel
theorem dX5_advance_166 : decode cX5_advance 166 = .ok (.iconst 1, 1) := by decide +kernel
theorem dX5_advance_167 : decode cX5_advance 167 = .ok (.iadd, 1) := by decide +kernel
theorem dX5_advance_168 : decode cX5_advance 168 = .ok (.putfield 21, 3) := by decide +kernel
theorem dX5_advance_171 : decode cX5_advance 171 = .ok (.goto (-65), 3) := by decide +kernel
theorem dX5_advance_174 : decode cX5_advance 174 = .ok (.aload_n 0, 1) := by decide +kernel
theorem dX5_advance_175 : decode cX5_advance 175 = .ok (.getfield 30, 3) := by decide +kernel
theorem dX5_advance_178 : decode cX5_advance 178 = .ok (.aload_n 0, 1) := by decide +kernel
theorem dX5_advance_179 : decode cX5_advance 179 = .ok (.getfield 18, 3) := by decide +kernel
theorem dX5_advance_182 : decode cX5_advance 182 = .ok (.baload, 1) := by decide +kernel
theorem dX5_advance_183 : decode cX5_advance 183 = .ok (.invokestatic 51, 3) := by decide +kernel
theorem dX5_advance_186 : decode cX5_advance 186 = .ok (.ifCond .eq 47, 3) := by decide +kernel
theorem dX5_advance_189 : decode cX5_advance 189 = .ok (.aload_n 0, 1) := by decide +kernel
theorem dX5_advance_190 : decode cX5_advance 190 = .ok (.iconst 2, 1) := by decide +kernel
theorem dX5_advance_191 : decode cX5_advance 191 = .ok (.putfield 15, 3) := by decide +kernel
theorem dX5_advance_194 : decode cX5_advance 194 = .ok (.aload_n 0, 1) := by decide +kernel
theorem dX5_advance_195 : decode cX5_advance 195 = .ok (.getfield 21, 3) := by decide +kernel
theorem dX5_advance_198 : decode cX5_advance 198 = .ok (.aload_n 0, 1) := by decide +kernel
theorem dX5_advance_199 : decode cX5_advance 199 = .ok (.getfield 9, 3) := by decide +kernel
theorem dX5_advance_202 : decode cX5_advance 202 = .ok (.if_icmp .ge 46, 3) := by decide +kernel
theorem dX5_advance_205 : decode cX5_advance 205 = .ok (.aload_n 0, 1) := by decide +kernel
theorem dX5_advance_206 : decode cX5_advance 206 = .ok (.getfield 30, 3) := by decide +kernel
theorem dX5_advance_209 : decode cX5_advance 209 = .ok (.aload_n 0, 1) := by decide +kernel
theorem dX5_advance_210 : decode cX5_advance 210 = .ok (.getfield 21, 3) := by decide +kernel
theorem dX5_advance_213 : decode cX5_advance 213 = .ok (.baload, 1) := by decide +kernel
theorem dX5_advance_214 : decode cX5_advance 214 = .ok (.invokestatic 51, 3) := by decide +kernel
theorem dX5_advance_217 : decode cX5_advance 217 = .ok (.ifCond .eq 31, 3) := by decide +kernel
theorem dX5_advance_220 : decode cX5_advance 220 = .ok (.aload_n 0, 1) := by decide +kernel
theorem dX5_advance_221 : decode cX5_advance 221 = .ok (.dup, 1) := by decide +kernel
theorem dX5_advance_222 : decode cX5_advance 222 = .ok (.getfield 21, 3) := by decide +kernel
theorem dX5_advance_225 : decode cX5_advance 225 = .ok (.iconst 1, 1) := by decide +kernel
theorem dX5_advance_226 : decode cX5_advance 226 = .ok (.iadd, 1) := by decide +kernel
theorem dX5_advance_227 : decode cX5_advance 227 = .ok (.putfield 21, 3) := by decide +kernel
theorem dX5_advance_230 : decode cX5_advance 230 = .ok (.goto (-36), 3) := by decide +kernel
theorem dX5_advance_233 : decode cX5_advance 233 = .ok (.aload_n 0, 1) := by decide +kernel
theorem dX5_advance_234 : decode cX5_advance 234 = .ok (.iconst 3, 1) := by decide +kernel
theorem dX5_advance_235 : decode cX5_advance 235 = .ok (.putfield 15, 3) := by decide +kernel
theorem dX5_advance_238 : decode cX5_advance 238 = .ok (.aload_n 0, 1) := by decide +kernel
theorem dX5_advance_239 : decode cX5_advance 239 = .ok (.aload_n 0, 1) := by decide +kernel
theorem dX5_advance_240 : decode cX5_advance 240 = .ok (.getfield 18, 3) := by decide +kernel
theorem dX5_advance_243 : decode cX5_advance 243 = .ok (.iconst 1, 1) := by decide +kernel
theorem dX5_advance_244 : decode cX5_advance 244 = .ok (.iadd, 1) := by decide +kernel
theorem dX5_advance_245 : decode cX5_advance 245 = .ok (.putfield 21, 3) := by decide +kernel
theorem dX5_advance_248 : decode cX5_advance 248 = .ok (.return_, 1) := by decide +kernel
theorem dX5_isDigit_0 : decode cX5_isDigit 0 = .ok (.iload_n 0, 1) := by decide +kernel
theorem dX5_isDigit_1 : decode cX5_isDigit 1 = .ok (.bipush 48, 2) := by decide +kernel
theorem dX5_isDigit_3 : decode cX5_isDigit 3 = .ok (.if_icmp .lt 13, 3) := by decide +kernel
theorem dX5_isDigit_6 : decode cX5_isDigit 6 = .ok (.iload_n 0, 1) := by decide +kernel
theorem dX5_isDigit_7 : decode cX5_isDigit 7 = .ok (.bipush 57, 2) := by decide +kernel
theorem dX5_isDigit_9 : decode cX5_isDigit 9 = .ok (.if_icmp .gt 7, 3) := by decide +kernel
theorem dX5_isDigit_12 : decode cX5_isDigit 12 = .ok (.iconst 1, 1) := by decide +kernel
theorem dX5_isDigit_13 : decode cX5_isDigit 13 = .ok (.goto 4, 3) := by decide +kernel
theorem dX5_isDigit_16 : decode cX5_isDigit 16 = .ok (.iconst 0, 1) := by decide +kernel
theorem dX5_isDigit_17 : decode cX5_isDigit 17 = .ok (.ireturn, 1) := by decide +kernel
theorem dX5_isLetter_0 : decode cX5_isLetter 0 = .ok (.iload_n 0, 1) := by decide +kernel
theorem dX5_isLetter_1 : decode cX5_isLetter 1 = .ok (.bipush 97, 2) := by decide +kernel
theorem dX5_isLetter_3 : decode cX5_isLetter 3 = .ok (.if_icmp .lt 13, 3) := by decide +kernel
theorem dX5_isLetter_6 : decode cX5_isLetter 6 = .ok (.iload_n 0, 1) := by decide +kernel
theorem dX5_isLetter_7 : decode cX5_isLetter 7 = .ok (.bipush 122, 2) := by decide +kernel
theorem dX5_isLetter_9 : decode cX5_isLetter 9 = .ok (.if_icmp .gt 7, 3) := by decide +kernel
theorem dX5_isLetter_12 : decode cX5_isLetter 12 = .ok (.iconst 1, 1) := by decide +kernel
theorem dX5_isLetter_13 : decode cX5_isLetter 13 = .ok (.goto 4, 3) := by decide +kernel
theorem dX5_isLetter_16 : decode cX5_isLetter 16 = .ok (.iconst 0, 1) := by decide +kernel
theorem dX5_isLetter_17 : decode cX5_isLetter 17 = .ok (.ireturn, 1) := by decide +kernel
theorem dX5_isWord_0 : decode cX5_isWord 0 = .ok (.aload_n 0, 1) := by decide +kernel
theorem dX5_isWord_1 : decode cX5_isWord 1 = .ok (.getfield 15, 3) := by decide +kernel
theorem dX5_isWord_4 : decode cX5_isWord 4 = .ok (.iconst 2, 1) := by decide +kernel
theorem dX5_isWord_5 : decode cX5_isWord 5 = .ok (.if_icmp .ne 19, 3) := by decide +kernel
theorem dX5_isWord_8 : decode cX5_isWord 8 = .ok (.aload_n 0, 1) := by decide +kernel
theorem dX5_isWord_9 : decode cX5_isWord 9 = .ok (.getfield 21, 3) := by decide +kernel
theorem dX5_isWord_12 : decode cX5_isWord 12 = .ok (.aload_n 0, 1) := by decide +kernel
theorem dX5_isWord_13 : decode cX5_isWord 13 = .ok (.getfield 18, 3) := by decide +kernel
theorem dX5_isWord_16 : decode cX5_isWord 16 = .ok (.isub, 1) := by decide +kernel
theorem dX5_isWord_17 : decode cX5_isWord 17 = .ok (.aload_n 1, 1) := by decide +kernel
theorem dX5_isWord_18 : decode cX5_isWord 18 = .ok (.invokevirtual 54, 3) := by decide +kernel
theorem dX5_isWord_21 : decode cX5_isWord 21 = .ok (.if_icmp .eq 5, 3) := by decide +kernel
theorem dX5_isWord_24 : decode cX5_isWord 24 = .ok (.iconst 0, 1) := by decide +kernel
theorem dX5_isWord_25 : decode cX5_isWord 25 = .ok (.ireturn, 1) := by decide +kernel
theorem dX5_isWord_26 : decode cX5_isWord 26 = .ok (.iconst 0, 1) := by decide +kernel
theorem dX5_isWord_27 : decode cX5_isWord 27 = .ok (.istore_n 2, 1) := by decide +kernel
theorem dX5_isWord_28 : decode cX5_isWord 28 = .ok (.iload_n 2, 1) := by decide +kernel
theorem dX5_isWord_29 : decode cX5_isWord 29 = .ok (.aload_n 1, 1) := by decide +kernel
theorem dX5_isWord_30 : decode cX5_isWord 30 = .ok (.invokevirtual 54, 3) := by decide +kernel
theorem dX5_isWord_33 : decode cX5_isWord 33 = .ok (.if_icmp .ge 30, 3) := by decide +kernel
theorem dX5_isWord_36 : decode cX5_isWord 36 = .ok (.aload_n 0, 1) := by decide +kernel
theorem dX5_isWord_37 : decode cX5_isWord 37 = .ok (.getfield 30, 3) := by decide +kernel
theorem dX5_isWord_40 : decode cX5_isWord 40 = .ok (.aload_n 0, 1) := by decide +kernel
theorem dX5_isWord_41 : decode cX5_isWord 41 = .ok (.getfield 18, 3) := by decide +kernel
theorem dX5_isWord_44 : decode cX5_isWord 44 = .ok (.iload_n 2, 1) := by decide +kernel
theorem dX5_isWord_45 : decode cX5_isWord 45 = .ok (.iadd, 1) := by decide +kernel
theorem dX5_isWord_46 : decode cX5_isWord 46 = .ok (.baload, 1) := by decide +kernel
theorem dX5_isWord_47 : decode cX5_isWord 47 = .ok (.aload_n 1, 1) := by decide +kernel
theorem dX5_isWord_48 : decode cX5_isWord 48 = .ok (.iload_n 2, 1) := by decide +kernel
theorem dX5_isWord_49 : decode cX5_isWord 49 = .ok (.invokevirtual 59, 3) := by decide +kernel
theorem dX5_isWord_52 : decode cX5_isWord 52 = .ok (.if_icmp .eq 5, 3) := by decide +kernel
theorem dX5_isWord_55 : decode cX5_isWord 55 = .ok (.iconst 0, 1) := by decide +kernel
theorem dX5_isWord_56 : decode cX5_isWord 56 = .ok (.ireturn, 1) := by decide +kernel
theorem dX5_isWord_57 : decode cX5_isWord 57 = .ok (.iinc 2 1, 3) := by decide +kernel
theorem dX5_isWord_60 : decode cX5_isWord 60 = .ok (.goto (-32), 3) := by decide +kernel
theorem dX5_isWord_63 : decode cX5_isWord 63 = .ok (.iconst 1, 1) := by decide +kernel
theorem dX5_isWord_64 : decode cX5_isWord 64 = .ok (.ireturn, 1) := by decide +kernel
theorem dX5_isSign_0 : decode cX5_isSign 0 = .ok (.aload_n 0, 1) := by decide +kernel
theorem dX5_isSign_1 : decode cX5_isSign 1 = .ok (.getfield 15, 3) := by decide +kernel
theorem dX5_isSign_4 : decode cX5_isSign 4 = .ok (.iconst 3, 1) := by decide +kernel
theorem dX5_isSign_5 : decode cX5_isSign 5 = .ok (.if_icmp .ne 20, 3) := by decide +kernel
theorem dX5_isSign_8 : decode cX5_isSign 8 = .ok (.aload_n 0, 1) := by decide +kernel
theorem dX5_isSign_9 : decode cX5_isSign 9 = .ok (.getfield 30, 3) := by decide +kernel
theorem dX5_isSign_12 : decode cX5_isSign 12 = .ok (.aload_n 0, 1) := by decide +kernel
theorem dX5_isSign_13 : decode cX5_isSign 13 = .ok (.getfield 18, 3) := by decide +kernel
theorem dX5_isSign_16 : decode cX5_isSign 16 = .ok (.baload, 1) := by decide +kernel
theorem dX5_isSign_17 : decode cX5_isSign 17 = .ok (.iload_n 1, 1) := by decide +kernel
theorem dX5_isSign_18 : decode cX5_isSign 18 = .ok (.if_icmp .ne 7, 3) := by decide +kernel
theorem dX5_isSign_21 : decode cX5_isSign 21 = .ok (.iconst 1, 1) := by decide +kernel
theorem dX5_isSign_22 : decode cX5_isSign 22 = .ok (.goto 4, 3) := by decide +kernel
theorem dX5_isSign_25 : decode cX5_isSign 25 = .ok (.iconst 0, 1) := by decide +kernel
theorem dX5_isSign_26 : decode cX5_isSign 26 = .ok (.ireturn, 1) := by decide +kernel
theorem dX5_passWord_0 : decode cX5_passWord 0 = .ok (.aload_n 0, 1) := by decide +kernel
theorem dX5_passWord_1 : decode cX5_passWord 1 = .ok (.aload_n 1, 1) := by decide +kernel
theorem dX5_passWord_2 : decode cX5_passWord 2 = .ok (.invokevirtual 63, 3) := by decide +kernel
theorem dX5_passWord_5 : decode cX5_passWord 5 = .ok (.istore_n 2, 1) := by decide +kernel
theorem dX5_passWord_6 : decode cX5_passWord 6 = .ok (.iload_n 2, 1) := by decide +kernel
theorem dX5_passWord_7 : decode cX5_passWord 7 = .ok (.ifCond .eq 7, 3) := by decide +kernel
theorem dX5_passWord_10 : decode cX5_passWord 10 = .ok (.aload_n 0, 1) := by decide +kernel
theorem dX5_passWord_11 : decode cX5_passWord 11 = .ok (.invokevirtual 40, 3) := by decide +kernel
theorem dX5_passWord_14 : decode cX5_passWord 14 = .ok (.iload_n 2, 1) := by decide +kernel
theorem dX5_passWord_15 : decode cX5_passWord 15 = .ok (.ireturn, 1) := by decide +kernel
theorem dX5_passSign_0 : decode cX5_passSign 0 = .ok (.aload_n 0, 1) := by decide +kernel
theorem dX5_passSign_1 : decode cX5_passSign 1 = .ok (.iload_n 1, 1) := by decide +kernel
theorem dX5_passSign_2 : decode cX5_passSign 2 = .ok (.invokevirtual 67, 3) := by decide +kernel
theorem dX5_passSign_5 : decode cX5_passSign 5 = .ok (.istore_n 2, 1) := by decide +kernel
theorem dX5_passSign_6 : decode cX5_passSign 6 = .ok (.iload_n 2, 1) := by decide +kernel
theorem dX5_passSign_7 : decode cX5_passSign 7 = .ok (.ifCond .eq 7, 3) := by decide +kernel
theorem dX5_passSign_10 : decode cX5_passSign 10 = .ok (.aload_n 0, 1) := by decide +kernel
theorem dX5_passSign_11 : decode cX5_passSign 11 = .ok (.invokevirtual 40, 3) := by decide +kernel
theorem dX5_passSign_14 : decode cX5_passSign 14 = .ok (.iload_n 2, 1) := by decide +kernel
theorem dX5_passSign_15 : decode cX5_passSign 15 = .ok (.ireturn, 1) := by decide +kernel
theorem dX5_needWord_0 : decode cX5_needWord 0 = .ok (.aload_n 0, 1) := by decide +kernel
theorem dX5_needWord_1 : decode cX5_needWord 1 = .ok (.aload_n 1, 1) := by decide +kernel
theorem dX5_needWord_2 : decode cX5_needWord 2 = .ok (.invokevirtual 71, 3) := by decide +kernel
theorem dX5_needWord_5 : decode cX5_needWord 5 = .ok (.ifCond .ne 9, 3) := by decide +kernel
theorem dX5_needWord_8 : decode cX5_needWord 8 = .ok (.aload_n 0, 1) := by decide +kernel
theorem dX5_needWord_9 : decode cX5_needWord 9 = .ok (.bipush (-2), 2) := by decide +kernel
theorem dX5_needWord_11 : decode cX5_needWord 11 = .ok (.invokevirtual 74, 3) := by decide +kernel
theorem dX5_needWord_14 : decode cX5_needWord 14 = .ok (.return_, 1) := by decide +kernel
theorem dX5_needSign_0 : decode cX5_needSign 0 = .ok (.aload_n 0, 1) := by decide +kernel
theorem dX5_needSign_1 : decode cX5_needSign 1 = .ok (.iload_n 1, 1) := by decide +kernel
theorem dX5_needSign_2 : decode cX5_needSign 2 = .ok (.invokevirtual 78, 3) := by decide +kernel
theorem dX5_needSign_5 : decode cX5_needSign 5 = .ok (.ifCond .ne 9, 3) := by decide +kernel
theorem dX5_needSign_8 : decode cX5_needSign 8 = .ok (.aload_n 0, 1) := by decide +kernel
theorem dX5_needSign_9 : decode cX5_needSign 9 = .ok (.bipush (-2), 2) := by decide +kernel
theorem dX5_needSign_11 : decode cX5_needSign 11 = .ok (.invokevirtual 74, 3) := by decide +kernel
theorem dX5_needSign_14 : decode cX5_needSign 14 = .ok (.return_, 1) := by decide +kernel
theorem dX5_needNumber_0 : decode cX5_needNumber 0 = .ok (.aload_n 0, 1) := by decide +kernel
theorem dX5_needNumber_1 : decode cX5_needNumber 1 = .ok (.getfield 15, 3) := by decide +kernel
theorem dX5_needNumber_4 : decode cX5_needNumber 4 = .ok (.iconst 1, 1) := by decide +kernel
theorem dX5_needNumber_5 : decode cX5_needNumber 5 = .ok (.if_icmp .eq 11, 3) := by decide +kernel
theorem dX5_needNumber_8 : decode cX5_needNumber 8 = .ok (.aload_n 0, 1) := by decide +kernel
theorem dX5_needNumber_9 : decode cX5_needNumber 9 = .ok (.bipush (-2), 2) := by decide +kernel
theorem dX5_needNumber_11 : decode cX5_needNumber 11 = .ok (.invokevirtual 74, 3) := by decide +kernel
theorem dX5_needNumber_14 : decode cX5_needNumber 14 = .ok (.iload_n 1, 1) := by decide +kernel
theorem dX5_needNumber_15 : decode cX5_needNumber 15 = .ok (.ireturn, 1) := by decide +kernel
theorem dX5_needNumber_16 : decode cX5_needNumber 16 = .ok (.aload_n 0, 1) := by decide +kernel
theorem dX5_needNumber_17 : decode cX5_needNumber 17 = .ok (.getfield 24, 3) := by decide +kernel
theorem dX5_needNumber_20 : decode cX5_needNumber 20 = .ok (.istore_n 3, 1) := by decide +kernel
theorem dX5_needNumber_21 : decode cX5_needNumber 21 = .ok (.iload_n 3, 1) := by decide +kernel
theorem dX5_needNumber_22 : decode cX5_needNumber 22 = .ok (.iload_n 1, 1) := by decide +kernel
theorem dX5_needNumber_23 : decode cX5_needNumber 23 = .ok (.if_icmp .lt 8, 3) := by decide +kernel
theorem dX5_needNumber_26 : decode cX5_needNumber 26 = .ok (.iload_n 3, 1) := by decide +kernel
theorem dX5_needNumber_27 : decode cX5_needNumber 27 = .ok (.iload_n 2, 1) := by decide +kernel
theorem dX5_needNumber_28 : decode cX5_needNumber 28 = .ok (.if_icmp .le 11, 3) := by decide +kernel
theorem dX5_needNumber_31 : decode cX5_needNumber 31 = .ok (.aload_n 0, 1) := by decide +kernel
theorem dX5_needNumber_32 : decode cX5_needNumber 32 = .ok (.bipush (-3), 2) := by decide +kernel
theorem dX5_needNumber_34 : decode cX5_needNumber 34 = .ok (.invokevirtual 74, 3) := by decide +kernel
theorem dX5_needNumber_37 : decode cX5_needNumber 37 = .ok (.iload_n 1, 1) := by decide +kernel
theorem dX5_needNumber_38 : decode cX5_needNumber 38 = .ok (.ireturn, 1) := by decide +kernel
theorem dX5_needNumber_39 : decode cX5_needNumber 39 = .ok (.aload_n 0, 1) := by decide +kernel
theorem dX5_needNumber_40 : decode cX5_needNumber 40 = .ok (.invokevirtual 40, 3) := by decide +kernel
theorem dX5_needNumber_43 : decode cX5_needNumber 43 = .ok (.iload_n 3, 1) := by decide +kernel
theorem dX5_needNumber_44 : decode cX5_needNumber 44 = .ok (.ireturn, 1) := by decide +kernel
theorem dX6_init_0 : decode cX6_init 0 = .ok (.aload_n 0, 1) := by decide +kernel
theorem dX6_init_1 : decode cX6_init 1 = .ok (.invokespecial 3, 3) := by decide +kernel
theorem dX6_init_4 : decode cX6_init 4 = .ok (.aload_n 0, 1) := by decide +kernel
theorem dX6_init_5 : decode cX6_init 5 = .ok (.sipush 700, 3) := by decide +kernel
theorem dX6_init_8 : decode cX6_init 8 = .ok (.newarray .byte, 2) := by decide +kernel
theorem dX6_init_10 : decode cX6_init 10 = .ok (.putfield 9, 3) := by decide +kernel
theorem dX6_init_13 : decode cX6_init 13 = .ok (.aload_n 0, 1) := by decide +kernel
theorem dX6_init_14 : decode cX6_init 14 = .ok (.new 13, 3) := by decide +kernel
theorem dX6_init_17 : decode cX6_init 17 = .ok (.dup, 1) := by decide +kernel
theorem dX6_init_18 : decode cX6_init 18 = .ok (.aload_n 0, 1) := by decide +kernel
theorem dX6_init_19 : decode cX6_init 19 = .ok (.getfield 9, 3) := by decide +kernel
theorem dX6_init_22 : decode cX6_init 22 = .ok (.invokespecial 15, 3) := by decide +kernel
theorem dX6_init_25 : decode cX6_init 25 = .ok (.putfield 18, 3) := by decide +kernel
theorem dX6_init_28 : decode cX6_init 28 = .ok (.aload_n 0, 1) := by decide +kernel
theorem dX6_init_29 : decode cX6_init 29 = .ok (.new 22, 3) := by decide +kernel
theorem dX6_init_32 : decode cX6_init 32 = .ok (.dup, 1) := by decide +kernel
theorem dX6_init_33 : decode cX6_init 33 = .ok (.invokespecial 24, 3) := by decide +kernel
theorem dX6_init_36 : decode cX6_init 36 = .ok (.putfield 25, 3) := by decide +kernel
theorem dX6_init_39 : decode cX6_init 39 = .ok (.aload_n 0, 1) := by decide +kernel
theorem dX6_init_40 : decode cX6_init 40 = .ok (.new 22, 3) := by decide +kernel
theorem dX6_init_43 : decode cX6_init 43 = .ok (.dup, 1) := by decide +kernel
theorem dX6_init_44 : decode cX6_init 44 = .ok (.invokespecial 24, 3) := by decide +kernel
theorem dX6_init_47 : decode cX6_init 47 = .ok (.putfield 29, 3) := by decide +kernel
theorem dX6_init_50 : decode cX6_init 50 = .ok (.aload_n 0, 1) := by decide +kernel
theorem dX6_init_51 : decode cX6_init 51 = .ok (.new 32, 3) := by decide +kernel
theorem dX6_init_54 : decode cX6_init 54 = .ok (.dup, 1) := by decide +kernel
theorem dX6_init_55 : decode cX6_init 55 = .ok (.invokespecial 34, 3) := by decide +kernel
theorem dX6_init_58 : decode cX6_init 58 = .ok (.putfield 35, 3) := by decide +kernel
theorem dX6_init_61 : decode cX6_init 61 = .ok (.aload_n 0, 1) := by decide +kernel
theorem dX6_init_62 : decode cX6_init 62 = .ok (.iconst 0, 1) := by decide +kernel
theorem dX6_init_63 : decode cX6_init 63 = .ok (.putfield 39, 3) := by decide +kernel
theorem dX6_init_66 : decode cX6_init 66 = .ok (.aload_n 0, 1) := by decide +kernel
theorem dX6_init_67 : decode cX6_init 67 = .ok (.iconst (-1), 1) := by decide +kernel
theorem dX6_init_68 : decode cX6_init 68 = .ok (.putfield 43, 3) := by decide +kernel
theorem dX6_init_71 : decode cX6_init 71 = .ok (.return_, 1) := by decide +kernel
theorem dX6_append_0 : decode cX6_append 0 = .ok (.aload_n 0, 1) := by decide +kernel
theorem dX6_append_1 : decode cX6_append 1 = .ok (.getfield 39, 3) := by decide +kernel
theorem dX6_append_4 : decode cX6_append 4 = .ok (.bipush 20, 2) := by decide +kernel
theorem dX6_append_6 : decode cX6_append 6 = .ok (.iadd, 1) := by decide +kernel
theorem dX6_append_7 : decode cX6_append 7 = .ok (.sipush 700, 3) := by decide +kernel
theorem dX6_append_10 : decode cX6_append 10 = .ok (.if_icmp .le 5, 3) := by decide +kernel
theorem dX6_append_13 : decode cX6_append 13 = .ok (.iconst (-1), 1) := by decide +kernel
theorem dX6_append_14 : decode cX6_append 14 = .ok (.ireturn, 1) := by decide +kernel
theorem dX6_append_15 : decode cX6_append 15 = .ok (.aload_n 0, 1) := by decide +kernel
theorem dX6_append_16 : decode cX6_append 16 = .ok (.aload_n 0, 1) := by decide +kernel
theorem dX6_append_17 : decode cX6_append 17 = .ok (.getfield 39, 3) := by decide +kernel
theorem dX6_append_20 : decode cX6_append 20 = .ok (.iload_n 1, 1) := by decide +kernel
theorem dX6_append_21 : decode cX6_append 21 = .ok (.invokevirtual 46, 3) := by decide +kernel
theorem dX6_append_24 : decode cX6_append 24 = .ok (.aload_n 0, 1) := by decide +kernel
theorem dX6_append_25 : decode cX6_append 25 = .ok (.aload_n 0, 1) := by decide +kernel
theorem dX6_append_26 : decode cX6_append 26 = .ok (.getfield 39, 3) := by decide +kernel
theorem dX6_append_29 : decode cX6_append 29 = .ok (.iconst 4, 1) := by decide +kernel
theorem dX6_append_30 : decode cX6_append 30 = .ok (.iadd, 1) := by decide +kernel
theorem dX6_append_31 : decode cX6_append 31 = .ok (.iload_n 2, 1) := by decide +kernel
theorem dX6_append_32 : decode cX6_append 32 = .ok (.invokevirtual 46, 3) := by decide +kernel
theorem dX6_append_35 : decode cX6_append 35 = .ok (.aload_n 0, 1) := by decide +kernel
theorem dX6_append_36 : decode cX6_append 36 = .ok (.aload_n 0, 1) := by decide +kernel
theorem dX6_append_37 : decode cX6_append 37 = .ok (.getfield 39, 3) := by decide +kernel
theorem dX6_append_40 : decode cX6_append 40 = .ok (.bipush 8, 2) := by decide +kernel
theorem dX6_append_42 : decode cX6_append 42 = .ok (.iadd, 1) := by decide +kernel
theorem dX6_append_43 : decode cX6_append 43 = .ok (.iload_n 3, 1) := by decide +kernel
theorem dX6_append_44 : decode cX6_append 44 = .ok (.invokevirtual 46, 3) := by decide +kernel
theorem dX6_append_47 : decode cX6_append 47 = .ok (.aload_n 0, 1) := by decide +kernel
theorem dX6_append_48 : decode cX6_append 48 = .ok (.aload_n 0, 1) := by decide +kernel
theorem dX6_append_49 : decode cX6_append 49 = .ok (.getfield 39, 3) := by decide +kernel
theorem dX6_append_52 : decode cX6_append 52 = .ok (.bipush 12, 2) := by decide +kernel
theorem dX6_append_54 : decode cX6_append 54 = .ok (.iadd, 1) := by decide +kernel
theorem dX6_append_55 : decode cX6_append 55 = .ok (.iload 4, 2) := by decide +kernel
theorem dX6_append_57 : decode cX6_append 57 = .ok (.invokevirtual 46, 3) := by decide +kernel
theorem dX6_append_60 : decode cX6_append 60 = .ok (.aload_n 0, 1) := by decide +kernel
theorem dX6_append_61 : decode cX6_append 61 = .ok (.aload_n 0, 1) := by decide +kernel
theorem dX6_append_62 : decode cX6_append 62 = .ok (.getfield 39, 3) := by decide +kernel
theorem dX6_append_65 : decode cX6_append 65 = .ok (.bipush 16, 2) := by decide +kernel
theorem dX6_append_67 : decode cX6_append 67 = .ok (.iadd, 1) := by decide +kernel
theorem dX6_append_68 : decode cX6_append 68 = .ok (.iload 5, 2) := by decide +kernel
theorem dX6_append_70 : decode cX6_append 70 = .ok (.invokevirtual 46, 3) := by decide +kernel
theorem dX6_append_73 : decode cX6_append 73 = .ok (.aload_n 0, 1) := by decide +kernel
theorem dX6_append_74 : decode cX6_append 74 = .ok (.dup, 1) := by decide +kernel
theorem dX6_append_75 : decode cX6_append 75 = .ok (.getfield 39, 3) := by decide +kernel
theorem dX6_append_78 : decode cX6_append 78 = .ok (.bipush 20, 2) := by decide +kernel
theorem dX6_append_80 : decode cX6_append 80 = .ok (.iadd, 1) := by decide +kernel
theorem dX6_append_81 : decode cX6_append 81 = .ok (.putfield 39, 3) := by decide +kernel
theorem dX6_append_84 : decode cX6_append 84 = .ok (.aload_n 0, 1) := by decide +kernel
theorem dX6_append_85 : decode cX6_append 85 = .ok (.getfield 39, 3) := by decide +kernel
theorem dX6_append_88 : decode cX6_append 88 = .ok (.ireturn, 1) := by decide +kernel
theorem dX6_load_0 : decode cX6_load 0 = .ok (.iload_n 1, 1) := by decide +kernel
theorem dX6_load_1 : decode cX6_load 1 = .ok (.ifCond .lt 11, 3) := by decide +kernel
theorem dX6_load_4 : decode cX6_load 4 = .ok (.iload_n 1, 1) := by decide +kernel
theorem dX6_load_5 : decode cX6_load 5 = .ok (.aload_n 0, 1) := by decide +kernel
theorem dX6_load_6 : decode cX6_load 6 = .ok (.getfield 39, 3) := by decide +kernel
theorem dX6_load_9 : decode cX6_load 9 = .ok (.if_icmp .le 13, 3) := by decide +kernel
theorem dX6_load_12 : decode cX6_load 12 = .ok (.new 50, 3) := by decide +kernel
theorem dX6_load_15 : decode cX6_load 15 = .ok (.dup, 1) := by decide +kernel
theorem dX6_load_16 : decode cX6_load 16 = .ok (.ldc 52, 2) := by decide +kernel
theorem dX6_load_18 : decode cX6_load 18 = .ok (.invokespecial 54, 3) := by decide +kernel
theorem dX6_load_21 : decode cX6_load 21 = .ok (.athrow, 1) := by decide +kernel
theorem dX6_load_22 : decode cX6_load 22 = .ok (.aload_n 0, 1) := by decide +kernel
theorem dX6_load_23 : decode cX6_load 23 = .ok (.iconst 0, 1) := by decide +kernel
theorem dX6_load_24 : decode cX6_load 24 = .ok (.putfield 39, 3) := by decide +kernel
theorem dX6_load_27 : decode cX6_load 27 = .ok (.aload_n 0, 1) := by decide +kernel
theorem dX6_load_28 : decode cX6_load 28 = .ok (.getfield 18, 3) := by decide +kernel
theorem dX6_load_31 : decode cX6_load 31 = .ok (.iload_n 1, 1) := by decide +kernel
theorem dX6_load_32 : decode cX6_load 32 = .ok (.aload_n 0, 1) := by decide +kernel
theorem dX6_load_33 : decode cX6_load 33 = .ok (.getfield 29, 3) := by decide +kernel
theorem dX6_load_36 : decode cX6_load 36 = .ok (.invokevirtual 57, 3) := by decide +kernel
theorem dX6_load_39 : decode cX6_load 39 = .ok (.istore_n 2, 1) := by decide +kernel
theorem dX6_load_40 : decode cX6_load 40 = .ok (.aload_n 0, 1) := by decide +kernel
theorem dX6_load_41 : decode cX6_load 41 = .ok (.aload_n 0, 1) := by decide +kernel
theorem dX6_load_42 : decode cX6_load 42 = .ok (.getfield 18, 3) := by decide +kernel
theorem dX6_load_45 : decode cX6_load 45 = .ok (.invokevirtual 61, 3) := by decide +kernel
theorem dX6_load_48 : decode cX6_load 48 = .ok (.putfield 43, 3) := by decide +kernel
theorem dX6_load_51 : decode cX6_load 51 = .ok (.iload_n 2, 1) := by decide +kernel
theorem dX6_load_52 : decode cX6_load 52 = .ok (.ifCond .eq 5, 3) := by decide +kernel
theorem dX6_load_55 : decode cX6_load 55 = .ok (.iload_n 2, 1) := by decide +kernel
theorem dX6_load_56 : decode cX6_load 56 = .ok (.ireturn, 1) := by decide +kernel
theorem dX6_load_57 : decode cX6_load 57 = .ok (.aload_n 0, 1) := by decide +kernel
theorem dX6_load_58 : decode cX6_load 58 = .ok (.getfield 35, 3) := by decide +kernel
theorem dX6_load_61 : decode cX6_load 61 = .ok (.aload_n 0, 1) := by decide +kernel
theorem dX6_load_62 : decode cX6_load 62 = .ok (.getfield 25, 3) := by decide +kernel
theorem dX6_load_65 : decode cX6_load 65 = .ok (.invokevirtual 65, 3) := by decide +kernel
theorem dX6_load_68 : decode cX6_load 68 = .ok (.aload_n 0, 1) := by decide +kernel
theorem dX6_load_69 : decode cX6_load 69 = .ok (.getfield 25, 3) := by decide +kernel
theorem dX6_load_72 : decode cX6_load 72 = .ok (.aload_n 0, 1) := by decide +kernel
theorem dX6_load_73 : decode cX6_load 73 = .ok (.getfield 29, 3) := by decide +kernel
theorem dX6_load_76 : decode cX6_load 76 = .ok (.invokevirtual 69, 3) := by decide +kernel
theorem dX6_load_79 : decode cX6_load 79 = .ok (.aload_n 0, 1) := by decide +kernel
theorem dX6_load_80 : decode cX6_load 80 = .ok (.getfield 25, 3) := by decide +kernel
theorem dX6_load_83 : decode cX6_load 83 = .ok (.getfield 72, 3) := by decide +kernel
theorem dX6_load_86 : decode cX6_load 86 = .ok (.ireturn, 1) := by decide +kernel
theorem dX6_errorOffset_0 : decode cX6_errorOffset 0 = .ok (.aload_n 0, 1) := by decide +kernel
theorem dX6_errorOffset_1 : decode cX6_errorOffset 1 = .ok (.getfield 43, 3) := by decide +kernel
theorem dX6_errorOffset_4 : decode cX6_errorOffset 4 = .ok (.ireturn, 1) := by decide +kernel
theorem dX6_roleCount_0 : decode cX6_roleCount 0 = .ok (.aload_n 0, 1) := by decide +kernel
theorem dX6_roleCount_1 : decode cX6_roleCount 1 = .ok (.getfield 25, 3) := by decide +kernel
theorem dX6_roleCount_4 : decode cX6_roleCount 4 = .ok (.getfield 75, 3) := by decide +kernel
theorem dX6_roleCount_7 : decode cX6_roleCount 7 = .ok (.ireturn, 1) := by decide +kernel
theorem dX6_ruleCount_0 : decode cX6_ruleCount 0 = .ok (.aload_n 0, 1) := by decide +kernel
theorem dX6_ruleCount_1 : decode cX6_ruleCount 1 = .ok (.getfield 25, 3) := by decide +kernel
theorem dX6_ruleCount_4 : decode cX6_ruleCount 4 = .ok (.getfield 72, 3) := by decide +kernel
theorem dX6_ruleCount_7 : decode cX6_ruleCount 7 = .ok (.ireturn, 1) := by decide +kernel
theorem dX6_colour_0 : decode cX6_colour 0 = .ok (.aload_n 0, 1) := by decide +kernel
theorem dX6_colour_1 : decode cX6_colour 1 = .ok (.iload_n 1, 1) := by decide +kernel
theorem dX6_colour_2 : decode cX6_colour 2 = .ok (.invokevirtual 78, 3) := by decide +kernel
theorem dX6_colour_5 : decode cX6_colour 5 = .ok (.aload_n 0, 1) := by decide +kernel
theorem dX6_colour_6 : decode cX6_colour 6 = .ok (.iload_n 2, 1) := by decide +kernel
theorem dX6_colour_7 : decode cX6_colour 7 = .ok (.invokevirtual 82, 3) := by decide +kernel
theorem dX6_colour_10 : decode cX6_colour 10 = .ok (.aload_n 0, 1) := by decide +kernel
theorem dX6_colour_11 : decode cX6_colour 11 = .ok (.getfield 25, 3) := by decide +kernel
theorem dX6_colour_14 : decode cX6_colour 14 = .ok (.getfield 85, 3) := by decide +kernel
theorem dX6_colour_17 : decode cX6_colour 17 = .ok (.iload_n 2, 1) := by decide +kernel
theorem dX6_colour_18 : decode cX6_colour 18 = .ok (.aaload, 1) := by decide +kernel
theorem dX6_colour_19 : decode cX6_colour 19 = .ok (.iload_n 1, 1) := by decide +kernel
theorem dX6_colour_20 : decode cX6_colour 20 = .ok (.iaload, 1) := by decide +kernel
theorem dX6_colour_21 : decode cX6_colour 21 = .ok (.ireturn, 1) := by decide +kernel
theorem dX6_isFixed_0 : decode cX6_isFixed 0 = .ok (.aload_n 0, 1) := by decide +kernel
theorem dX6_isFixed_1 : decode cX6_isFixed 1 = .ok (.iload_n 1, 1) := by decide +kernel
theorem dX6_isFixed_2 : decode cX6_isFixed 2 = .ok (.invokevirtual 78, 3) := by decide +kernel
theorem dX6_isFixed_5 : decode cX6_isFixed 5 = .ok (.aload_n 0, 1) := by decide +kernel
theorem dX6_isFixed_6 : decode cX6_isFixed 6 = .ok (.getfield 25, 3) := by decide +kernel
theorem dX6_isFixed_9 : decode cX6_isFixed 9 = .ok (.getfield 89, 3) := by decide +kernel
theorem dX6_isFixed_12 : decode cX6_isFixed 12 = .ok (.iload_n 1, 1) := by decide +kernel
theorem dX6_isFixed_13 : decode cX6_isFixed 13 = .ok (.baload, 1) := by decide +kernel
theorem dX6_isFixed_14 : decode cX6_isFixed 14 = .ok (.ireturn, 1) := by decide +kernel
theorem dX6_luminance_0 : decode cX6_luminance 0 = .ok (.aload_n 0, 1) := by decide +kernel
theorem dX6_luminance_1 : decode cX6_luminance 1 = .ok (.iload_n 1, 1) := by decide +kernel
theorem dX6_luminance_2 : decode cX6_luminance 2 = .ok (.invokevirtual 78, 3) := by decide +kernel
theorem dX6_luminance_5 : decode cX6_luminance 5 = .ok (.aload_n 0, 1) := by decide +kernel
theorem dX6_luminance_6 : decode cX6_luminance 6 = .ok (.iload_n 2, 1) := by decide +kernel
theorem dX6_luminance_7 : decode cX6_luminance 7 = .ok (.invokevirtual 82, 3) := by decide +kernel
theorem dX6_luminance_10 : decode cX6_luminance 10 = .ok (.aload_n 0, 1) := by decide +kernel
theorem dX6_luminance_11 : decode cX6_luminance 11 = .ok (.getfield 25, 3) := by decide +kernel
theorem dX6_luminance_14 : decode cX6_luminance 14 = .ok (.getfield 85, 3) := by decide +kernel
theorem dX6_luminance_17 : decode cX6_luminance 17 = .ok (.iload_n 2, 1) := by decide +kernel
theorem dX6_luminance_18 : decode cX6_luminance 18 = .ok (.aaload, 1) := by decide +kernel
theorem dX6_luminance_19 : decode cX6_luminance 19 = .ok (.iload_n 1, 1) := by decide +kernel
theorem dX6_luminance_20 : decode cX6_luminance 20 = .ok (.iaload, 1) := by decide +kernel
theorem dX6_luminance_21 : decode cX6_luminance 21 = .ok (.invokestatic 93, 3) := by decide +kernel
theorem dX6_luminance_24 : decode cX6_luminance 24 = .ok (.ireturn, 1) := by decide +kernel
theorem dX6_contrast_0 : decode cX6_contrast 0 = .ok (.aload_n 0, 1) := by decide +kernel
theorem dX6_contrast_1 : decode cX6_contrast 1 = .ok (.iload_n 1, 1) := by decide +kernel
theorem dX6_contrast_2 : decode cX6_contrast 2 = .ok (.invokevirtual 78, 3) := by decide +kernel
theorem dX6_contrast_5 : decode cX6_contrast 5 = .ok (.aload_n 0, 1) := by decide +kernel
theorem dX6_contrast_6 : decode cX6_contrast 6 = .ok (.iload_n 2, 1) := by decide +kernel
theorem dX6_contrast_7 : decode cX6_contrast 7 = .ok (.invokevirtual 78, 3) := by decide +kernel
theorem dX6_contrast_10 : decode cX6_contrast 10 = .ok (.aload_n 0, 1) := by decide +kernel
theorem dX6_contrast_11 : decode cX6_contrast 11 = .ok (.iload_n 3, 1) := by decide +kernel
theorem dX6_contrast_12 : decode cX6_contrast 12 = .ok (.invokevirtual 82, 3) := by decide +kernel
theorem dX6_contrast_15 : decode cX6_contrast 15 = .ok (.aload_n 0, 1) := by decide +kernel
theorem dX6_contrast_16 : decode cX6_contrast 16 = .ok (.getfield 25, 3) := by decide +kernel
theorem dX6_contrast_19 : decode cX6_contrast 19 = .ok (.getfield 85, 3) := by decide +kernel
theorem dX6_contrast_22 : decode cX6_contrast 22 = .ok (.iload_n 3, 1) := by decide +kernel
theorem dX6_contrast_23 : decode cX6_contrast 23 = .ok (.aaload, 1) := by decide +kernel
theorem dX6_contrast_24 : decode cX6_contrast 24 = .ok (.iload_n 1, 1) := by decide +kernel
theorem dX6_contrast_25 : decode cX6_contrast 25 = .ok (.iaload, 1) := by decide +kernel
theorem dX6_contrast_26 : decode cX6_contrast 26 = .ok (.aload_n 0, 1) := by decide +kernel
theorem dX6_contrast_27 : decode cX6_contrast 27 = .ok (.getfield 25, 3) := by decide +kernel
theorem dX6_contrast_30 : decode cX6_contrast 30 = .ok (.getfield 85, 3) := by decide +kernel
theorem dX6_contrast_33 : decode cX6_contrast 33 = .ok (.iload_n 3, 1) := by decide +kernel
theorem dX6_contrast_34 : decode cX6_contrast 34 = .ok (.aaload, 1) := by decide +kernel
theorem dX6_contrast_35 : decode cX6_contrast 35 = .ok (.iload_n 2, 1) := by decide +kernel
theorem dX6_contrast_36 : decode cX6_contrast 36 = .ok (.iaload, 1) := by decide +kernel
theorem dX6_contrast_37 : decode cX6_contrast 37 = .ok (.invokestatic 99, 3) := by decide +kernel
theorem dX6_contrast_40 : decode cX6_contrast 40 = .ok (.ireturn, 1) := by decide +kernel
theorem dX6_seen_0 : decode cX6_seen 0 = .ok (.aload_n 0, 1) := by decide +kernel
theorem dX6_seen_1 : decode cX6_seen 1 = .ok (.iload_n 1, 1) := by decide +kernel
theorem dX6_seen_2 : decode cX6_seen 2 = .ok (.invokevirtual 78, 3) := by decide +kernel
theorem dX6_seen_5 : decode cX6_seen 5 = .ok (.aload_n 0, 1) := by decide +kernel
theorem dX6_seen_6 : decode cX6_seen 6 = .ok (.iload_n 2, 1) := by decide +kernel
theorem dX6_seen_7 : decode cX6_seen 7 = .ok (.invokevirtual 82, 3) := by decide +kernel
theorem dX6_seen_10 : decode cX6_seen 10 = .ok (.aload_n 0, 1) := by decide +kernel
theorem dX6_seen_11 : decode cX6_seen 11 = .ok (.iload_n 3, 1) := by decide +kernel
theorem dX6_seen_12 : decode cX6_seen 12 = .ok (.invokevirtual 103, 3) := by decide +kernel
theorem dX6_seen_15 : decode cX6_seen 15 = .ok (.aload_n 0, 1) := by decide +kernel
theorem dX6_seen_16 : decode cX6_seen 16 = .ok (.getfield 25, 3) := by decide +kernel
theorem dX6_seen_19 : decode cX6_seen 19 = .ok (.getfield 85, 3) := by decide +kernel
theorem dX6_seen_22 : decode cX6_seen 22 = .ok (.iload_n 2, 1) := by decide +kernel
theorem dX6_seen_23 : decode cX6_seen 23 = .ok (.aaload, 1) := by decide +kernel
theorem dX6_seen_24 : decode cX6_seen 24 = .ok (.iload_n 1, 1) := by decide +kernel
theorem dX6_seen_25 : decode cX6_seen 25 = .ok (.iaload, 1) := by decide +kernel
theorem dX6_seen_26 : decode cX6_seen 26 = .ok (.iload_n 3, 1) := by decide +kernel
theorem dX6_seen_27 : decode cX6_seen 27 = .ok (.invokestatic 106, 3) := by decide +kernel
theorem dX6_seen_30 : decode cX6_seen 30 = .ok (.ireturn, 1) := by decide +kernel
theorem dX6_difference_0 : decode cX6_difference 0 = .ok (.aload_n 0, 1) := by decide +kernel
theorem dX6_difference_1 : decode cX6_difference 1 = .ok (.iload_n 1, 1) := by decide +kernel
theorem dX6_difference_2 : decode cX6_difference 2 = .ok (.invokevirtual 78, 3) := by decide +kernel
theorem dX6_difference_5 : decode cX6_difference 5 = .ok (.aload_n 0, 1) := by decide +kernel
theorem dX6_difference_6 : decode cX6_difference 6 = .ok (.iload_n 2, 1) := by decide +kernel
theorem dX6_difference_7 : decode cX6_difference 7 = .ok (.invokevirtual 78, 3) := by decide +kernel
theorem dX6_difference_10 : decode cX6_difference 10 = .ok (.aload_n 0, 1) := by decide +kernel
theorem dX6_difference_11 : decode cX6_difference 11 = .ok (.iload_n 3, 1) := by decide +kernel
theorem dX6_difference_12 : decode cX6_difference 12 = .ok (.invokevirtual 82, 3) := by decide +kernel
theorem dX6_difference_15 : decode cX6_difference 15 = .ok (.aload_n 0, 1) := by decide +kernel
theorem dX6_difference_16 : decode cX6_difference 16 = .ok (.iload 4, 2) := by decide +kernel
theorem dX6_difference_18 : decode cX6_difference 18 = .ok (.invokevirtual 103, 3) := by decide +kernel
theorem dX6_difference_21 : decode cX6_difference 21 = .ok (.aload_n 0, 1) := by decide +kernel
theorem dX6_difference_22 : decode cX6_difference 22 = .ok (.getfield 25, 3) := by decide +kernel
theorem dX6_difference_25 : decode cX6_difference 25 = .ok (.getfield 85, 3) := by decide +kernel
theorem dX6_difference_28 : decode cX6_difference 28 = .ok (.iload_n 3, 1) := by decide +kernel
theorem dX6_difference_29 : decode cX6_difference 29 = .ok (.aaload, 1) := by decide +kernel
theorem dX6_difference_30 : decode cX6_difference 30 = .ok (.iload_n 1, 1) := by decide +kernel
theorem dX6_difference_31 : decode cX6_difference 31 = .ok (.iaload, 1) := by decide +kernel
theorem dX6_difference_32 : decode cX6_difference 32 = .ok (.aload_n 0, 1) := by decide +kernel
theorem dX6_difference_33 : decode cX6_difference 33 = .ok (.getfield 25, 3) := by decide +kernel
theorem dX6_difference_36 : decode cX6_difference 36 = .ok (.getfield 85, 3) := by decide +kernel
theorem dX6_difference_39 : decode cX6_difference 39 = .ok (.iload_n 3, 1) := by decide +kernel
theorem dX6_difference_40 : decode cX6_difference 40 = .ok (.aaload, 1) := by decide +kernel
theorem dX6_difference_41 : decode cX6_difference 41 = .ok (.iload_n 2, 1) := by decide +kernel
theorem dX6_difference_42 : decode cX6_difference 42 = .ok (.iaload, 1) := by decide +kernel
theorem dX6_difference_43 : decode cX6_difference 43 = .ok (.iload 4, 2) := by decide +kernel
theorem dX6_difference_45 : decode cX6_difference 45 = .ok (.invokestatic 109, 3) := by decide +kernel
theorem dX6_difference_48 : decode cX6_difference 48 = .ok (.ireturn, 1) := by decide +kernel
theorem dX6_nearest_0 : decode cX6_nearest 0 = .ok (.aload_n 0, 1) := by decide +kernel
theorem dX6_nearest_1 : decode cX6_nearest 1 = .ok (.iload_n 2, 1) := by decide +kernel
theorem dX6_nearest_2 : decode cX6_nearest 2 = .ok (.invokevirtual 82, 3) := by decide +kernel
theorem dX6_nearest_5 : decode cX6_nearest 5 = .ok (.aload_n 0, 1) := by decide +kernel
theorem dX6_nearest_6 : decode cX6_nearest 6 = .ok (.iload_n 1, 1) := by decide +kernel
theorem dX6_nearest_7 : decode cX6_nearest 7 = .ok (.invokevirtual 113, 3) := by decide +kernel
theorem dX6_nearest_10 : decode cX6_nearest 10 = .ok (.aload_n 0, 1) := by decide +kernel
theorem dX6_nearest_11 : decode cX6_nearest 11 = .ok (.getfield 25, 3) := by decide +kernel
theorem dX6_nearest_14 : decode cX6_nearest 14 = .ok (.iload_n 1, 1) := by decide +kernel
theorem dX6_nearest_15 : decode cX6_nearest 15 = .ok (.iload_n 2, 1) := by decide +kernel
theorem dX6_nearest_16 : decode cX6_nearest 16 = .ok (.invokevirtual 116, 3) := by decide +kernel
theorem dX6_nearest_19 : decode cX6_nearest 19 = .ok (.ireturn, 1) := by decide +kernel
theorem dX6_need_0 : decode cX6_need 0 = .ok (.aload_n 0, 1) := by decide +kernel
theorem dX6_need_1 : decode cX6_need 1 = .ok (.iload_n 1, 1) := by decide +kernel
theorem dX6_need_2 : decode cX6_need 2 = .ok (.invokevirtual 119, 3) := by decide +kernel
theorem dX6_need_5 : decode cX6_need 5 = .ok (.aload_n 0, 1) := by decide +kernel
theorem dX6_need_6 : decode cX6_need 6 = .ok (.iload_n 2, 1) := by decide +kernel
theorem dX6_need_7 : decode cX6_need 7 = .ok (.invokevirtual 82, 3) := by decide +kernel
theorem dX6_need_10 : decode cX6_need 10 = .ok (.aload_n 0, 1) := by decide +kernel
theorem dX6_need_11 : decode cX6_need 11 = .ok (.getfield 25, 3) := by decide +kernel
theorem dX6_need_14 : decode cX6_need 14 = .ok (.getfield 122, 3) := by decide +kernel
theorem dX6_need_17 : decode cX6_need 17 = .ok (.iload_n 2, 1) := by decide +kernel
theorem dX6_need_18 : decode cX6_need 18 = .ok (.aaload, 1) := by decide +kernel
theorem dX6_need_19 : decode cX6_need 19 = .ok (.iload_n 1, 1) := by decide +kernel
theorem dX6_need_20 : decode cX6_need 20 = .ok (.iaload, 1) := by decide +kernel
theorem dX6_need_21 : decode cX6_need 21 = .ok (.ireturn, 1) := by decide +kernel
theorem dX6_value_0 : decode cX6_value 0 = .ok (.aload_n 0, 1) := by decide +kernel
theorem dX6_value_1 : decode cX6_value 1 = .ok (.iload_n 1, 1) := by decide +kernel
theorem dX6_value_2 : decode cX6_value 2 = .ok (.invokevirtual 119, 3) := by decide +kernel
theorem dX6_value_5 : decode cX6_value 5 = .ok (.aload_n 0, 1) := by decide +kernel
theorem dX6_value_6 : decode cX6_value 6 = .ok (.iload_n 2, 1) := by decide +kernel
theorem dX6_value_7 : decode cX6_value 7 = .ok (.invokevirtual 82, 3) := by decide +kernel
theorem dX6_value_10 : decode cX6_value 10 = .ok (.aload_n 0, 1) := by decide +kernel
theorem dX6_value_11 : decode cX6_value 11 = .ok (.getfield 25, 3) := by decide +kernel
theorem dX6_value_14 : decode cX6_value 14 = .ok (.iload_n 1, 1) := by decide +kernel
theorem dX6_value_15 : decode cX6_value 15 = .ok (.iload_n 2, 1) := by decide +kernel
theorem dX6_value_16 : decode cX6_value 16 = .ok (.invokevirtual 125, 3) := by decide +kernel
theorem dX6_value_19 : decode cX6_value 19 = .ok (.ireturn, 1) := by decide +kernel
theorem dX6_violations_0 : decode cX6_violations 0 = .ok (.aload_n 0, 1) := by decide +kernel
theorem dX6_violations_1 : decode cX6_violations 1 = .ok (.getfield 25, 3) := by decide +kernel
theorem dX6_violations_4 : decode cX6_violations 4 = .ok (.iconst 0, 1) := by decide +kernel
theorem dX6_violations_5 : decode cX6_violations 5 = .ok (.invokevirtual 128, 3) := by decide +kernel
theorem dX6_violations_8 : decode cX6_violations 8 = .ok (.aload_n 0, 1) := by decide +kernel
theorem dX6_violations_9 : decode cX6_violations 9 = .ok (.getfield 25, 3) := by decide +kernel
theorem dX6_violations_12 : decode cX6_violations 12 = .ok (.iconst 1, 1) := by decide +kernel
theorem dX6_violations_13 : decode cX6_violations 13 = .ok (.invokevirtual 128, 3) := by decide +kernel
theorem dX6_violations_16 : decode cX6_violations 16 = .ok (.iadd, 1) := by decide +kernel
theorem dX6_violations_17 : decode cX6_violations 17 = .ok (.ireturn, 1) := by decide +kernel
theorem dX6_violation_0 : decode cX6_violation 0 = .ok (.aload_n 0, 1) := by decide +kernel
theorem dX6_violation_1 : decode cX6_violation 1 = .ok (.getfield 25, 3) := by decide +kernel
theorem dX6_violation_4 : decode cX6_violation 4 = .ok (.iload_n 1, 1) := by decide +kernel
theorem dX6_violation_5 : decode cX6_violation 5 = .ok (.invokevirtual 131, 3) := by decide +kernel
theorem dX6_violation_8 : decode cX6_violation 8 = .ok (.istore_n 2, 1) := by decide +kernel
theorem dX6_violation_9 : decode cX6_violation 9 = .ok (.iload_n 2, 1) := by decide +kernel
theorem dX6_violation_10 : decode cX6_violation 10 = .ok (.ifCond .ge 13, 3) := by decide +kernel
theorem dX6_violation_13 : decode cX6_violation 13 = .ok (.new 134, 3) := by decide +kernel
theorem dX6_violation_16 : decode cX6_violation 16 = .ok (.dup, 1) := by decide +kernel
theorem dX6_violation_17 : decode cX6_violation 17 = .ok (.ldc 136, 2) := by decide +kernel
theorem dX6_violation_19 : decode cX6_violation 19 = .ok (.invokespecial 138, 3) := by decide +kernel
theorem dX6_violation_22 : decode cX6_violation 22 = .ok (.athrow, 1) := by decide +kernel
theorem dX6_violation_23 : decode cX6_violation 23 = .ok (.bipush 10, 2) := by decide +kernel
theorem dX6_violation_25 : decode cX6_violation 25 = .ok (.iload_n 2, 1) := by decide +kernel
theorem dX6_violation_26 : decode cX6_violation 26 = .ok (.iconst 2, 1) := by decide +kernel
theorem dX6_violation_27 : decode cX6_violation 27 = .ok (.idiv, 1) := by decide +kernel
theorem dX6_violation_28 : decode cX6_violation 28 = .ok (.imul, 1) := by decide +kernel
theorem dX6_violation_29 : decode cX6_violation 29 = .ok (.iload_n 2, 1) := by decide +kernel
theorem dX6_violation_30 : decode cX6_violation 30 = .ok (.iconst 2, 1) := by decide +kernel
theorem dX6_violation_31 : decode cX6_violation 31 = .ok (.irem, 1) := by decide +kernel
theorem dX6_violation_32 : decode cX6_violation 32 = .ok (.iadd, 1) := by decide +kernel
theorem dX6_violation_33 : decode cX6_violation 33 = .ok (.ireturn, 1) := by decide +kernel
theorem dX6_smallestMargin_0 : decode cX6_smallestMargin 0 = .ok (.aload_n 0, 1) := by decide +kernel
theorem dX6_smallestMargin_1 : decode cX6_smallestMargin 1 = .ok (.iload_n 1, 1) := by decide +kernel
theorem dX6_smallestMargin_2 : decode cX6_smallestMargin 2 = .ok (.invokevirtual 82, 3) := by decide +kernel
theorem dX6_smallestMargin_5 : decode cX6_smallestMargin 5 = .ok (.aload_n 0, 1) := by decide +kernel
theorem dX6_smallestMargin_6 : decode cX6_smallestMargin 6 = .ok (.getfield 25, 3) := by decide +kernel
theorem dX6_smallestMargin_9 : decode cX6_smallestMargin 9 = .ok (.iload_n 1, 1) := by decide +kernel
theorem dX6_smallestMargin_10 : decode cX6_smallestMargin 10 = .ok (.invokevirtual 139, 3) := by decide +kernel
theorem dX6_smallestMargin_13 : decode cX6_smallestMargin 13 = .ok (.ireturn, 1) := by decide +kernel
theorem dX6_bestShift_0 : decode cX6_bestShift 0 = .ok (.aload_n 0, 1) := by decide +kernel
theorem dX6_bestShift_1 : decode cX6_bestShift 1 = .ok (.iload_n 1, 1) := by decide +kernel
theorem dX6_bestShift_2 : decode cX6_bestShift 2 = .ok (.invokevirtual 119, 3) := by decide +kernel
theorem dX6_bestShift_5 : decode cX6_bestShift 5 = .ok (.aload_n 0, 1) := by decide +kernel
theorem dX6_bestShift_6 : decode cX6_bestShift 6 = .ok (.iload_n 2, 1) := by decide +kernel
theorem dX6_bestShift_7 : decode cX6_bestShift 7 = .ok (.invokevirtual 82, 3) := by decide +kernel
theorem dX6_bestShift_10 : decode cX6_bestShift 10 = .ok (.aload_n 0, 1) := by decide +kernel
theorem dX6_bestShift_11 : decode cX6_bestShift 11 = .ok (.getfield 25, 3) := by decide +kernel
theorem dX6_bestShift_14 : decode cX6_bestShift 14 = .ok (.iload_n 1, 1) := by decide +kernel
theorem dX6_bestShift_15 : decode cX6_bestShift 15 = .ok (.iload_n 2, 1) := by decide +kernel
theorem dX6_bestShift_16 : decode cX6_bestShift 16 = .ok (.invokevirtual 142, 3) := by decide +kernel
theorem dX6_bestShift_19 : decode cX6_bestShift 19 = .ok (.ifCond .eq 5, 3) := by decide +kernel
theorem dX6_bestShift_22 : decode cX6_bestShift 22 = .ok (.iconst 0, 1) := by decide +kernel
theorem dX6_bestShift_23 : decode cX6_bestShift 23 = .ok (.ireturn, 1) := by decide +kernel
theorem dX6_bestShift_24 : decode cX6_bestShift 24 = .ok (.aload_n 0, 1) := by decide +kernel
theorem dX6_bestShift_25 : decode cX6_bestShift 25 = .ok (.getfield 25, 3) := by decide +kernel
theorem dX6_bestShift_28 : decode cX6_bestShift 28 = .ok (.iload_n 1, 1) := by decide +kernel
theorem dX6_bestShift_29 : decode cX6_bestShift 29 = .ok (.iload_n 2, 1) := by decide +kernel
theorem dX6_bestShift_30 : decode cX6_bestShift 30 = .ok (.invokevirtual 146, 3) := by decide +kernel
theorem dX6_bestShift_33 : decode cX6_bestShift 33 = .ok (.istore_n 3, 1) := by decide +kernel
theorem dX6_bestShift_34 : decode cX6_bestShift 34 = .ok (.iload_n 3, 1) := by decide +kernel
theorem dX6_bestShift_35 : decode cX6_bestShift 35 = .ok (.ifCond .ge 9, 3) := by decide +kernel
theorem dX6_bestShift_38 : decode cX6_bestShift 38 = .ok (.sipush 9999, 3) := by decide +kernel
theorem dX6_bestShift_41 : decode cX6_bestShift 41 = .ok (.goto 7, 3) := by decide +kernel
theorem dX6_bestShift_44 : decode cX6_bestShift 44 = .ok (.iload_n 3, 1) := by decide +kernel
theorem dX6_bestShift_45 : decode cX6_bestShift 45 = .ok (.invokestatic 149, 3) := by decide +kernel
theorem dX6_bestShift_48 : decode cX6_bestShift 48 = .ok (.ireturn, 1) := by decide +kernel
theorem dX6_shiftRole_0 : decode cX6_shiftRole 0 = .ok (.aload_n 0, 1) := by decide +kernel
theorem dX6_shiftRole_1 : decode cX6_shiftRole 1 = .ok (.iload_n 1, 1) := by decide +kernel
theorem dX6_shiftRole_2 : decode cX6_shiftRole 2 = .ok (.invokevirtual 119, 3) := by decide +kernel
theorem dX6_shiftRole_5 : decode cX6_shiftRole 5 = .ok (.aload_n 0, 1) := by decide +kernel
theorem dX6_shiftRole_6 : decode cX6_shiftRole 6 = .ok (.iload_n 2, 1) := by decide +kernel
theorem dX6_shiftRole_7 : decode cX6_shiftRole 7 = .ok (.invokevirtual 82, 3) := by decide +kernel
theorem dX6_shiftRole_10 : decode cX6_shiftRole 10 = .ok (.aload_n 0, 1) := by decide +kernel
theorem dX6_shiftRole_11 : decode cX6_shiftRole 11 = .ok (.getfield 25, 3) := by decide +kernel
theorem dX6_shiftRole_14 : decode cX6_shiftRole 14 = .ok (.iload_n 1, 1) := by decide +kernel
theorem dX6_shiftRole_15 : decode cX6_shiftRole 15 = .ok (.iload_n 2, 1) := by decide +kernel
theorem dX6_shiftRole_16 : decode cX6_shiftRole 16 = .ok (.invokevirtual 142, 3) := by decide +kernel
theorem dX6_shiftRole_19 : decode cX6_shiftRole 19 = .ok (.ifCond .eq 5, 3) := by decide +kernel
theorem dX6_shiftRole_22 : decode cX6_shiftRole 22 = .ok (.iconst (-1), 1) := by decide +kernel
theorem dX6_shiftRole_23 : decode cX6_shiftRole 23 = .ok (.ireturn, 1) := by decide +kernel
theorem dX6_shiftRole_24 : decode cX6_shiftRole 24 = .ok (.aload_n 0, 1) := by decide +kernel
theorem dX6_shiftRole_25 : decode cX6_shiftRole 25 = .ok (.getfield 25, 3) := by decide +kernel
theorem dX6_shiftRole_28 : decode cX6_shiftRole 28 = .ok (.iload_n 1, 1) := by decide +kernel
theorem dX6_shiftRole_29 : decode cX6_shiftRole 29 = .ok (.iload_n 2, 1) := by decide +kernel
theorem dX6_shiftRole_30 : decode cX6_shiftRole 30 = .ok (.invokevirtual 146, 3) := by decide +kernel
theorem dX6_shiftRole_33 : decode cX6_shiftRole 33 = .ok (.istore_n 3, 1) := by decide +kernel
theorem dX6_shiftRole_34 : decode cX6_shiftRole 34 = .ok (.iload_n 3, 1) := by decide +kernel
theorem dX6_shiftRole_35 : decode cX6_shiftRole 35 = .ok (.ifCond .ge 7, 3) := by decide +kernel
theorem dX6_shiftRole_38 : decode cX6_shiftRole 38 = .ok (.iconst (-1), 1) := by decide +kernel
theorem dX6_shiftRole_39 : decode cX6_shiftRole 39 = .ok (.goto 12, 3) := by decide +kernel
theorem dX6_shiftRole_42 : decode cX6_shiftRole 42 = .ok (.aload_n 0, 1) := by decide +kernel
theorem dX6_shiftRole_43 : decode cX6_shiftRole 43 = .ok (.getfield 25, 3) := by decide +kernel
theorem dX6_shiftRole_46 : decode cX6_shiftRole 46 = .ok (.iload_n 1, 1) := by decide +kernel
end
section
theorem dX6_shiftRole_47 : decode cX6_shiftRole 47 = .ok (.iload_n 3, 1) := by decide +kernel
theorem dX6_shiftRole_48 : decode cX6_shiftRole 48 = .ok (.invokevirtual 152, 3) := by decide +kernel
theorem dX6_shiftRole_51 : decode cX6_shiftRole 51 = .ok (.ireturn, 1) := by decide +kernel
theorem dX6_setColour_0 : decode cX6_setColour 0 = .ok (.aload_n 0, 1) := by decide +kernel
theorem dX6_setColour_1 : decode cX6_setColour 1 = .ok (.iload_n 1, 1) := by decide +kernel
theorem dX6_setColour_2 : decode cX6_setColour 2 = .ok (.invokevirtual 78, 3) := by decide +kernel
theorem dX6_setColour_5 : decode cX6_setColour 5 = .ok (.aload_n 0, 1) := by decide +kernel
theorem dX6_setColour_6 : decode cX6_setColour 6 = .ok (.iload_n 2, 1) := by decide +kernel
theorem dX6_setColour_7 : decode cX6_setColour 7 = .ok (.invokevirtual 82, 3) := by decide +kernel
theorem dX6_setColour_10 : decode cX6_setColour 10 = .ok (.aload_n 0, 1) := by decide +kernel
theorem dX6_setColour_11 : decode cX6_setColour 11 = .ok (.iload_n 3, 1) := by decide +kernel
theorem dX6_setColour_12 : decode cX6_setColour 12 = .ok (.invokevirtual 113, 3) := by decide +kernel
theorem dX6_setColour_15 : decode cX6_setColour 15 = .ok (.aload_n 0, 1) := by decide +kernel
theorem dX6_setColour_16 : decode cX6_setColour 16 = .ok (.getfield 35, 3) := by decide +kernel
theorem dX6_setColour_19 : decode cX6_setColour 19 = .ok (.aload_n 0, 1) := by decide +kernel
theorem dX6_setColour_20 : decode cX6_setColour 20 = .ok (.getfield 25, 3) := by decide +kernel
theorem dX6_setColour_23 : decode cX6_setColour 23 = .ok (.invokevirtual 65, 3) := by decide +kernel
theorem dX6_setColour_26 : decode cX6_setColour 26 = .ok (.aload_n 0, 1) := by decide +kernel
theorem dX6_setColour_27 : decode cX6_setColour 27 = .ok (.getfield 25, 3) := by decide +kernel
theorem dX6_setColour_30 : decode cX6_setColour 30 = .ok (.getfield 85, 3) := by decide +kernel
theorem dX6_setColour_33 : decode cX6_setColour 33 = .ok (.iload_n 2, 1) := by decide +kernel
theorem dX6_setColour_34 : decode cX6_setColour 34 = .ok (.aaload, 1) := by decide +kernel
theorem dX6_setColour_35 : decode cX6_setColour 35 = .ok (.iload_n 1, 1) := by decide +kernel
theorem dX6_setColour_36 : decode cX6_setColour 36 = .ok (.iaload, 1) := by decide +kernel
theorem dX6_setColour_37 : decode cX6_setColour 37 = .ok (.istore 4, 2) := by decide +kernel
theorem dX6_setColour_39 : decode cX6_setColour 39 = .ok (.aload_n 0, 1) := by decide +kernel
theorem dX6_setColour_40 : decode cX6_setColour 40 = .ok (.getfield 25, 3) := by decide +kernel
theorem dX6_setColour_43 : decode cX6_setColour 43 = .ok (.getfield 85, 3) := by decide +kernel
theorem dX6_setColour_46 : decode cX6_setColour 46 = .ok (.iload_n 2, 1) := by decide +kernel
theorem dX6_setColour_47 : decode cX6_setColour 47 = .ok (.aaload, 1) := by decide +kernel
theorem dX6_setColour_48 : decode cX6_setColour 48 = .ok (.iload_n 1, 1) := by decide +kernel
theorem dX6_setColour_49 : decode cX6_setColour 49 = .ok (.iload_n 3, 1) := by decide +kernel
theorem dX6_setColour_50 : decode cX6_setColour 50 = .ok (.iastore, 1) := by decide +kernel
theorem dX6_setColour_51 : decode cX6_setColour 51 = .ok (.iload 4, 2) := by decide +kernel
theorem dX6_setColour_53 : decode cX6_setColour 53 = .ok (.ireturn, 1) := by decide +kernel
theorem dX6_setFixed_0 : decode cX6_setFixed 0 = .ok (.aload_n 0, 1) := by decide +kernel
theorem dX6_setFixed_1 : decode cX6_setFixed 1 = .ok (.iload_n 1, 1) := by decide +kernel
theorem dX6_setFixed_2 : decode cX6_setFixed 2 = .ok (.invokevirtual 78, 3) := by decide +kernel
theorem dX6_setFixed_5 : decode cX6_setFixed 5 = .ok (.aload_n 0, 1) := by decide +kernel
theorem dX6_setFixed_6 : decode cX6_setFixed 6 = .ok (.getfield 35, 3) := by decide +kernel
theorem dX6_setFixed_9 : decode cX6_setFixed 9 = .ok (.aload_n 0, 1) := by decide +kernel
theorem dX6_setFixed_10 : decode cX6_setFixed 10 = .ok (.getfield 25, 3) := by decide +kernel
theorem dX6_setFixed_13 : decode cX6_setFixed 13 = .ok (.invokevirtual 65, 3) := by decide +kernel
theorem dX6_setFixed_16 : decode cX6_setFixed 16 = .ok (.aload_n 0, 1) := by decide +kernel
theorem dX6_setFixed_17 : decode cX6_setFixed 17 = .ok (.getfield 25, 3) := by decide +kernel
theorem dX6_setFixed_20 : decode cX6_setFixed 20 = .ok (.getfield 89, 3) := by decide +kernel
theorem dX6_setFixed_23 : decode cX6_setFixed 23 = .ok (.iload_n 1, 1) := by decide +kernel
theorem dX6_setFixed_24 : decode cX6_setFixed 24 = .ok (.baload, 1) := by decide +kernel
theorem dX6_setFixed_25 : decode cX6_setFixed 25 = .ok (.istore_n 3, 1) := by decide +kernel
theorem dX6_setFixed_26 : decode cX6_setFixed 26 = .ok (.aload_n 0, 1) := by decide +kernel
theorem dX6_setFixed_27 : decode cX6_setFixed 27 = .ok (.getfield 25, 3) := by decide +kernel
theorem dX6_setFixed_30 : decode cX6_setFixed 30 = .ok (.getfield 89, 3) := by decide +kernel
theorem dX6_setFixed_33 : decode cX6_setFixed 33 = .ok (.iload_n 1, 1) := by decide +kernel
theorem dX6_setFixed_34 : decode cX6_setFixed 34 = .ok (.iload_n 2, 1) := by decide +kernel
theorem dX6_setFixed_35 : decode cX6_setFixed 35 = .ok (.bastore, 1) := by decide +kernel
theorem dX6_setFixed_36 : decode cX6_setFixed 36 = .ok (.iload_n 3, 1) := by decide +kernel
theorem dX6_setFixed_37 : decode cX6_setFixed 37 = .ok (.ireturn, 1) := by decide +kernel
theorem dX6_shift_0 : decode cX6_shift 0 = .ok (.aload_n 0, 1) := by decide +kernel
theorem dX6_shift_1 : decode cX6_shift 1 = .ok (.iload_n 1, 1) := by decide +kernel
theorem dX6_shift_2 : decode cX6_shift 2 = .ok (.invokevirtual 78, 3) := by decide +kernel
theorem dX6_shift_5 : decode cX6_shift 5 = .ok (.aload_n 0, 1) := by decide +kernel
theorem dX6_shift_6 : decode cX6_shift 6 = .ok (.iload_n 2, 1) := by decide +kernel
theorem dX6_shift_7 : decode cX6_shift 7 = .ok (.invokevirtual 82, 3) := by decide +kernel
theorem dX6_shift_10 : decode cX6_shift 10 = .ok (.iload_n 3, 1) := by decide +kernel
theorem dX6_shift_11 : decode cX6_shift 11 = .ok (.sipush (-255), 3) := by decide +kernel
theorem dX6_shift_14 : decode cX6_shift 14 = .ok (.if_icmp .lt 10, 3) := by decide +kernel
theorem dX6_shift_17 : decode cX6_shift 17 = .ok (.iload_n 3, 1) := by decide +kernel
theorem dX6_shift_18 : decode cX6_shift 18 = .ok (.sipush 255, 3) := by decide +kernel
theorem dX6_shift_21 : decode cX6_shift 21 = .ok (.if_icmp .le 13, 3) := by decide +kernel
theorem dX6_shift_24 : decode cX6_shift 24 = .ok (.new 50, 3) := by decide +kernel
theorem dX6_shift_27 : decode cX6_shift 27 = .ok (.dup, 1) := by decide +kernel
theorem dX6_shift_28 : decode cX6_shift 28 = .ok (.ldc 155, 2) := by decide +kernel
theorem dX6_shift_30 : decode cX6_shift 30 = .ok (.invokespecial 54, 3) := by decide +kernel
theorem dX6_shift_33 : decode cX6_shift 33 = .ok (.athrow, 1) := by decide +kernel
theorem dX6_shift_34 : decode cX6_shift 34 = .ok (.aload_n 0, 1) := by decide +kernel
theorem dX6_shift_35 : decode cX6_shift 35 = .ok (.getfield 25, 3) := by decide +kernel
theorem dX6_shift_38 : decode cX6_shift 38 = .ok (.getfield 89, 3) := by decide +kernel
theorem dX6_shift_41 : decode cX6_shift 41 = .ok (.iload_n 1, 1) := by decide +kernel
theorem dX6_shift_42 : decode cX6_shift 42 = .ok (.baload, 1) := by decide +kernel
theorem dX6_shift_43 : decode cX6_shift 43 = .ok (.ifCond .eq 13, 3) := by decide +kernel
theorem dX6_shift_46 : decode cX6_shift 46 = .ok (.new 157, 3) := by decide +kernel
theorem dX6_shift_49 : decode cX6_shift 49 = .ok (.dup, 1) := by decide +kernel
theorem dX6_shift_50 : decode cX6_shift 50 = .ok (.ldc 159, 2) := by decide +kernel
theorem dX6_shift_52 : decode cX6_shift 52 = .ok (.invokespecial 161, 3) := by decide +kernel
theorem dX6_shift_55 : decode cX6_shift 55 = .ok (.athrow, 1) := by decide +kernel
theorem dX6_shift_56 : decode cX6_shift 56 = .ok (.aload_n 0, 1) := by decide +kernel
theorem dX6_shift_57 : decode cX6_shift 57 = .ok (.getfield 35, 3) := by decide +kernel
theorem dX6_shift_60 : decode cX6_shift 60 = .ok (.aload_n 0, 1) := by decide +kernel
theorem dX6_shift_61 : decode cX6_shift 61 = .ok (.getfield 25, 3) := by decide +kernel
theorem dX6_shift_64 : decode cX6_shift 64 = .ok (.invokevirtual 65, 3) := by decide +kernel
theorem dX6_shift_67 : decode cX6_shift 67 = .ok (.aload_n 0, 1) := by decide +kernel
theorem dX6_shift_68 : decode cX6_shift 68 = .ok (.getfield 25, 3) := by decide +kernel
theorem dX6_shift_71 : decode cX6_shift 71 = .ok (.getfield 85, 3) := by decide +kernel
theorem dX6_shift_74 : decode cX6_shift 74 = .ok (.iload_n 2, 1) := by decide +kernel
theorem dX6_shift_75 : decode cX6_shift 75 = .ok (.aaload, 1) := by decide +kernel
theorem dX6_shift_76 : decode cX6_shift 76 = .ok (.iload_n 1, 1) := by decide +kernel
theorem dX6_shift_77 : decode cX6_shift 77 = .ok (.aload_n 0, 1) := by decide +kernel
theorem dX6_shift_78 : decode cX6_shift 78 = .ok (.getfield 25, 3) := by decide +kernel
theorem dX6_shift_81 : decode cX6_shift 81 = .ok (.getfield 85, 3) := by decide +kernel
theorem dX6_shift_84 : decode cX6_shift 84 = .ok (.iload_n 2, 1) := by decide +kernel
theorem dX6_shift_85 : decode cX6_shift 85 = .ok (.aaload, 1) := by decide +kernel
theorem dX6_shift_86 : decode cX6_shift 86 = .ok (.iload_n 1, 1) := by decide +kernel
theorem dX6_shift_87 : decode cX6_shift 87 = .ok (.iaload, 1) := by decide +kernel
theorem dX6_shift_88 : decode cX6_shift 88 = .ok (.iload_n 3, 1) := by decide +kernel
theorem dX6_shift_89 : decode cX6_shift 89 = .ok (.invokestatic 162, 3) := by decide +kernel
theorem dX6_shift_92 : decode cX6_shift 92 = .ok (.iastore, 1) := by decide +kernel
theorem dX6_shift_93 : decode cX6_shift 93 = .ok (.aload_n 0, 1) := by decide +kernel
theorem dX6_shift_94 : decode cX6_shift 94 = .ok (.getfield 25, 3) := by decide +kernel
theorem dX6_shift_97 : decode cX6_shift 97 = .ok (.getfield 85, 3) := by decide +kernel
theorem dX6_shift_100 : decode cX6_shift 100 = .ok (.iload_n 2, 1) := by decide +kernel
theorem dX6_shift_101 : decode cX6_shift 101 = .ok (.aaload, 1) := by decide +kernel
theorem dX6_shift_102 : decode cX6_shift 102 = .ok (.iload_n 1, 1) := by decide +kernel
theorem dX6_shift_103 : decode cX6_shift 103 = .ok (.iaload, 1) := by decide +kernel
theorem dX6_shift_104 : decode cX6_shift 104 = .ok (.ireturn, 1) := by decide +kernel
theorem dX6_repair_0 : decode cX6_repair 0 = .ok (.iload_n 1, 1) := by decide +kernel
theorem dX6_repair_1 : decode cX6_repair 1 = .ok (.iconst 1, 1) := by decide +kernel
theorem dX6_repair_2 : decode cX6_repair 2 = .ok (.if_icmp .lt 9, 3) := by decide +kernel
theorem dX6_repair_5 : decode cX6_repair 5 = .ok (.iload_n 1, 1) := by decide +kernel
theorem dX6_repair_6 : decode cX6_repair 6 = .ok (.bipush 6, 2) := by decide +kernel
theorem dX6_repair_8 : decode cX6_repair 8 = .ok (.if_icmp .le 13, 3) := by decide +kernel
theorem dX6_repair_11 : decode cX6_repair 11 = .ok (.new 50, 3) := by decide +kernel
theorem dX6_repair_14 : decode cX6_repair 14 = .ok (.dup, 1) := by decide +kernel
theorem dX6_repair_15 : decode cX6_repair 15 = .ok (.ldc 165, 2) := by decide +kernel
theorem dX6_repair_17 : decode cX6_repair 17 = .ok (.invokespecial 54, 3) := by decide +kernel
theorem dX6_repair_20 : decode cX6_repair 20 = .ok (.athrow, 1) := by decide +kernel
theorem dX6_repair_21 : decode cX6_repair 21 = .ok (.aload_n 0, 1) := by decide +kernel
theorem dX6_repair_22 : decode cX6_repair 22 = .ok (.getfield 35, 3) := by decide +kernel
theorem dX6_repair_25 : decode cX6_repair 25 = .ok (.aload_n 0, 1) := by decide +kernel
theorem dX6_repair_26 : decode cX6_repair 26 = .ok (.getfield 25, 3) := by decide +kernel
theorem dX6_repair_29 : decode cX6_repair 29 = .ok (.invokevirtual 65, 3) := by decide +kernel
theorem dX6_repair_32 : decode cX6_repair 32 = .ok (.iconst 0, 1) := by decide +kernel
theorem dX6_repair_33 : decode cX6_repair 33 = .ok (.istore_n 2, 1) := by decide +kernel
theorem dX6_repair_34 : decode cX6_repair 34 = .ok (.iload_n 2, 1) := by decide +kernel
theorem dX6_repair_35 : decode cX6_repair 35 = .ok (.iload_n 1, 1) := by decide +kernel
theorem dX6_repair_36 : decode cX6_repair 36 = .ok (.if_icmp .ge 19, 3) := by decide +kernel
theorem dX6_repair_39 : decode cX6_repair 39 = .ok (.aload_n 0, 1) := by decide +kernel
theorem dX6_repair_40 : decode cX6_repair 40 = .ok (.getfield 25, 3) := by decide +kernel
theorem dX6_repair_43 : decode cX6_repair 43 = .ok (.invokevirtual 167, 3) := by decide +kernel
theorem dX6_repair_46 : decode cX6_repair 46 = .ok (.ifCond .eq 9, 3) := by decide +kernel
theorem dX6_repair_49 : decode cX6_repair 49 = .ok (.iinc 2 1, 3) := by decide +kernel
theorem dX6_repair_52 : decode cX6_repair 52 = .ok (.goto (-18), 3) := by decide +kernel
theorem dX6_repair_55 : decode cX6_repair 55 = .ok (.iload_n 2, 1) := by decide +kernel
theorem dX6_repair_56 : decode cX6_repair 56 = .ok (.ireturn, 1) := by decide +kernel
theorem dX6_swapSchemes_0 : decode cX6_swapSchemes 0 = .ok (.aload_n 0, 1) := by decide +kernel
theorem dX6_swapSchemes_1 : decode cX6_swapSchemes 1 = .ok (.getfield 35, 3) := by decide +kernel
theorem dX6_swapSchemes_4 : decode cX6_swapSchemes 4 = .ok (.aload_n 0, 1) := by decide +kernel
theorem dX6_swapSchemes_5 : decode cX6_swapSchemes 5 = .ok (.getfield 25, 3) := by decide +kernel
theorem dX6_swapSchemes_8 : decode cX6_swapSchemes 8 = .ok (.invokevirtual 65, 3) := by decide +kernel
theorem dX6_swapSchemes_11 : decode cX6_swapSchemes 11 = .ok (.aload_n 0, 1) := by decide +kernel
theorem dX6_swapSchemes_12 : decode cX6_swapSchemes 12 = .ok (.getfield 25, 3) := by decide +kernel
theorem dX6_swapSchemes_15 : decode cX6_swapSchemes 15 = .ok (.invokevirtual 171, 3) := by decide +kernel
theorem dX6_swapSchemes_18 : decode cX6_swapSchemes 18 = .ok (.aload_n 0, 1) := by decide +kernel
theorem dX6_swapSchemes_19 : decode cX6_swapSchemes 19 = .ok (.invokevirtual 174, 3) := by decide +kernel
theorem dX6_swapSchemes_22 : decode cX6_swapSchemes 22 = .ok (.ireturn, 1) := by decide +kernel
theorem dX6_undo_0 : decode cX6_undo 0 = .ok (.aload_n 0, 1) := by decide +kernel
theorem dX6_undo_1 : decode cX6_undo 1 = .ok (.getfield 35, 3) := by decide +kernel
theorem dX6_undo_4 : decode cX6_undo 4 = .ok (.getfield 177, 3) := by decide +kernel
theorem dX6_undo_7 : decode cX6_undo 7 = .ok (.ifCond .ne 5, 3) := by decide +kernel
theorem dX6_undo_10 : decode cX6_undo 10 = .ok (.iconst (-1), 1) := by decide +kernel
theorem dX6_undo_11 : decode cX6_undo 11 = .ok (.ireturn, 1) := by decide +kernel
theorem dX6_undo_12 : decode cX6_undo 12 = .ok (.aload_n 0, 1) := by decide +kernel
theorem dX6_undo_13 : decode cX6_undo 13 = .ok (.getfield 35, 3) := by decide +kernel
theorem dX6_undo_16 : decode cX6_undo 16 = .ok (.aload_n 0, 1) := by decide +kernel
theorem dX6_undo_17 : decode cX6_undo 17 = .ok (.getfield 25, 3) := by decide +kernel
theorem dX6_undo_20 : decode cX6_undo 20 = .ok (.invokevirtual 180, 3) := by decide +kernel
theorem dX6_undo_23 : decode cX6_undo 23 = .ok (.aload_n 0, 1) := by decide +kernel
theorem dX6_undo_24 : decode cX6_undo 24 = .ok (.getfield 35, 3) := by decide +kernel
theorem dX6_undo_27 : decode cX6_undo 27 = .ok (.getfield 177, 3) := by decide +kernel
theorem dX6_undo_30 : decode cX6_undo 30 = .ok (.ireturn, 1) := by decide +kernel
theorem dX6_checksum_0 : decode cX6_checksum 0 = .ok (.lconst 0, 1) := by decide +kernel
theorem dX6_checksum_1 : decode cX6_checksum 1 = .ok (.lstore_n 1, 1) := by decide +kernel
theorem dX6_checksum_2 : decode cX6_checksum 2 = .ok (.iconst 0, 1) := by decide +kernel
theorem dX6_checksum_3 : decode cX6_checksum 3 = .ok (.istore_n 3, 1) := by decide +kernel
theorem dX6_checksum_4 : decode cX6_checksum 4 = .ok (.iload_n 3, 1) := by decide +kernel
theorem dX6_checksum_5 : decode cX6_checksum 5 = .ok (.aload_n 0, 1) := by decide +kernel
theorem dX6_checksum_6 : decode cX6_checksum 6 = .ok (.getfield 25, 3) := by decide +kernel
theorem dX6_checksum_9 : decode cX6_checksum 9 = .ok (.getfield 75, 3) := by decide +kernel
theorem dX6_checksum_12 : decode cX6_checksum 12 = .ok (.if_icmp .ge 72, 3) := by decide +kernel
theorem dX6_checksum_15 : decode cX6_checksum 15 = .ok (.ldc2_w 183, 3) := by decide +kernel
theorem dX6_checksum_18 : decode cX6_checksum 18 = .ok (.lload_n 1, 1) := by decide +kernel
theorem dX6_checksum_19 : decode cX6_checksum 19 = .ok (.lmul, 1) := by decide +kernel
theorem dX6_checksum_20 : decode cX6_checksum 20 = .ok (.aload_n 0, 1) := by decide +kernel
theorem dX6_checksum_21 : decode cX6_checksum 21 = .ok (.getfield 25, 3) := by decide +kernel
theorem dX6_checksum_24 : decode cX6_checksum 24 = .ok (.getfield 85, 3) := by decide +kernel
theorem dX6_checksum_27 : decode cX6_checksum 27 = .ok (.iconst 0, 1) := by decide +kernel
theorem dX6_checksum_28 : decode cX6_checksum 28 = .ok (.aaload, 1) := by decide +kernel
theorem dX6_checksum_29 : decode cX6_checksum 29 = .ok (.iload_n 3, 1) := by decide +kernel
theorem dX6_checksum_30 : decode cX6_checksum 30 = .ok (.iaload, 1) := by decide +kernel
theorem dX6_checksum_31 : decode cX6_checksum 31 = .ok (.i2l, 1) := by decide +kernel
theorem dX6_checksum_32 : decode cX6_checksum 32 = .ok (.ladd, 1) := by decide +kernel
theorem dX6_checksum_33 : decode cX6_checksum 33 = .ok (.lstore_n 1, 1) := by decide +kernel
theorem dX6_checksum_34 : decode cX6_checksum 34 = .ok (.ldc2_w 183, 3) := by decide +kernel
theorem dX6_checksum_37 : decode cX6_checksum 37 = .ok (.lload_n 1, 1) := by decide +kernel
theorem dX6_checksum_38 : decode cX6_checksum 38 = .ok (.lmul, 1) := by decide +kernel
theorem dX6_checksum_39 : decode cX6_checksum 39 = .ok (.aload_n 0, 1) := by decide +kernel
theorem dX6_checksum_40 : decode cX6_checksum 40 = .ok (.getfield 25, 3) := by decide +kernel
theorem dX6_checksum_43 : decode cX6_checksum 43 = .ok (.getfield 85, 3) := by decide +kernel
theorem dX6_checksum_46 : decode cX6_checksum 46 = .ok (.iconst 1, 1) := by decide +kernel
theorem dX6_checksum_47 : decode cX6_checksum 47 = .ok (.aaload, 1) := by decide +kernel
theorem dX6_checksum_48 : decode cX6_checksum 48 = .ok (.iload_n 3, 1) := by decide +kernel
theorem dX6_checksum_49 : decode cX6_checksum 49 = .ok (.iaload, 1) := by decide +kernel
theorem dX6_checksum_50 : decode cX6_checksum 50 = .ok (.i2l, 1) := by decide +kernel
theorem dX6_checksum_51 : decode cX6_checksum 51 = .ok (.ladd, 1) := by decide +kernel
theorem dX6_checksum_52 : decode cX6_checksum 52 = .ok (.lstore_n 1, 1) := by decide +kernel
theorem dX6_checksum_53 : decode cX6_checksum 53 = .ok (.ldc2_w 183, 3) := by decide +kernel
theorem dX6_checksum_56 : decode cX6_checksum 56 = .ok (.lload_n 1, 1) := by decide +kernel
theorem dX6_checksum_57 : decode cX6_checksum 57 = .ok (.lmul, 1) := by decide +kernel
theorem dX6_checksum_58 : decode cX6_checksum 58 = .ok (.aload_n 0, 1) := by decide +kernel
theorem dX6_checksum_59 : decode cX6_checksum 59 = .ok (.getfield 25, 3) := by decide +kernel
theorem dX6_checksum_62 : decode cX6_checksum 62 = .ok (.getfield 89, 3) := by decide +kernel
theorem dX6_checksum_65 : decode cX6_checksum 65 = .ok (.iload_n 3, 1) := by decide +kernel
theorem dX6_checksum_66 : decode cX6_checksum 66 = .ok (.baload, 1) := by decide +kernel
theorem dX6_checksum_67 : decode cX6_checksum 67 = .ok (.ifCond .eq 7, 3) := by decide +kernel
theorem dX6_checksum_70 : decode cX6_checksum 70 = .ok (.iconst 1, 1) := by decide +kernel
theorem dX6_checksum_71 : decode cX6_checksum 71 = .ok (.goto 4, 3) := by decide +kernel
theorem dX6_checksum_74 : decode cX6_checksum 74 = .ok (.iconst 0, 1) := by decide +kernel
theorem dX6_checksum_75 : decode cX6_checksum 75 = .ok (.i2l, 1) := by decide +kernel
theorem dX6_checksum_76 : decode cX6_checksum 76 = .ok (.ladd, 1) := by decide +kernel
theorem dX6_checksum_77 : decode cX6_checksum 77 = .ok (.lstore_n 1, 1) := by decide +kernel
theorem dX6_checksum_78 : decode cX6_checksum 78 = .ok (.iinc 3 1, 3) := by decide +kernel
theorem dX6_checksum_81 : decode cX6_checksum 81 = .ok (.goto (-77), 3) := by decide +kernel
theorem dX6_checksum_84 : decode cX6_checksum 84 = .ok (.iconst 0, 1) := by decide +kernel
theorem dX6_checksum_85 : decode cX6_checksum 85 = .ok (.istore_n 3, 1) := by decide +kernel
theorem dX6_checksum_86 : decode cX6_checksum 86 = .ok (.iload_n 3, 1) := by decide +kernel
theorem dX6_checksum_87 : decode cX6_checksum 87 = .ok (.aload_n 0, 1) := by decide +kernel
theorem dX6_checksum_88 : decode cX6_checksum 88 = .ok (.getfield 25, 3) := by decide +kernel
theorem dX6_checksum_91 : decode cX6_checksum 91 = .ok (.getfield 72, 3) := by decide +kernel
theorem dX6_checksum_94 : decode cX6_checksum 94 = .ok (.if_icmp .ge 43, 3) := by decide +kernel
theorem dX6_checksum_97 : decode cX6_checksum 97 = .ok (.ldc2_w 183, 3) := by decide +kernel
theorem dX6_checksum_100 : decode cX6_checksum 100 = .ok (.lload_n 1, 1) := by decide +kernel
theorem dX6_checksum_101 : decode cX6_checksum 101 = .ok (.lmul, 1) := by decide +kernel
theorem dX6_checksum_102 : decode cX6_checksum 102 = .ok (.aload_n 0, 1) := by decide +kernel
theorem dX6_checksum_103 : decode cX6_checksum 103 = .ok (.getfield 25, 3) := by decide +kernel
theorem dX6_checksum_106 : decode cX6_checksum 106 = .ok (.iload_n 3, 1) := by decide +kernel
theorem dX6_checksum_107 : decode cX6_checksum 107 = .ok (.iconst 0, 1) := by decide +kernel
theorem dX6_checksum_108 : decode cX6_checksum 108 = .ok (.invokevirtual 125, 3) := by decide +kernel
theorem dX6_checksum_111 : decode cX6_checksum 111 = .ok (.i2l, 1) := by decide +kernel
theorem dX6_checksum_112 : decode cX6_checksum 112 = .ok (.ladd, 1) := by decide +kernel
theorem dX6_checksum_113 : decode cX6_checksum 113 = .ok (.lstore_n 1, 1) := by decide +kernel
theorem dX6_checksum_114 : decode cX6_checksum 114 = .ok (.ldc2_w 183, 3) := by decide +kernel
theorem dX6_checksum_117 : decode cX6_checksum 117 = .ok (.lload_n 1, 1) := by decide +kernel
theorem dX6_checksum_118 : decode cX6_checksum 118 = .ok (.lmul, 1) := by decide +kernel
theorem dX6_checksum_119 : decode cX6_checksum 119 = .ok (.aload_n 0, 1) := by decide +kernel
theorem dX6_checksum_120 : decode cX6_checksum 120 = .ok (.getfield 25, 3) := by decide +kernel
theorem dX6_checksum_123 : decode cX6_checksum 123 = .ok (.iload_n 3, 1) := by decide +kernel
theorem dX6_checksum_124 : decode cX6_checksum 124 = .ok (.iconst 1, 1) := by decide +kernel
theorem dX6_checksum_125 : decode cX6_checksum 125 = .ok (.invokevirtual 125, 3) := by decide +kernel
theorem dX6_checksum_128 : decode cX6_checksum 128 = .ok (.i2l, 1) := by decide +kernel
theorem dX6_checksum_129 : decode cX6_checksum 129 = .ok (.ladd, 1) := by decide +kernel
theorem dX6_checksum_130 : decode cX6_checksum 130 = .ok (.lstore_n 1, 1) := by decide +kernel
theorem dX6_checksum_131 : decode cX6_checksum 131 = .ok (.iinc 3 1, 3) := by decide +kernel
theorem dX6_checksum_134 : decode cX6_checksum 134 = .ok (.goto (-48), 3) := by decide +kernel
theorem dX6_checksum_137 : decode cX6_checksum 137 = .ok (.lload_n 1, 1) := by decide +kernel
theorem dX6_checksum_138 : decode cX6_checksum 138 = .ok (.lreturn, 1) := by decide +kernel
theorem dX6_putWord_0 : decode cX6_putWord 0 = .ok (.aload_n 0, 1) := by decide +kernel
theorem dX6_putWord_1 : decode cX6_putWord 1 = .ok (.getfield 9, 3) := by decide +kernel
theorem dX6_putWord_4 : decode cX6_putWord 4 = .ok (.iload_n 1, 1) := by decide +kernel
theorem dX6_putWord_5 : decode cX6_putWord 5 = .ok (.iload_n 2, 1) := by decide +kernel
theorem dX6_putWord_6 : decode cX6_putWord 6 = .ok (.bipush 24, 2) := by decide +kernel
theorem dX6_putWord_8 : decode cX6_putWord 8 = .ok (.ishr, 1) := by decide +kernel
theorem dX6_putWord_9 : decode cX6_putWord 9 = .ok (.i2b, 1) := by decide +kernel
theorem dX6_putWord_10 : decode cX6_putWord 10 = .ok (.bastore, 1) := by decide +kernel
theorem dX6_putWord_11 : decode cX6_putWord 11 = .ok (.aload_n 0, 1) := by decide +kernel
theorem dX6_putWord_12 : decode cX6_putWord 12 = .ok (.getfield 9, 3) := by decide +kernel
theorem dX6_putWord_15 : decode cX6_putWord 15 = .ok (.iload_n 1, 1) := by decide +kernel
theorem dX6_putWord_16 : decode cX6_putWord 16 = .ok (.iconst 1, 1) := by decide +kernel
theorem dX6_putWord_17 : decode cX6_putWord 17 = .ok (.iadd, 1) := by decide +kernel
theorem dX6_putWord_18 : decode cX6_putWord 18 = .ok (.iload_n 2, 1) := by decide +kernel
theorem dX6_putWord_19 : decode cX6_putWord 19 = .ok (.bipush 16, 2) := by decide +kernel
theorem dX6_putWord_21 : decode cX6_putWord 21 = .ok (.ishr, 1) := by decide +kernel
theorem dX6_putWord_22 : decode cX6_putWord 22 = .ok (.i2b, 1) := by decide +kernel
theorem dX6_putWord_23 : decode cX6_putWord 23 = .ok (.bastore, 1) := by decide +kernel
theorem dX6_putWord_24 : decode cX6_putWord 24 = .ok (.aload_n 0, 1) := by decide +kernel
theorem dX6_putWord_25 : decode cX6_putWord 25 = .ok (.getfield 9, 3) := by decide +kernel
theorem dX6_putWord_28 : decode cX6_putWord 28 = .ok (.iload_n 1, 1) := by decide +kernel
theorem dX6_putWord_29 : decode cX6_putWord 29 = .ok (.iconst 2, 1) := by decide +kernel
theorem dX6_putWord_30 : decode cX6_putWord 30 = .ok (.iadd, 1) := by decide +kernel
theorem dX6_putWord_31 : decode cX6_putWord 31 = .ok (.iload_n 2, 1) := by decide +kernel
theorem dX6_putWord_32 : decode cX6_putWord 32 = .ok (.bipush 8, 2) := by decide +kernel
theorem dX6_putWord_34 : decode cX6_putWord 34 = .ok (.ishr, 1) := by decide +kernel
theorem dX6_putWord_35 : decode cX6_putWord 35 = .ok (.i2b, 1) := by decide +kernel
theorem dX6_putWord_36 : decode cX6_putWord 36 = .ok (.bastore, 1) := by decide +kernel
theorem dX6_putWord_37 : decode cX6_putWord 37 = .ok (.aload_n 0, 1) := by decide +kernel
theorem dX6_putWord_38 : decode cX6_putWord 38 = .ok (.getfield 9, 3) := by decide +kernel
theorem dX6_putWord_41 : decode cX6_putWord 41 = .ok (.iload_n 1, 1) := by decide +kernel
theorem dX6_putWord_42 : decode cX6_putWord 42 = .ok (.iconst 3, 1) := by decide +kernel
theorem dX6_putWord_43 : decode cX6_putWord 43 = .ok (.iadd, 1) := by decide +kernel
theorem dX6_putWord_44 : decode cX6_putWord 44 = .ok (.iload_n 2, 1) := by decide +kernel
theorem dX6_putWord_45 : decode cX6_putWord 45 = .ok (.i2b, 1) := by decide +kernel
theorem dX6_putWord_46 : decode cX6_putWord 46 = .ok (.bastore, 1) := by decide +kernel
theorem dX6_putWord_47 : decode cX6_putWord 47 = .ok (.return_, 1) := by decide +kernel
theorem dX6_requireRole_0 : decode cX6_requireRole 0 = .ok (.iload_n 1, 1) := by decide +kernel
theorem dX6_requireRole_1 : decode cX6_requireRole 1 = .ok (.ifCond .lt 14, 3) := by decide +kernel
theorem dX6_requireRole_4 : decode cX6_requireRole 4 = .ok (.iload_n 1, 1) := by decide +kernel
theorem dX6_requireRole_5 : decode cX6_requireRole 5 = .ok (.aload_n 0, 1) := by decide +kernel
theorem dX6_requireRole_6 : decode cX6_requireRole 6 = .ok (.getfield 25, 3) := by decide +kernel
theorem dX6_requireRole_9 : decode cX6_requireRole 9 = .ok (.getfield 75, 3) := by decide +kernel
theorem dX6_requireRole_12 : decode cX6_requireRole 12 = .ok (.if_icmp .lt 13, 3) := by decide +kernel
theorem dX6_requireRole_15 : decode cX6_requireRole 15 = .ok (.new 185, 3) := by decide +kernel
theorem dX6_requireRole_18 : decode cX6_requireRole 18 = .ok (.dup, 1) := by decide +kernel
theorem dX6_requireRole_19 : decode cX6_requireRole 19 = .ok (.ldc 187, 2) := by decide +kernel
theorem dX6_requireRole_21 : decode cX6_requireRole 21 = .ok (.invokespecial 189, 3) := by decide +kernel
theorem dX6_requireRole_24 : decode cX6_requireRole 24 = .ok (.athrow, 1) := by decide +kernel
theorem dX6_requireRole_25 : decode cX6_requireRole 25 = .ok (.return_, 1) := by decide +kernel
theorem dX6_requireRule_0 : decode cX6_requireRule 0 = .ok (.iload_n 1, 1) := by decide +kernel
theorem dX6_requireRule_1 : decode cX6_requireRule 1 = .ok (.ifCond .lt 14, 3) := by decide +kernel
theorem dX6_requireRule_4 : decode cX6_requireRule 4 = .ok (.iload_n 1, 1) := by decide +kernel
theorem dX6_requireRule_5 : decode cX6_requireRule 5 = .ok (.aload_n 0, 1) := by decide +kernel
theorem dX6_requireRule_6 : decode cX6_requireRule 6 = .ok (.getfield 25, 3) := by decide +kernel
theorem dX6_requireRule_9 : decode cX6_requireRule 9 = .ok (.getfield 72, 3) := by decide +kernel
theorem dX6_requireRule_12 : decode cX6_requireRule 12 = .ok (.if_icmp .lt 13, 3) := by decide +kernel
theorem dX6_requireRule_15 : decode cX6_requireRule 15 = .ok (.new 185, 3) := by decide +kernel
theorem dX6_requireRule_18 : decode cX6_requireRule 18 = .ok (.dup, 1) := by decide +kernel
theorem dX6_requireRule_19 : decode cX6_requireRule 19 = .ok (.ldc 190, 2) := by decide +kernel
theorem dX6_requireRule_21 : decode cX6_requireRule 21 = .ok (.invokespecial 189, 3) := by decide +kernel
theorem dX6_requireRule_24 : decode cX6_requireRule 24 = .ok (.athrow, 1) := by decide +kernel
theorem dX6_requireRule_25 : decode cX6_requireRule 25 = .ok (.return_, 1) := by decide +kernel
theorem dX6_requireScheme_0 : decode cX6_requireScheme 0 = .ok (.iload_n 1, 1) := by decide +kernel
theorem dX6_requireScheme_1 : decode cX6_requireScheme 1 = .ok (.ifCond .lt 8, 3) := by decide +kernel
theorem dX6_requireScheme_4 : decode cX6_requireScheme 4 = .ok (.iload_n 1, 1) := by decide +kernel
theorem dX6_requireScheme_5 : decode cX6_requireScheme 5 = .ok (.iconst 2, 1) := by decide +kernel
theorem dX6_requireScheme_6 : decode cX6_requireScheme 6 = .ok (.if_icmp .lt 13, 3) := by decide +kernel
theorem dX6_requireScheme_9 : decode cX6_requireScheme 9 = .ok (.new 185, 3) := by decide +kernel
theorem dX6_requireScheme_12 : decode cX6_requireScheme 12 = .ok (.dup, 1) := by decide +kernel
theorem dX6_requireScheme_13 : decode cX6_requireScheme 13 = .ok (.ldc 192, 2) := by decide +kernel
theorem dX6_requireScheme_15 : decode cX6_requireScheme 15 = .ok (.invokespecial 189, 3) := by decide +kernel
theorem dX6_requireScheme_18 : decode cX6_requireScheme 18 = .ok (.athrow, 1) := by decide +kernel
theorem dX6_requireScheme_19 : decode cX6_requireScheme 19 = .ok (.return_, 1) := by decide +kernel
theorem dX6_requireSight_0 : decode cX6_requireSight 0 = .ok (.iload_n 1, 1) := by decide +kernel
theorem dX6_requireSight_1 : decode cX6_requireSight 1 = .ok (.ifCond .lt 8, 3) := by decide +kernel
theorem dX6_requireSight_4 : decode cX6_requireSight 4 = .ok (.iload_n 1, 1) := by decide +kernel
theorem dX6_requireSight_5 : decode cX6_requireSight 5 = .ok (.iconst 5, 1) := by decide +kernel
theorem dX6_requireSight_6 : decode cX6_requireSight 6 = .ok (.if_icmp .lt 13, 3) := by decide +kernel
theorem dX6_requireSight_9 : decode cX6_requireSight 9 = .ok (.new 50, 3) := by decide +kernel
theorem dX6_requireSight_12 : decode cX6_requireSight 12 = .ok (.dup, 1) := by decide +kernel
theorem dX6_requireSight_13 : decode cX6_requireSight 13 = .ok (.ldc 194, 2) := by decide +kernel
theorem dX6_requireSight_15 : decode cX6_requireSight 15 = .ok (.invokespecial 54, 3) := by decide +kernel
theorem dX6_requireSight_18 : decode cX6_requireSight 18 = .ok (.athrow, 1) := by decide +kernel
theorem dX6_requireSight_19 : decode cX6_requireSight 19 = .ok (.return_, 1) := by decide +kernel
theorem dX6_requireColour_0 : decode cX6_requireColour 0 = .ok (.iload_n 1, 1) := by decide +kernel
theorem dX6_requireColour_1 : decode cX6_requireColour 1 = .ok (.ifCond .lt 9, 3) := by decide +kernel
theorem dX6_requireColour_4 : decode cX6_requireColour 4 = .ok (.iload_n 1, 1) := by decide +kernel
theorem dX6_requireColour_5 : decode cX6_requireColour 5 = .ok (.ldc 196, 2) := by decide +kernel
theorem dX6_requireColour_7 : decode cX6_requireColour 7 = .ok (.if_icmp .le 13, 3) := by decide +kernel
theorem dX6_requireColour_10 : decode cX6_requireColour 10 = .ok (.new 50, 3) := by decide +kernel
theorem dX6_requireColour_13 : decode cX6_requireColour 13 = .ok (.dup, 1) := by decide +kernel
theorem dX6_requireColour_14 : decode cX6_requireColour 14 = .ok (.ldc 197, 2) := by decide +kernel
theorem dX6_requireColour_16 : decode cX6_requireColour 16 = .ok (.invokespecial 54, 3) := by decide +kernel
theorem dX6_requireColour_19 : decode cX6_requireColour 19 = .ok (.athrow, 1) := by decide +kernel
theorem dX6_requireColour_20 : decode cX6_requireColour 20 = .ok (.return_, 1) := by decide +kernel
theorem dX6_limited_0 : decode cX6_limited 0 = .ok (.iload_n 0, 1) := by decide +kernel
theorem dX6_limited_1 : decode cX6_limited 1 = .ok (.iload_n 1, 1) := by decide +kernel
theorem dX6_limited_2 : decode cX6_limited 2 = .ok (.if_icmp .ge 7, 3) := by decide +kernel
theorem dX6_limited_5 : decode cX6_limited 5 = .ok (.iload_n 1, 1) := by decide +kernel
theorem dX6_limited_6 : decode cX6_limited 6 = .ok (.goto 13, 3) := by decide +kernel
theorem dX6_limited_9 : decode cX6_limited 9 = .ok (.iload_n 0, 1) := by decide +kernel
theorem dX6_limited_10 : decode cX6_limited 10 = .ok (.iload_n 2, 1) := by decide +kernel
theorem dX6_limited_11 : decode cX6_limited 11 = .ok (.if_icmp .le 7, 3) := by decide +kernel
theorem dX6_limited_14 : decode cX6_limited 14 = .ok (.iload_n 2, 1) := by decide +kernel
theorem dX6_limited_15 : decode cX6_limited 15 = .ok (.goto 4, 3) := by decide +kernel
theorem dX6_limited_18 : decode cX6_limited 18 = .ok (.iload_n 0, 1) := by decide +kernel
theorem dX6_limited_19 : decode cX6_limited 19 = .ok (.ireturn, 1) := by decide +kernel
theorem dX7_init_0 : decode cX7_init 0 = .ok (.aload_n 0, 1) := by decide +kernel
theorem dX7_init_1 : decode cX7_init 1 = .ok (.invokespecial 3, 3) := by decide +kernel
theorem dX7_init_4 : decode cX7_init 4 = .ok (.aload_n 0, 1) := by decide +kernel
theorem dX7_init_5 : decode cX7_init 5 = .ok (.sipush 700, 3) := by decide +kernel
theorem dX7_init_8 : decode cX7_init 8 = .ok (.newarray .int, 2) := by decide +kernel
theorem dX7_init_10 : decode cX7_init 10 = .ok (.putfield 9, 3) := by decide +kernel
theorem dX7_init_13 : decode cX7_init 13 = .ok (.aload_n 0, 1) := by decide +kernel
theorem dX7_init_14 : decode cX7_init 14 = .ok (.iconst (-1), 1) := by decide +kernel
theorem dX7_init_15 : decode cX7_init 15 = .ok (.putfield 13, 3) := by decide +kernel
theorem dX7_init_18 : decode cX7_init 18 = .ok (.aload_n 0, 1) := by decide +kernel
theorem dX7_init_19 : decode cX7_init 19 = .ok (.sipush 1282, 3) := by decide +kernel
theorem dX7_init_22 : decode cX7_init 22 = .ok (.newarray .int, 2) := by decide +kernel
theorem dX7_init_24 : decode cX7_init 24 = .ok (.putfield 17, 3) := by decide +kernel
theorem dX7_init_27 : decode cX7_init 27 = .ok (.aload_n 0, 1) := by decide +kernel
theorem dX7_init_28 : decode cX7_init 28 = .ok (.sipush 1282, 3) := by decide +kernel
theorem dX7_init_31 : decode cX7_init 31 = .ok (.newarray .int, 2) := by decide +kernel
theorem dX7_init_33 : decode cX7_init 33 = .ok (.putfield 20, 3) := by decide +kernel
theorem dX7_init_36 : decode cX7_init 36 = .ok (.aload_n 0, 1) := by decide +kernel
theorem dX7_init_37 : decode cX7_init 37 = .ok (.bipush 8, 2) := by decide +kernel
theorem dX7_init_39 : decode cX7_init 39 = .ok (.sipush 1282, 3) := by decide +kernel
theorem dX7_init_42 : decode cX7_init 42 = .ok (.multianewarray 23 2, 4) := by decide +kernel
theorem dX7_init_46 : decode cX7_init 46 = .ok (.putfield 25, 3) := by decide +kernel
theorem dX7_init_49 : decode cX7_init 49 = .ok (.aload_n 0, 1) := by decide +kernel
theorem dX7_init_50 : decode cX7_init 50 = .ok (.sipush 1200, 3) := by decide +kernel
theorem dX7_init_53 : decode cX7_init 53 = .ok (.newarray .long, 2) := by decide +kernel
theorem dX7_init_55 : decode cX7_init 55 = .ok (.putfield 28, 3) := by decide +kernel
theorem dX7_init_58 : decode cX7_init 58 = .ok (.aload_n 0, 1) := by decide +kernel
theorem dX7_init_59 : decode cX7_init 59 = .ok (.bipush 24, 2) := by decide +kernel
theorem dX7_init_61 : decode cX7_init 61 = .ok (.newarray .int, 2) := by decide +kernel
theorem dX7_init_63 : decode cX7_init 63 = .ok (.putfield 32, 3) := by decide +kernel
theorem dX7_init_66 : decode cX7_init 66 = .ok (.return_, 1) := by decide +kernel
theorem dX7_thrown_0 : decode cX7_thrown 0 = .ok (.aload_n 0, 1) := by decide +kernel
theorem dX7_thrown_1 : decode cX7_thrown 1 = .ok (.getfield 35, 3) := by decide +kernel
theorem dX7_thrown_4 : decode cX7_thrown 4 = .ok (.ireturn, 1) := by decide +kernel
theorem dX7_fails_0 : decode cX7_fails 0 = .ok (.iload_n 1, 1) := by decide +kernel
theorem dX7_fails_1 : decode cX7_fails 1 = .ok (.ifCond .eq 15, 3) := by decide +kernel
theorem dX7_fails_4 : decode cX7_fails 4 = .ok (.aload_n 0, 1) := by decide +kernel
theorem dX7_fails_5 : decode cX7_fails 5 = .ok (.getfield 35, 3) := by decide +kernel
theorem dX7_fails_8 : decode cX7_fails 8 = .ok (.ifCond .ne 8, 3) := by decide +kernel
theorem dX7_fails_11 : decode cX7_fails 11 = .ok (.aload_n 0, 1) := by decide +kernel
theorem dX7_fails_12 : decode cX7_fails 12 = .ok (.iload_n 2, 1) := by decide +kernel
theorem dX7_fails_13 : decode cX7_fails 13 = .ok (.putfield 35, 3) := by decide +kernel
theorem dX7_fails_16 : decode cX7_fails 16 = .ok (.aload_n 0, 1) := by decide +kernel
theorem dX7_fails_17 : decode cX7_fails 17 = .ok (.getfield 35, 3) := by decide +kernel
theorem dX7_fails_20 : decode cX7_fails 20 = .ok (.ifCond .eq 7, 3) := by decide +kernel
theorem dX7_fails_23 : decode cX7_fails 23 = .ok (.iconst 1, 1) := by decide +kernel
theorem dX7_fails_24 : decode cX7_fails 24 = .ok (.goto 4, 3) := by decide +kernel
theorem dX7_fails_27 : decode cX7_fails 27 = .ok (.iconst 0, 1) := by decide +kernel
theorem dX7_fails_28 : decode cX7_fails 28 = .ok (.ireturn, 1) := by decide +kernel
theorem dX7_in_0 : decode cX7_in 0 = .ok (.iload_n 0, 1) := by decide +kernel
theorem dX7_in_1 : decode cX7_in 1 = .ok (.iload_n 1, 1) := by decide +kernel
theorem dX7_in_2 : decode cX7_in 2 = .ok (.if_icmp .lt 12, 3) := by decide +kernel
theorem dX7_in_5 : decode cX7_in 5 = .ok (.iload_n 0, 1) := by decide +kernel
theorem dX7_in_6 : decode cX7_in 6 = .ok (.iload_n 2, 1) := by decide +kernel
theorem dX7_in_7 : decode cX7_in 7 = .ok (.if_icmp .gt 7, 3) := by decide +kernel
theorem dX7_in_10 : decode cX7_in 10 = .ok (.iconst 1, 1) := by decide +kernel
theorem dX7_in_11 : decode cX7_in 11 = .ok (.goto 4, 3) := by decide +kernel
theorem dX7_in_14 : decode cX7_in 14 = .ok (.iconst 0, 1) := by decide +kernel
theorem dX7_in_15 : decode cX7_in 15 = .ok (.ireturn, 1) := by decide +kernel
theorem dX7_min_0 : decode cX7_min 0 = .ok (.iload_n 0, 1) := by decide +kernel
theorem dX7_min_1 : decode cX7_min 1 = .ok (.iload_n 1, 1) := by decide +kernel
theorem dX7_min_2 : decode cX7_min 2 = .ok (.if_icmp .ge 7, 3) := by decide +kernel
theorem dX7_min_5 : decode cX7_min 5 = .ok (.iload_n 0, 1) := by decide +kernel
theorem dX7_min_6 : decode cX7_min 6 = .ok (.goto 4, 3) := by decide +kernel
theorem dX7_min_9 : decode cX7_min 9 = .ok (.iload_n 1, 1) := by decide +kernel
theorem dX7_min_10 : decode cX7_min 10 = .ok (.ireturn, 1) := by decide +kernel
theorem dX7_max_0 : decode cX7_max 0 = .ok (.iload_n 0, 1) := by decide +kernel
theorem dX7_max_1 : decode cX7_max 1 = .ok (.iload_n 1, 1) := by decide +kernel
theorem dX7_max_2 : decode cX7_max 2 = .ok (.if_icmp .le 7, 3) := by decide +kernel
theorem dX7_max_5 : decode cX7_max 5 = .ok (.iload_n 0, 1) := by decide +kernel
theorem dX7_max_6 : decode cX7_max 6 = .ok (.goto 4, 3) := by decide +kernel
theorem dX7_max_9 : decode cX7_max 9 = .ok (.iload_n 1, 1) := by decide +kernel
theorem dX7_max_10 : decode cX7_max 10 = .ok (.ireturn, 1) := by decide +kernel
theorem dX7_copy_0 : decode cX7_copy 0 = .ok (.iconst 0, 1) := by decide +kernel
theorem dX7_copy_1 : decode cX7_copy 1 = .ok (.istore_n 2, 1) := by decide +kernel
theorem dX7_copy_2 : decode cX7_copy 2 = .ok (.iload_n 2, 1) := by decide +kernel
theorem dX7_copy_3 : decode cX7_copy 3 = .ok (.sipush 1282, 3) := by decide +kernel
theorem dX7_copy_6 : decode cX7_copy 6 = .ok (.if_icmp .ge 15, 3) := by decide +kernel
theorem dX7_copy_9 : decode cX7_copy 9 = .ok (.aload_n 1, 1) := by decide +kernel
theorem dX7_copy_10 : decode cX7_copy 10 = .ok (.iload_n 2, 1) := by decide +kernel
theorem dX7_copy_11 : decode cX7_copy 11 = .ok (.aload_n 0, 1) := by decide +kernel
theorem dX7_copy_12 : decode cX7_copy 12 = .ok (.iload_n 2, 1) := by decide +kernel
theorem dX7_copy_13 : decode cX7_copy 13 = .ok (.iaload, 1) := by decide +kernel
theorem dX7_copy_14 : decode cX7_copy 14 = .ok (.iastore, 1) := by decide +kernel
theorem dX7_copy_15 : decode cX7_copy 15 = .ok (.iinc 2 1, 3) := by decide +kernel
theorem dX7_copy_18 : decode cX7_copy 18 = .ok (.goto (-16), 3) := by decide +kernel
theorem dX7_copy_21 : decode cX7_copy 21 = .ok (.return_, 1) := by decide +kernel
theorem dX7_role_0 : decode cX7_role 0 = .ok (.iconst 4, 1) := by decide +kernel
theorem dX7_role_1 : decode cX7_role 1 = .ok (.iconst 3, 1) := by decide +kernel
theorem dX7_role_2 : decode cX7_role 2 = .ok (.iload_n 0, 1) := by decide +kernel
theorem dX7_role_3 : decode cX7_role 3 = .ok (.imul, 1) := by decide +kernel
theorem dX7_role_4 : decode cX7_role 4 = .ok (.iadd, 1) := by decide +kernel
theorem dX7_role_5 : decode cX7_role 5 = .ok (.ireturn, 1) := by decide +kernel
theorem dX7_rule_0 : decode cX7_rule 0 = .ok (.bipush 34, 2) := by decide +kernel
theorem dX7_rule_2 : decode cX7_rule 2 = .ok (.iconst 4, 1) := by decide +kernel
theorem dX7_rule_3 : decode cX7_rule 3 = .ok (.iload_n 0, 1) := by decide +kernel
theorem dX7_rule_4 : decode cX7_rule 4 = .ok (.imul, 1) := by decide +kernel
theorem dX7_rule_5 : decode cX7_rule 5 = .ok (.iadd, 1) := by decide +kernel
theorem dX7_rule_6 : decode cX7_rule 6 = .ok (.ireturn, 1) := by decide +kernel
theorem dX7_mixed_0 : decode cX7_mixed 0 = .ok (.ldc 38, 2) := by decide +kernel
theorem dX7_mixed_2 : decode cX7_mixed 2 = .ok (.iload_n 0, 1) := by decide +kernel
theorem dX7_mixed_3 : decode cX7_mixed 3 = .ok (.imul, 1) := by decide +kernel
theorem dX7_mixed_4 : decode cX7_mixed 4 = .ok (.sipush 256, 3) := by decide +kernel
theorem dX7_mixed_7 : decode cX7_mixed 7 = .ok (.iload_n 1, 1) := by decide +kernel
theorem dX7_mixed_8 : decode cX7_mixed 8 = .ok (.imul, 1) := by decide +kernel
theorem dX7_mixed_9 : decode cX7_mixed 9 = .ok (.iadd, 1) := by decide +kernel
theorem dX7_mixed_10 : decode cX7_mixed 10 = .ok (.iload_n 2, 1) := by decide +kernel
theorem dX7_mixed_11 : decode cX7_mixed 11 = .ok (.iadd, 1) := by decide +kernel
theorem dX7_mixed_12 : decode cX7_mixed 12 = .ok (.ireturn, 1) := by decide +kernel
theorem dX7_append_0 : decode cX7_append 0 = .ok (.aload_n 0, 1) := by decide +kernel
theorem dX7_append_1 : decode cX7_append 1 = .ok (.iconst 0, 1) := by decide +kernel
theorem dX7_append_2 : decode cX7_append 2 = .ok (.putfield 35, 3) := by decide +kernel
theorem dX7_append_5 : decode cX7_append 5 = .ok (.aload_n 0, 1) := by decide +kernel
theorem dX7_append_6 : decode cX7_append 6 = .ok (.getfield 39, 3) := by decide +kernel
theorem dX7_append_9 : decode cX7_append 9 = .ok (.bipush 20, 2) := by decide +kernel
theorem dX7_append_11 : decode cX7_append 11 = .ok (.iadd, 1) := by decide +kernel
theorem dX7_append_12 : decode cX7_append 12 = .ok (.sipush 700, 3) := by decide +kernel
theorem dX7_append_15 : decode cX7_append 15 = .ok (.if_icmp .le 5, 3) := by decide +kernel
theorem dX7_append_18 : decode cX7_append 18 = .ok (.iconst (-1), 1) := by decide +kernel
theorem dX7_append_19 : decode cX7_append 19 = .ok (.ireturn, 1) := by decide +kernel
theorem dX7_append_20 : decode cX7_append 20 = .ok (.iconst 0, 1) := by decide +kernel
theorem dX7_append_21 : decode cX7_append 21 = .ok (.istore 6, 2) := by decide +kernel
theorem dX7_append_23 : decode cX7_append 23 = .ok (.iload 6, 2) := by decide +kernel
theorem dX7_append_25 : decode cX7_append 25 = .ok (.bipush 20, 2) := by decide +kernel
theorem dX7_append_27 : decode cX7_append 27 = .ok (.if_icmp .ge 93, 3) := by decide +kernel
theorem dX7_append_30 : decode cX7_append 30 = .ok (.iload 6, 2) := by decide +kernel
theorem dX7_append_32 : decode cX7_append 32 = .ok (.iconst 4, 1) := by decide +kernel
theorem dX7_append_33 : decode cX7_append 33 = .ok (.if_icmp .ge 7, 3) := by decide +kernel
theorem dX7_append_36 : decode cX7_append 36 = .ok (.iload_n 1, 1) := by decide +kernel
theorem dX7_append_37 : decode cX7_append 37 = .ok (.goto 39, 3) := by decide +kernel
theorem dX7_append_40 : decode cX7_append 40 = .ok (.iload 6, 2) := by decide +kernel
theorem dX7_append_42 : decode cX7_append 42 = .ok (.bipush 8, 2) := by decide +kernel
theorem dX7_append_44 : decode cX7_append 44 = .ok (.if_icmp .ge 7, 3) := by decide +kernel
theorem dX7_append_47 : decode cX7_append 47 = .ok (.iload_n 2, 1) := by decide +kernel
theorem dX7_append_48 : decode cX7_append 48 = .ok (.goto 28, 3) := by decide +kernel
theorem dX7_append_51 : decode cX7_append 51 = .ok (.iload 6, 2) := by decide +kernel
theorem dX7_append_53 : decode cX7_append 53 = .ok (.bipush 12, 2) := by decide +kernel
theorem dX7_append_55 : decode cX7_append 55 = .ok (.if_icmp .ge 7, 3) := by decide +kernel
theorem dX7_append_58 : decode cX7_append 58 = .ok (.iload_n 3, 1) := by decide +kernel
theorem dX7_append_59 : decode cX7_append 59 = .ok (.goto 17, 3) := by decide +kernel
theorem dX7_append_62 : decode cX7_append 62 = .ok (.iload 6, 2) := by decide +kernel
theorem dX7_append_64 : decode cX7_append 64 = .ok (.bipush 16, 2) := by decide +kernel
theorem dX7_append_66 : decode cX7_append 66 = .ok (.if_icmp .ge 8, 3) := by decide +kernel
theorem dX7_append_69 : decode cX7_append 69 = .ok (.iload 4, 2) := by decide +kernel
theorem dX7_append_71 : decode cX7_append 71 = .ok (.goto 5, 3) := by decide +kernel
theorem dX7_append_74 : decode cX7_append 74 = .ok (.iload 5, 2) := by decide +kernel
theorem dX7_append_76 : decode cX7_append 76 = .ok (.istore 7, 2) := by decide +kernel
theorem dX7_append_78 : decode cX7_append 78 = .ok (.aload_n 0, 1) := by decide +kernel
theorem dX7_append_79 : decode cX7_append 79 = .ok (.getfield 9, 3) := by decide +kernel
theorem dX7_append_82 : decode cX7_append 82 = .ok (.aload_n 0, 1) := by decide +kernel
theorem dX7_append_83 : decode cX7_append 83 = .ok (.getfield 39, 3) := by decide +kernel
theorem dX7_append_86 : decode cX7_append 86 = .ok (.iload 7, 2) := by decide +kernel
theorem dX7_append_88 : decode cX7_append 88 = .ok (.bipush 24, 2) := by decide +kernel
theorem dX7_append_90 : decode cX7_append 90 = .ok (.bipush 8, 2) := by decide +kernel
theorem dX7_append_92 : decode cX7_append 92 = .ok (.iload 6, 2) := by decide +kernel
theorem dX7_append_94 : decode cX7_append 94 = .ok (.iconst 4, 1) := by decide +kernel
theorem dX7_append_95 : decode cX7_append 95 = .ok (.irem, 1) := by decide +kernel
theorem dX7_append_96 : decode cX7_append 96 = .ok (.imul, 1) := by decide +kernel
theorem dX7_append_97 : decode cX7_append 97 = .ok (.isub, 1) := by decide +kernel
theorem dX7_append_98 : decode cX7_append 98 = .ok (.ishr, 1) := by decide +kernel
theorem dX7_append_99 : decode cX7_append 99 = .ok (.sipush 255, 3) := by decide +kernel
theorem dX7_append_102 : decode cX7_append 102 = .ok (.iand, 1) := by decide +kernel
theorem dX7_append_103 : decode cX7_append 103 = .ok (.iastore, 1) := by decide +kernel
theorem dX7_append_104 : decode cX7_append 104 = .ok (.aload_n 0, 1) := by decide +kernel
theorem dX7_append_105 : decode cX7_append 105 = .ok (.dup, 1) := by decide +kernel
theorem dX7_append_106 : decode cX7_append 106 = .ok (.getfield 39, 3) := by decide +kernel
theorem dX7_append_109 : decode cX7_append 109 = .ok (.iconst 1, 1) := by decide +kernel
theorem dX7_append_110 : decode cX7_append 110 = .ok (.iadd, 1) := by decide +kernel
theorem dX7_append_111 : decode cX7_append 111 = .ok (.putfield 39, 3) := by decide +kernel
theorem dX7_append_114 : decode cX7_append 114 = .ok (.iinc 6 1, 3) := by decide +kernel
theorem dX7_append_117 : decode cX7_append 117 = .ok (.goto (-94), 3) := by decide +kernel
theorem dX7_append_120 : decode cX7_append 120 = .ok (.aload_n 0, 1) := by decide +kernel
theorem dX7_append_121 : decode cX7_append 121 = .ok (.getfield 39, 3) := by decide +kernel
theorem dX7_append_124 : decode cX7_append 124 = .ok (.ireturn, 1) := by decide +kernel
theorem dX7_byteAt_0 : decode cX7_byteAt 0 = .ok (.iload_n 1, 1) := by decide +kernel
theorem dX7_byteAt_1 : decode cX7_byteAt 1 = .ok (.aload_n 0, 1) := by decide +kernel
theorem dX7_byteAt_2 : decode cX7_byteAt 2 = .ok (.getfield 42, 3) := by decide +kernel
theorem dX7_byteAt_5 : decode cX7_byteAt 5 = .ok (.if_icmp .ge 12, 3) := by decide +kernel
theorem dX7_byteAt_8 : decode cX7_byteAt 8 = .ok (.aload_n 0, 1) := by decide +kernel
theorem dX7_byteAt_9 : decode cX7_byteAt 9 = .ok (.getfield 9, 3) := by decide +kernel
theorem dX7_byteAt_12 : decode cX7_byteAt 12 = .ok (.iload_n 1, 1) := by decide +kernel
theorem dX7_byteAt_13 : decode cX7_byteAt 13 = .ok (.iaload, 1) := by decide +kernel
theorem dX7_byteAt_14 : decode cX7_byteAt 14 = .ok (.goto 4, 3) := by decide +kernel
theorem dX7_byteAt_17 : decode cX7_byteAt 17 = .ok (.iconst (-1), 1) := by decide +kernel
theorem dX7_byteAt_18 : decode cX7_byteAt 18 = .ok (.ireturn, 1) := by decide +kernel
theorem dX7_next_0 : decode cX7_next 0 = .ok (.aload_n 0, 1) := by decide +kernel
theorem dX7_next_1 : decode cX7_next 1 = .ok (.aload_n 0, 1) := by decide +kernel
theorem dX7_next_2 : decode cX7_next 2 = .ok (.getfield 45, 3) := by decide +kernel
theorem dX7_next_5 : decode cX7_next 5 = .ok (.invokevirtual 48, 3) := by decide +kernel
theorem dX7_next_8 : decode cX7_next 8 = .ok (.bipush 32, 2) := by decide +kernel
theorem dX7_next_10 : decode cX7_next 10 = .ok (.if_icmp .ne 16, 3) := by decide +kernel
theorem dX7_next_13 : decode cX7_next 13 = .ok (.aload_n 0, 1) := by decide +kernel
theorem dX7_next_14 : decode cX7_next 14 = .ok (.dup, 1) := by decide +kernel
theorem dX7_next_15 : decode cX7_next 15 = .ok (.getfield 45, 3) := by decide +kernel
theorem dX7_next_18 : decode cX7_next 18 = .ok (.iconst 1, 1) := by decide +kernel
theorem dX7_next_19 : decode cX7_next 19 = .ok (.iadd, 1) := by decide +kernel
theorem dX7_next_20 : decode cX7_next 20 = .ok (.putfield 45, 3) := by decide +kernel
theorem dX7_next_23 : decode cX7_next 23 = .ok (.goto (-23), 3) := by decide +kernel
theorem dX7_next_26 : decode cX7_next 26 = .ok (.aload_n 0, 1) := by decide +kernel
theorem dX7_next_27 : decode cX7_next 27 = .ok (.aload_n 0, 1) := by decide +kernel
theorem dX7_next_28 : decode cX7_next 28 = .ok (.getfield 45, 3) := by decide +kernel
theorem dX7_next_31 : decode cX7_next 31 = .ok (.invokevirtual 48, 3) := by decide +kernel
theorem dX7_next_34 : decode cX7_next 34 = .ok (.ireturn, 1) := by decide +kernel
theorem dX7_isGood_0 : decode cX7_isGood 0 = .ok (.aload_n 0, 1) := by decide +kernel
theorem dX7_isGood_1 : decode cX7_isGood 1 = .ok (.getfield 52, 3) := by decide +kernel
theorem dX7_isGood_4 : decode cX7_isGood 4 = .ok (.ifCond .ne 7, 3) := by decide +kernel
theorem dX7_isGood_7 : decode cX7_isGood 7 = .ok (.iconst 1, 1) := by decide +kernel
theorem dX7_isGood_8 : decode cX7_isGood 8 = .ok (.goto 4, 3) := by decide +kernel
theorem dX7_isGood_11 : decode cX7_isGood 11 = .ok (.iconst 0, 1) := by decide +kernel
theorem dX7_isGood_12 : decode cX7_isGood 12 = .ok (.ireturn, 1) := by decide +kernel
theorem dX7_report_0 : decode cX7_report 0 = .ok (.aload_n 0, 1) := by decide +kernel
theorem dX7_report_1 : decode cX7_report 1 = .ok (.getfield 52, 3) := by decide +kernel
theorem dX7_report_4 : decode cX7_report 4 = .ok (.ifCond .eq 4, 3) := by decide +kernel
theorem dX7_report_7 : decode cX7_report 7 = .ok (.return_, 1) := by decide +kernel
theorem dX7_report_8 : decode cX7_report 8 = .ok (.aload_n 0, 1) := by decide +kernel
theorem dX7_report_9 : decode cX7_report 9 = .ok (.iload_n 1, 1) := by decide +kernel
theorem dX7_report_10 : decode cX7_report 10 = .ok (.putfield 52, 3) := by decide +kernel
theorem dX7_report_13 : decode cX7_report 13 = .ok (.aload_n 0, 1) := by decide +kernel
theorem dX7_report_14 : decode cX7_report 14 = .ok (.iload_n 2, 1) := by decide +kernel
theorem dX7_report_15 : decode cX7_report 15 = .ok (.putfield 55, 3) := by decide +kernel
theorem dX7_report_18 : decode cX7_report 18 = .ok (.return_, 1) := by decide +kernel
theorem dX7_isDigit_0 : decode cX7_isDigit 0 = .ok (.iload_n 0, 1) := by decide +kernel
theorem dX7_isDigit_1 : decode cX7_isDigit 1 = .ok (.bipush 48, 2) := by decide +kernel
theorem dX7_isDigit_3 : decode cX7_isDigit 3 = .ok (.bipush 57, 2) := by decide +kernel
theorem dX7_isDigit_5 : decode cX7_isDigit 5 = .ok (.invokestatic 58, 3) := by decide +kernel
theorem dX7_isDigit_8 : decode cX7_isDigit 8 = .ok (.ireturn, 1) := by decide +kernel
theorem dX7_takeWord_0 : decode cX7_takeWord 0 = .ok (.aload_n 0, 1) := by decide +kernel
theorem dX7_takeWord_1 : decode cX7_takeWord 1 = .ok (.invokevirtual 62, 3) := by decide +kernel
theorem dX7_takeWord_4 : decode cX7_takeWord 4 = .ok (.ifCond .ne 5, 3) := by decide +kernel
theorem dX7_takeWord_7 : decode cX7_takeWord 7 = .ok (.iconst 0, 1) := by decide +kernel
theorem dX7_takeWord_8 : decode cX7_takeWord 8 = .ok (.ireturn, 1) := by decide +kernel
theorem dX7_takeWord_9 : decode cX7_takeWord 9 = .ok (.aload_n 0, 1) := by decide +kernel
theorem dX7_takeWord_10 : decode cX7_takeWord 10 = .ok (.invokevirtual 66, 3) := by decide +kernel
theorem dX7_takeWord_13 : decode cX7_takeWord 13 = .ok (.pop, 1) := by decide +kernel
theorem dX7_takeWord_14 : decode cX7_takeWord 14 = .ok (.iconst 0, 1) := by decide +kernel
theorem dX7_takeWord_15 : decode cX7_takeWord 15 = .ok (.istore_n 2, 1) := by decide +kernel
theorem dX7_takeWord_16 : decode cX7_takeWord 16 = .ok (.iload_n 2, 1) := by decide +kernel
theorem dX7_takeWord_17 : decode cX7_takeWord 17 = .ok (.aload_n 1, 1) := by decide +kernel
theorem dX7_takeWord_18 : decode cX7_takeWord 18 = .ok (.invokevirtual 70, 3) := by decide +kernel
theorem dX7_takeWord_21 : decode cX7_takeWord 21 = .ok (.if_icmp .ge 27, 3) := by decide +kernel
theorem dX7_takeWord_24 : decode cX7_takeWord 24 = .ok (.aload_n 0, 1) := by decide +kernel
theorem dX7_takeWord_25 : decode cX7_takeWord 25 = .ok (.aload_n 0, 1) := by decide +kernel
theorem dX7_takeWord_26 : decode cX7_takeWord 26 = .ok (.getfield 45, 3) := by decide +kernel
theorem dX7_takeWord_29 : decode cX7_takeWord 29 = .ok (.iload_n 2, 1) := by decide +kernel
theorem dX7_takeWord_30 : decode cX7_takeWord 30 = .ok (.iadd, 1) := by decide +kernel
theorem dX7_takeWord_31 : decode cX7_takeWord 31 = .ok (.invokevirtual 48, 3) := by decide +kernel
theorem dX7_takeWord_34 : decode cX7_takeWord 34 = .ok (.aload_n 1, 1) := by decide +kernel
theorem dX7_takeWord_35 : decode cX7_takeWord 35 = .ok (.iload_n 2, 1) := by decide +kernel
theorem dX7_takeWord_36 : decode cX7_takeWord 36 = .ok (.invokevirtual 75, 3) := by decide +kernel
theorem dX7_takeWord_39 : decode cX7_takeWord 39 = .ok (.if_icmp .ne 9, 3) := by decide +kernel
theorem dX7_takeWord_42 : decode cX7_takeWord 42 = .ok (.iinc 2 1, 3) := by decide +kernel
theorem dX7_takeWord_45 : decode cX7_takeWord 45 = .ok (.goto (-29), 3) := by decide +kernel
theorem dX7_takeWord_48 : decode cX7_takeWord 48 = .ok (.iload_n 2, 1) := by decide +kernel
theorem dX7_takeWord_49 : decode cX7_takeWord 49 = .ok (.aload_n 1, 1) := by decide +kernel
theorem dX7_takeWord_50 : decode cX7_takeWord 50 = .ok (.invokevirtual 70, 3) := by decide +kernel
theorem dX7_takeWord_53 : decode cX7_takeWord 53 = .ok (.if_icmp .lt 23, 3) := by decide +kernel
theorem dX7_takeWord_56 : decode cX7_takeWord 56 = .ok (.aload_n 0, 1) := by decide +kernel
theorem dX7_takeWord_57 : decode cX7_takeWord 57 = .ok (.aload_n 0, 1) := by decide +kernel
theorem dX7_takeWord_58 : decode cX7_takeWord 58 = .ok (.getfield 45, 3) := by decide +kernel
theorem dX7_takeWord_61 : decode cX7_takeWord 61 = .ok (.iload_n 2, 1) := by decide +kernel
theorem dX7_takeWord_62 : decode cX7_takeWord 62 = .ok (.iadd, 1) := by decide +kernel
theorem dX7_takeWord_63 : decode cX7_takeWord 63 = .ok (.invokevirtual 48, 3) := by decide +kernel
theorem dX7_takeWord_66 : decode cX7_takeWord 66 = .ok (.bipush 97, 2) := by decide +kernel
theorem dX7_takeWord_68 : decode cX7_takeWord 68 = .ok (.bipush 122, 2) := by decide +kernel
theorem dX7_takeWord_70 : decode cX7_takeWord 70 = .ok (.invokestatic 58, 3) := by decide +kernel
theorem dX7_takeWord_73 : decode cX7_takeWord 73 = .ok (.ifCond .eq 5, 3) := by decide +kernel
theorem dX7_takeWord_76 : decode cX7_takeWord 76 = .ok (.iconst 0, 1) := by decide +kernel
theorem dX7_takeWord_77 : decode cX7_takeWord 77 = .ok (.ireturn, 1) := by decide +kernel
theorem dX7_takeWord_78 : decode cX7_takeWord 78 = .ok (.aload_n 0, 1) := by decide +kernel
theorem dX7_takeWord_79 : decode cX7_takeWord 79 = .ok (.dup, 1) := by decide +kernel
theorem dX7_takeWord_80 : decode cX7_takeWord 80 = .ok (.getfield 45, 3) := by decide +kernel
theorem dX7_takeWord_83 : decode cX7_takeWord 83 = .ok (.iload_n 2, 1) := by decide +kernel
theorem dX7_takeWord_84 : decode cX7_takeWord 84 = .ok (.iadd, 1) := by decide +kernel
theorem dX7_takeWord_85 : decode cX7_takeWord 85 = .ok (.putfield 45, 3) := by decide +kernel
theorem dX7_takeWord_88 : decode cX7_takeWord 88 = .ok (.iconst 1, 1) := by decide +kernel
theorem dX7_takeWord_89 : decode cX7_takeWord 89 = .ok (.ireturn, 1) := by decide +kernel
theorem dX7_expect_0 : decode cX7_expect 0 = .ok (.aload_n 0, 1) := by decide +kernel
theorem dX7_expect_1 : decode cX7_expect 1 = .ok (.invokevirtual 62, 3) := by decide +kernel
theorem dX7_expect_4 : decode cX7_expect 4 = .ok (.ifCond .ne 4, 3) := by decide +kernel
theorem dX7_expect_7 : decode cX7_expect 7 = .ok (.return_, 1) := by decide +kernel
theorem dX7_expect_8 : decode cX7_expect 8 = .ok (.aload_n 0, 1) := by decide +kernel
theorem dX7_expect_9 : decode cX7_expect 9 = .ok (.invokevirtual 66, 3) := by decide +kernel
theorem dX7_expect_12 : decode cX7_expect 12 = .ok (.iload_n 1, 1) := by decide +kernel
theorem dX7_expect_13 : decode cX7_expect 13 = .ok (.if_icmp .ne 16, 3) := by decide +kernel
theorem dX7_expect_16 : decode cX7_expect 16 = .ok (.aload_n 0, 1) := by decide +kernel
theorem dX7_expect_17 : decode cX7_expect 17 = .ok (.dup, 1) := by decide +kernel
theorem dX7_expect_18 : decode cX7_expect 18 = .ok (.getfield 45, 3) := by decide +kernel
theorem dX7_expect_21 : decode cX7_expect 21 = .ok (.iconst 1, 1) := by decide +kernel
theorem dX7_expect_22 : decode cX7_expect 22 = .ok (.iadd, 1) := by decide +kernel
theorem dX7_expect_23 : decode cX7_expect 23 = .ok (.putfield 45, 3) := by decide +kernel
theorem dX7_expect_26 : decode cX7_expect 26 = .ok (.goto 13, 3) := by decide +kernel
theorem dX7_expect_29 : decode cX7_expect 29 = .ok (.aload_n 0, 1) := by decide +kernel
theorem dX7_expect_30 : decode cX7_expect 30 = .ok (.bipush (-2), 2) := by decide +kernel
theorem dX7_expect_32 : decode cX7_expect 32 = .ok (.aload_n 0, 1) := by decide +kernel
theorem dX7_expect_33 : decode cX7_expect 33 = .ok (.getfield 45, 3) := by decide +kernel
theorem dX7_expect_36 : decode cX7_expect 36 = .ok (.invokevirtual 79, 3) := by decide +kernel
theorem dX7_expect_39 : decode cX7_expect 39 = .ok (.return_, 1) := by decide +kernel
theorem dX7_number_0 : decode cX7_number 0 = .ok (.aload_n 0, 1) := by decide +kernel
theorem dX7_number_1 : decode cX7_number 1 = .ok (.invokevirtual 62, 3) := by decide +kernel
theorem dX7_number_4 : decode cX7_number 4 = .ok (.ifCond .ne 5, 3) := by decide +kernel
theorem dX7_number_7 : decode cX7_number 7 = .ok (.iconst 0, 1) := by decide +kernel
theorem dX7_number_8 : decode cX7_number 8 = .ok (.ireturn, 1) := by decide +kernel
theorem dX7_number_9 : decode cX7_number 9 = .ok (.aload_n 0, 1) := by decide +kernel
theorem dX7_number_10 : decode cX7_number 10 = .ok (.invokevirtual 66, 3) := by decide +kernel
theorem dX7_number_13 : decode cX7_number 13 = .ok (.invokestatic 83, 3) := by decide +kernel
theorem dX7_number_16 : decode cX7_number 16 = .ok (.ifCond .ne 15, 3) := by decide +kernel
theorem dX7_number_19 : decode cX7_number 19 = .ok (.aload_n 0, 1) := by decide +kernel
theorem dX7_number_20 : decode cX7_number 20 = .ok (.bipush (-2), 2) := by decide +kernel
theorem dX7_number_22 : decode cX7_number 22 = .ok (.aload_n 0, 1) := by decide +kernel
theorem dX7_number_23 : decode cX7_number 23 = .ok (.getfield 45, 3) := by decide +kernel
theorem dX7_number_26 : decode cX7_number 26 = .ok (.invokevirtual 79, 3) := by decide +kernel
theorem dX7_number_29 : decode cX7_number 29 = .ok (.iconst 0, 1) := by decide +kernel
theorem dX7_number_30 : decode cX7_number 30 = .ok (.ireturn, 1) := by decide +kernel
theorem dX7_number_31 : decode cX7_number 31 = .ok (.aload_n 0, 1) := by decide +kernel
theorem dX7_number_32 : decode cX7_number 32 = .ok (.aload_n 0, 1) := by decide +kernel
theorem dX7_number_33 : decode cX7_number 33 = .ok (.getfield 45, 3) := by decide +kernel
theorem dX7_number_36 : decode cX7_number 36 = .ok (.putfield 87, 3) := by decide +kernel
theorem dX7_number_39 : decode cX7_number 39 = .ok (.iconst 0, 1) := by decide +kernel
theorem dX7_number_40 : decode cX7_number 40 = .ok (.istore_n 3, 1) := by decide +kernel
theorem dX7_number_41 : decode cX7_number 41 = .ok (.aload_n 0, 1) := by decide +kernel
theorem dX7_number_42 : decode cX7_number 42 = .ok (.aload_n 0, 1) := by decide +kernel
theorem dX7_number_43 : decode cX7_number 43 = .ok (.getfield 45, 3) := by decide +kernel
theorem dX7_number_46 : decode cX7_number 46 = .ok (.invokevirtual 48, 3) := by decide +kernel
theorem dX7_number_49 : decode cX7_number 49 = .ok (.invokestatic 83, 3) := by decide +kernel
theorem dX7_number_52 : decode cX7_number 52 = .ok (.ifCond .eq 38, 3) := by decide +kernel
theorem dX7_number_55 : decode cX7_number 55 = .ok (.ldc 90, 2) := by decide +kernel
theorem dX7_number_57 : decode cX7_number 57 = .ok (.bipush 10, 2) := by decide +kernel
theorem dX7_number_59 : decode cX7_number 59 = .ok (.iload_n 3, 1) := by decide +kernel
theorem dX7_number_60 : decode cX7_number 60 = .ok (.imul, 1) := by decide +kernel
theorem dX7_number_61 : decode cX7_number 61 = .ok (.aload_n 0, 1) := by decide +kernel
theorem dX7_number_62 : decode cX7_number 62 = .ok (.aload_n 0, 1) := by decide +kernel
theorem dX7_number_63 : decode cX7_number 63 = .ok (.getfield 45, 3) := by decide +kernel
theorem dX7_number_66 : decode cX7_number 66 = .ok (.invokevirtual 48, 3) := by decide +kernel
theorem dX7_number_69 : decode cX7_number 69 = .ok (.iadd, 1) := by decide +kernel
theorem dX7_number_70 : decode cX7_number 70 = .ok (.bipush 48, 2) := by decide +kernel
theorem dX7_number_72 : decode cX7_number 72 = .ok (.isub, 1) := by decide +kernel
theorem dX7_number_73 : decode cX7_number 73 = .ok (.invokestatic 91, 3) := by decide +kernel
theorem dX7_number_76 : decode cX7_number 76 = .ok (.istore_n 3, 1) := by decide +kernel
theorem dX7_number_77 : decode cX7_number 77 = .ok (.aload_n 0, 1) := by decide +kernel
theorem dX7_number_78 : decode cX7_number 78 = .ok (.dup, 1) := by decide +kernel
theorem dX7_number_79 : decode cX7_number 79 = .ok (.getfield 45, 3) := by decide +kernel
theorem dX7_number_82 : decode cX7_number 82 = .ok (.iconst 1, 1) := by decide +kernel
theorem dX7_number_83 : decode cX7_number 83 = .ok (.iadd, 1) := by decide +kernel
theorem dX7_number_84 : decode cX7_number 84 = .ok (.putfield 45, 3) := by decide +kernel
theorem dX7_number_87 : decode cX7_number 87 = .ok (.goto (-46), 3) := by decide +kernel
theorem dX7_number_90 : decode cX7_number 90 = .ok (.iload_n 3, 1) := by decide +kernel
theorem dX7_number_91 : decode cX7_number 91 = .ok (.iload_n 1, 1) := by decide +kernel
theorem dX7_number_92 : decode cX7_number 92 = .ok (.iload_n 2, 1) := by decide +kernel
theorem dX7_number_93 : decode cX7_number 93 = .ok (.invokestatic 58, 3) := by decide +kernel
theorem dX7_number_96 : decode cX7_number 96 = .ok (.ifCond .ne 13, 3) := by decide +kernel
theorem dX7_number_99 : decode cX7_number 99 = .ok (.aload_n 0, 1) := by decide +kernel
theorem dX7_number_100 : decode cX7_number 100 = .ok (.bipush (-3), 2) := by decide +kernel
theorem dX7_number_102 : decode cX7_number 102 = .ok (.aload_n 0, 1) := by decide +kernel
theorem dX7_number_103 : decode cX7_number 103 = .ok (.getfield 87, 3) := by decide +kernel
theorem dX7_number_106 : decode cX7_number 106 = .ok (.invokevirtual 79, 3) := by decide +kernel
theorem dX7_number_109 : decode cX7_number 109 = .ok (.iload_n 3, 1) := by decide +kernel
theorem dX7_number_110 : decode cX7_number 110 = .ok (.ireturn, 1) := by decide +kernel
theorem dX7_emit_0 : decode cX7_emit 0 = .ok (.aload_n 0, 1) := by decide +kernel
theorem dX7_emit_1 : decode cX7_emit 1 = .ok (.invokevirtual 62, 3) := by decide +kernel
theorem dX7_emit_4 : decode cX7_emit 4 = .ok (.ifCond .ne 4, 3) := by decide +kernel
theorem dX7_emit_7 : decode cX7_emit 7 = .ok (.return_, 1) := by decide +kernel
theorem dX7_emit_8 : decode cX7_emit 8 = .ok (.aload_n 0, 1) := by decide +kernel
theorem dX7_emit_9 : decode cX7_emit 9 = .ok (.getfield 20, 3) := by decide +kernel
theorem dX7_emit_12 : decode cX7_emit 12 = .ok (.bipush 82, 2) := by decide +kernel
theorem dX7_emit_14 : decode cX7_emit 14 = .ok (.aload_n 0, 1) := by decide +kernel
theorem dX7_emit_15 : decode cX7_emit 15 = .ok (.getfield 20, 3) := by decide +kernel
theorem dX7_emit_18 : decode cX7_emit 18 = .ok (.iconst 3, 1) := by decide +kernel
theorem dX7_emit_19 : decode cX7_emit 19 = .ok (.iaload, 1) := by decide +kernel
theorem dX7_emit_20 : decode cX7_emit 20 = .ok (.iadd, 1) := by decide +kernel
theorem dX7_emit_21 : decode cX7_emit 21 = .ok (.iload_n 1, 1) := by decide +kernel
theorem dX7_emit_22 : decode cX7_emit 22 = .ok (.iastore, 1) := by decide +kernel
theorem dX7_emit_23 : decode cX7_emit 23 = .ok (.aload_n 0, 1) := by decide +kernel
theorem dX7_emit_24 : decode cX7_emit 24 = .ok (.getfield 20, 3) := by decide +kernel
theorem dX7_emit_27 : decode cX7_emit 27 = .ok (.iconst 3, 1) := by decide +kernel
theorem dX7_emit_28 : decode cX7_emit 28 = .ok (.dup2, 1) := by decide +kernel
theorem dX7_emit_29 : decode cX7_emit 29 = .ok (.iaload, 1) := by decide +kernel
theorem dX7_emit_30 : decode cX7_emit 30 = .ok (.iconst 1, 1) := by decide +kernel
theorem dX7_emit_31 : decode cX7_emit 31 = .ok (.iadd, 1) := by decide +kernel
theorem dX7_emit_32 : decode cX7_emit 32 = .ok (.iastore, 1) := by decide +kernel
theorem dX7_emit_33 : decode cX7_emit 33 = .ok (.return_, 1) := by decide +kernel
theorem dX7_factor_0 : decode cX7_factor 0 = .ok (.aload_n 0, 1) := by decide +kernel
theorem dX7_factor_1 : decode cX7_factor 1 = .ok (.invokevirtual 62, 3) := by decide +kernel
theorem dX7_factor_4 : decode cX7_factor 4 = .ok (.ifCond .ne 4, 3) := by decide +kernel
theorem dX7_factor_7 : decode cX7_factor 7 = .ok (.return_, 1) := by decide +kernel
theorem dX7_factor_8 : decode cX7_factor 8 = .ok (.aload_n 0, 1) := by decide +kernel
theorem dX7_factor_9 : decode cX7_factor 9 = .ok (.invokevirtual 66, 3) := by decide +kernel
theorem dX7_factor_12 : decode cX7_factor 12 = .ok (.istore_n 1, 1) := by decide +kernel
theorem dX7_factor_13 : decode cX7_factor 13 = .ok (.iload_n 1, 1) := by decide +kernel
theorem dX7_factor_14 : decode cX7_factor 14 = .ok (.bipush 40, 2) := by decide +kernel
theorem dX7_factor_16 : decode cX7_factor 16 = .ok (.if_icmp .ne 62, 3) := by decide +kernel
theorem dX7_factor_19 : decode cX7_factor 19 = .ok (.aload_n 0, 1) := by decide +kernel
theorem dX7_factor_20 : decode cX7_factor 20 = .ok (.getfield 95, 3) := by decide +kernel
theorem dX7_factor_23 : decode cX7_factor 23 = .ok (.iconst 4, 1) := by decide +kernel
theorem dX7_factor_24 : decode cX7_factor 24 = .ok (.if_icmp .ne 13, 3) := by decide +kernel
theorem dX7_factor_27 : decode cX7_factor 27 = .ok (.aload_n 0, 1) := by decide +kernel
theorem dX7_factor_28 : decode cX7_factor 28 = .ok (.bipush (-5), 2) := by decide +kernel
theorem dX7_factor_30 : decode cX7_factor 30 = .ok (.aload_n 0, 1) := by decide +kernel
theorem dX7_factor_31 : decode cX7_factor 31 = .ok (.getfield 45, 3) := by decide +kernel
theorem dX7_factor_34 : decode cX7_factor 34 = .ok (.invokevirtual 79, 3) := by decide +kernel
theorem dX7_factor_37 : decode cX7_factor 37 = .ok (.aload_n 0, 1) := by decide +kernel
theorem dX7_factor_38 : decode cX7_factor 38 = .ok (.dup, 1) := by decide +kernel
theorem dX7_factor_39 : decode cX7_factor 39 = .ok (.getfield 45, 3) := by decide +kernel
theorem dX7_factor_42 : decode cX7_factor 42 = .ok (.iconst 1, 1) := by decide +kernel
theorem dX7_factor_43 : decode cX7_factor 43 = .ok (.iadd, 1) := by decide +kernel
theorem dX7_factor_44 : decode cX7_factor 44 = .ok (.putfield 45, 3) := by decide +kernel
theorem dX7_factor_47 : decode cX7_factor 47 = .ok (.aload_n 0, 1) := by decide +kernel
theorem dX7_factor_48 : decode cX7_factor 48 = .ok (.dup, 1) := by decide +kernel
theorem dX7_factor_49 : decode cX7_factor 49 = .ok (.getfield 95, 3) := by decide +kernel
theorem dX7_factor_52 : decode cX7_factor 52 = .ok (.iconst 1, 1) := by decide +kernel
theorem dX7_factor_53 : decode cX7_factor 53 = .ok (.iadd, 1) := by decide +kernel
theorem dX7_factor_54 : decode cX7_factor 54 = .ok (.putfield 95, 3) := by decide +kernel
theorem dX7_factor_57 : decode cX7_factor 57 = .ok (.aload_n 0, 1) := by decide +kernel
theorem dX7_factor_58 : decode cX7_factor 58 = .ok (.invokevirtual 98, 3) := by decide +kernel
theorem dX7_factor_61 : decode cX7_factor 61 = .ok (.aload_n 0, 1) := by decide +kernel
theorem dX7_factor_62 : decode cX7_factor 62 = .ok (.bipush 41, 2) := by decide +kernel
theorem dX7_factor_64 : decode cX7_factor 64 = .ok (.invokevirtual 101, 3) := by decide +kernel
theorem dX7_factor_67 : decode cX7_factor 67 = .ok (.aload_n 0, 1) := by decide +kernel
theorem dX7_factor_68 : decode cX7_factor 68 = .ok (.dup, 1) := by decide +kernel
theorem dX7_factor_69 : decode cX7_factor 69 = .ok (.getfield 95, 3) := by decide +kernel
theorem dX7_factor_72 : decode cX7_factor 72 = .ok (.iconst 1, 1) := by decide +kernel
theorem dX7_factor_73 : decode cX7_factor 73 = .ok (.isub, 1) := by decide +kernel
theorem dX7_factor_74 : decode cX7_factor 74 = .ok (.putfield 95, 3) := by decide +kernel
theorem dX7_factor_77 : decode cX7_factor 77 = .ok (.return_, 1) := by decide +kernel
theorem dX7_factor_78 : decode cX7_factor 78 = .ok (.iload_n 1, 1) := by decide +kernel
theorem dX7_factor_79 : decode cX7_factor 79 = .ok (.invokestatic 83, 3) := by decide +kernel
theorem dX7_factor_82 : decode cX7_factor 82 = .ok (.ifCond .eq 7, 3) := by decide +kernel
theorem dX7_factor_85 : decode cX7_factor 85 = .ok (.iconst (-1), 1) := by decide +kernel
theorem dX7_factor_86 : decode cX7_factor 86 = .ok (.goto 30, 3) := by decide +kernel
theorem dX7_factor_89 : decode cX7_factor 89 = .ok (.aload_n 0, 1) := by decide +kernel
theorem dX7_factor_90 : decode cX7_factor 90 = .ok (.ldc 105, 2) := by decide +kernel
theorem dX7_factor_92 : decode cX7_factor 92 = .ok (.invokevirtual 107, 3) := by decide +kernel
theorem dX7_factor_95 : decode cX7_factor 95 = .ok (.ifCond .eq 7, 3) := by decide +kernel
theorem dX7_factor_98 : decode cX7_factor 98 = .ok (.iconst 0, 1) := by decide +kernel
theorem dX7_factor_99 : decode cX7_factor 99 = .ok (.goto 17, 3) := by decide +kernel
theorem dX7_factor_102 : decode cX7_factor 102 = .ok (.aload_n 0, 1) := by decide +kernel
theorem dX7_factor_103 : decode cX7_factor 103 = .ok (.ldc 111, 2) := by decide +kernel
theorem dX7_factor_105 : decode cX7_factor 105 = .ok (.invokevirtual 107, 3) := by decide +kernel
theorem dX7_factor_108 : decode cX7_factor 108 = .ok (.ifCond .eq 7, 3) := by decide +kernel
theorem dX7_factor_111 : decode cX7_factor 111 = .ok (.iconst 1, 1) := by decide +kernel
theorem dX7_factor_112 : decode cX7_factor 112 = .ok (.goto 4, 3) := by decide +kernel
theorem dX7_factor_115 : decode cX7_factor 115 = .ok (.iconst (-1), 1) := by decide +kernel
theorem dX7_factor_116 : decode cX7_factor 116 = .ok (.istore_n 2, 1) := by decide +kernel
theorem dX7_factor_117 : decode cX7_factor 117 = .ok (.iload_n 2, 1) := by decide +kernel
theorem dX7_factor_118 : decode cX7_factor 118 = .ok (.ifCond .ge 14, 3) := by decide +kernel
theorem dX7_factor_121 : decode cX7_factor 121 = .ok (.aload_n 0, 1) := by decide +kernel
theorem dX7_factor_122 : decode cX7_factor 122 = .ok (.iconst 0, 1) := by decide +kernel
theorem dX7_factor_123 : decode cX7_factor 123 = .ok (.sipush 9999, 3) := by decide +kernel
theorem dX7_factor_126 : decode cX7_factor 126 = .ok (.invokevirtual 113, 3) := by decide +kernel
theorem dX7_factor_129 : decode cX7_factor 129 = .ok (.goto 4, 3) := by decide +kernel
theorem dX7_factor_132 : decode cX7_factor 132 = .ok (.iload_n 2, 1) := by decide +kernel
theorem dX7_factor_133 : decode cX7_factor 133 = .ok (.istore_n 3, 1) := by decide +kernel
theorem dX7_factor_134 : decode cX7_factor 134 = .ok (.aload_n 0, 1) := by decide +kernel
theorem dX7_factor_135 : decode cX7_factor 135 = .ok (.iload_n 2, 1) := by decide +kernel
theorem dX7_factor_136 : decode cX7_factor 136 = .ok (.ifCond .ge 7, 3) := by decide +kernel
theorem dX7_factor_139 : decode cX7_factor 139 = .ok (.iconst 0, 1) := by decide +kernel
theorem dX7_factor_140 : decode cX7_factor 140 = .ok (.goto 4, 3) := by decide +kernel
theorem dX7_factor_143 : decode cX7_factor 143 = .ok (.iconst 1, 1) := by decide +kernel
theorem dX7_factor_144 : decode cX7_factor 144 = .ok (.invokevirtual 116, 3) := by decide +kernel
theorem dX7_factor_147 : decode cX7_factor 147 = .ok (.aload_n 0, 1) := by decide +kernel
theorem dX7_factor_148 : decode cX7_factor 148 = .ok (.iload_n 3, 1) := by decide +kernel
theorem dX7_factor_149 : decode cX7_factor 149 = .ok (.invokevirtual 116, 3) := by decide +kernel
theorem dX7_factor_152 : decode cX7_factor 152 = .ok (.return_, 1) := by decide +kernel
theorem dX7_term_0 : decode cX7_term 0 = .ok (.aload_n 0, 1) := by decide +kernel
theorem dX7_term_1 : decode cX7_term 1 = .ok (.invokevirtual 119, 3) := by decide +kernel
theorem dX7_term_4 : decode cX7_term 4 = .ok (.aload_n 0, 1) := by decide +kernel
theorem dX7_term_5 : decode cX7_term 5 = .ok (.invokevirtual 62, 3) := by decide +kernel
theorem dX7_term_8 : decode cX7_term 8 = .ok (.ifCond .eq 66, 3) := by decide +kernel
theorem dX7_term_11 : decode cX7_term 11 = .ok (.aload_n 0, 1) := by decide +kernel
theorem dX7_term_12 : decode cX7_term 12 = .ok (.invokevirtual 66, 3) := by decide +kernel
theorem dX7_term_15 : decode cX7_term 15 = .ok (.bipush 42, 2) := by decide +kernel
theorem dX7_term_17 : decode cX7_term 17 = .ok (.if_icmp .eq 12, 3) := by decide +kernel
theorem dX7_term_20 : decode cX7_term 20 = .ok (.aload_n 0, 1) := by decide +kernel
theorem dX7_term_21 : decode cX7_term 21 = .ok (.invokevirtual 66, 3) := by decide +kernel
theorem dX7_term_24 : decode cX7_term 24 = .ok (.bipush 47, 2) := by decide +kernel
theorem dX7_term_26 : decode cX7_term 26 = .ok (.if_icmp .ne 48, 3) := by decide +kernel
theorem dX7_term_29 : decode cX7_term 29 = .ok (.aload_n 0, 1) := by decide +kernel
theorem dX7_term_30 : decode cX7_term 30 = .ok (.invokevirtual 66, 3) := by decide +kernel
theorem dX7_term_33 : decode cX7_term 33 = .ok (.bipush 42, 2) := by decide +kernel
theorem dX7_term_35 : decode cX7_term 35 = .ok (.if_icmp .ne 7, 3) := by decide +kernel
theorem dX7_term_38 : decode cX7_term 38 = .ok (.iconst 1, 1) := by decide +kernel
theorem dX7_term_39 : decode cX7_term 39 = .ok (.goto 4, 3) := by decide +kernel
theorem dX7_term_42 : decode cX7_term 42 = .ok (.iconst 0, 1) := by decide +kernel
theorem dX7_term_43 : decode cX7_term 43 = .ok (.istore_n 1, 1) := by decide +kernel
theorem dX7_term_44 : decode cX7_term 44 = .ok (.aload_n 0, 1) := by decide +kernel
theorem dX7_term_45 : decode cX7_term 45 = .ok (.dup, 1) := by decide +kernel
theorem dX7_term_46 : decode cX7_term 46 = .ok (.getfield 45, 3) := by decide +kernel
theorem dX7_term_49 : decode cX7_term 49 = .ok (.iconst 1, 1) := by decide +kernel
theorem dX7_term_50 : decode cX7_term 50 = .ok (.iadd, 1) := by decide +kernel
theorem dX7_term_51 : decode cX7_term 51 = .ok (.putfield 45, 3) := by decide +kernel
theorem dX7_term_54 : decode cX7_term 54 = .ok (.aload_n 0, 1) := by decide +kernel
theorem dX7_term_55 : decode cX7_term 55 = .ok (.invokevirtual 119, 3) := by decide +kernel
theorem dX7_term_58 : decode cX7_term 58 = .ok (.aload_n 0, 1) := by decide +kernel
theorem dX7_term_59 : decode cX7_term 59 = .ok (.iload_n 1, 1) := by decide +kernel
theorem dX7_term_60 : decode cX7_term 60 = .ok (.ifCond .eq 7, 3) := by decide +kernel
theorem dX7_term_63 : decode cX7_term 63 = .ok (.iconst 4, 1) := by decide +kernel
theorem dX7_term_64 : decode cX7_term 64 = .ok (.goto 4, 3) := by decide +kernel
theorem dX7_term_67 : decode cX7_term 67 = .ok (.iconst 5, 1) := by decide +kernel
theorem dX7_term_68 : decode cX7_term 68 = .ok (.invokevirtual 116, 3) := by decide +kernel
theorem dX7_term_71 : decode cX7_term 71 = .ok (.goto (-67), 3) := by decide +kernel
theorem dX7_term_74 : decode cX7_term 74 = .ok (.return_, 1) := by decide +kernel
theorem dX7_sum_0 : decode cX7_sum 0 = .ok (.aload_n 0, 1) := by decide +kernel
theorem dX7_sum_1 : decode cX7_sum 1 = .ok (.invokevirtual 122, 3) := by decide +kernel
theorem dX7_sum_4 : decode cX7_sum 4 = .ok (.aload_n 0, 1) := by decide +kernel
theorem dX7_sum_5 : decode cX7_sum 5 = .ok (.invokevirtual 62, 3) := by decide +kernel
theorem dX7_sum_8 : decode cX7_sum 8 = .ok (.ifCond .eq 66, 3) := by decide +kernel
theorem dX7_sum_11 : decode cX7_sum 11 = .ok (.aload_n 0, 1) := by decide +kernel
theorem dX7_sum_12 : decode cX7_sum 12 = .ok (.invokevirtual 66, 3) := by decide +kernel
theorem dX7_sum_15 : decode cX7_sum 15 = .ok (.bipush 43, 2) := by decide +kernel
theorem dX7_sum_17 : decode cX7_sum 17 = .ok (.if_icmp .eq 12, 3) := by decide +kernel
theorem dX7_sum_20 : decode cX7_sum 20 = .ok (.aload_n 0, 1) := by decide +kernel
theorem dX7_sum_21 : decode cX7_sum 21 = .ok (.invokevirtual 66, 3) := by decide +kernel
theorem dX7_sum_24 : decode cX7_sum 24 = .ok (.bipush 45, 2) := by decide +kernel
theorem dX7_sum_26 : decode cX7_sum 26 = .ok (.if_icmp .ne 48, 3) := by decide +kernel
theorem dX7_sum_29 : decode cX7_sum 29 = .ok (.aload_n 0, 1) := by decide +kernel
theorem dX7_sum_30 : decode cX7_sum 30 = .ok (.invokevirtual 66, 3) := by decide +kernel
theorem dX7_sum_33 : decode cX7_sum 33 = .ok (.bipush 43, 2) := by decide +kernel
theorem dX7_sum_35 : decode cX7_sum 35 = .ok (.if_icmp .ne 7, 3) := by decide +kernel
theorem dX7_sum_38 : decode cX7_sum 38 = .ok (.iconst 1, 1) := by decide +kernel
theorem dX7_sum_39 : decode cX7_sum 39 = .ok (.goto 4, 3) := by decide +kernel
theorem dX7_sum_42 : decode cX7_sum 42 = .ok (.iconst 0, 1) := by decide +kernel
theorem dX7_sum_43 : decode cX7_sum 43 = .ok (.istore_n 1, 1) := by decide +kernel
theorem dX7_sum_44 : decode cX7_sum 44 = .ok (.aload_n 0, 1) := by decide +kernel
theorem dX7_sum_45 : decode cX7_sum 45 = .ok (.dup, 1) := by decide +kernel
theorem dX7_sum_46 : decode cX7_sum 46 = .ok (.getfield 45, 3) := by decide +kernel
theorem dX7_sum_49 : decode cX7_sum 49 = .ok (.iconst 1, 1) := by decide +kernel
theorem dX7_sum_50 : decode cX7_sum 50 = .ok (.iadd, 1) := by decide +kernel
theorem dX7_sum_51 : decode cX7_sum 51 = .ok (.putfield 45, 3) := by decide +kernel
theorem dX7_sum_54 : decode cX7_sum 54 = .ok (.aload_n 0, 1) := by decide +kernel
theorem dX7_sum_55 : decode cX7_sum 55 = .ok (.invokevirtual 122, 3) := by decide +kernel
theorem dX7_sum_58 : decode cX7_sum 58 = .ok (.aload_n 0, 1) := by decide +kernel
theorem dX7_sum_59 : decode cX7_sum 59 = .ok (.iload_n 1, 1) := by decide +kernel
theorem dX7_sum_60 : decode cX7_sum 60 = .ok (.ifCond .eq 7, 3) := by decide +kernel
theorem dX7_sum_63 : decode cX7_sum 63 = .ok (.iconst 2, 1) := by decide +kernel
theorem dX7_sum_64 : decode cX7_sum 64 = .ok (.goto 4, 3) := by decide +kernel
theorem dX7_sum_67 : decode cX7_sum 67 = .ok (.iconst 3, 1) := by decide +kernel
theorem dX7_sum_68 : decode cX7_sum 68 = .ok (.invokevirtual 116, 3) := by decide +kernel
theorem dX7_sum_71 : decode cX7_sum 71 = .ok (.goto (-67), 3) := by decide +kernel
theorem dX7_sum_74 : decode cX7_sum 74 = .ok (.return_, 1) := by decide +kernel
theorem dX7_once_0 : decode cX7_once 0 = .ok (.aload_n 0, 1) := by decide +kernel
theorem dX7_once_1 : decode cX7_once 1 = .ok (.getfield 125, 3) := by decide +kernel
theorem dX7_once_4 : decode cX7_once 4 = .ok (.iload_n 1, 1) := by decide +kernel
theorem dX7_once_5 : decode cX7_once 5 = .ok (.ishr, 1) := by decide +kernel
theorem dX7_once_6 : decode cX7_once 6 = .ok (.iconst 1, 1) := by decide +kernel
theorem dX7_once_7 : decode cX7_once 7 = .ok (.iand, 1) := by decide +kernel
theorem dX7_once_8 : decode cX7_once 8 = .ok (.iconst 1, 1) := by decide +kernel
theorem dX7_once_9 : decode cX7_once 9 = .ok (.if_icmp .ne 10, 3) := by decide +kernel
theorem dX7_once_12 : decode cX7_once 12 = .ok (.aload_n 0, 1) := by decide +kernel
theorem dX7_once_13 : decode cX7_once 13 = .ok (.bipush (-2), 2) := by decide +kernel
theorem dX7_once_15 : decode cX7_once 15 = .ok (.iload_n 2, 1) := by decide +kernel
theorem dX7_once_16 : decode cX7_once 16 = .ok (.invokevirtual 79, 3) := by decide +kernel
theorem dX7_once_19 : decode cX7_once 19 = .ok (.aload_n 0, 1) := by decide +kernel
theorem dX7_once_20 : decode cX7_once 20 = .ok (.dup, 1) := by decide +kernel
theorem dX7_once_21 : decode cX7_once 21 = .ok (.getfield 125, 3) := by decide +kernel
theorem dX7_once_24 : decode cX7_once 24 = .ok (.iconst 1, 1) := by decide +kernel
theorem dX7_once_25 : decode cX7_once 25 = .ok (.iload_n 1, 1) := by decide +kernel
theorem dX7_once_26 : decode cX7_once 26 = .ok (.ishl, 1) := by decide +kernel
theorem dX7_once_27 : decode cX7_once 27 = .ok (.ior, 1) := by decide +kernel
theorem dX7_once_28 : decode cX7_once 28 = .ok (.putfield 125, 3) := by decide +kernel
theorem dX7_once_31 : decode cX7_once 31 = .ok (.return_, 1) := by decide +kernel
theorem dX7_readRole_0 : decode cX7_readRole 0 = .ok (.aload_n 0, 1) := by decide +kernel
theorem dX7_readRole_1 : decode cX7_readRole 1 = .ok (.getfield 20, 3) := by decide +kernel
theorem dX7_readRole_4 : decode cX7_readRole 4 = .ok (.iconst 0, 1) := by decide +kernel
theorem dX7_readRole_5 : decode cX7_readRole 5 = .ok (.iaload, 1) := by decide +kernel
theorem dX7_readRole_6 : decode cX7_readRole 6 = .ok (.bipush 10, 2) := by decide +kernel
theorem dX7_readRole_8 : decode cX7_readRole 8 = .ok (.if_icmp .ne 10, 3) := by decide +kernel
theorem dX7_readRole_11 : decode cX7_readRole 11 = .ok (.aload_n 0, 1) := by decide +kernel
theorem dX7_readRole_12 : decode cX7_readRole 12 = .ok (.bipush (-4), 2) := by decide +kernel
theorem dX7_readRole_14 : decode cX7_readRole 14 = .ok (.iload_n 1, 1) := by decide +kernel
theorem dX7_readRole_15 : decode cX7_readRole 15 = .ok (.invokevirtual 79, 3) := by decide +kernel
theorem dX7_readRole_18 : decode cX7_readRole 18 = .ok (.aload_n 0, 1) := by decide +kernel
theorem dX7_readRole_19 : decode cX7_readRole 19 = .ok (.iconst 0, 1) := by decide +kernel
theorem dX7_readRole_20 : decode cX7_readRole 20 = .ok (.sipush 255, 3) := by decide +kernel
theorem dX7_readRole_23 : decode cX7_readRole 23 = .ok (.invokevirtual 113, 3) := by decide +kernel
theorem dX7_readRole_26 : decode cX7_readRole 26 = .ok (.istore_n 2, 1) := by decide +kernel
theorem dX7_readRole_27 : decode cX7_readRole 27 = .ok (.aload_n 0, 1) := by decide +kernel
theorem dX7_readRole_28 : decode cX7_readRole 28 = .ok (.iconst 0, 1) := by decide +kernel
theorem dX7_readRole_29 : decode cX7_readRole 29 = .ok (.sipush 255, 3) := by decide +kernel
theorem dX7_readRole_32 : decode cX7_readRole 32 = .ok (.invokevirtual 113, 3) := by decide +kernel
theorem dX7_readRole_35 : decode cX7_readRole 35 = .ok (.istore_n 3, 1) := by decide +kernel
theorem dX7_readRole_36 : decode cX7_readRole 36 = .ok (.aload_n 0, 1) := by decide +kernel
theorem dX7_readRole_37 : decode cX7_readRole 37 = .ok (.iconst 0, 1) := by decide +kernel
theorem dX7_readRole_38 : decode cX7_readRole 38 = .ok (.sipush 255, 3) := by decide +kernel
theorem dX7_readRole_41 : decode cX7_readRole 41 = .ok (.invokevirtual 113, 3) := by decide +kernel
theorem dX7_readRole_44 : decode cX7_readRole 44 = .ok (.istore 4, 2) := by decide +kernel
theorem dX7_readRole_46 : decode cX7_readRole 46 = .ok (.sipush 255, 3) := by decide +kernel
theorem dX7_readRole_49 : decode cX7_readRole 49 = .ok (.iload_n 2, 1) := by decide +kernel
theorem dX7_readRole_50 : decode cX7_readRole 50 = .ok (.isub, 1) := by decide +kernel
theorem dX7_readRole_51 : decode cX7_readRole 51 = .ok (.sipush 255, 3) := by decide +kernel
theorem dX7_readRole_54 : decode cX7_readRole 54 = .ok (.iload_n 3, 1) := by decide +kernel
theorem dX7_readRole_55 : decode cX7_readRole 55 = .ok (.isub, 1) := by decide +kernel
theorem dX7_readRole_56 : decode cX7_readRole 56 = .ok (.sipush 255, 3) := by decide +kernel
theorem dX7_readRole_59 : decode cX7_readRole 59 = .ok (.iload 4, 2) := by decide +kernel
theorem dX7_readRole_61 : decode cX7_readRole 61 = .ok (.isub, 1) := by decide +kernel
theorem dX7_readRole_62 : decode cX7_readRole 62 = .ok (.invokestatic 128, 3) := by decide +kernel
theorem dX7_readRole_65 : decode cX7_readRole 65 = .ok (.istore 5, 2) := by decide +kernel
theorem dX7_readRole_67 : decode cX7_readRole 67 = .ok (.aload_n 0, 1) := by decide +kernel
theorem dX7_readRole_68 : decode cX7_readRole 68 = .ok (.ldc 132, 2) := by decide +kernel
theorem dX7_readRole_70 : decode cX7_readRole 70 = .ok (.invokevirtual 107, 3) := by decide +kernel
theorem dX7_readRole_73 : decode cX7_readRole 73 = .ok (.ifCond .eq 40, 3) := by decide +kernel
theorem dX7_readRole_76 : decode cX7_readRole 76 = .ok (.aload_n 0, 1) := by decide +kernel
theorem dX7_readRole_77 : decode cX7_readRole 77 = .ok (.iconst 0, 1) := by decide +kernel
theorem dX7_readRole_78 : decode cX7_readRole 78 = .ok (.sipush 255, 3) := by decide +kernel
theorem dX7_readRole_81 : decode cX7_readRole 81 = .ok (.invokevirtual 113, 3) := by decide +kernel
theorem dX7_readRole_84 : decode cX7_readRole 84 = .ok (.istore 6, 2) := by decide +kernel
theorem dX7_readRole_86 : decode cX7_readRole 86 = .ok (.aload_n 0, 1) := by decide +kernel
theorem dX7_readRole_87 : decode cX7_readRole 87 = .ok (.iconst 0, 1) := by decide +kernel
theorem dX7_readRole_88 : decode cX7_readRole 88 = .ok (.sipush 255, 3) := by decide +kernel
theorem dX7_readRole_91 : decode cX7_readRole 91 = .ok (.invokevirtual 113, 3) := by decide +kernel
theorem dX7_readRole_94 : decode cX7_readRole 94 = .ok (.istore 7, 2) := by decide +kernel
theorem dX7_readRole_96 : decode cX7_readRole 96 = .ok (.iload 6, 2) := by decide +kernel
theorem dX7_readRole_98 : decode cX7_readRole 98 = .ok (.iload 7, 2) := by decide +kernel
theorem dX7_readRole_100 : decode cX7_readRole 100 = .ok (.aload_n 0, 1) := by decide +kernel
theorem dX7_readRole_101 : decode cX7_readRole 101 = .ok (.iconst 0, 1) := by decide +kernel
theorem dX7_readRole_102 : decode cX7_readRole 102 = .ok (.sipush 255, 3) := by decide +kernel
theorem dX7_readRole_105 : decode cX7_readRole 105 = .ok (.invokevirtual 113, 3) := by decide +kernel
theorem dX7_readRole_108 : decode cX7_readRole 108 = .ok (.invokestatic 128, 3) := by decide +kernel
theorem dX7_readRole_111 : decode cX7_readRole 111 = .ok (.istore 5, 2) := by decide +kernel
theorem dX7_readRole_113 : decode cX7_readRole 113 = .ok (.aload_n 0, 1) := by decide +kernel
theorem dX7_readRole_114 : decode cX7_readRole 114 = .ok (.ldc 134, 2) := by decide +kernel
theorem dX7_readRole_116 : decode cX7_readRole 116 = .ok (.invokevirtual 107, 3) := by decide +kernel
theorem dX7_readRole_119 : decode cX7_readRole 119 = .ok (.istore 6, 2) := by decide +kernel
theorem dX7_readRole_121 : decode cX7_readRole 121 = .ok (.aload_n 0, 1) := by decide +kernel
theorem dX7_readRole_122 : decode cX7_readRole 122 = .ok (.invokevirtual 62, 3) := by decide +kernel
theorem dX7_readRole_125 : decode cX7_readRole 125 = .ok (.ifCond .ne 4, 3) := by decide +kernel
theorem dX7_readRole_128 : decode cX7_readRole 128 = .ok (.return_, 1) := by decide +kernel
theorem dX7_readRole_129 : decode cX7_readRole 129 = .ok (.aload_n 0, 1) := by decide +kernel
theorem dX7_readRole_130 : decode cX7_readRole 130 = .ok (.getfield 20, 3) := by decide +kernel
theorem dX7_readRole_133 : decode cX7_readRole 133 = .ok (.iconst 0, 1) := by decide +kernel
theorem dX7_readRole_134 : decode cX7_readRole 134 = .ok (.iaload, 1) := by decide +kernel
theorem dX7_readRole_135 : decode cX7_readRole 135 = .ok (.invokestatic 136, 3) := by decide +kernel
theorem dX7_readRole_138 : decode cX7_readRole 138 = .ok (.istore 7, 2) := by decide +kernel
theorem dX7_readRole_140 : decode cX7_readRole 140 = .ok (.aload_n 0, 1) := by decide +kernel
theorem dX7_readRole_141 : decode cX7_readRole 141 = .ok (.getfield 20, 3) := by decide +kernel
theorem dX7_readRole_144 : decode cX7_readRole 144 = .ok (.iload 7, 2) := by decide +kernel
theorem dX7_readRole_146 : decode cX7_readRole 146 = .ok (.iload_n 2, 1) := by decide +kernel
theorem dX7_readRole_147 : decode cX7_readRole 147 = .ok (.iload_n 3, 1) := by decide +kernel
theorem dX7_readRole_148 : decode cX7_readRole 148 = .ok (.iload 4, 2) := by decide +kernel
theorem dX7_readRole_150 : decode cX7_readRole 150 = .ok (.invokestatic 128, 3) := by decide +kernel
theorem dX7_readRole_153 : decode cX7_readRole 153 = .ok (.iastore, 1) := by decide +kernel
theorem dX7_readRole_154 : decode cX7_readRole 154 = .ok (.aload_n 0, 1) := by decide +kernel
theorem dX7_readRole_155 : decode cX7_readRole 155 = .ok (.getfield 20, 3) := by decide +kernel
theorem dX7_readRole_158 : decode cX7_readRole 158 = .ok (.iload 7, 2) := by decide +kernel
theorem dX7_readRole_160 : decode cX7_readRole 160 = .ok (.iconst 1, 1) := by decide +kernel
theorem dX7_readRole_161 : decode cX7_readRole 161 = .ok (.iadd, 1) := by decide +kernel
theorem dX7_readRole_162 : decode cX7_readRole 162 = .ok (.iload 5, 2) := by decide +kernel
theorem dX7_readRole_164 : decode cX7_readRole 164 = .ok (.iastore, 1) := by decide +kernel
theorem dX7_readRole_165 : decode cX7_readRole 165 = .ok (.aload_n 0, 1) := by decide +kernel
theorem dX7_readRole_166 : decode cX7_readRole 166 = .ok (.getfield 20, 3) := by decide +kernel
theorem dX7_readRole_169 : decode cX7_readRole 169 = .ok (.iload 7, 2) := by decide +kernel
theorem dX7_readRole_171 : decode cX7_readRole 171 = .ok (.iconst 2, 1) := by decide +kernel
theorem dX7_readRole_172 : decode cX7_readRole 172 = .ok (.iadd, 1) := by decide +kernel
theorem dX7_readRole_173 : decode cX7_readRole 173 = .ok (.iload 6, 2) := by decide +kernel
theorem dX7_readRole_175 : decode cX7_readRole 175 = .ok (.ifCond .eq 7, 3) := by decide +kernel
theorem dX7_readRole_178 : decode cX7_readRole 178 = .ok (.iconst 1, 1) := by decide +kernel
theorem dX7_readRole_179 : decode cX7_readRole 179 = .ok (.goto 4, 3) := by decide +kernel
theorem dX7_readRole_182 : decode cX7_readRole 182 = .ok (.iconst 0, 1) := by decide +kernel
theorem dX7_readRole_183 : decode cX7_readRole 183 = .ok (.iastore, 1) := by decide +kernel
theorem dX7_readRole_184 : decode cX7_readRole 184 = .ok (.aload_n 0, 1) := by decide +kernel
theorem dX7_readRole_185 : decode cX7_readRole 185 = .ok (.getfield 20, 3) := by decide +kernel
theorem dX7_readRole_188 : decode cX7_readRole 188 = .ok (.iconst 0, 1) := by decide +kernel
theorem dX7_readRole_189 : decode cX7_readRole 189 = .ok (.dup2, 1) := by decide +kernel
theorem dX7_readRole_190 : decode cX7_readRole 190 = .ok (.iaload, 1) := by decide +kernel
theorem dX7_readRole_191 : decode cX7_readRole 191 = .ok (.iconst 1, 1) := by decide +kernel
theorem dX7_readRole_192 : decode cX7_readRole 192 = .ok (.iadd, 1) := by decide +kernel
theorem dX7_readRole_193 : decode cX7_readRole 193 = .ok (.iastore, 1) := by decide +kernel
theorem dX7_readRole_194 : decode cX7_readRole 194 = .ok (.return_, 1) := by decide +kernel
theorem dX7_readRule_0 : decode cX7_readRule 0 = .ok (.aload_n 0, 1) := by decide +kernel
theorem dX7_readRule_1 : decode cX7_readRule 1 = .ok (.getfield 20, 3) := by decide +kernel
theorem dX7_readRule_4 : decode cX7_readRule 4 = .ok (.iconst 1, 1) := by decide +kernel
theorem dX7_readRule_5 : decode cX7_readRule 5 = .ok (.iaload, 1) := by decide +kernel
theorem dX7_readRule_6 : decode cX7_readRule 6 = .ok (.bipush 12, 2) := by decide +kernel
theorem dX7_readRule_8 : decode cX7_readRule 8 = .ok (.if_icmp .ne 10, 3) := by decide +kernel
theorem dX7_readRule_11 : decode cX7_readRule 11 = .ok (.aload_n 0, 1) := by decide +kernel
theorem dX7_readRule_12 : decode cX7_readRule 12 = .ok (.bipush (-4), 2) := by decide +kernel
theorem dX7_readRule_14 : decode cX7_readRule 14 = .ok (.iload_n 1, 1) := by decide +kernel
theorem dX7_readRule_15 : decode cX7_readRule 15 = .ok (.invokevirtual 79, 3) := by decide +kernel
theorem dX7_readRule_18 : decode cX7_readRule 18 = .ok (.aload_n 0, 1) := by decide +kernel
theorem dX7_readRule_19 : decode cX7_readRule 19 = .ok (.iconst 0, 1) := by decide +kernel
theorem dX7_readRule_20 : decode cX7_readRule 20 = .ok (.aload_n 0, 1) := by decide +kernel
theorem dX7_readRule_21 : decode cX7_readRule 21 = .ok (.getfield 20, 3) := by decide +kernel
theorem dX7_readRule_24 : decode cX7_readRule 24 = .ok (.iconst 0, 1) := by decide +kernel
theorem dX7_readRule_25 : decode cX7_readRule 25 = .ok (.iaload, 1) := by decide +kernel
theorem dX7_readRule_26 : decode cX7_readRule 26 = .ok (.iconst 1, 1) := by decide +kernel
theorem dX7_readRule_27 : decode cX7_readRule 27 = .ok (.isub, 1) := by decide +kernel
theorem dX7_readRule_28 : decode cX7_readRule 28 = .ok (.invokevirtual 113, 3) := by decide +kernel
theorem dX7_readRule_31 : decode cX7_readRule 31 = .ok (.istore_n 3, 1) := by decide +kernel
theorem dX7_readRule_32 : decode cX7_readRule 32 = .ok (.aload_n 0, 1) := by decide +kernel
theorem dX7_readRule_33 : decode cX7_readRule 33 = .ok (.iconst 0, 1) := by decide +kernel
theorem dX7_readRule_34 : decode cX7_readRule 34 = .ok (.aload_n 0, 1) := by decide +kernel
theorem dX7_readRule_35 : decode cX7_readRule 35 = .ok (.getfield 20, 3) := by decide +kernel
theorem dX7_readRule_38 : decode cX7_readRule 38 = .ok (.iconst 0, 1) := by decide +kernel
theorem dX7_readRule_39 : decode cX7_readRule 39 = .ok (.iaload, 1) := by decide +kernel
theorem dX7_readRule_40 : decode cX7_readRule 40 = .ok (.iconst 1, 1) := by decide +kernel
theorem dX7_readRule_41 : decode cX7_readRule 41 = .ok (.isub, 1) := by decide +kernel
theorem dX7_readRule_42 : decode cX7_readRule 42 = .ok (.invokevirtual 113, 3) := by decide +kernel
theorem dX7_readRule_45 : decode cX7_readRule 45 = .ok (.istore 4, 2) := by decide +kernel
theorem dX7_readRule_47 : decode cX7_readRule 47 = .ok (.iload_n 3, 1) := by decide +kernel
theorem dX7_readRule_48 : decode cX7_readRule 48 = .ok (.iload 4, 2) := by decide +kernel
theorem dX7_readRule_50 : decode cX7_readRule 50 = .ok (.if_icmp .ne 13, 3) := by decide +kernel
theorem dX7_readRule_53 : decode cX7_readRule 53 = .ok (.aload_n 0, 1) := by decide +kernel
theorem dX7_readRule_54 : decode cX7_readRule 54 = .ok (.bipush (-3), 2) := by decide +kernel
theorem dX7_readRule_56 : decode cX7_readRule 56 = .ok (.aload_n 0, 1) := by decide +kernel
theorem dX7_readRule_57 : decode cX7_readRule 57 = .ok (.getfield 87, 3) := by decide +kernel
theorem dX7_readRule_60 : decode cX7_readRule 60 = .ok (.invokevirtual 79, 3) := by decide +kernel
theorem dX7_readRule_63 : decode cX7_readRule 63 = .ok (.iload_n 2, 1) := by decide +kernel
theorem dX7_readRule_64 : decode cX7_readRule 64 = .ok (.ifCond .eq 7, 3) := by decide +kernel
theorem dX7_readRule_67 : decode cX7_readRule 67 = .ok (.iconst (-1), 1) := by decide +kernel
theorem dX7_readRule_68 : decode cX7_readRule 68 = .ok (.goto 9, 3) := by decide +kernel
theorem dX7_readRule_71 : decode cX7_readRule 71 = .ok (.aload_n 0, 1) := by decide +kernel
theorem dX7_readRule_72 : decode cX7_readRule 72 = .ok (.iconst 0, 1) := by decide +kernel
theorem dX7_readRule_73 : decode cX7_readRule 73 = .ok (.iconst 4, 1) := by decide +kernel
theorem dX7_readRule_74 : decode cX7_readRule 74 = .ok (.invokevirtual 113, 3) := by decide +kernel
theorem dX7_readRule_77 : decode cX7_readRule 77 = .ok (.istore 5, 2) := by decide +kernel
theorem dX7_readRule_79 : decode cX7_readRule 79 = .ok (.iload_n 2, 1) := by decide +kernel
theorem dX7_readRule_80 : decode cX7_readRule 80 = .ok (.ifCond .eq 13, 3) := by decide +kernel
theorem dX7_readRule_83 : decode cX7_readRule 83 = .ok (.aload_n 0, 1) := by decide +kernel
theorem dX7_readRule_84 : decode cX7_readRule 84 = .ok (.iconst 1, 1) := by decide +kernel
theorem dX7_readRule_85 : decode cX7_readRule 85 = .ok (.bipush 9, 2) := by decide +kernel
theorem dX7_readRule_87 : decode cX7_readRule 87 = .ok (.invokevirtual 113, 3) := by decide +kernel
theorem dX7_readRule_90 : decode cX7_readRule 90 = .ok (.goto 11, 3) := by decide +kernel
theorem dX7_readRule_93 : decode cX7_readRule 93 = .ok (.aload_n 0, 1) := by decide +kernel
theorem dX7_readRule_94 : decode cX7_readRule 94 = .ok (.iconst 1, 1) := by decide +kernel
theorem dX7_readRule_95 : decode cX7_readRule 95 = .ok (.sipush 2295, 3) := by decide +kernel
theorem dX7_readRule_98 : decode cX7_readRule 98 = .ok (.invokevirtual 113, 3) := by decide +kernel
theorem dX7_readRule_101 : decode cX7_readRule 101 = .ok (.istore 6, 2) := by decide +kernel
theorem dX7_readRule_103 : decode cX7_readRule 103 = .ok (.aload_n 0, 1) := by decide +kernel
theorem dX7_readRule_104 : decode cX7_readRule 104 = .ok (.invokevirtual 62, 3) := by decide +kernel
theorem dX7_readRule_107 : decode cX7_readRule 107 = .ok (.ifCond .ne 4, 3) := by decide +kernel
theorem dX7_readRule_110 : decode cX7_readRule 110 = .ok (.return_, 1) := by decide +kernel
theorem dX7_readRule_111 : decode cX7_readRule 111 = .ok (.aload_n 0, 1) := by decide +kernel
theorem dX7_readRule_112 : decode cX7_readRule 112 = .ok (.getfield 20, 3) := by decide +kernel
theorem dX7_readRule_115 : decode cX7_readRule 115 = .ok (.iconst 1, 1) := by decide +kernel
theorem dX7_readRule_116 : decode cX7_readRule 116 = .ok (.iaload, 1) := by decide +kernel
theorem dX7_readRule_117 : decode cX7_readRule 117 = .ok (.invokestatic 139, 3) := by decide +kernel
theorem dX7_readRule_120 : decode cX7_readRule 120 = .ok (.istore 7, 2) := by decide +kernel
theorem dX7_readRule_122 : decode cX7_readRule 122 = .ok (.aload_n 0, 1) := by decide +kernel
theorem dX7_readRule_123 : decode cX7_readRule 123 = .ok (.getfield 20, 3) := by decide +kernel
theorem dX7_readRule_126 : decode cX7_readRule 126 = .ok (.iload 7, 2) := by decide +kernel
theorem dX7_readRule_128 : decode cX7_readRule 128 = .ok (.iload 5, 2) := by decide +kernel
theorem dX7_readRule_130 : decode cX7_readRule 130 = .ok (.iconst 1, 1) := by decide +kernel
theorem dX7_readRule_131 : decode cX7_readRule 131 = .ok (.iadd, 1) := by decide +kernel
theorem dX7_readRule_132 : decode cX7_readRule 132 = .ok (.iastore, 1) := by decide +kernel
theorem dX7_readRule_133 : decode cX7_readRule 133 = .ok (.aload_n 0, 1) := by decide +kernel
theorem dX7_readRule_134 : decode cX7_readRule 134 = .ok (.getfield 20, 3) := by decide +kernel
theorem dX7_readRule_137 : decode cX7_readRule 137 = .ok (.iload 7, 2) := by decide +kernel
theorem dX7_readRule_139 : decode cX7_readRule 139 = .ok (.iconst 1, 1) := by decide +kernel
theorem dX7_readRule_140 : decode cX7_readRule 140 = .ok (.iadd, 1) := by decide +kernel
theorem dX7_readRule_141 : decode cX7_readRule 141 = .ok (.iload_n 3, 1) := by decide +kernel
theorem dX7_readRule_142 : decode cX7_readRule 142 = .ok (.iastore, 1) := by decide +kernel
theorem dX7_readRule_143 : decode cX7_readRule 143 = .ok (.aload_n 0, 1) := by decide +kernel
theorem dX7_readRule_144 : decode cX7_readRule 144 = .ok (.getfield 20, 3) := by decide +kernel
theorem dX7_readRule_147 : decode cX7_readRule 147 = .ok (.iload 7, 2) := by decide +kernel
theorem dX7_readRule_149 : decode cX7_readRule 149 = .ok (.iconst 2, 1) := by decide +kernel
theorem dX7_readRule_150 : decode cX7_readRule 150 = .ok (.iadd, 1) := by decide +kernel
theorem dX7_readRule_151 : decode cX7_readRule 151 = .ok (.iload 4, 2) := by decide +kernel
theorem dX7_readRule_153 : decode cX7_readRule 153 = .ok (.iastore, 1) := by decide +kernel
theorem dX7_readRule_154 : decode cX7_readRule 154 = .ok (.aload_n 0, 1) := by decide +kernel
theorem dX7_readRule_155 : decode cX7_readRule 155 = .ok (.getfield 20, 3) := by decide +kernel
theorem dX7_readRule_158 : decode cX7_readRule 158 = .ok (.iload 7, 2) := by decide +kernel
theorem dX7_readRule_160 : decode cX7_readRule 160 = .ok (.iconst 3, 1) := by decide +kernel
theorem dX7_readRule_161 : decode cX7_readRule 161 = .ok (.iadd, 1) := by decide +kernel
theorem dX7_readRule_162 : decode cX7_readRule 162 = .ok (.iload 6, 2) := by decide +kernel
theorem dX7_readRule_164 : decode cX7_readRule 164 = .ok (.iastore, 1) := by decide +kernel
theorem dX7_readRule_165 : decode cX7_readRule 165 = .ok (.aload_n 0, 1) := by decide +kernel
theorem dX7_readRule_166 : decode cX7_readRule 166 = .ok (.getfield 20, 3) := by decide +kernel
theorem dX7_readRule_169 : decode cX7_readRule 169 = .ok (.iconst 1, 1) := by decide +kernel
theorem dX7_readRule_170 : decode cX7_readRule 170 = .ok (.dup2, 1) := by decide +kernel
theorem dX7_readRule_171 : decode cX7_readRule 171 = .ok (.iaload, 1) := by decide +kernel
theorem dX7_readRule_172 : decode cX7_readRule 172 = .ok (.iconst 1, 1) := by decide +kernel
theorem dX7_readRule_173 : decode cX7_readRule 173 = .ok (.iadd, 1) := by decide +kernel
theorem dX7_readRule_174 : decode cX7_readRule 174 = .ok (.iastore, 1) := by decide +kernel
theorem dX7_readRule_175 : decode cX7_readRule 175 = .ok (.return_, 1) := by decide +kernel
theorem dX7_statement_0 : decode cX7_statement 0 = .ok (.aload_n 0, 1) := by decide +kernel
theorem dX7_statement_1 : decode cX7_statement 1 = .ok (.invokevirtual 66, 3) := by decide +kernel
theorem dX7_statement_4 : decode cX7_statement 4 = .ok (.pop, 1) := by decide +kernel
theorem dX7_statement_5 : decode cX7_statement 5 = .ok (.aload_n 0, 1) := by decide +kernel
theorem dX7_statement_6 : decode cX7_statement 6 = .ok (.getfield 45, 3) := by decide +kernel
theorem dX7_statement_9 : decode cX7_statement 9 = .ok (.istore_n 1, 1) := by decide +kernel
theorem dX7_statement_10 : decode cX7_statement 10 = .ok (.aload_n 0, 1) := by decide +kernel
theorem dX7_statement_11 : decode cX7_statement 11 = .ok (.ldc 142, 2) := by decide +kernel
theorem dX7_statement_13 : decode cX7_statement 13 = .ok (.invokevirtual 107, 3) := by decide +kernel
theorem dX7_statement_16 : decode cX7_statement 16 = .ok (.ifCond .eq 11, 3) := by decide +kernel
theorem dX7_statement_19 : decode cX7_statement 19 = .ok (.aload_n 0, 1) := by decide +kernel
theorem dX7_statement_20 : decode cX7_statement 20 = .ok (.iload_n 1, 1) := by decide +kernel
theorem dX7_statement_21 : decode cX7_statement 21 = .ok (.invokevirtual 143, 3) := by decide +kernel
theorem dX7_statement_24 : decode cX7_statement 24 = .ok (.goto 75, 3) := by decide +kernel
theorem dX7_statement_27 : decode cX7_statement 27 = .ok (.aload_n 0, 1) := by decide +kernel
theorem dX7_statement_28 : decode cX7_statement 28 = .ok (.ldc 146, 2) := by decide +kernel
theorem dX7_statement_30 : decode cX7_statement 30 = .ok (.invokevirtual 107, 3) := by decide +kernel
theorem dX7_statement_33 : decode cX7_statement 33 = .ok (.ifCond .eq 12, 3) := by decide +kernel
theorem dX7_statement_36 : decode cX7_statement 36 = .ok (.aload_n 0, 1) := by decide +kernel
theorem dX7_statement_37 : decode cX7_statement 37 = .ok (.iload_n 1, 1) := by decide +kernel
theorem dX7_statement_38 : decode cX7_statement 38 = .ok (.iconst 1, 1) := by decide +kernel
theorem dX7_statement_39 : decode cX7_statement 39 = .ok (.invokevirtual 148, 3) := by decide +kernel
theorem dX7_statement_42 : decode cX7_statement 42 = .ok (.goto 57, 3) := by decide +kernel
theorem dX7_statement_45 : decode cX7_statement 45 = .ok (.aload_n 0, 1) := by decide +kernel
theorem dX7_statement_46 : decode cX7_statement 46 = .ok (.ldc 152, 2) := by decide +kernel
theorem dX7_statement_48 : decode cX7_statement 48 = .ok (.invokevirtual 107, 3) := by decide +kernel
theorem dX7_statement_51 : decode cX7_statement 51 = .ok (.ifCond .eq 12, 3) := by decide +kernel
theorem dX7_statement_54 : decode cX7_statement 54 = .ok (.aload_n 0, 1) := by decide +kernel
theorem dX7_statement_55 : decode cX7_statement 55 = .ok (.iload_n 1, 1) := by decide +kernel
theorem dX7_statement_56 : decode cX7_statement 56 = .ok (.iconst 0, 1) := by decide +kernel
theorem dX7_statement_57 : decode cX7_statement 57 = .ok (.invokevirtual 148, 3) := by decide +kernel
theorem dX7_statement_60 : decode cX7_statement 60 = .ok (.goto 39, 3) := by decide +kernel
theorem dX7_statement_63 : decode cX7_statement 63 = .ok (.aload_n 0, 1) := by decide +kernel
theorem dX7_statement_64 : decode cX7_statement 64 = .ok (.ldc 154, 2) := by decide +kernel
theorem dX7_statement_66 : decode cX7_statement 66 = .ok (.invokevirtual 107, 3) := by decide +kernel
theorem dX7_statement_69 : decode cX7_statement 69 = .ok (.ifCond .eq 23, 3) := by decide +kernel
theorem dX7_statement_72 : decode cX7_statement 72 = .ok (.aload_n 0, 1) := by decide +kernel
theorem dX7_statement_73 : decode cX7_statement 73 = .ok (.iconst 0, 1) := by decide +kernel
theorem dX7_statement_74 : decode cX7_statement 74 = .ok (.iload_n 1, 1) := by decide +kernel
theorem dX7_statement_75 : decode cX7_statement 75 = .ok (.invokevirtual 156, 3) := by decide +kernel
theorem dX7_statement_78 : decode cX7_statement 78 = .ok (.aload_n 0, 1) := by decide +kernel
theorem dX7_statement_79 : decode cX7_statement 79 = .ok (.getfield 20, 3) := by decide +kernel
theorem dX7_statement_82 : decode cX7_statement 82 = .ok (.iconst 2, 1) := by decide +kernel
theorem dX7_statement_83 : decode cX7_statement 83 = .ok (.iconst 1, 1) := by decide +kernel
theorem dX7_statement_84 : decode cX7_statement 84 = .ok (.iastore, 1) := by decide +kernel
theorem dX7_statement_85 : decode cX7_statement 85 = .ok (.aload_n 0, 1) := by decide +kernel
theorem dX7_statement_86 : decode cX7_statement 86 = .ok (.invokevirtual 98, 3) := by decide +kernel
theorem dX7_statement_89 : decode cX7_statement 89 = .ok (.goto 10, 3) := by decide +kernel
theorem dX7_statement_92 : decode cX7_statement 92 = .ok (.aload_n 0, 1) := by decide +kernel
theorem dX7_statement_93 : decode cX7_statement 93 = .ok (.bipush (-2), 2) := by decide +kernel
theorem dX7_statement_95 : decode cX7_statement 95 = .ok (.iload_n 1, 1) := by decide +kernel
theorem dX7_statement_96 : decode cX7_statement 96 = .ok (.invokevirtual 79, 3) := by decide +kernel
theorem dX7_statement_99 : decode cX7_statement 99 = .ok (.aload_n 0, 1) := by decide +kernel
theorem dX7_statement_100 : decode cX7_statement 100 = .ok (.bipush 59, 2) := by decide +kernel
theorem dX7_statement_102 : decode cX7_statement 102 = .ok (.invokevirtual 101, 3) := by decide +kernel
theorem dX7_statement_105 : decode cX7_statement 105 = .ok (.return_, 1) := by decide +kernel
theorem dX7_load_0 : decode cX7_load 0 = .ok (.aload_n 0, 1) := by decide +kernel
theorem dX7_load_1 : decode cX7_load 1 = .ok (.iconst 0, 1) := by decide +kernel
theorem dX7_load_2 : decode cX7_load 2 = .ok (.putfield 35, 3) := by decide +kernel
theorem dX7_load_5 : decode cX7_load 5 = .ok (.aload_n 0, 1) := by decide +kernel
theorem dX7_load_6 : decode cX7_load 6 = .ok (.iload_n 1, 1) := by decide +kernel
theorem dX7_load_7 : decode cX7_load 7 = .ok (.iconst 0, 1) := by decide +kernel
theorem dX7_load_8 : decode cX7_load 8 = .ok (.aload_n 0, 1) := by decide +kernel
theorem dX7_load_9 : decode cX7_load 9 = .ok (.getfield 39, 3) := by decide +kernel
theorem dX7_load_12 : decode cX7_load 12 = .ok (.invokestatic 58, 3) := by decide +kernel
theorem dX7_load_15 : decode cX7_load 15 = .ok (.ifCond .ne 7, 3) := by decide +kernel
theorem dX7_load_18 : decode cX7_load 18 = .ok (.iconst 1, 1) := by decide +kernel
theorem dX7_load_19 : decode cX7_load 19 = .ok (.goto 4, 3) := by decide +kernel
theorem dX7_load_22 : decode cX7_load 22 = .ok (.iconst 0, 1) := by decide +kernel
theorem dX7_load_23 : decode cX7_load 23 = .ok (.iconst 1, 1) := by decide +kernel
theorem dX7_load_24 : decode cX7_load 24 = .ok (.invokevirtual 159, 3) := by decide +kernel
theorem dX7_load_27 : decode cX7_load 27 = .ok (.ifCond .eq 5, 3) := by decide +kernel
theorem dX7_load_30 : decode cX7_load 30 = .ok (.iconst 0, 1) := by decide +kernel
theorem dX7_load_31 : decode cX7_load 31 = .ok (.ireturn, 1) := by decide +kernel
theorem dX7_load_32 : decode cX7_load 32 = .ok (.aload_n 0, 1) := by decide +kernel
theorem dX7_load_33 : decode cX7_load 33 = .ok (.iconst 0, 1) := by decide +kernel
theorem dX7_load_34 : decode cX7_load 34 = .ok (.putfield 39, 3) := by decide +kernel
theorem dX7_load_37 : decode cX7_load 37 = .ok (.aload_n 0, 1) := by decide +kernel
theorem dX7_load_38 : decode cX7_load 38 = .ok (.iload_n 1, 1) := by decide +kernel
theorem dX7_load_39 : decode cX7_load 39 = .ok (.putfield 42, 3) := by decide +kernel
theorem dX7_load_42 : decode cX7_load 42 = .ok (.aload_n 0, 1) := by decide +kernel
theorem dX7_load_43 : decode cX7_load 43 = .ok (.iconst 0, 1) := by decide +kernel
theorem dX7_load_44 : decode cX7_load 44 = .ok (.putfield 45, 3) := by decide +kernel
theorem dX7_load_47 : decode cX7_load 47 = .ok (.aload_n 0, 1) := by decide +kernel
theorem dX7_load_48 : decode cX7_load 48 = .ok (.iconst 0, 1) := by decide +kernel
theorem dX7_load_49 : decode cX7_load 49 = .ok (.putfield 52, 3) := by decide +kernel
theorem dX7_load_52 : decode cX7_load 52 = .ok (.aload_n 0, 1) := by decide +kernel
theorem dX7_load_53 : decode cX7_load 53 = .ok (.iconst (-1), 1) := by decide +kernel
theorem dX7_load_54 : decode cX7_load 54 = .ok (.putfield 55, 3) := by decide +kernel
theorem dX7_load_57 : decode cX7_load 57 = .ok (.aload_n 0, 1) := by decide +kernel
theorem dX7_load_58 : decode cX7_load 58 = .ok (.iconst 0, 1) := by decide +kernel
theorem dX7_load_59 : decode cX7_load 59 = .ok (.putfield 95, 3) := by decide +kernel
theorem dX7_load_62 : decode cX7_load 62 = .ok (.aload_n 0, 1) := by decide +kernel
theorem dX7_load_63 : decode cX7_load 63 = .ok (.iconst 0, 1) := by decide +kernel
theorem dX7_load_64 : decode cX7_load 64 = .ok (.putfield 125, 3) := by decide +kernel
theorem dX7_load_67 : decode cX7_load 67 = .ok (.iconst 0, 1) := by decide +kernel
theorem dX7_load_68 : decode cX7_load 68 = .ok (.istore_n 2, 1) := by decide +kernel
theorem dX7_load_69 : decode cX7_load 69 = .ok (.iload_n 2, 1) := by decide +kernel
theorem dX7_load_70 : decode cX7_load 70 = .ok (.sipush 1282, 3) := by decide +kernel
theorem dX7_load_73 : decode cX7_load 73 = .ok (.if_icmp .ge 16, 3) := by decide +kernel
theorem dX7_load_76 : decode cX7_load 76 = .ok (.aload_n 0, 1) := by decide +kernel
theorem dX7_load_77 : decode cX7_load 77 = .ok (.getfield 20, 3) := by decide +kernel
theorem dX7_load_80 : decode cX7_load 80 = .ok (.iload_n 2, 1) := by decide +kernel
theorem dX7_load_81 : decode cX7_load 81 = .ok (.iconst 0, 1) := by decide +kernel
theorem dX7_load_82 : decode cX7_load 82 = .ok (.iastore, 1) := by decide +kernel
theorem dX7_load_83 : decode cX7_load 83 = .ok (.iinc 2 1, 3) := by decide +kernel
theorem dX7_load_86 : decode cX7_load 86 = .ok (.goto (-17), 3) := by decide +kernel
theorem dX7_load_89 : decode cX7_load 89 = .ok (.aload_n 0, 1) := by decide +kernel
theorem dX7_load_90 : decode cX7_load 90 = .ok (.ldc 111, 2) := by decide +kernel
theorem dX7_load_92 : decode cX7_load 92 = .ok (.invokevirtual 107, 3) := by decide +kernel
theorem dX7_load_95 : decode cX7_load 95 = .ok (.ifCond .ne 13, 3) := by decide +kernel
theorem dX7_load_98 : decode cX7_load 98 = .ok (.aload_n 0, 1) := by decide +kernel
theorem dX7_load_99 : decode cX7_load 99 = .ok (.bipush (-2), 2) := by decide +kernel
theorem dX7_load_101 : decode cX7_load 101 = .ok (.aload_n 0, 1) := by decide +kernel
theorem dX7_load_102 : decode cX7_load 102 = .ok (.getfield 45, 3) := by decide +kernel
theorem dX7_load_105 : decode cX7_load 105 = .ok (.invokevirtual 79, 3) := by decide +kernel
theorem dX7_load_108 : decode cX7_load 108 = .ok (.aload_n 0, 1) := by decide +kernel
theorem dX7_load_109 : decode cX7_load 109 = .ok (.bipush 59, 2) := by decide +kernel
theorem dX7_load_111 : decode cX7_load 111 = .ok (.invokevirtual 101, 3) := by decide +kernel
theorem dX7_load_114 : decode cX7_load 114 = .ok (.aload_n 0, 1) := by decide +kernel
theorem dX7_load_115 : decode cX7_load 115 = .ok (.invokevirtual 62, 3) := by decide +kernel
theorem dX7_load_118 : decode cX7_load 118 = .ok (.ifCond .eq 18, 3) := by decide +kernel
theorem dX7_load_121 : decode cX7_load 121 = .ok (.aload_n 0, 1) := by decide +kernel
theorem dX7_load_122 : decode cX7_load 122 = .ok (.invokevirtual 66, 3) := by decide +kernel
theorem dX7_load_125 : decode cX7_load 125 = .ok (.iconst (-1), 1) := by decide +kernel
theorem dX7_load_126 : decode cX7_load 126 = .ok (.if_icmp .eq 10, 3) := by decide +kernel
theorem dX7_load_129 : decode cX7_load 129 = .ok (.aload_n 0, 1) := by decide +kernel
theorem dX7_load_130 : decode cX7_load 130 = .ok (.invokevirtual 163, 3) := by decide +kernel
theorem dX7_load_133 : decode cX7_load 133 = .ok (.goto (-19), 3) := by decide +kernel
theorem dX7_load_136 : decode cX7_load 136 = .ok (.aload_n 0, 1) := by decide +kernel
theorem dX7_load_137 : decode cX7_load 137 = .ok (.aload_n 0, 1) := by decide +kernel
theorem dX7_load_138 : decode cX7_load 138 = .ok (.getfield 55, 3) := by decide +kernel
theorem dX7_load_141 : decode cX7_load 141 = .ok (.putfield 13, 3) := by decide +kernel
theorem dX7_load_144 : decode cX7_load 144 = .ok (.aload_n 0, 1) := by decide +kernel
theorem dX7_load_145 : decode cX7_load 145 = .ok (.invokevirtual 62, 3) := by decide +kernel
theorem dX7_load_148 : decode cX7_load 148 = .ok (.ifCond .ne 8, 3) := by decide +kernel
theorem dX7_load_151 : decode cX7_load 151 = .ok (.aload_n 0, 1) := by decide +kernel
theorem dX7_load_152 : decode cX7_load 152 = .ok (.getfield 52, 3) := by decide +kernel
theorem dX7_load_155 : decode cX7_load 155 = .ok (.ireturn, 1) := by decide +kernel
theorem dX7_load_156 : decode cX7_load 156 = .ok (.aload_n 0, 1) := by decide +kernel
theorem dX7_load_157 : decode cX7_load 157 = .ok (.invokevirtual 166, 3) := by decide +kernel
theorem dX7_load_160 : decode cX7_load 160 = .ok (.aload_n 0, 1) := by decide +kernel
theorem dX7_load_161 : decode cX7_load 161 = .ok (.getfield 20, 3) := by decide +kernel
theorem dX7_load_164 : decode cX7_load 164 = .ok (.aload_n 0, 1) := by decide +kernel
theorem dX7_load_165 : decode cX7_load 165 = .ok (.getfield 17, 3) := by decide +kernel
theorem dX7_load_168 : decode cX7_load 168 = .ok (.invokestatic 169, 3) := by decide +kernel
theorem dX7_load_171 : decode cX7_load 171 = .ok (.aload_n 0, 1) := by decide +kernel
theorem dX7_load_172 : decode cX7_load 172 = .ok (.invokevirtual 173, 3) := by decide +kernel
theorem dX7_load_175 : decode cX7_load 175 = .ok (.aload_n 0, 1) := by decide +kernel
theorem dX7_load_176 : decode cX7_load 176 = .ok (.getfield 17, 3) := by decide +kernel
theorem dX7_load_179 : decode cX7_load 179 = .ok (.iconst 1, 1) := by decide +kernel
theorem dX7_load_180 : decode cX7_load 180 = .ok (.iaload, 1) := by decide +kernel
theorem dX7_load_181 : decode cX7_load 181 = .ok (.ireturn, 1) := by decide +kernel
theorem dX7_errorOffset_0 : decode cX7_errorOffset 0 = .ok (.aload_n 0, 1) := by decide +kernel
theorem dX7_errorOffset_1 : decode cX7_errorOffset 1 = .ok (.iconst 0, 1) := by decide +kernel
theorem dX7_errorOffset_2 : decode cX7_errorOffset 2 = .ok (.putfield 35, 3) := by decide +kernel
theorem dX7_errorOffset_5 : decode cX7_errorOffset 5 = .ok (.aload_n 0, 1) := by decide +kernel
theorem dX7_errorOffset_6 : decode cX7_errorOffset 6 = .ok (.getfield 13, 3) := by decide +kernel
theorem dX7_errorOffset_9 : decode cX7_errorOffset 9 = .ok (.ireturn, 1) := by decide +kernel
theorem dX7_colourOf_0 : decode cX7_colourOf 0 = .ok (.aload_n 0, 1) := by decide +kernel
theorem dX7_colourOf_1 : decode cX7_colourOf 1 = .ok (.getfield 17, 3) := by decide +kernel
theorem dX7_colourOf_4 : decode cX7_colourOf 4 = .ok (.iload_n 1, 1) := by decide +kernel
theorem dX7_colourOf_5 : decode cX7_colourOf 5 = .ok (.invokestatic 136, 3) := by decide +kernel
theorem dX7_colourOf_8 : decode cX7_colourOf 8 = .ok (.iload_n 2, 1) := by decide +kernel
theorem dX7_colourOf_9 : decode cX7_colourOf 9 = .ok (.iadd, 1) := by decide +kernel
theorem dX7_colourOf_10 : decode cX7_colourOf 10 = .ok (.iaload, 1) := by decide +kernel
theorem dX7_colourOf_11 : decode cX7_colourOf 11 = .ok (.ireturn, 1) := by decide +kernel
theorem dX7_red_0 : decode cX7_red 0 = .ok (.iload_n 0, 1) := by decide +kernel
theorem dX7_red_1 : decode cX7_red 1 = .ok (.ldc 38, 2) := by decide +kernel
theorem dX7_red_3 : decode cX7_red 3 = .ok (.idiv, 1) := by decide +kernel
theorem dX7_red_4 : decode cX7_red 4 = .ok (.ireturn, 1) := by decide +kernel
theorem dX7_green_0 : decode cX7_green 0 = .ok (.iload_n 0, 1) := by decide +kernel
theorem dX7_green_1 : decode cX7_green 1 = .ok (.sipush 256, 3) := by decide +kernel
theorem dX7_green_4 : decode cX7_green 4 = .ok (.idiv, 1) := by decide +kernel
theorem dX7_green_5 : decode cX7_green 5 = .ok (.sipush 256, 3) := by decide +kernel
theorem dX7_green_8 : decode cX7_green 8 = .ok (.irem, 1) := by decide +kernel
theorem dX7_green_9 : decode cX7_green 9 = .ok (.ireturn, 1) := by decide +kernel
theorem dX7_blue_0 : decode cX7_blue 0 = .ok (.iload_n 0, 1) := by decide +kernel
theorem dX7_blue_1 : decode cX7_blue 1 = .ok (.sipush 256, 3) := by decide +kernel
theorem dX7_blue_4 : decode cX7_blue 4 = .ok (.irem, 1) := by decide +kernel
theorem dX7_blue_5 : decode cX7_blue 5 = .ok (.ireturn, 1) := by decide +kernel
theorem dX7_bright_0 : decode cX7_bright 0 = .ok (.sipush 2126, 3) := by decide +kernel
theorem dX7_bright_3 : decode cX7_bright 3 = .ok (.iload_n 0, 1) := by decide +kernel
theorem dX7_bright_4 : decode cX7_bright 4 = .ok (.invokestatic 176, 3) := by decide +kernel
theorem dX7_bright_7 : decode cX7_bright 7 = .ok (.imul, 1) := by decide +kernel
theorem dX7_bright_8 : decode cX7_bright 8 = .ok (.iload_n 0, 1) := by decide +kernel
theorem dX7_bright_9 : decode cX7_bright 9 = .ok (.invokestatic 176, 3) := by decide +kernel
theorem dX7_bright_12 : decode cX7_bright 12 = .ok (.imul, 1) := by decide +kernel
theorem dX7_bright_13 : decode cX7_bright 13 = .ok (.sipush 7152, 3) := by decide +kernel
theorem dX7_bright_16 : decode cX7_bright 16 = .ok (.iload_n 0, 1) := by decide +kernel
theorem dX7_bright_17 : decode cX7_bright 17 = .ok (.invokestatic 179, 3) := by decide +kernel
theorem dX7_bright_20 : decode cX7_bright 20 = .ok (.imul, 1) := by decide +kernel
theorem dX7_bright_21 : decode cX7_bright 21 = .ok (.iload_n 0, 1) := by decide +kernel
theorem dX7_bright_22 : decode cX7_bright 22 = .ok (.invokestatic 179, 3) := by decide +kernel
theorem dX7_bright_25 : decode cX7_bright 25 = .ok (.imul, 1) := by decide +kernel
theorem dX7_bright_26 : decode cX7_bright 26 = .ok (.iadd, 1) := by decide +kernel
theorem dX7_bright_27 : decode cX7_bright 27 = .ok (.sipush 722, 3) := by decide +kernel
theorem dX7_bright_30 : decode cX7_bright 30 = .ok (.iload_n 0, 1) := by decide +kernel
theorem dX7_bright_31 : decode cX7_bright 31 = .ok (.invokestatic 182, 3) := by decide +kernel
theorem dX7_bright_34 : decode cX7_bright 34 = .ok (.imul, 1) := by decide +kernel
theorem dX7_bright_35 : decode cX7_bright 35 = .ok (.iload_n 0, 1) := by decide +kernel
theorem dX7_bright_36 : decode cX7_bright 36 = .ok (.invokestatic 182, 3) := by decide +kernel
theorem dX7_bright_39 : decode cX7_bright 39 = .ok (.imul, 1) := by decide +kernel
theorem dX7_bright_40 : decode cX7_bright 40 = .ok (.iadd, 1) := by decide +kernel
theorem dX7_bright_41 : decode cX7_bright 41 = .ok (.sipush 10000, 3) := by decide +kernel
theorem dX7_bright_44 : decode cX7_bright 44 = .ok (.idiv, 1) := by decide +kernel
theorem dX7_bright_45 : decode cX7_bright 45 = .ok (.ireturn, 1) := by decide +kernel
theorem dX7_contrastOf_0 : decode cX7_contrastOf 0 = .ok (.bipush 100, 2) := by decide +kernel
theorem dX7_contrastOf_2 : decode cX7_contrastOf 2 = .ok (.iload_n 0, 1) := by decide +kernel
theorem dX7_contrastOf_3 : decode cX7_contrastOf 3 = .ok (.invokestatic 185, 3) := by decide +kernel
theorem dX7_contrastOf_6 : decode cX7_contrastOf 6 = .ok (.iload_n 1, 1) := by decide +kernel
theorem dX7_contrastOf_7 : decode cX7_contrastOf 7 = .ok (.invokestatic 185, 3) := by decide +kernel
theorem dX7_contrastOf_10 : decode cX7_contrastOf 10 = .ok (.invokestatic 188, 3) := by decide +kernel
theorem dX7_contrastOf_13 : decode cX7_contrastOf 13 = .ok (.sipush 3251, 3) := by decide +kernel
theorem dX7_contrastOf_16 : decode cX7_contrastOf 16 = .ok (.iadd, 1) := by decide +kernel
theorem dX7_contrastOf_17 : decode cX7_contrastOf 17 = .ok (.imul, 1) := by decide +kernel
theorem dX7_contrastOf_18 : decode cX7_contrastOf 18 = .ok (.iload_n 0, 1) := by decide +kernel
theorem dX7_contrastOf_19 : decode cX7_contrastOf 19 = .ok (.invokestatic 185, 3) := by decide +kernel
theorem dX7_contrastOf_22 : decode cX7_contrastOf 22 = .ok (.iload_n 1, 1) := by decide +kernel
theorem dX7_contrastOf_23 : decode cX7_contrastOf 23 = .ok (.invokestatic 185, 3) := by decide +kernel
theorem dX7_contrastOf_26 : decode cX7_contrastOf 26 = .ok (.invokestatic 91, 3) := by decide +kernel
theorem dX7_contrastOf_29 : decode cX7_contrastOf 29 = .ok (.sipush 3251, 3) := by decide +kernel
theorem dX7_contrastOf_32 : decode cX7_contrastOf 32 = .ok (.iadd, 1) := by decide +kernel
theorem dX7_contrastOf_33 : decode cX7_contrastOf 33 = .ok (.idiv, 1) := by decide +kernel
theorem dX7_contrastOf_34 : decode cX7_contrastOf 34 = .ok (.ireturn, 1) := by decide +kernel
theorem dX7_held_0 : decode cX7_held 0 = .ok (.iconst 0, 1) := by decide +kernel
theorem dX7_held_1 : decode cX7_held 1 = .ok (.sipush 255, 3) := by decide +kernel
theorem dX7_held_4 : decode cX7_held 4 = .ok (.iload_n 0, 1) := by decide +kernel
theorem dX7_held_5 : decode cX7_held 5 = .ok (.invokestatic 91, 3) := by decide +kernel
theorem dX7_held_8 : decode cX7_held 8 = .ok (.invokestatic 188, 3) := by decide +kernel
theorem dX7_held_11 : decode cX7_held 11 = .ok (.ireturn, 1) := by decide +kernel
theorem dX7_channel_0 : decode cX7_channel 0 = .ok (.iload_n 0, 1) := by decide +kernel
theorem dX7_channel_1 : decode cX7_channel 1 = .ok (.iload_n 3, 1) := by decide +kernel
theorem dX7_channel_2 : decode cX7_channel 2 = .ok (.invokestatic 176, 3) := by decide +kernel
theorem dX7_channel_5 : decode cX7_channel 5 = .ok (.imul, 1) := by decide +kernel
theorem dX7_channel_6 : decode cX7_channel 6 = .ok (.iload_n 1, 1) := by decide +kernel
theorem dX7_channel_7 : decode cX7_channel 7 = .ok (.iload_n 3, 1) := by decide +kernel
theorem dX7_channel_8 : decode cX7_channel 8 = .ok (.invokestatic 179, 3) := by decide +kernel
theorem dX7_channel_11 : decode cX7_channel 11 = .ok (.imul, 1) := by decide +kernel
theorem dX7_channel_12 : decode cX7_channel 12 = .ok (.iadd, 1) := by decide +kernel
theorem dX7_channel_13 : decode cX7_channel 13 = .ok (.iload_n 2, 1) := by decide +kernel
theorem dX7_channel_14 : decode cX7_channel 14 = .ok (.iload_n 3, 1) := by decide +kernel
theorem dX7_channel_15 : decode cX7_channel 15 = .ok (.invokestatic 182, 3) := by decide +kernel
theorem dX7_channel_18 : decode cX7_channel 18 = .ok (.imul, 1) := by decide +kernel
theorem dX7_channel_19 : decode cX7_channel 19 = .ok (.iadd, 1) := by decide +kernel
theorem dX7_channel_20 : decode cX7_channel 20 = .ok (.sipush 1000, 3) := by decide +kernel
theorem dX7_channel_23 : decode cX7_channel 23 = .ok (.idiv, 1) := by decide +kernel
theorem dX7_channel_24 : decode cX7_channel 24 = .ok (.invokestatic 191, 3) := by decide +kernel
theorem dX7_channel_27 : decode cX7_channel 27 = .ok (.ireturn, 1) := by decide +kernel
theorem dX7_seenAs_0 : decode cX7_seenAs 0 = .ok (.iload_n 1, 1) := by decide +kernel
theorem dX7_seenAs_1 : decode cX7_seenAs 1 = .ok (.tableswitch 189 1 4 #[31, 70, 110, 149], 31) := by decide +kernel
theorem dX7_seenAs_32 : decode cX7_seenAs 32 = .ok (.sipush 152, 3) := by decide +kernel
theorem dX7_seenAs_35 : decode cX7_seenAs 35 = .ok (.sipush 1053, 3) := by decide +kernel
theorem dX7_seenAs_38 : decode cX7_seenAs 38 = .ok (.sipush (-205), 3) := by decide +kernel
theorem dX7_seenAs_41 : decode cX7_seenAs 41 = .ok (.iload_n 0, 1) := by decide +kernel
theorem dX7_seenAs_42 : decode cX7_seenAs 42 = .ok (.invokestatic 194, 3) := by decide +kernel
theorem dX7_seenAs_45 : decode cX7_seenAs 45 = .ok (.bipush 115, 2) := by decide +kernel
theorem dX7_seenAs_47 : decode cX7_seenAs 47 = .ok (.sipush 786, 3) := by decide +kernel
theorem dX7_seenAs_50 : decode cX7_seenAs 50 = .ok (.bipush 99, 2) := by decide +kernel
theorem dX7_seenAs_52 : decode cX7_seenAs 52 = .ok (.iload_n 0, 1) := by decide +kernel
theorem dX7_seenAs_53 : decode cX7_seenAs 53 = .ok (.invokestatic 194, 3) := by decide +kernel
theorem dX7_seenAs_56 : decode cX7_seenAs 56 = .ok (.bipush (-4), 2) := by decide +kernel
theorem dX7_seenAs_58 : decode cX7_seenAs 58 = .ok (.bipush (-48), 2) := by decide +kernel
theorem dX7_seenAs_60 : decode cX7_seenAs 60 = .ok (.sipush 1052, 3) := by decide +kernel
theorem dX7_seenAs_63 : decode cX7_seenAs 63 = .ok (.iload_n 0, 1) := by decide +kernel
theorem dX7_seenAs_64 : decode cX7_seenAs 64 = .ok (.invokestatic 194, 3) := by decide +kernel
theorem dX7_seenAs_67 : decode cX7_seenAs 67 = .ok (.invokestatic 128, 3) := by decide +kernel
theorem dX7_seenAs_70 : decode cX7_seenAs 70 = .ok (.ireturn, 1) := by decide +kernel
theorem dX7_seenAs_71 : decode cX7_seenAs 71 = .ok (.sipush 367, 3) := by decide +kernel
theorem dX7_seenAs_74 : decode cX7_seenAs 74 = .ok (.sipush 861, 3) := by decide +kernel
theorem dX7_seenAs_77 : decode cX7_seenAs 77 = .ok (.sipush (-228), 3) := by decide +kernel
theorem dX7_seenAs_80 : decode cX7_seenAs 80 = .ok (.iload_n 0, 1) := by decide +kernel
theorem dX7_seenAs_81 : decode cX7_seenAs 81 = .ok (.invokestatic 194, 3) := by decide +kernel
theorem dX7_seenAs_84 : decode cX7_seenAs 84 = .ok (.sipush 280, 3) := by decide +kernel
theorem dX7_seenAs_87 : decode cX7_seenAs 87 = .ok (.sipush 673, 3) := by decide +kernel
theorem dX7_seenAs_90 : decode cX7_seenAs 90 = .ok (.bipush 47, 2) := by decide +kernel
theorem dX7_seenAs_92 : decode cX7_seenAs 92 = .ok (.iload_n 0, 1) := by decide +kernel
theorem dX7_seenAs_93 : decode cX7_seenAs 93 = .ok (.invokestatic 194, 3) := by decide +kernel
theorem dX7_seenAs_96 : decode cX7_seenAs 96 = .ok (.bipush (-12), 2) := by decide +kernel
theorem dX7_seenAs_98 : decode cX7_seenAs 98 = .ok (.bipush 43, 2) := by decide +kernel
theorem dX7_seenAs_100 : decode cX7_seenAs 100 = .ok (.sipush 969, 3) := by decide +kernel
theorem dX7_seenAs_103 : decode cX7_seenAs 103 = .ok (.iload_n 0, 1) := by decide +kernel
theorem dX7_seenAs_104 : decode cX7_seenAs 104 = .ok (.invokestatic 194, 3) := by decide +kernel
theorem dX7_seenAs_107 : decode cX7_seenAs 107 = .ok (.invokestatic 128, 3) := by decide +kernel
theorem dX7_seenAs_110 : decode cX7_seenAs 110 = .ok (.ireturn, 1) := by decide +kernel
theorem dX7_seenAs_111 : decode cX7_seenAs 111 = .ok (.sipush 1256, 3) := by decide +kernel
theorem dX7_seenAs_114 : decode cX7_seenAs 114 = .ok (.bipush (-77), 2) := by decide +kernel
theorem dX7_seenAs_116 : decode cX7_seenAs 116 = .ok (.sipush (-179), 3) := by decide +kernel
theorem dX7_seenAs_119 : decode cX7_seenAs 119 = .ok (.iload_n 0, 1) := by decide +kernel
theorem dX7_seenAs_120 : decode cX7_seenAs 120 = .ok (.invokestatic 194, 3) := by decide +kernel
theorem dX7_seenAs_123 : decode cX7_seenAs 123 = .ok (.bipush (-78), 2) := by decide +kernel
theorem dX7_seenAs_125 : decode cX7_seenAs 125 = .ok (.sipush 930, 3) := by decide +kernel
theorem dX7_seenAs_128 : decode cX7_seenAs 128 = .ok (.sipush 148, 3) := by decide +kernel
theorem dX7_seenAs_131 : decode cX7_seenAs 131 = .ok (.iload_n 0, 1) := by decide +kernel
theorem dX7_seenAs_132 : decode cX7_seenAs 132 = .ok (.invokestatic 194, 3) := by decide +kernel
theorem dX7_seenAs_135 : decode cX7_seenAs 135 = .ok (.iconst 5, 1) := by decide +kernel
theorem dX7_seenAs_136 : decode cX7_seenAs 136 = .ok (.sipush 691, 3) := by decide +kernel
theorem dX7_seenAs_139 : decode cX7_seenAs 139 = .ok (.sipush 304, 3) := by decide +kernel
theorem dX7_seenAs_142 : decode cX7_seenAs 142 = .ok (.iload_n 0, 1) := by decide +kernel
theorem dX7_seenAs_143 : decode cX7_seenAs 143 = .ok (.invokestatic 194, 3) := by decide +kernel
theorem dX7_seenAs_146 : decode cX7_seenAs 146 = .ok (.invokestatic 128, 3) := by decide +kernel
theorem dX7_seenAs_149 : decode cX7_seenAs 149 = .ok (.ireturn, 1) := by decide +kernel
theorem dX7_seenAs_150 : decode cX7_seenAs 150 = .ok (.sipush 299, 3) := by decide +kernel
theorem dX7_seenAs_153 : decode cX7_seenAs 153 = .ok (.sipush 587, 3) := by decide +kernel
theorem dX7_seenAs_156 : decode cX7_seenAs 156 = .ok (.bipush 114, 2) := by decide +kernel
theorem dX7_seenAs_158 : decode cX7_seenAs 158 = .ok (.iload_n 0, 1) := by decide +kernel
theorem dX7_seenAs_159 : decode cX7_seenAs 159 = .ok (.invokestatic 194, 3) := by decide +kernel
theorem dX7_seenAs_162 : decode cX7_seenAs 162 = .ok (.sipush 299, 3) := by decide +kernel
theorem dX7_seenAs_165 : decode cX7_seenAs 165 = .ok (.sipush 587, 3) := by decide +kernel
theorem dX7_seenAs_168 : decode cX7_seenAs 168 = .ok (.bipush 114, 2) := by decide +kernel
theorem dX7_seenAs_170 : decode cX7_seenAs 170 = .ok (.iload_n 0, 1) := by decide +kernel
theorem dX7_seenAs_171 : decode cX7_seenAs 171 = .ok (.invokestatic 194, 3) := by decide +kernel
theorem dX7_seenAs_174 : decode cX7_seenAs 174 = .ok (.sipush 299, 3) := by decide +kernel
theorem dX7_seenAs_177 : decode cX7_seenAs 177 = .ok (.sipush 587, 3) := by decide +kernel
theorem dX7_seenAs_180 : decode cX7_seenAs 180 = .ok (.bipush 114, 2) := by decide +kernel
theorem dX7_seenAs_182 : decode cX7_seenAs 182 = .ok (.iload_n 0, 1) := by decide +kernel
theorem dX7_seenAs_183 : decode cX7_seenAs 183 = .ok (.invokestatic 194, 3) := by decide +kernel
theorem dX7_seenAs_186 : decode cX7_seenAs 186 = .ok (.invokestatic 128, 3) := by decide +kernel
theorem dX7_seenAs_189 : decode cX7_seenAs 189 = .ok (.ireturn, 1) := by decide +kernel
theorem dX7_seenAs_190 : decode cX7_seenAs 190 = .ok (.iload_n 0, 1) := by decide +kernel
theorem dX7_seenAs_191 : decode cX7_seenAs 191 = .ok (.ireturn, 1) := by decide +kernel
theorem dX7_apart_0 : decode cX7_apart 0 = .ok (.iload_n 0, 1) := by decide +kernel
theorem dX7_apart_1 : decode cX7_apart 1 = .ok (.iload_n 1, 1) := by decide +kernel
theorem dX7_apart_2 : decode cX7_apart 2 = .ok (.if_icmp .le 9, 3) := by decide +kernel
theorem dX7_apart_5 : decode cX7_apart 5 = .ok (.iload_n 0, 1) := by decide +kernel
theorem dX7_apart_6 : decode cX7_apart 6 = .ok (.iload_n 1, 1) := by decide +kernel
theorem dX7_apart_7 : decode cX7_apart 7 = .ok (.isub, 1) := by decide +kernel
theorem dX7_apart_8 : decode cX7_apart 8 = .ok (.goto 6, 3) := by decide +kernel
theorem dX7_apart_11 : decode cX7_apart 11 = .ok (.iload_n 1, 1) := by decide +kernel
theorem dX7_apart_12 : decode cX7_apart 12 = .ok (.iload_n 0, 1) := by decide +kernel
theorem dX7_apart_13 : decode cX7_apart 13 = .ok (.isub, 1) := by decide +kernel
theorem dX7_apart_14 : decode cX7_apart 14 = .ok (.ireturn, 1) := by decide +kernel
theorem dX7_differenceOf_0 : decode cX7_differenceOf 0 = .ok (.iconst 3, 1) := by decide +kernel
theorem dX7_differenceOf_1 : decode cX7_differenceOf 1 = .ok (.iload_n 0, 1) := by decide +kernel
theorem dX7_differenceOf_2 : decode cX7_differenceOf 2 = .ok (.invokestatic 176, 3) := by decide +kernel
theorem dX7_differenceOf_5 : decode cX7_differenceOf 5 = .ok (.iload_n 1, 1) := by decide +kernel
theorem dX7_differenceOf_6 : decode cX7_differenceOf 6 = .ok (.invokestatic 176, 3) := by decide +kernel
theorem dX7_differenceOf_9 : decode cX7_differenceOf 9 = .ok (.invokestatic 198, 3) := by decide +kernel
theorem dX7_differenceOf_12 : decode cX7_differenceOf 12 = .ok (.imul, 1) := by decide +kernel
theorem dX7_differenceOf_13 : decode cX7_differenceOf 13 = .ok (.iconst 4, 1) := by decide +kernel
theorem dX7_differenceOf_14 : decode cX7_differenceOf 14 = .ok (.iload_n 0, 1) := by decide +kernel
theorem dX7_differenceOf_15 : decode cX7_differenceOf 15 = .ok (.invokestatic 179, 3) := by decide +kernel
theorem dX7_differenceOf_18 : decode cX7_differenceOf 18 = .ok (.iload_n 1, 1) := by decide +kernel
theorem dX7_differenceOf_19 : decode cX7_differenceOf 19 = .ok (.invokestatic 179, 3) := by decide +kernel
theorem dX7_differenceOf_22 : decode cX7_differenceOf 22 = .ok (.invokestatic 198, 3) := by decide +kernel
theorem dX7_differenceOf_25 : decode cX7_differenceOf 25 = .ok (.imul, 1) := by decide +kernel
theorem dX7_differenceOf_26 : decode cX7_differenceOf 26 = .ok (.iadd, 1) := by decide +kernel
theorem dX7_differenceOf_27 : decode cX7_differenceOf 27 = .ok (.iconst 2, 1) := by decide +kernel
theorem dX7_differenceOf_28 : decode cX7_differenceOf 28 = .ok (.iload_n 0, 1) := by decide +kernel
theorem dX7_differenceOf_29 : decode cX7_differenceOf 29 = .ok (.invokestatic 182, 3) := by decide +kernel
theorem dX7_differenceOf_32 : decode cX7_differenceOf 32 = .ok (.iload_n 1, 1) := by decide +kernel
theorem dX7_differenceOf_33 : decode cX7_differenceOf 33 = .ok (.invokestatic 182, 3) := by decide +kernel
theorem dX7_differenceOf_36 : decode cX7_differenceOf 36 = .ok (.invokestatic 198, 3) := by decide +kernel
theorem dX7_differenceOf_39 : decode cX7_differenceOf 39 = .ok (.imul, 1) := by decide +kernel
theorem dX7_differenceOf_40 : decode cX7_differenceOf 40 = .ok (.iadd, 1) := by decide +kernel
theorem dX7_differenceOf_41 : decode cX7_differenceOf 41 = .ok (.ireturn, 1) := by decide +kernel
theorem dX7_shifted_0 : decode cX7_shifted 0 = .ok (.iload_n 0, 1) := by decide +kernel
theorem dX7_shifted_1 : decode cX7_shifted 1 = .ok (.invokestatic 176, 3) := by decide +kernel
theorem dX7_shifted_4 : decode cX7_shifted 4 = .ok (.iload_n 1, 1) := by decide +kernel
theorem dX7_shifted_5 : decode cX7_shifted 5 = .ok (.iadd, 1) := by decide +kernel
theorem dX7_shifted_6 : decode cX7_shifted 6 = .ok (.invokestatic 191, 3) := by decide +kernel
theorem dX7_shifted_9 : decode cX7_shifted 9 = .ok (.iload_n 0, 1) := by decide +kernel
theorem dX7_shifted_10 : decode cX7_shifted 10 = .ok (.invokestatic 179, 3) := by decide +kernel
theorem dX7_shifted_13 : decode cX7_shifted 13 = .ok (.iload_n 1, 1) := by decide +kernel
theorem dX7_shifted_14 : decode cX7_shifted 14 = .ok (.iadd, 1) := by decide +kernel
theorem dX7_shifted_15 : decode cX7_shifted 15 = .ok (.invokestatic 191, 3) := by decide +kernel
theorem dX7_shifted_18 : decode cX7_shifted 18 = .ok (.iload_n 0, 1) := by decide +kernel
theorem dX7_shifted_19 : decode cX7_shifted 19 = .ok (.invokestatic 182, 3) := by decide +kernel
theorem dX7_shifted_22 : decode cX7_shifted 22 = .ok (.iload_n 1, 1) := by decide +kernel
theorem dX7_shifted_23 : decode cX7_shifted 23 = .ok (.iadd, 1) := by decide +kernel
theorem dX7_shifted_24 : decode cX7_shifted 24 = .ok (.invokestatic 191, 3) := by decide +kernel
theorem dX7_shifted_27 : decode cX7_shifted 27 = .ok (.invokestatic 128, 3) := by decide +kernel
theorem dX7_shifted_30 : decode cX7_shifted 30 = .ok (.ireturn, 1) := by decide +kernel
theorem dX7_limited_0 : decode cX7_limited 0 = .ok (.lload_n 0, 1) := by decide +kernel
theorem dX7_limited_1 : decode cX7_limited 1 = .ok (.ldc2_w 201, 3) := by decide +kernel
theorem dX7_limited_4 : decode cX7_limited 4 = .ok (.lcmp, 1) := by decide +kernel
theorem dX7_limited_5 : decode cX7_limited 5 = .ok (.ifCond .le 9, 3) := by decide +kernel
theorem dX7_limited_8 : decode cX7_limited 8 = .ok (.ldc2_w 201, 3) := by decide +kernel
theorem dX7_limited_11 : decode cX7_limited 11 = .ok (.goto 18, 3) := by decide +kernel
theorem dX7_limited_14 : decode cX7_limited 14 = .ok (.lload_n 0, 1) := by decide +kernel
theorem dX7_limited_15 : decode cX7_limited 15 = .ok (.ldc2_w 203, 3) := by decide +kernel
theorem dX7_limited_18 : decode cX7_limited 18 = .ok (.lcmp, 1) := by decide +kernel
theorem dX7_limited_19 : decode cX7_limited 19 = .ok (.ifCond .ge 9, 3) := by decide +kernel
theorem dX7_limited_22 : decode cX7_limited 22 = .ok (.ldc2_w 203, 3) := by decide +kernel
theorem dX7_limited_25 : decode cX7_limited 25 = .ok (.goto 4, 3) := by decide +kernel
theorem dX7_limited_28 : decode cX7_limited 28 = .ok (.lload_n 0, 1) := by decide +kernel
theorem dX7_limited_29 : decode cX7_limited 29 = .ok (.lreturn, 1) := by decide +kernel
theorem dX7_operate_0 : decode cX7_operate 0 = .ok (.iload_n 0, 1) := by decide +kernel
theorem dX7_operate_1 : decode cX7_operate 1 = .ok (.iconst 5, 1) := by decide +kernel
theorem dX7_operate_2 : decode cX7_operate 2 = .ok (.if_icmp .ne 17, 3) := by decide +kernel
theorem dX7_operate_5 : decode cX7_operate 5 = .ok (.lload_n 3, 1) := by decide +kernel
theorem dX7_operate_6 : decode cX7_operate 6 = .ok (.lconst 0, 1) := by decide +kernel
theorem dX7_operate_7 : decode cX7_operate 7 = .ok (.lcmp, 1) := by decide +kernel
theorem dX7_operate_8 : decode cX7_operate 8 = .ok (.ifCond .ne 7, 3) := by decide +kernel
theorem dX7_operate_11 : decode cX7_operate 11 = .ok (.lconst 0, 1) := by decide +kernel
theorem dX7_operate_12 : decode cX7_operate 12 = .ok (.goto 6, 3) := by decide +kernel
theorem dX7_operate_15 : decode cX7_operate 15 = .ok (.lload_n 1, 1) := by decide +kernel
theorem dX7_operate_16 : decode cX7_operate 16 = .ok (.lload_n 3, 1) := by decide +kernel
theorem dX7_operate_17 : decode cX7_operate 17 = .ok (.ldiv, 1) := by decide +kernel
theorem dX7_operate_18 : decode cX7_operate 18 = .ok (.lreturn, 1) := by decide +kernel
theorem dX7_operate_19 : decode cX7_operate 19 = .ok (.iload_n 0, 1) := by decide +kernel
theorem dX7_operate_20 : decode cX7_operate 20 = .ok (.iconst 2, 1) := by decide +kernel
theorem dX7_operate_21 : decode cX7_operate 21 = .ok (.if_icmp .ne 9, 3) := by decide +kernel
theorem dX7_operate_24 : decode cX7_operate 24 = .ok (.lload_n 1, 1) := by decide +kernel
theorem dX7_operate_25 : decode cX7_operate 25 = .ok (.lload_n 3, 1) := by decide +kernel
theorem dX7_operate_26 : decode cX7_operate 26 = .ok (.ladd, 1) := by decide +kernel
theorem dX7_operate_27 : decode cX7_operate 27 = .ok (.goto 17, 3) := by decide +kernel
theorem dX7_operate_30 : decode cX7_operate 30 = .ok (.iload_n 0, 1) := by decide +kernel
theorem dX7_operate_31 : decode cX7_operate 31 = .ok (.iconst 3, 1) := by decide +kernel
theorem dX7_operate_32 : decode cX7_operate 32 = .ok (.if_icmp .ne 9, 3) := by decide +kernel
theorem dX7_operate_35 : decode cX7_operate 35 = .ok (.lload_n 1, 1) := by decide +kernel
theorem dX7_operate_36 : decode cX7_operate 36 = .ok (.lload_n 3, 1) := by decide +kernel
theorem dX7_operate_37 : decode cX7_operate 37 = .ok (.lsub, 1) := by decide +kernel
theorem dX7_operate_38 : decode cX7_operate 38 = .ok (.goto 6, 3) := by decide +kernel
theorem dX7_operate_41 : decode cX7_operate 41 = .ok (.lload_n 1, 1) := by decide +kernel
theorem dX7_operate_42 : decode cX7_operate 42 = .ok (.lload_n 3, 1) := by decide +kernel
theorem dX7_operate_43 : decode cX7_operate 43 = .ok (.lmul, 1) := by decide +kernel
theorem dX7_operate_44 : decode cX7_operate 44 = .ok (.invokestatic 205, 3) := by decide +kernel
theorem dX7_operate_47 : decode cX7_operate 47 = .ok (.lreturn, 1) := by decide +kernel
theorem dX7_reckonNeed_0 : decode cX7_reckonNeed 0 = .ok (.aload_n 0, 1) := by decide +kernel
theorem dX7_reckonNeed_1 : decode cX7_reckonNeed 1 = .ok (.getfield 17, 3) := by decide +kernel
theorem dX7_reckonNeed_4 : decode cX7_reckonNeed 4 = .ok (.iload_n 1, 1) := by decide +kernel
theorem dX7_reckonNeed_5 : decode cX7_reckonNeed 5 = .ok (.invokestatic 139, 3) := by decide +kernel
theorem dX7_reckonNeed_8 : decode cX7_reckonNeed 8 = .ok (.iconst 3, 1) := by decide +kernel
theorem dX7_reckonNeed_9 : decode cX7_reckonNeed 9 = .ok (.iadd, 1) := by decide +kernel
theorem dX7_reckonNeed_10 : decode cX7_reckonNeed 10 = .ok (.iaload, 1) := by decide +kernel
theorem dX7_reckonNeed_11 : decode cX7_reckonNeed 11 = .ok (.istore_n 3, 1) := by decide +kernel
theorem dX7_reckonNeed_12 : decode cX7_reckonNeed 12 = .ok (.iconst 0, 1) := by decide +kernel
theorem dX7_reckonNeed_13 : decode cX7_reckonNeed 13 = .ok (.istore 4, 2) := by decide +kernel
theorem dX7_reckonNeed_15 : decode cX7_reckonNeed 15 = .ok (.aload_n 0, 1) := by decide +kernel
theorem dX7_reckonNeed_16 : decode cX7_reckonNeed 16 = .ok (.getfield 17, 3) := by decide +kernel
theorem dX7_reckonNeed_19 : decode cX7_reckonNeed 19 = .ok (.iload_n 1, 1) := by decide +kernel
theorem dX7_reckonNeed_20 : decode cX7_reckonNeed 20 = .ok (.invokestatic 139, 3) := by decide +kernel
theorem dX7_reckonNeed_23 : decode cX7_reckonNeed 23 = .ok (.iaload, 1) := by decide +kernel
theorem dX7_reckonNeed_24 : decode cX7_reckonNeed 24 = .ok (.ifCond .le 5, 3) := by decide +kernel
theorem dX7_reckonNeed_27 : decode cX7_reckonNeed 27 = .ok (.iload_n 3, 1) := by decide +kernel
theorem dX7_reckonNeed_28 : decode cX7_reckonNeed 28 = .ok (.ireturn, 1) := by decide +kernel
theorem dX7_reckonNeed_29 : decode cX7_reckonNeed 29 = .ok (.aload_n 0, 1) := by decide +kernel
theorem dX7_reckonNeed_30 : decode cX7_reckonNeed 30 = .ok (.getfield 17, 3) := by decide +kernel
theorem dX7_reckonNeed_33 : decode cX7_reckonNeed 33 = .ok (.iconst 2, 1) := by decide +kernel
theorem dX7_reckonNeed_34 : decode cX7_reckonNeed 34 = .ok (.iaload, 1) := by decide +kernel
theorem dX7_reckonNeed_35 : decode cX7_reckonNeed 35 = .ok (.ifCond .ne 7, 3) := by decide +kernel
theorem dX7_reckonNeed_38 : decode cX7_reckonNeed 38 = .ok (.sipush 450, 3) := by decide +kernel
theorem dX7_reckonNeed_41 : decode cX7_reckonNeed 41 = .ok (.ireturn, 1) := by decide +kernel
theorem dX7_reckonNeed_42 : decode cX7_reckonNeed 42 = .ok (.iconst 0, 1) := by decide +kernel
theorem dX7_reckonNeed_43 : decode cX7_reckonNeed 43 = .ok (.istore 5, 2) := by decide +kernel
theorem dX7_reckonNeed_45 : decode cX7_reckonNeed 45 = .ok (.iload 5, 2) := by decide +kernel
theorem dX7_reckonNeed_47 : decode cX7_reckonNeed 47 = .ok (.aload_n 0, 1) := by decide +kernel
theorem dX7_reckonNeed_48 : decode cX7_reckonNeed 48 = .ok (.getfield 17, 3) := by decide +kernel
theorem dX7_reckonNeed_51 : decode cX7_reckonNeed 51 = .ok (.iconst 3, 1) := by decide +kernel
theorem dX7_reckonNeed_52 : decode cX7_reckonNeed 52 = .ok (.iaload, 1) := by decide +kernel
theorem dX7_reckonNeed_53 : decode cX7_reckonNeed 53 = .ok (.if_icmp .ge 111, 3) := by decide +kernel
theorem dX7_reckonNeed_56 : decode cX7_reckonNeed 56 = .ok (.aload_n 0, 1) := by decide +kernel
theorem dX7_reckonNeed_57 : decode cX7_reckonNeed 57 = .ok (.getfield 17, 3) := by decide +kernel
theorem dX7_reckonNeed_60 : decode cX7_reckonNeed 60 = .ok (.bipush 82, 2) := by decide +kernel
theorem dX7_reckonNeed_62 : decode cX7_reckonNeed 62 = .ok (.iload 5, 2) := by decide +kernel
theorem dX7_reckonNeed_64 : decode cX7_reckonNeed 64 = .ok (.iadd, 1) := by decide +kernel
theorem dX7_reckonNeed_65 : decode cX7_reckonNeed 65 = .ok (.iaload, 1) := by decide +kernel
theorem dX7_reckonNeed_66 : decode cX7_reckonNeed 66 = .ok (.istore 6, 2) := by decide +kernel
theorem dX7_reckonNeed_68 : decode cX7_reckonNeed 68 = .ok (.iload 6, 2) := by decide +kernel
theorem dX7_reckonNeed_70 : decode cX7_reckonNeed 70 = .ok (.iconst 1, 1) := by decide +kernel
theorem dX7_reckonNeed_71 : decode cX7_reckonNeed 71 = .ok (.if_icmp .gt 54, 3) := by decide +kernel
theorem dX7_reckonNeed_74 : decode cX7_reckonNeed 74 = .ok (.iinc 5 1, 3) := by decide +kernel
theorem dX7_reckonNeed_77 : decode cX7_reckonNeed 77 = .ok (.aload_n 0, 1) := by decide +kernel
theorem dX7_reckonNeed_78 : decode cX7_reckonNeed 78 = .ok (.getfield 17, 3) := by decide +kernel
theorem dX7_reckonNeed_81 : decode cX7_reckonNeed 81 = .ok (.bipush 82, 2) := by decide +kernel
theorem dX7_reckonNeed_83 : decode cX7_reckonNeed 83 = .ok (.iload 5, 2) := by decide +kernel
theorem dX7_reckonNeed_85 : decode cX7_reckonNeed 85 = .ok (.iadd, 1) := by decide +kernel
theorem dX7_reckonNeed_86 : decode cX7_reckonNeed 86 = .ok (.iaload, 1) := by decide +kernel
theorem dX7_reckonNeed_87 : decode cX7_reckonNeed 87 = .ok (.istore 7, 2) := by decide +kernel
theorem dX7_reckonNeed_89 : decode cX7_reckonNeed 89 = .ok (.aload_n 0, 1) := by decide +kernel
theorem dX7_reckonNeed_90 : decode cX7_reckonNeed 90 = .ok (.getfield 28, 3) := by decide +kernel
theorem dX7_reckonNeed_93 : decode cX7_reckonNeed 93 = .ok (.iload 4, 2) := by decide +kernel
theorem dX7_reckonNeed_95 : decode cX7_reckonNeed 95 = .ok (.iload 6, 2) := by decide +kernel
theorem dX7_reckonNeed_97 : decode cX7_reckonNeed 97 = .ok (.ifCond .ne 9, 3) := by decide +kernel
theorem dX7_reckonNeed_100 : decode cX7_reckonNeed 100 = .ok (.iload 7, 2) := by decide +kernel
theorem dX7_reckonNeed_102 : decode cX7_reckonNeed 102 = .ok (.i2l, 1) := by decide +kernel
theorem dX7_reckonNeed_103 : decode cX7_reckonNeed 103 = .ok (.goto 15, 3) := by decide +kernel
theorem dX7_reckonNeed_106 : decode cX7_reckonNeed 106 = .ok (.iload 7, 2) := by decide +kernel
theorem dX7_reckonNeed_108 : decode cX7_reckonNeed 108 = .ok (.ifCond .ne 8, 3) := by decide +kernel
theorem dX7_reckonNeed_111 : decode cX7_reckonNeed 111 = .ok (.iload_n 3, 1) := by decide +kernel
theorem dX7_reckonNeed_112 : decode cX7_reckonNeed 112 = .ok (.i2l, 1) := by decide +kernel
theorem dX7_reckonNeed_113 : decode cX7_reckonNeed 113 = .ok (.goto 5, 3) := by decide +kernel
theorem dX7_reckonNeed_116 : decode cX7_reckonNeed 116 = .ok (.iload_n 2, 1) := by decide +kernel
theorem dX7_reckonNeed_117 : decode cX7_reckonNeed 117 = .ok (.i2l, 1) := by decide +kernel
theorem dX7_reckonNeed_118 : decode cX7_reckonNeed 118 = .ok (.lastore, 1) := by decide +kernel
theorem dX7_reckonNeed_119 : decode cX7_reckonNeed 119 = .ok (.iinc 4 1, 3) := by decide +kernel
theorem dX7_reckonNeed_122 : decode cX7_reckonNeed 122 = .ok (.goto 36, 3) := by decide +kernel
theorem dX7_reckonNeed_125 : decode cX7_reckonNeed 125 = .ok (.iinc 4 (-1), 3) := by decide +kernel
theorem dX7_reckonNeed_128 : decode cX7_reckonNeed 128 = .ok (.aload_n 0, 1) := by decide +kernel
theorem dX7_reckonNeed_129 : decode cX7_reckonNeed 129 = .ok (.getfield 28, 3) := by decide +kernel
theorem dX7_reckonNeed_132 : decode cX7_reckonNeed 132 = .ok (.iload 4, 2) := by decide +kernel
theorem dX7_reckonNeed_134 : decode cX7_reckonNeed 134 = .ok (.iconst 1, 1) := by decide +kernel
theorem dX7_reckonNeed_135 : decode cX7_reckonNeed 135 = .ok (.isub, 1) := by decide +kernel
theorem dX7_reckonNeed_136 : decode cX7_reckonNeed 136 = .ok (.iload 6, 2) := by decide +kernel
theorem dX7_reckonNeed_138 : decode cX7_reckonNeed 138 = .ok (.aload_n 0, 1) := by decide +kernel
theorem dX7_reckonNeed_139 : decode cX7_reckonNeed 139 = .ok (.getfield 28, 3) := by decide +kernel
theorem dX7_reckonNeed_142 : decode cX7_reckonNeed 142 = .ok (.iload 4, 2) := by decide +kernel
theorem dX7_reckonNeed_144 : decode cX7_reckonNeed 144 = .ok (.iconst 1, 1) := by decide +kernel
theorem dX7_reckonNeed_145 : decode cX7_reckonNeed 145 = .ok (.isub, 1) := by decide +kernel
theorem dX7_reckonNeed_146 : decode cX7_reckonNeed 146 = .ok (.laload, 1) := by decide +kernel
theorem dX7_reckonNeed_147 : decode cX7_reckonNeed 147 = .ok (.aload_n 0, 1) := by decide +kernel
theorem dX7_reckonNeed_148 : decode cX7_reckonNeed 148 = .ok (.getfield 28, 3) := by decide +kernel
theorem dX7_reckonNeed_151 : decode cX7_reckonNeed 151 = .ok (.iload 4, 2) := by decide +kernel
theorem dX7_reckonNeed_153 : decode cX7_reckonNeed 153 = .ok (.laload, 1) := by decide +kernel
theorem dX7_reckonNeed_154 : decode cX7_reckonNeed 154 = .ok (.invokestatic 209, 3) := by decide +kernel
theorem dX7_reckonNeed_157 : decode cX7_reckonNeed 157 = .ok (.lastore, 1) := by decide +kernel
theorem dX7_reckonNeed_158 : decode cX7_reckonNeed 158 = .ok (.iinc 5 1, 3) := by decide +kernel
theorem dX7_reckonNeed_161 : decode cX7_reckonNeed 161 = .ok (.goto (-116), 3) := by decide +kernel
theorem dX7_reckonNeed_164 : decode cX7_reckonNeed 164 = .ok (.aload_n 0, 1) := by decide +kernel
theorem dX7_reckonNeed_165 : decode cX7_reckonNeed 165 = .ok (.getfield 28, 3) := by decide +kernel
theorem dX7_reckonNeed_168 : decode cX7_reckonNeed 168 = .ok (.iconst 0, 1) := by decide +kernel
theorem dX7_reckonNeed_169 : decode cX7_reckonNeed 169 = .ok (.laload, 1) := by decide +kernel
theorem dX7_reckonNeed_170 : decode cX7_reckonNeed 170 = .ok (.ldc2_w 213, 3) := by decide +kernel
theorem dX7_reckonNeed_173 : decode cX7_reckonNeed 173 = .ok (.lcmp, 1) := by decide +kernel
theorem dX7_reckonNeed_174 : decode cX7_reckonNeed 174 = .ok (.ifCond .ge 8, 3) := by decide +kernel
theorem dX7_reckonNeed_177 : decode cX7_reckonNeed 177 = .ok (.bipush 100, 2) := by decide +kernel
theorem dX7_reckonNeed_179 : decode cX7_reckonNeed 179 = .ok (.goto 29, 3) := by decide +kernel
theorem dX7_reckonNeed_182 : decode cX7_reckonNeed 182 = .ok (.aload_n 0, 1) := by decide +kernel
theorem dX7_reckonNeed_183 : decode cX7_reckonNeed 183 = .ok (.getfield 28, 3) := by decide +kernel
theorem dX7_reckonNeed_186 : decode cX7_reckonNeed 186 = .ok (.iconst 0, 1) := by decide +kernel
theorem dX7_reckonNeed_187 : decode cX7_reckonNeed 187 = .ok (.laload, 1) := by decide +kernel
theorem dX7_reckonNeed_188 : decode cX7_reckonNeed 188 = .ok (.ldc2_w 215, 3) := by decide +kernel
theorem dX7_reckonNeed_191 : decode cX7_reckonNeed 191 = .ok (.lcmp, 1) := by decide +kernel
theorem dX7_reckonNeed_192 : decode cX7_reckonNeed 192 = .ok (.ifCond .le 9, 3) := by decide +kernel
theorem dX7_reckonNeed_195 : decode cX7_reckonNeed 195 = .ok (.sipush 2100, 3) := by decide +kernel
theorem dX7_reckonNeed_198 : decode cX7_reckonNeed 198 = .ok (.goto 10, 3) := by decide +kernel
theorem dX7_reckonNeed_201 : decode cX7_reckonNeed 201 = .ok (.aload_n 0, 1) := by decide +kernel
theorem dX7_reckonNeed_202 : decode cX7_reckonNeed 202 = .ok (.getfield 28, 3) := by decide +kernel
theorem dX7_reckonNeed_205 : decode cX7_reckonNeed 205 = .ok (.iconst 0, 1) := by decide +kernel
theorem dX7_reckonNeed_206 : decode cX7_reckonNeed 206 = .ok (.laload, 1) := by decide +kernel
theorem dX7_reckonNeed_207 : decode cX7_reckonNeed 207 = .ok (.l2i, 1) := by decide +kernel
theorem dX7_reckonNeed_208 : decode cX7_reckonNeed 208 = .ok (.ireturn, 1) := by decide +kernel
theorem dX7_layNeeds_0 : decode cX7_layNeeds 0 = .ok (.iconst 0, 1) := by decide +kernel
theorem dX7_layNeeds_1 : decode cX7_layNeeds 1 = .ok (.istore_n 1, 1) := by decide +kernel
theorem dX7_layNeeds_2 : decode cX7_layNeeds 2 = .ok (.iload_n 1, 1) := by decide +kernel
theorem dX7_layNeeds_3 : decode cX7_layNeeds 3 = .ok (.iconst 2, 1) := by decide +kernel
theorem dX7_layNeeds_4 : decode cX7_layNeeds 4 = .ok (.aload_n 0, 1) := by decide +kernel
theorem dX7_layNeeds_5 : decode cX7_layNeeds 5 = .ok (.getfield 17, 3) := by decide +kernel
theorem dX7_layNeeds_8 : decode cX7_layNeeds 8 = .ok (.iconst 1, 1) := by decide +kernel
theorem dX7_layNeeds_9 : decode cX7_layNeeds 9 = .ok (.iaload, 1) := by decide +kernel
theorem dX7_layNeeds_10 : decode cX7_layNeeds 10 = .ok (.imul, 1) := by decide +kernel
theorem dX7_layNeeds_11 : decode cX7_layNeeds 11 = .ok (.if_icmp .ge 25, 3) := by decide +kernel
theorem dX7_layNeeds_14 : decode cX7_layNeeds 14 = .ok (.aload_n 0, 1) := by decide +kernel
theorem dX7_layNeeds_15 : decode cX7_layNeeds 15 = .ok (.getfield 32, 3) := by decide +kernel
theorem dX7_layNeeds_18 : decode cX7_layNeeds 18 = .ok (.iload_n 1, 1) := by decide +kernel
theorem dX7_layNeeds_19 : decode cX7_layNeeds 19 = .ok (.aload_n 0, 1) := by decide +kernel
theorem dX7_layNeeds_20 : decode cX7_layNeeds 20 = .ok (.iload_n 1, 1) := by decide +kernel
theorem dX7_layNeeds_21 : decode cX7_layNeeds 21 = .ok (.iconst 2, 1) := by decide +kernel
theorem dX7_layNeeds_22 : decode cX7_layNeeds 22 = .ok (.idiv, 1) := by decide +kernel
theorem dX7_layNeeds_23 : decode cX7_layNeeds 23 = .ok (.iload_n 1, 1) := by decide +kernel
theorem dX7_layNeeds_24 : decode cX7_layNeeds 24 = .ok (.iconst 2, 1) := by decide +kernel
theorem dX7_layNeeds_25 : decode cX7_layNeeds 25 = .ok (.irem, 1) := by decide +kernel
theorem dX7_layNeeds_26 : decode cX7_layNeeds 26 = .ok (.invokevirtual 217, 3) := by decide +kernel
theorem dX7_layNeeds_29 : decode cX7_layNeeds 29 = .ok (.iastore, 1) := by decide +kernel
theorem dX7_layNeeds_30 : decode cX7_layNeeds 30 = .ok (.iinc 1 1, 3) := by decide +kernel
theorem dX7_layNeeds_33 : decode cX7_layNeeds 33 = .ok (.goto (-31), 3) := by decide +kernel
theorem dX7_layNeeds_36 : decode cX7_layNeeds 36 = .ok (.return_, 1) := by decide +kernel
theorem dX7_needOf_0 : decode cX7_needOf 0 = .ok (.aload_n 0, 1) := by decide +kernel
theorem dX7_needOf_1 : decode cX7_needOf 1 = .ok (.getfield 32, 3) := by decide +kernel
theorem dX7_needOf_4 : decode cX7_needOf 4 = .ok (.iconst 2, 1) := by decide +kernel
theorem dX7_needOf_5 : decode cX7_needOf 5 = .ok (.iload_n 1, 1) := by decide +kernel
theorem dX7_needOf_6 : decode cX7_needOf 6 = .ok (.imul, 1) := by decide +kernel
theorem dX7_needOf_7 : decode cX7_needOf 7 = .ok (.iload_n 2, 1) := by decide +kernel
theorem dX7_needOf_8 : decode cX7_needOf 8 = .ok (.iadd, 1) := by decide +kernel
theorem dX7_needOf_9 : decode cX7_needOf 9 = .ok (.iaload, 1) := by decide +kernel
theorem dX7_needOf_10 : decode cX7_needOf 10 = .ok (.ireturn, 1) := by decide +kernel
theorem dX7_valueOf_0 : decode cX7_valueOf 0 = .ok (.aload_n 0, 1) := by decide +kernel
theorem dX7_valueOf_1 : decode cX7_valueOf 1 = .ok (.aload_n 0, 1) := by decide +kernel
theorem dX7_valueOf_2 : decode cX7_valueOf 2 = .ok (.getfield 17, 3) := by decide +kernel
theorem dX7_valueOf_5 : decode cX7_valueOf 5 = .ok (.iload_n 1, 1) := by decide +kernel
theorem dX7_valueOf_6 : decode cX7_valueOf 6 = .ok (.invokestatic 139, 3) := by decide +kernel
theorem dX7_valueOf_9 : decode cX7_valueOf 9 = .ok (.iconst 1, 1) := by decide +kernel
theorem dX7_valueOf_10 : decode cX7_valueOf 10 = .ok (.iadd, 1) := by decide +kernel
theorem dX7_valueOf_11 : decode cX7_valueOf 11 = .ok (.iaload, 1) := by decide +kernel
theorem dX7_valueOf_12 : decode cX7_valueOf 12 = .ok (.iload_n 2, 1) := by decide +kernel
theorem dX7_valueOf_13 : decode cX7_valueOf 13 = .ok (.invokevirtual 220, 3) := by decide +kernel
theorem dX7_valueOf_16 : decode cX7_valueOf 16 = .ok (.istore_n 3, 1) := by decide +kernel
theorem dX7_valueOf_17 : decode cX7_valueOf 17 = .ok (.aload_n 0, 1) := by decide +kernel
theorem dX7_valueOf_18 : decode cX7_valueOf 18 = .ok (.aload_n 0, 1) := by decide +kernel
theorem dX7_valueOf_19 : decode cX7_valueOf 19 = .ok (.getfield 17, 3) := by decide +kernel
theorem dX7_valueOf_22 : decode cX7_valueOf 22 = .ok (.iload_n 1, 1) := by decide +kernel
theorem dX7_valueOf_23 : decode cX7_valueOf 23 = .ok (.invokestatic 139, 3) := by decide +kernel
theorem dX7_valueOf_26 : decode cX7_valueOf 26 = .ok (.iconst 2, 1) := by decide +kernel
theorem dX7_valueOf_27 : decode cX7_valueOf 27 = .ok (.iadd, 1) := by decide +kernel
theorem dX7_valueOf_28 : decode cX7_valueOf 28 = .ok (.iaload, 1) := by decide +kernel
theorem dX7_valueOf_29 : decode cX7_valueOf 29 = .ok (.iload_n 2, 1) := by decide +kernel
theorem dX7_valueOf_30 : decode cX7_valueOf 30 = .ok (.invokevirtual 220, 3) := by decide +kernel
theorem dX7_valueOf_33 : decode cX7_valueOf 33 = .ok (.istore 4, 2) := by decide +kernel
theorem dX7_valueOf_35 : decode cX7_valueOf 35 = .ok (.aload_n 0, 1) := by decide +kernel
theorem dX7_valueOf_36 : decode cX7_valueOf 36 = .ok (.getfield 17, 3) := by decide +kernel
theorem dX7_valueOf_39 : decode cX7_valueOf 39 = .ok (.iload_n 1, 1) := by decide +kernel
theorem dX7_valueOf_40 : decode cX7_valueOf 40 = .ok (.invokestatic 139, 3) := by decide +kernel
theorem dX7_valueOf_43 : decode cX7_valueOf 43 = .ok (.iaload, 1) := by decide +kernel
theorem dX7_valueOf_44 : decode cX7_valueOf 44 = .ok (.iconst 1, 1) := by decide +kernel
theorem dX7_valueOf_45 : decode cX7_valueOf 45 = .ok (.isub, 1) := by decide +kernel
theorem dX7_valueOf_46 : decode cX7_valueOf 46 = .ok (.istore 5, 2) := by decide +kernel
theorem dX7_valueOf_48 : decode cX7_valueOf 48 = .ok (.iload 5, 2) := by decide +kernel
theorem dX7_valueOf_50 : decode cX7_valueOf 50 = .ok (.iconst (-1), 1) := by decide +kernel
theorem dX7_valueOf_51 : decode cX7_valueOf 51 = .ok (.if_icmp .ne 12, 3) := by decide +kernel
theorem dX7_valueOf_54 : decode cX7_valueOf 54 = .ok (.iload_n 3, 1) := by decide +kernel
theorem dX7_valueOf_55 : decode cX7_valueOf 55 = .ok (.iload 4, 2) := by decide +kernel
theorem dX7_valueOf_57 : decode cX7_valueOf 57 = .ok (.invokestatic 223, 3) := by decide +kernel
theorem dX7_valueOf_60 : decode cX7_valueOf 60 = .ok (.goto 19, 3) := by decide +kernel
theorem dX7_valueOf_63 : decode cX7_valueOf 63 = .ok (.iload_n 3, 1) := by decide +kernel
theorem dX7_valueOf_64 : decode cX7_valueOf 64 = .ok (.iload 5, 2) := by decide +kernel
theorem dX7_valueOf_66 : decode cX7_valueOf 66 = .ok (.invokestatic 226, 3) := by decide +kernel
theorem dX7_valueOf_69 : decode cX7_valueOf 69 = .ok (.iload 4, 2) := by decide +kernel
theorem dX7_valueOf_71 : decode cX7_valueOf 71 = .ok (.iload 5, 2) := by decide +kernel
theorem dX7_valueOf_73 : decode cX7_valueOf 73 = .ok (.invokestatic 226, 3) := by decide +kernel
theorem dX7_valueOf_76 : decode cX7_valueOf 76 = .ok (.invokestatic 229, 3) := by decide +kernel
theorem dX7_valueOf_79 : decode cX7_valueOf 79 = .ok (.ireturn, 1) := by decide +kernel
theorem dX7_isViolated_0 : decode cX7_isViolated 0 = .ok (.aload_n 0, 1) := by decide +kernel
theorem dX7_isViolated_1 : decode cX7_isViolated 1 = .ok (.iload_n 1, 1) := by decide +kernel
theorem dX7_isViolated_2 : decode cX7_isViolated 2 = .ok (.iload_n 2, 1) := by decide +kernel
theorem dX7_isViolated_3 : decode cX7_isViolated 3 = .ok (.invokevirtual 232, 3) := by decide +kernel
theorem dX7_isViolated_6 : decode cX7_isViolated 6 = .ok (.aload_n 0, 1) := by decide +kernel
theorem dX7_isViolated_7 : decode cX7_isViolated 7 = .ok (.iload_n 1, 1) := by decide +kernel
theorem dX7_isViolated_8 : decode cX7_isViolated 8 = .ok (.iload_n 2, 1) := by decide +kernel
theorem dX7_isViolated_9 : decode cX7_isViolated 9 = .ok (.invokevirtual 235, 3) := by decide +kernel
theorem dX7_isViolated_12 : decode cX7_isViolated 12 = .ok (.if_icmp .ge 7, 3) := by decide +kernel
theorem dX7_isViolated_15 : decode cX7_isViolated 15 = .ok (.iconst 1, 1) := by decide +kernel
theorem dX7_isViolated_16 : decode cX7_isViolated 16 = .ok (.goto 4, 3) := by decide +kernel
theorem dX7_isViolated_19 : decode cX7_isViolated 19 = .ok (.iconst 0, 1) := by decide +kernel
theorem dX7_isViolated_20 : decode cX7_isViolated 20 = .ok (.ireturn, 1) := by decide +kernel
theorem dX7_violatedIn_0 : decode cX7_violatedIn 0 = .ok (.iconst 0, 1) := by decide +kernel
theorem dX7_violatedIn_1 : decode cX7_violatedIn 1 = .ok (.istore_n 2, 1) := by decide +kernel
theorem dX7_violatedIn_2 : decode cX7_violatedIn 2 = .ok (.iconst 0, 1) := by decide +kernel
theorem dX7_violatedIn_3 : decode cX7_violatedIn 3 = .ok (.istore_n 3, 1) := by decide +kernel
theorem dX7_violatedIn_4 : decode cX7_violatedIn 4 = .ok (.iload_n 3, 1) := by decide +kernel
theorem dX7_violatedIn_5 : decode cX7_violatedIn 5 = .ok (.aload_n 0, 1) := by decide +kernel
theorem dX7_violatedIn_6 : decode cX7_violatedIn 6 = .ok (.getfield 17, 3) := by decide +kernel
theorem dX7_violatedIn_9 : decode cX7_violatedIn 9 = .ok (.iconst 1, 1) := by decide +kernel
theorem dX7_violatedIn_10 : decode cX7_violatedIn 10 = .ok (.iaload, 1) := by decide +kernel
theorem dX7_violatedIn_11 : decode cX7_violatedIn 11 = .ok (.if_icmp .ge 26, 3) := by decide +kernel
theorem dX7_violatedIn_14 : decode cX7_violatedIn 14 = .ok (.iload_n 2, 1) := by decide +kernel
theorem dX7_violatedIn_15 : decode cX7_violatedIn 15 = .ok (.aload_n 0, 1) := by decide +kernel
theorem dX7_violatedIn_16 : decode cX7_violatedIn 16 = .ok (.iload_n 3, 1) := by decide +kernel
theorem dX7_violatedIn_17 : decode cX7_violatedIn 17 = .ok (.iload_n 1, 1) := by decide +kernel
theorem dX7_violatedIn_18 : decode cX7_violatedIn 18 = .ok (.invokevirtual 238, 3) := by decide +kernel
theorem dX7_violatedIn_21 : decode cX7_violatedIn 21 = .ok (.ifCond .eq 7, 3) := by decide +kernel
theorem dX7_violatedIn_24 : decode cX7_violatedIn 24 = .ok (.iconst 1, 1) := by decide +kernel
theorem dX7_violatedIn_25 : decode cX7_violatedIn 25 = .ok (.goto 4, 3) := by decide +kernel
theorem dX7_violatedIn_28 : decode cX7_violatedIn 28 = .ok (.iconst 0, 1) := by decide +kernel
theorem dX7_violatedIn_29 : decode cX7_violatedIn 29 = .ok (.iadd, 1) := by decide +kernel
theorem dX7_violatedIn_30 : decode cX7_violatedIn 30 = .ok (.istore_n 2, 1) := by decide +kernel
theorem dX7_violatedIn_31 : decode cX7_violatedIn 31 = .ok (.iinc 3 1, 3) := by decide +kernel
theorem dX7_violatedIn_34 : decode cX7_violatedIn 34 = .ok (.goto (-30), 3) := by decide +kernel
theorem dX7_violatedIn_37 : decode cX7_violatedIn 37 = .ok (.iload_n 2, 1) := by decide +kernel
theorem dX7_violatedIn_38 : decode cX7_violatedIn 38 = .ok (.ireturn, 1) := by decide +kernel
theorem dX7_mends_0 : decode cX7_mends 0 = .ok (.aload_n 0, 1) := by decide +kernel
theorem dX7_mends_1 : decode cX7_mends 1 = .ok (.getfield 17, 3) := by decide +kernel
theorem dX7_mends_4 : decode cX7_mends 4 = .ok (.iload_n 3, 1) := by decide +kernel
theorem dX7_mends_5 : decode cX7_mends 5 = .ok (.invokestatic 136, 3) := by decide +kernel
theorem dX7_mends_8 : decode cX7_mends 8 = .ok (.iconst 2, 1) := by decide +kernel
theorem dX7_mends_9 : decode cX7_mends 9 = .ok (.iadd, 1) := by decide +kernel
theorem dX7_mends_10 : decode cX7_mends 10 = .ok (.iaload, 1) := by decide +kernel
theorem dX7_mends_11 : decode cX7_mends 11 = .ok (.iconst 1, 1) := by decide +kernel
theorem dX7_mends_12 : decode cX7_mends 12 = .ok (.if_icmp .ne 5, 3) := by decide +kernel
theorem dX7_mends_15 : decode cX7_mends 15 = .ok (.iconst 0, 1) := by decide +kernel
theorem dX7_mends_16 : decode cX7_mends 16 = .ok (.ireturn, 1) := by decide +kernel
theorem dX7_mends_17 : decode cX7_mends 17 = .ok (.iload_n 3, 1) := by decide +kernel
theorem dX7_mends_18 : decode cX7_mends 18 = .ok (.invokestatic 136, 3) := by decide +kernel
theorem dX7_mends_21 : decode cX7_mends 21 = .ok (.iload_n 2, 1) := by decide +kernel
theorem dX7_mends_22 : decode cX7_mends 22 = .ok (.iadd, 1) := by decide +kernel
theorem dX7_mends_23 : decode cX7_mends 23 = .ok (.istore 6, 2) := by decide +kernel
theorem dX7_mends_25 : decode cX7_mends 25 = .ok (.aload_n 0, 1) := by decide +kernel
theorem dX7_mends_26 : decode cX7_mends 26 = .ok (.getfield 17, 3) := by decide +kernel
theorem dX7_mends_29 : decode cX7_mends 29 = .ok (.iload 6, 2) := by decide +kernel
theorem dX7_mends_31 : decode cX7_mends 31 = .ok (.iaload, 1) := by decide +kernel
theorem dX7_mends_32 : decode cX7_mends 32 = .ok (.istore 7, 2) := by decide +kernel
theorem dX7_mends_34 : decode cX7_mends 34 = .ok (.aload_n 0, 1) := by decide +kernel
theorem dX7_mends_35 : decode cX7_mends 35 = .ok (.getfield 17, 3) := by decide +kernel
theorem dX7_mends_38 : decode cX7_mends 38 = .ok (.iload 6, 2) := by decide +kernel
theorem dX7_mends_40 : decode cX7_mends 40 = .ok (.iload 7, 2) := by decide +kernel
theorem dX7_mends_42 : decode cX7_mends 42 = .ok (.iload 4, 2) := by decide +kernel
theorem dX7_mends_44 : decode cX7_mends 44 = .ok (.invokestatic 242, 3) := by decide +kernel
theorem dX7_mends_47 : decode cX7_mends 47 = .ok (.iastore, 1) := by decide +kernel
theorem dX7_mends_48 : decode cX7_mends 48 = .ok (.aload_n 0, 1) := by decide +kernel
theorem dX7_mends_49 : decode cX7_mends 49 = .ok (.iload_n 1, 1) := by decide +kernel
theorem dX7_mends_50 : decode cX7_mends 50 = .ok (.iload_n 2, 1) := by decide +kernel
theorem dX7_mends_51 : decode cX7_mends 51 = .ok (.invokevirtual 238, 3) := by decide +kernel
theorem dX7_mends_54 : decode cX7_mends 54 = .ok (.ifCond .ne 17, 3) := by decide +kernel
theorem dX7_mends_57 : decode cX7_mends 57 = .ok (.aload_n 0, 1) := by decide +kernel
theorem dX7_mends_58 : decode cX7_mends 58 = .ok (.iload_n 2, 1) := by decide +kernel
theorem dX7_mends_59 : decode cX7_mends 59 = .ok (.invokevirtual 245, 3) := by decide +kernel
theorem dX7_mends_62 : decode cX7_mends 62 = .ok (.iload 5, 2) := by decide +kernel
theorem dX7_mends_64 : decode cX7_mends 64 = .ok (.if_icmp .ge 7, 3) := by decide +kernel
theorem dX7_mends_67 : decode cX7_mends 67 = .ok (.iconst 1, 1) := by decide +kernel
theorem dX7_mends_68 : decode cX7_mends 68 = .ok (.goto 4, 3) := by decide +kernel
theorem dX7_mends_71 : decode cX7_mends 71 = .ok (.iconst 0, 1) := by decide +kernel
theorem dX7_mends_72 : decode cX7_mends 72 = .ok (.istore 8, 2) := by decide +kernel
theorem dX7_mends_74 : decode cX7_mends 74 = .ok (.aload_n 0, 1) := by decide +kernel
theorem dX7_mends_75 : decode cX7_mends 75 = .ok (.getfield 17, 3) := by decide +kernel
theorem dX7_mends_78 : decode cX7_mends 78 = .ok (.iload 6, 2) := by decide +kernel
theorem dX7_mends_80 : decode cX7_mends 80 = .ok (.iload 7, 2) := by decide +kernel
theorem dX7_mends_82 : decode cX7_mends 82 = .ok (.iastore, 1) := by decide +kernel
theorem dX7_mends_83 : decode cX7_mends 83 = .ok (.iload 8, 2) := by decide +kernel
theorem dX7_mends_85 : decode cX7_mends 85 = .ok (.ifCond .eq 14, 3) := by decide +kernel
theorem dX7_mends_88 : decode cX7_mends 88 = .ok (.aload_n 0, 1) := by decide +kernel
theorem dX7_mends_89 : decode cX7_mends 89 = .ok (.iload 4, 2) := by decide +kernel
theorem dX7_mends_91 : decode cX7_mends 91 = .ok (.putfield 248, 3) := by decide +kernel
theorem dX7_mends_94 : decode cX7_mends 94 = .ok (.aload_n 0, 1) := by decide +kernel
theorem dX7_mends_95 : decode cX7_mends 95 = .ok (.iload_n 3, 1) := by decide +kernel
theorem dX7_mends_96 : decode cX7_mends 96 = .ok (.putfield 251, 3) := by decide +kernel
theorem dX7_mends_99 : decode cX7_mends 99 = .ok (.iload 8, 2) := by decide +kernel
theorem dX7_mends_101 : decode cX7_mends 101 = .ok (.ireturn, 1) := by decide +kernel
theorem dX7_findShift_0 : decode cX7_findShift 0 = .ok (.aload_n 0, 1) := by decide +kernel
theorem dX7_findShift_1 : decode cX7_findShift 1 = .ok (.getfield 17, 3) := by decide +kernel
theorem dX7_findShift_4 : decode cX7_findShift 4 = .ok (.iload_n 1, 1) := by decide +kernel
theorem dX7_findShift_5 : decode cX7_findShift 5 = .ok (.invokestatic 139, 3) := by decide +kernel
theorem dX7_findShift_8 : decode cX7_findShift 8 = .ok (.iconst 1, 1) := by decide +kernel
theorem dX7_findShift_9 : decode cX7_findShift 9 = .ok (.iadd, 1) := by decide +kernel
theorem dX7_findShift_10 : decode cX7_findShift 10 = .ok (.iaload, 1) := by decide +kernel
theorem dX7_findShift_11 : decode cX7_findShift 11 = .ok (.istore_n 3, 1) := by decide +kernel
theorem dX7_findShift_12 : decode cX7_findShift 12 = .ok (.aload_n 0, 1) := by decide +kernel
theorem dX7_findShift_13 : decode cX7_findShift 13 = .ok (.getfield 17, 3) := by decide +kernel
theorem dX7_findShift_16 : decode cX7_findShift 16 = .ok (.iload_n 1, 1) := by decide +kernel
theorem dX7_findShift_17 : decode cX7_findShift 17 = .ok (.invokestatic 139, 3) := by decide +kernel
theorem dX7_findShift_20 : decode cX7_findShift 20 = .ok (.iconst 2, 1) := by decide +kernel
theorem dX7_findShift_21 : decode cX7_findShift 21 = .ok (.iadd, 1) := by decide +kernel
theorem dX7_findShift_22 : decode cX7_findShift 22 = .ok (.iaload, 1) := by decide +kernel
theorem dX7_findShift_23 : decode cX7_findShift 23 = .ok (.istore 4, 2) := by decide +kernel
theorem dX7_findShift_25 : decode cX7_findShift 25 = .ok (.aload_n 0, 1) := by decide +kernel
theorem dX7_findShift_26 : decode cX7_findShift 26 = .ok (.iload_n 2, 1) := by decide +kernel
theorem dX7_findShift_27 : decode cX7_findShift 27 = .ok (.invokevirtual 245, 3) := by decide +kernel
theorem dX7_findShift_30 : decode cX7_findShift 30 = .ok (.istore 5, 2) := by decide +kernel
theorem dX7_findShift_32 : decode cX7_findShift 32 = .ok (.iconst 1, 1) := by decide +kernel
theorem dX7_findShift_33 : decode cX7_findShift 33 = .ok (.istore 6, 2) := by decide +kernel
theorem dX7_findShift_35 : decode cX7_findShift 35 = .ok (.iload 6, 2) := by decide +kernel
theorem dX7_findShift_37 : decode cX7_findShift 37 = .ok (.sipush 255, 3) := by decide +kernel
theorem dX7_findShift_40 : decode cX7_findShift 40 = .ok (.if_icmp .gt 73, 3) := by decide +kernel
theorem dX7_findShift_43 : decode cX7_findShift 43 = .ok (.aload_n 0, 1) := by decide +kernel
theorem dX7_findShift_44 : decode cX7_findShift 44 = .ok (.iload_n 1, 1) := by decide +kernel
theorem dX7_findShift_45 : decode cX7_findShift 45 = .ok (.iload_n 2, 1) := by decide +kernel
theorem dX7_findShift_46 : decode cX7_findShift 46 = .ok (.iload_n 3, 1) := by decide +kernel
theorem dX7_findShift_47 : decode cX7_findShift 47 = .ok (.iload 6, 2) := by decide +kernel
theorem dX7_findShift_49 : decode cX7_findShift 49 = .ok (.iload 5, 2) := by decide +kernel
theorem dX7_findShift_51 : decode cX7_findShift 51 = .ok (.invokevirtual 254, 3) := by decide +kernel
theorem dX7_findShift_54 : decode cX7_findShift 54 = .ok (.ifCond .ne 18, 3) := by decide +kernel
theorem dX7_findShift_57 : decode cX7_findShift 57 = .ok (.aload_n 0, 1) := by decide +kernel
theorem dX7_findShift_58 : decode cX7_findShift 58 = .ok (.iload_n 1, 1) := by decide +kernel
theorem dX7_findShift_59 : decode cX7_findShift 59 = .ok (.iload_n 2, 1) := by decide +kernel
theorem dX7_findShift_60 : decode cX7_findShift 60 = .ok (.iload 4, 2) := by decide +kernel
theorem dX7_findShift_62 : decode cX7_findShift 62 = .ok (.iload 6, 2) := by decide +kernel
theorem dX7_findShift_64 : decode cX7_findShift 64 = .ok (.iload 5, 2) := by decide +kernel
theorem dX7_findShift_66 : decode cX7_findShift 66 = .ok (.invokevirtual 254, 3) := by decide +kernel
theorem dX7_findShift_69 : decode cX7_findShift 69 = .ok (.ifCond .eq 5, 3) := by decide +kernel
theorem dX7_findShift_72 : decode cX7_findShift 72 = .ok (.iconst 1, 1) := by decide +kernel
theorem dX7_findShift_73 : decode cX7_findShift 73 = .ok (.ireturn, 1) := by decide +kernel
theorem dX7_findShift_74 : decode cX7_findShift 74 = .ok (.aload_n 0, 1) := by decide +kernel
theorem dX7_findShift_75 : decode cX7_findShift 75 = .ok (.iload_n 1, 1) := by decide +kernel
theorem dX7_findShift_76 : decode cX7_findShift 76 = .ok (.iload_n 2, 1) := by decide +kernel
theorem dX7_findShift_77 : decode cX7_findShift 77 = .ok (.iload_n 3, 1) := by decide +kernel
theorem dX7_findShift_78 : decode cX7_findShift 78 = .ok (.iload 6, 2) := by decide +kernel
theorem dX7_findShift_80 : decode cX7_findShift 80 = .ok (.ineg, 1) := by decide +kernel
theorem dX7_findShift_81 : decode cX7_findShift 81 = .ok (.iload 5, 2) := by decide +kernel
theorem dX7_findShift_83 : decode cX7_findShift 83 = .ok (.invokevirtual 254, 3) := by decide +kernel
theorem dX7_findShift_86 : decode cX7_findShift 86 = .ok (.ifCond .ne 19, 3) := by decide +kernel
theorem dX7_findShift_89 : decode cX7_findShift 89 = .ok (.aload_n 0, 1) := by decide +kernel
theorem dX7_findShift_90 : decode cX7_findShift 90 = .ok (.iload_n 1, 1) := by decide +kernel
theorem dX7_findShift_91 : decode cX7_findShift 91 = .ok (.iload_n 2, 1) := by decide +kernel
theorem dX7_findShift_92 : decode cX7_findShift 92 = .ok (.iload 4, 2) := by decide +kernel
theorem dX7_findShift_94 : decode cX7_findShift 94 = .ok (.iload 6, 2) := by decide +kernel
theorem dX7_findShift_96 : decode cX7_findShift 96 = .ok (.ineg, 1) := by decide +kernel
theorem dX7_findShift_97 : decode cX7_findShift 97 = .ok (.iload 5, 2) := by decide +kernel
theorem dX7_findShift_99 : decode cX7_findShift 99 = .ok (.invokevirtual 254, 3) := by decide +kernel
theorem dX7_findShift_102 : decode cX7_findShift 102 = .ok (.ifCond .eq 5, 3) := by decide +kernel
theorem dX7_findShift_105 : decode cX7_findShift 105 = .ok (.iconst 1, 1) := by decide +kernel
theorem dX7_findShift_106 : decode cX7_findShift 106 = .ok (.ireturn, 1) := by decide +kernel
theorem dX7_findShift_107 : decode cX7_findShift 107 = .ok (.iinc 6 1, 3) := by decide +kernel
theorem dX7_findShift_110 : decode cX7_findShift 110 = .ok (.goto (-75), 3) := by decide +kernel
theorem dX7_findShift_113 : decode cX7_findShift 113 = .ok (.iconst 0, 1) := by decide +kernel
theorem dX7_findShift_114 : decode cX7_findShift 114 = .ok (.ireturn, 1) := by decide +kernel
theorem dX7_findAny_0 : decode cX7_findAny 0 = .ok (.iconst 0, 1) := by decide +kernel
theorem dX7_findAny_1 : decode cX7_findAny 1 = .ok (.istore_n 1, 1) := by decide +kernel
theorem dX7_findAny_2 : decode cX7_findAny 2 = .ok (.iload_n 1, 1) := by decide +kernel
theorem dX7_findAny_3 : decode cX7_findAny 3 = .ok (.iconst 2, 1) := by decide +kernel
theorem dX7_findAny_4 : decode cX7_findAny 4 = .ok (.aload_n 0, 1) := by decide +kernel
theorem dX7_findAny_5 : decode cX7_findAny 5 = .ok (.getfield 17, 3) := by decide +kernel
theorem dX7_findAny_8 : decode cX7_findAny 8 = .ok (.iconst 1, 1) := by decide +kernel
theorem dX7_findAny_9 : decode cX7_findAny 9 = .ok (.iaload, 1) := by decide +kernel
theorem dX7_findAny_10 : decode cX7_findAny 10 = .ok (.imul, 1) := by decide +kernel
theorem dX7_findAny_11 : decode cX7_findAny 11 = .ok (.if_icmp .ge 44, 3) := by decide +kernel
theorem dX7_findAny_14 : decode cX7_findAny 14 = .ok (.aload_n 0, 1) := by decide +kernel
theorem dX7_findAny_15 : decode cX7_findAny 15 = .ok (.iload_n 1, 1) := by decide +kernel
theorem dX7_findAny_16 : decode cX7_findAny 16 = .ok (.iconst 2, 1) := by decide +kernel
theorem dX7_findAny_17 : decode cX7_findAny 17 = .ok (.irem, 1) := by decide +kernel
theorem dX7_findAny_18 : decode cX7_findAny 18 = .ok (.putfield 258, 3) := by decide +kernel
theorem dX7_findAny_21 : decode cX7_findAny 21 = .ok (.aload_n 0, 1) := by decide +kernel
theorem dX7_findAny_22 : decode cX7_findAny 22 = .ok (.iload_n 1, 1) := by decide +kernel
theorem dX7_findAny_23 : decode cX7_findAny 23 = .ok (.iconst 2, 1) := by decide +kernel
theorem dX7_findAny_24 : decode cX7_findAny 24 = .ok (.idiv, 1) := by decide +kernel
theorem dX7_findAny_25 : decode cX7_findAny 25 = .ok (.iload_n 1, 1) := by decide +kernel
theorem dX7_findAny_26 : decode cX7_findAny 26 = .ok (.iconst 2, 1) := by decide +kernel
theorem dX7_findAny_27 : decode cX7_findAny 27 = .ok (.irem, 1) := by decide +kernel
theorem dX7_findAny_28 : decode cX7_findAny 28 = .ok (.invokevirtual 238, 3) := by decide +kernel
theorem dX7_findAny_31 : decode cX7_findAny 31 = .ok (.ifCond .eq 18, 3) := by decide +kernel
theorem dX7_findAny_34 : decode cX7_findAny 34 = .ok (.aload_n 0, 1) := by decide +kernel
theorem dX7_findAny_35 : decode cX7_findAny 35 = .ok (.iload_n 1, 1) := by decide +kernel
theorem dX7_findAny_36 : decode cX7_findAny 36 = .ok (.iconst 2, 1) := by decide +kernel
theorem dX7_findAny_37 : decode cX7_findAny 37 = .ok (.idiv, 1) := by decide +kernel
theorem dX7_findAny_38 : decode cX7_findAny 38 = .ok (.iload_n 1, 1) := by decide +kernel
theorem dX7_findAny_39 : decode cX7_findAny 39 = .ok (.iconst 2, 1) := by decide +kernel
theorem dX7_findAny_40 : decode cX7_findAny 40 = .ok (.irem, 1) := by decide +kernel
theorem dX7_findAny_41 : decode cX7_findAny 41 = .ok (.invokevirtual 261, 3) := by decide +kernel
theorem dX7_findAny_44 : decode cX7_findAny 44 = .ok (.ifCond .eq 5, 3) := by decide +kernel
theorem dX7_findAny_47 : decode cX7_findAny 47 = .ok (.iconst 1, 1) := by decide +kernel
theorem dX7_findAny_48 : decode cX7_findAny 48 = .ok (.ireturn, 1) := by decide +kernel
theorem dX7_findAny_49 : decode cX7_findAny 49 = .ok (.iinc 1 1, 3) := by decide +kernel
theorem dX7_findAny_52 : decode cX7_findAny 52 = .ok (.goto (-50), 3) := by decide +kernel
theorem dX7_findAny_55 : decode cX7_findAny 55 = .ok (.iconst 0, 1) := by decide +kernel
theorem dX7_findAny_56 : decode cX7_findAny 56 = .ok (.ireturn, 1) := by decide +kernel
theorem dX7_noRole_0 : decode cX7_noRole 0 = .ok (.aload_n 0, 1) := by decide +kernel
theorem dX7_noRole_1 : decode cX7_noRole 1 = .ok (.iload_n 1, 1) := by decide +kernel
theorem dX7_noRole_2 : decode cX7_noRole 2 = .ok (.iconst 0, 1) := by decide +kernel
theorem dX7_noRole_3 : decode cX7_noRole 3 = .ok (.aload_n 0, 1) := by decide +kernel
theorem dX7_noRole_4 : decode cX7_noRole 4 = .ok (.getfield 17, 3) := by decide +kernel
theorem dX7_noRole_7 : decode cX7_noRole 7 = .ok (.iconst 0, 1) := by decide +kernel
theorem dX7_noRole_8 : decode cX7_noRole 8 = .ok (.iaload, 1) := by decide +kernel
theorem dX7_noRole_9 : decode cX7_noRole 9 = .ok (.iconst 1, 1) := by decide +kernel
theorem dX7_noRole_10 : decode cX7_noRole 10 = .ok (.isub, 1) := by decide +kernel
theorem dX7_noRole_11 : decode cX7_noRole 11 = .ok (.invokestatic 58, 3) := by decide +kernel
theorem dX7_noRole_14 : decode cX7_noRole 14 = .ok (.ifCond .ne 7, 3) := by decide +kernel
theorem dX7_noRole_17 : decode cX7_noRole 17 = .ok (.iconst 1, 1) := by decide +kernel
theorem dX7_noRole_18 : decode cX7_noRole 18 = .ok (.goto 4, 3) := by decide +kernel
theorem dX7_noRole_21 : decode cX7_noRole 21 = .ok (.iconst 0, 1) := by decide +kernel
theorem dX7_noRole_22 : decode cX7_noRole 22 = .ok (.iconst 1, 1) := by decide +kernel
theorem dX7_noRole_23 : decode cX7_noRole 23 = .ok (.invokevirtual 159, 3) := by decide +kernel
theorem dX7_noRole_26 : decode cX7_noRole 26 = .ok (.ireturn, 1) := by decide +kernel
theorem dX7_noScheme_0 : decode cX7_noScheme 0 = .ok (.aload_n 0, 1) := by decide +kernel
theorem dX7_noScheme_1 : decode cX7_noScheme 1 = .ok (.iload_n 1, 1) := by decide +kernel
theorem dX7_noScheme_2 : decode cX7_noScheme 2 = .ok (.iconst 0, 1) := by decide +kernel
theorem dX7_noScheme_3 : decode cX7_noScheme 3 = .ok (.iconst 1, 1) := by decide +kernel
theorem dX7_noScheme_4 : decode cX7_noScheme 4 = .ok (.invokestatic 58, 3) := by decide +kernel
theorem dX7_noScheme_7 : decode cX7_noScheme 7 = .ok (.ifCond .ne 7, 3) := by decide +kernel
theorem dX7_noScheme_10 : decode cX7_noScheme 10 = .ok (.iconst 1, 1) := by decide +kernel
theorem dX7_noScheme_11 : decode cX7_noScheme 11 = .ok (.goto 4, 3) := by decide +kernel
theorem dX7_noScheme_14 : decode cX7_noScheme 14 = .ok (.iconst 0, 1) := by decide +kernel
theorem dX7_noScheme_15 : decode cX7_noScheme 15 = .ok (.iconst 1, 1) := by decide +kernel
theorem dX7_noScheme_16 : decode cX7_noScheme 16 = .ok (.invokevirtual 159, 3) := by decide +kernel
theorem dX7_noScheme_19 : decode cX7_noScheme 19 = .ok (.ireturn, 1) := by decide +kernel
theorem dX7_noRule_0 : decode cX7_noRule 0 = .ok (.aload_n 0, 1) := by decide +kernel
theorem dX7_noRule_1 : decode cX7_noRule 1 = .ok (.iload_n 1, 1) := by decide +kernel
theorem dX7_noRule_2 : decode cX7_noRule 2 = .ok (.iconst 0, 1) := by decide +kernel
theorem dX7_noRule_3 : decode cX7_noRule 3 = .ok (.aload_n 0, 1) := by decide +kernel
theorem dX7_noRule_4 : decode cX7_noRule 4 = .ok (.getfield 17, 3) := by decide +kernel
theorem dX7_noRule_7 : decode cX7_noRule 7 = .ok (.iconst 1, 1) := by decide +kernel
theorem dX7_noRule_8 : decode cX7_noRule 8 = .ok (.iaload, 1) := by decide +kernel
theorem dX7_noRule_9 : decode cX7_noRule 9 = .ok (.iconst 1, 1) := by decide +kernel
theorem dX7_noRule_10 : decode cX7_noRule 10 = .ok (.isub, 1) := by decide +kernel
theorem dX7_noRule_11 : decode cX7_noRule 11 = .ok (.invokestatic 58, 3) := by decide +kernel
theorem dX7_noRule_14 : decode cX7_noRule 14 = .ok (.ifCond .ne 7, 3) := by decide +kernel
theorem dX7_noRule_17 : decode cX7_noRule 17 = .ok (.iconst 1, 1) := by decide +kernel
theorem dX7_noRule_18 : decode cX7_noRule 18 = .ok (.goto 4, 3) := by decide +kernel
theorem dX7_noRule_21 : decode cX7_noRule 21 = .ok (.iconst 0, 1) := by decide +kernel
theorem dX7_noRule_22 : decode cX7_noRule 22 = .ok (.iconst 1, 1) := by decide +kernel
theorem dX7_noRule_23 : decode cX7_noRule 23 = .ok (.invokevirtual 159, 3) := by decide +kernel
theorem dX7_noRule_26 : decode cX7_noRule 26 = .ok (.ifCond .ne 11, 3) := by decide +kernel
theorem dX7_noRule_29 : decode cX7_noRule 29 = .ok (.aload_n 0, 1) := by decide +kernel
theorem dX7_noRule_30 : decode cX7_noRule 30 = .ok (.iload_n 2, 1) := by decide +kernel
theorem dX7_noRule_31 : decode cX7_noRule 31 = .ok (.invokevirtual 264, 3) := by decide +kernel
theorem dX7_noRule_34 : decode cX7_noRule 34 = .ok (.ifCond .eq 7, 3) := by decide +kernel
theorem dX7_noRule_37 : decode cX7_noRule 37 = .ok (.iconst 1, 1) := by decide +kernel
theorem dX7_noRule_38 : decode cX7_noRule 38 = .ok (.goto 4, 3) := by decide +kernel
theorem dX7_noRule_41 : decode cX7_noRule 41 = .ok (.iconst 0, 1) := by decide +kernel
theorem dX7_noRule_42 : decode cX7_noRule 42 = .ok (.ireturn, 1) := by decide +kernel
theorem dX7_roleCount_0 : decode cX7_roleCount 0 = .ok (.aload_n 0, 1) := by decide +kernel
theorem dX7_roleCount_1 : decode cX7_roleCount 1 = .ok (.iconst 0, 1) := by decide +kernel
theorem dX7_roleCount_2 : decode cX7_roleCount 2 = .ok (.putfield 35, 3) := by decide +kernel
theorem dX7_roleCount_5 : decode cX7_roleCount 5 = .ok (.aload_n 0, 1) := by decide +kernel
theorem dX7_roleCount_6 : decode cX7_roleCount 6 = .ok (.getfield 17, 3) := by decide +kernel
theorem dX7_roleCount_9 : decode cX7_roleCount 9 = .ok (.iconst 0, 1) := by decide +kernel
theorem dX7_roleCount_10 : decode cX7_roleCount 10 = .ok (.iaload, 1) := by decide +kernel
theorem dX7_roleCount_11 : decode cX7_roleCount 11 = .ok (.ireturn, 1) := by decide +kernel
theorem dX7_ruleCount_0 : decode cX7_ruleCount 0 = .ok (.aload_n 0, 1) := by decide +kernel
theorem dX7_ruleCount_1 : decode cX7_ruleCount 1 = .ok (.iconst 0, 1) := by decide +kernel
theorem dX7_ruleCount_2 : decode cX7_ruleCount 2 = .ok (.putfield 35, 3) := by decide +kernel
theorem dX7_ruleCount_5 : decode cX7_ruleCount 5 = .ok (.aload_n 0, 1) := by decide +kernel
theorem dX7_ruleCount_6 : decode cX7_ruleCount 6 = .ok (.getfield 17, 3) := by decide +kernel
theorem dX7_ruleCount_9 : decode cX7_ruleCount 9 = .ok (.iconst 1, 1) := by decide +kernel
theorem dX7_ruleCount_10 : decode cX7_ruleCount 10 = .ok (.iaload, 1) := by decide +kernel
theorem dX7_ruleCount_11 : decode cX7_ruleCount 11 = .ok (.ireturn, 1) := by decide +kernel
theorem dX7_colour_0 : decode cX7_colour 0 = .ok (.aload_n 0, 1) := by decide +kernel
theorem dX7_colour_1 : decode cX7_colour 1 = .ok (.iconst 0, 1) := by decide +kernel
theorem dX7_colour_2 : decode cX7_colour 2 = .ok (.putfield 35, 3) := by decide +kernel
theorem dX7_colour_5 : decode cX7_colour 5 = .ok (.aload_n 0, 1) := by decide +kernel
theorem dX7_colour_6 : decode cX7_colour 6 = .ok (.iload_n 1, 1) := by decide +kernel
theorem dX7_colour_7 : decode cX7_colour 7 = .ok (.invokevirtual 267, 3) := by decide +kernel
theorem dX7_colour_10 : decode cX7_colour 10 = .ok (.ifCond .ne 11, 3) := by decide +kernel
theorem dX7_colour_13 : decode cX7_colour 13 = .ok (.aload_n 0, 1) := by decide +kernel
theorem dX7_colour_14 : decode cX7_colour 14 = .ok (.iload_n 2, 1) := by decide +kernel
theorem dX7_colour_15 : decode cX7_colour 15 = .ok (.invokevirtual 264, 3) := by decide +kernel
theorem dX7_colour_18 : decode cX7_colour 18 = .ok (.ifCond .eq 7, 3) := by decide +kernel
theorem dX7_colour_21 : decode cX7_colour 21 = .ok (.iconst 0, 1) := by decide +kernel
theorem dX7_colour_22 : decode cX7_colour 22 = .ok (.goto 9, 3) := by decide +kernel
theorem dX7_colour_25 : decode cX7_colour 25 = .ok (.aload_n 0, 1) := by decide +kernel
theorem dX7_colour_26 : decode cX7_colour 26 = .ok (.iload_n 1, 1) := by decide +kernel
theorem dX7_colour_27 : decode cX7_colour 27 = .ok (.iload_n 2, 1) := by decide +kernel
theorem dX7_colour_28 : decode cX7_colour 28 = .ok (.invokevirtual 220, 3) := by decide +kernel
theorem dX7_colour_31 : decode cX7_colour 31 = .ok (.ireturn, 1) := by decide +kernel
theorem dX7_isFixed_0 : decode cX7_isFixed 0 = .ok (.aload_n 0, 1) := by decide +kernel
theorem dX7_isFixed_1 : decode cX7_isFixed 1 = .ok (.iconst 0, 1) := by decide +kernel
theorem dX7_isFixed_2 : decode cX7_isFixed 2 = .ok (.putfield 35, 3) := by decide +kernel
theorem dX7_isFixed_5 : decode cX7_isFixed 5 = .ok (.aload_n 0, 1) := by decide +kernel
theorem dX7_isFixed_6 : decode cX7_isFixed 6 = .ok (.iload_n 1, 1) := by decide +kernel
theorem dX7_isFixed_7 : decode cX7_isFixed 7 = .ok (.invokevirtual 267, 3) := by decide +kernel
theorem dX7_isFixed_10 : decode cX7_isFixed 10 = .ok (.ifCond .ne 22, 3) := by decide +kernel
theorem dX7_isFixed_13 : decode cX7_isFixed 13 = .ok (.aload_n 0, 1) := by decide +kernel
theorem dX7_isFixed_14 : decode cX7_isFixed 14 = .ok (.getfield 17, 3) := by decide +kernel
theorem dX7_isFixed_17 : decode cX7_isFixed 17 = .ok (.iload_n 1, 1) := by decide +kernel
theorem dX7_isFixed_18 : decode cX7_isFixed 18 = .ok (.invokestatic 136, 3) := by decide +kernel
theorem dX7_isFixed_21 : decode cX7_isFixed 21 = .ok (.iconst 2, 1) := by decide +kernel
theorem dX7_isFixed_22 : decode cX7_isFixed 22 = .ok (.iadd, 1) := by decide +kernel
theorem dX7_isFixed_23 : decode cX7_isFixed 23 = .ok (.iaload, 1) := by decide +kernel
theorem dX7_isFixed_24 : decode cX7_isFixed 24 = .ok (.iconst 1, 1) := by decide +kernel
theorem dX7_isFixed_25 : decode cX7_isFixed 25 = .ok (.if_icmp .ne 7, 3) := by decide +kernel
theorem dX7_isFixed_28 : decode cX7_isFixed 28 = .ok (.iconst 1, 1) := by decide +kernel
theorem dX7_isFixed_29 : decode cX7_isFixed 29 = .ok (.goto 4, 3) := by decide +kernel
theorem dX7_isFixed_32 : decode cX7_isFixed 32 = .ok (.iconst 0, 1) := by decide +kernel
theorem dX7_isFixed_33 : decode cX7_isFixed 33 = .ok (.ireturn, 1) := by decide +kernel
theorem dX7_luminance_0 : decode cX7_luminance 0 = .ok (.aload_n 0, 1) := by decide +kernel
theorem dX7_luminance_1 : decode cX7_luminance 1 = .ok (.iconst 0, 1) := by decide +kernel
theorem dX7_luminance_2 : decode cX7_luminance 2 = .ok (.putfield 35, 3) := by decide +kernel
theorem dX7_luminance_5 : decode cX7_luminance 5 = .ok (.aload_n 0, 1) := by decide +kernel
theorem dX7_luminance_6 : decode cX7_luminance 6 = .ok (.iload_n 1, 1) := by decide +kernel
theorem dX7_luminance_7 : decode cX7_luminance 7 = .ok (.invokevirtual 267, 3) := by decide +kernel
theorem dX7_luminance_10 : decode cX7_luminance 10 = .ok (.ifCond .ne 11, 3) := by decide +kernel
theorem dX7_luminance_13 : decode cX7_luminance 13 = .ok (.aload_n 0, 1) := by decide +kernel
theorem dX7_luminance_14 : decode cX7_luminance 14 = .ok (.iload_n 2, 1) := by decide +kernel
theorem dX7_luminance_15 : decode cX7_luminance 15 = .ok (.invokevirtual 264, 3) := by decide +kernel
theorem dX7_luminance_18 : decode cX7_luminance 18 = .ok (.ifCond .eq 7, 3) := by decide +kernel
theorem dX7_luminance_21 : decode cX7_luminance 21 = .ok (.iconst 0, 1) := by decide +kernel
theorem dX7_luminance_22 : decode cX7_luminance 22 = .ok (.goto 12, 3) := by decide +kernel
theorem dX7_luminance_25 : decode cX7_luminance 25 = .ok (.aload_n 0, 1) := by decide +kernel
theorem dX7_luminance_26 : decode cX7_luminance 26 = .ok (.iload_n 1, 1) := by decide +kernel
theorem dX7_luminance_27 : decode cX7_luminance 27 = .ok (.iload_n 2, 1) := by decide +kernel
theorem dX7_luminance_28 : decode cX7_luminance 28 = .ok (.invokevirtual 220, 3) := by decide +kernel
theorem dX7_luminance_31 : decode cX7_luminance 31 = .ok (.invokestatic 185, 3) := by decide +kernel
theorem dX7_luminance_34 : decode cX7_luminance 34 = .ok (.ireturn, 1) := by decide +kernel
theorem dX7_contrast_0 : decode cX7_contrast 0 = .ok (.aload_n 0, 1) := by decide +kernel
theorem dX7_contrast_1 : decode cX7_contrast 1 = .ok (.iconst 0, 1) := by decide +kernel
theorem dX7_contrast_2 : decode cX7_contrast 2 = .ok (.putfield 35, 3) := by decide +kernel
theorem dX7_contrast_5 : decode cX7_contrast 5 = .ok (.aload_n 0, 1) := by decide +kernel
theorem dX7_contrast_6 : decode cX7_contrast 6 = .ok (.iload_n 1, 1) := by decide +kernel
theorem dX7_contrast_7 : decode cX7_contrast 7 = .ok (.invokevirtual 267, 3) := by decide +kernel
theorem dX7_contrast_10 : decode cX7_contrast 10 = .ok (.ifCond .ne 19, 3) := by decide +kernel
theorem dX7_contrast_13 : decode cX7_contrast 13 = .ok (.aload_n 0, 1) := by decide +kernel
theorem dX7_contrast_14 : decode cX7_contrast 14 = .ok (.iload_n 2, 1) := by decide +kernel
theorem dX7_contrast_15 : decode cX7_contrast 15 = .ok (.invokevirtual 267, 3) := by decide +kernel
theorem dX7_contrast_18 : decode cX7_contrast 18 = .ok (.ifCond .ne 11, 3) := by decide +kernel
theorem dX7_contrast_21 : decode cX7_contrast 21 = .ok (.aload_n 0, 1) := by decide +kernel
theorem dX7_contrast_22 : decode cX7_contrast 22 = .ok (.iload_n 3, 1) := by decide +kernel
theorem dX7_contrast_23 : decode cX7_contrast 23 = .ok (.invokevirtual 264, 3) := by decide +kernel
theorem dX7_contrast_26 : decode cX7_contrast 26 = .ok (.ifCond .eq 7, 3) := by decide +kernel
theorem dX7_contrast_29 : decode cX7_contrast 29 = .ok (.iconst 0, 1) := by decide +kernel
theorem dX7_contrast_30 : decode cX7_contrast 30 = .ok (.goto 18, 3) := by decide +kernel
theorem dX7_contrast_33 : decode cX7_contrast 33 = .ok (.aload_n 0, 1) := by decide +kernel
theorem dX7_contrast_34 : decode cX7_contrast 34 = .ok (.iload_n 1, 1) := by decide +kernel
end
section
theorem dX7_contrast_35 : decode cX7_contrast 35 = .ok (.iload_n 3, 1) := by decide +kernel
theorem dX7_contrast_36 : decode cX7_contrast 36 = .ok (.invokevirtual 220, 3) := by decide +kernel
theorem dX7_contrast_39 : decode cX7_contrast 39 = .ok (.aload_n 0, 1) := by decide +kernel
theorem dX7_contrast_40 : decode cX7_contrast 40 = .ok (.iload_n 2, 1) := by decide +kernel
theorem dX7_contrast_41 : decode cX7_contrast 41 = .ok (.iload_n 3, 1) := by decide +kernel
theorem dX7_contrast_42 : decode cX7_contrast 42 = .ok (.invokevirtual 220, 3) := by decide +kernel
theorem dX7_contrast_45 : decode cX7_contrast 45 = .ok (.invokestatic 223, 3) := by decide +kernel
theorem dX7_contrast_48 : decode cX7_contrast 48 = .ok (.ireturn, 1) := by decide +kernel
theorem dX7_noSight_0 : decode cX7_noSight 0 = .ok (.aload_n 0, 1) := by decide +kernel
theorem dX7_noSight_1 : decode cX7_noSight 1 = .ok (.iload_n 1, 1) := by decide +kernel
theorem dX7_noSight_2 : decode cX7_noSight 2 = .ok (.iconst 0, 1) := by decide +kernel
theorem dX7_noSight_3 : decode cX7_noSight 3 = .ok (.iconst 4, 1) := by decide +kernel
theorem dX7_noSight_4 : decode cX7_noSight 4 = .ok (.invokestatic 58, 3) := by decide +kernel
theorem dX7_noSight_7 : decode cX7_noSight 7 = .ok (.ifCond .ne 7, 3) := by decide +kernel
theorem dX7_noSight_10 : decode cX7_noSight 10 = .ok (.iconst 1, 1) := by decide +kernel
theorem dX7_noSight_11 : decode cX7_noSight 11 = .ok (.goto 4, 3) := by decide +kernel
theorem dX7_noSight_14 : decode cX7_noSight 14 = .ok (.iconst 0, 1) := by decide +kernel
theorem dX7_noSight_15 : decode cX7_noSight 15 = .ok (.iconst 2, 1) := by decide +kernel
theorem dX7_noSight_16 : decode cX7_noSight 16 = .ok (.invokevirtual 159, 3) := by decide +kernel
theorem dX7_noSight_19 : decode cX7_noSight 19 = .ok (.ireturn, 1) := by decide +kernel
theorem dX7_seen_0 : decode cX7_seen 0 = .ok (.aload_n 0, 1) := by decide +kernel
theorem dX7_seen_1 : decode cX7_seen 1 = .ok (.iconst 0, 1) := by decide +kernel
theorem dX7_seen_2 : decode cX7_seen 2 = .ok (.putfield 35, 3) := by decide +kernel
theorem dX7_seen_5 : decode cX7_seen 5 = .ok (.aload_n 0, 1) := by decide +kernel
theorem dX7_seen_6 : decode cX7_seen 6 = .ok (.iload_n 1, 1) := by decide +kernel
theorem dX7_seen_7 : decode cX7_seen 7 = .ok (.invokevirtual 267, 3) := by decide +kernel
theorem dX7_seen_10 : decode cX7_seen 10 = .ok (.ifCond .ne 19, 3) := by decide +kernel
theorem dX7_seen_13 : decode cX7_seen 13 = .ok (.aload_n 0, 1) := by decide +kernel
theorem dX7_seen_14 : decode cX7_seen 14 = .ok (.iload_n 2, 1) := by decide +kernel
theorem dX7_seen_15 : decode cX7_seen 15 = .ok (.invokevirtual 264, 3) := by decide +kernel
theorem dX7_seen_18 : decode cX7_seen 18 = .ok (.ifCond .ne 11, 3) := by decide +kernel
theorem dX7_seen_21 : decode cX7_seen 21 = .ok (.aload_n 0, 1) := by decide +kernel
theorem dX7_seen_22 : decode cX7_seen 22 = .ok (.iload_n 3, 1) := by decide +kernel
theorem dX7_seen_23 : decode cX7_seen 23 = .ok (.invokevirtual 270, 3) := by decide +kernel
theorem dX7_seen_26 : decode cX7_seen 26 = .ok (.ifCond .eq 7, 3) := by decide +kernel
theorem dX7_seen_29 : decode cX7_seen 29 = .ok (.iconst 0, 1) := by decide +kernel
theorem dX7_seen_30 : decode cX7_seen 30 = .ok (.goto 13, 3) := by decide +kernel
theorem dX7_seen_33 : decode cX7_seen 33 = .ok (.aload_n 0, 1) := by decide +kernel
theorem dX7_seen_34 : decode cX7_seen 34 = .ok (.iload_n 1, 1) := by decide +kernel
theorem dX7_seen_35 : decode cX7_seen 35 = .ok (.iload_n 2, 1) := by decide +kernel
theorem dX7_seen_36 : decode cX7_seen 36 = .ok (.invokevirtual 220, 3) := by decide +kernel
theorem dX7_seen_39 : decode cX7_seen 39 = .ok (.iload_n 3, 1) := by decide +kernel
theorem dX7_seen_40 : decode cX7_seen 40 = .ok (.invokestatic 226, 3) := by decide +kernel
theorem dX7_seen_43 : decode cX7_seen 43 = .ok (.ireturn, 1) := by decide +kernel
theorem dX7_difference_0 : decode cX7_difference 0 = .ok (.aload_n 0, 1) := by decide +kernel
theorem dX7_difference_1 : decode cX7_difference 1 = .ok (.iconst 0, 1) := by decide +kernel
theorem dX7_difference_2 : decode cX7_difference 2 = .ok (.putfield 35, 3) := by decide +kernel
theorem dX7_difference_5 : decode cX7_difference 5 = .ok (.aload_n 0, 1) := by decide +kernel
theorem dX7_difference_6 : decode cX7_difference 6 = .ok (.iload_n 1, 1) := by decide +kernel
theorem dX7_difference_7 : decode cX7_difference 7 = .ok (.invokevirtual 267, 3) := by decide +kernel
theorem dX7_difference_10 : decode cX7_difference 10 = .ok (.ifCond .ne 28, 3) := by decide +kernel
theorem dX7_difference_13 : decode cX7_difference 13 = .ok (.aload_n 0, 1) := by decide +kernel
theorem dX7_difference_14 : decode cX7_difference 14 = .ok (.iload_n 2, 1) := by decide +kernel
theorem dX7_difference_15 : decode cX7_difference 15 = .ok (.invokevirtual 267, 3) := by decide +kernel
theorem dX7_difference_18 : decode cX7_difference 18 = .ok (.ifCond .ne 20, 3) := by decide +kernel
theorem dX7_difference_21 : decode cX7_difference 21 = .ok (.aload_n 0, 1) := by decide +kernel
theorem dX7_difference_22 : decode cX7_difference 22 = .ok (.iload_n 3, 1) := by decide +kernel
theorem dX7_difference_23 : decode cX7_difference 23 = .ok (.invokevirtual 264, 3) := by decide +kernel
theorem dX7_difference_26 : decode cX7_difference 26 = .ok (.ifCond .ne 12, 3) := by decide +kernel
theorem dX7_difference_29 : decode cX7_difference 29 = .ok (.aload_n 0, 1) := by decide +kernel
theorem dX7_difference_30 : decode cX7_difference 30 = .ok (.iload 4, 2) := by decide +kernel
theorem dX7_difference_32 : decode cX7_difference 32 = .ok (.invokevirtual 270, 3) := by decide +kernel
theorem dX7_difference_35 : decode cX7_difference 35 = .ok (.ifCond .eq 5, 3) := by decide +kernel
theorem dX7_difference_38 : decode cX7_difference 38 = .ok (.iconst 0, 1) := by decide +kernel
theorem dX7_difference_39 : decode cX7_difference 39 = .ok (.ireturn, 1) := by decide +kernel
theorem dX7_difference_40 : decode cX7_difference 40 = .ok (.aload_n 0, 1) := by decide +kernel
theorem dX7_difference_41 : decode cX7_difference 41 = .ok (.iload_n 1, 1) := by decide +kernel
theorem dX7_difference_42 : decode cX7_difference 42 = .ok (.iload_n 3, 1) := by decide +kernel
theorem dX7_difference_43 : decode cX7_difference 43 = .ok (.invokevirtual 220, 3) := by decide +kernel
theorem dX7_difference_46 : decode cX7_difference 46 = .ok (.iload 4, 2) := by decide +kernel
theorem dX7_difference_48 : decode cX7_difference 48 = .ok (.invokestatic 226, 3) := by decide +kernel
theorem dX7_difference_51 : decode cX7_difference 51 = .ok (.aload_n 0, 1) := by decide +kernel
theorem dX7_difference_52 : decode cX7_difference 52 = .ok (.iload_n 2, 1) := by decide +kernel
theorem dX7_difference_53 : decode cX7_difference 53 = .ok (.iload_n 3, 1) := by decide +kernel
theorem dX7_difference_54 : decode cX7_difference 54 = .ok (.invokevirtual 220, 3) := by decide +kernel
theorem dX7_difference_57 : decode cX7_difference 57 = .ok (.iload 4, 2) := by decide +kernel
theorem dX7_difference_59 : decode cX7_difference 59 = .ok (.invokestatic 226, 3) := by decide +kernel
theorem dX7_difference_62 : decode cX7_difference 62 = .ok (.invokestatic 229, 3) := by decide +kernel
theorem dX7_difference_65 : decode cX7_difference 65 = .ok (.ireturn, 1) := by decide +kernel
theorem dX7_noColour_0 : decode cX7_noColour 0 = .ok (.aload_n 0, 1) := by decide +kernel
theorem dX7_noColour_1 : decode cX7_noColour 1 = .ok (.iload_n 1, 1) := by decide +kernel
theorem dX7_noColour_2 : decode cX7_noColour 2 = .ok (.iconst 0, 1) := by decide +kernel
theorem dX7_noColour_3 : decode cX7_noColour 3 = .ok (.ldc_w 273, 3) := by decide +kernel
theorem dX7_noColour_6 : decode cX7_noColour 6 = .ok (.invokestatic 58, 3) := by decide +kernel
theorem dX7_noColour_9 : decode cX7_noColour 9 = .ok (.ifCond .ne 7, 3) := by decide +kernel
theorem dX7_noColour_12 : decode cX7_noColour 12 = .ok (.iconst 1, 1) := by decide +kernel
theorem dX7_noColour_13 : decode cX7_noColour 13 = .ok (.goto 4, 3) := by decide +kernel
theorem dX7_noColour_16 : decode cX7_noColour 16 = .ok (.iconst 0, 1) := by decide +kernel
theorem dX7_noColour_17 : decode cX7_noColour 17 = .ok (.iconst 2, 1) := by decide +kernel
theorem dX7_noColour_18 : decode cX7_noColour 18 = .ok (.invokevirtual 159, 3) := by decide +kernel
theorem dX7_noColour_21 : decode cX7_noColour 21 = .ok (.ireturn, 1) := by decide +kernel
theorem dX7_nearest_0 : decode cX7_nearest 0 = .ok (.aload_n 0, 1) := by decide +kernel
theorem dX7_nearest_1 : decode cX7_nearest 1 = .ok (.iconst 0, 1) := by decide +kernel
theorem dX7_nearest_2 : decode cX7_nearest 2 = .ok (.putfield 35, 3) := by decide +kernel
theorem dX7_nearest_5 : decode cX7_nearest 5 = .ok (.aload_n 0, 1) := by decide +kernel
theorem dX7_nearest_6 : decode cX7_nearest 6 = .ok (.iload_n 2, 1) := by decide +kernel
theorem dX7_nearest_7 : decode cX7_nearest 7 = .ok (.invokevirtual 264, 3) := by decide +kernel
theorem dX7_nearest_10 : decode cX7_nearest 10 = .ok (.ifCond .ne 11, 3) := by decide +kernel
theorem dX7_nearest_13 : decode cX7_nearest 13 = .ok (.aload_n 0, 1) := by decide +kernel
theorem dX7_nearest_14 : decode cX7_nearest 14 = .ok (.iload_n 1, 1) := by decide +kernel
theorem dX7_nearest_15 : decode cX7_nearest 15 = .ok (.invokevirtual 274, 3) := by decide +kernel
theorem dX7_nearest_18 : decode cX7_nearest 18 = .ok (.ifCond .eq 5, 3) := by decide +kernel
theorem dX7_nearest_21 : decode cX7_nearest 21 = .ok (.iconst 0, 1) := by decide +kernel
theorem dX7_nearest_22 : decode cX7_nearest 22 = .ok (.ireturn, 1) := by decide +kernel
theorem dX7_nearest_23 : decode cX7_nearest 23 = .ok (.iconst (-1), 1) := by decide +kernel
theorem dX7_nearest_24 : decode cX7_nearest 24 = .ok (.istore_n 3, 1) := by decide +kernel
theorem dX7_nearest_25 : decode cX7_nearest 25 = .ok (.iconst 0, 1) := by decide +kernel
theorem dX7_nearest_26 : decode cX7_nearest 26 = .ok (.istore 4, 2) := by decide +kernel
theorem dX7_nearest_28 : decode cX7_nearest 28 = .ok (.iconst 0, 1) := by decide +kernel
theorem dX7_nearest_29 : decode cX7_nearest 29 = .ok (.istore 5, 2) := by decide +kernel
theorem dX7_nearest_31 : decode cX7_nearest 31 = .ok (.iload 5, 2) := by decide +kernel
theorem dX7_nearest_33 : decode cX7_nearest 33 = .ok (.aload_n 0, 1) := by decide +kernel
theorem dX7_nearest_34 : decode cX7_nearest 34 = .ok (.getfield 17, 3) := by decide +kernel
theorem dX7_nearest_37 : decode cX7_nearest 37 = .ok (.iconst 0, 1) := by decide +kernel
theorem dX7_nearest_38 : decode cX7_nearest 38 = .ok (.iaload, 1) := by decide +kernel
theorem dX7_nearest_39 : decode cX7_nearest 39 = .ok (.if_icmp .ge 44, 3) := by decide +kernel
theorem dX7_nearest_42 : decode cX7_nearest 42 = .ok (.aload_n 0, 1) := by decide +kernel
theorem dX7_nearest_43 : decode cX7_nearest 43 = .ok (.iload 5, 2) := by decide +kernel
theorem dX7_nearest_45 : decode cX7_nearest 45 = .ok (.iload_n 2, 1) := by decide +kernel
theorem dX7_nearest_46 : decode cX7_nearest 46 = .ok (.invokevirtual 220, 3) := by decide +kernel
theorem dX7_nearest_49 : decode cX7_nearest 49 = .ok (.iload_n 1, 1) := by decide +kernel
theorem dX7_nearest_50 : decode cX7_nearest 50 = .ok (.invokestatic 229, 3) := by decide +kernel
theorem dX7_nearest_53 : decode cX7_nearest 53 = .ok (.istore 6, 2) := by decide +kernel
theorem dX7_nearest_55 : decode cX7_nearest 55 = .ok (.iload_n 3, 1) := by decide +kernel
theorem dX7_nearest_56 : decode cX7_nearest 56 = .ok (.iconst (-1), 1) := by decide +kernel
theorem dX7_nearest_57 : decode cX7_nearest 57 = .ok (.if_icmp .eq 13, 3) := by decide +kernel
theorem dX7_nearest_60 : decode cX7_nearest 60 = .ok (.iload 6, 2) := by decide +kernel
theorem dX7_nearest_62 : decode cX7_nearest 62 = .ok (.iload 4, 2) := by decide +kernel
theorem dX7_nearest_64 : decode cX7_nearest 64 = .ok (.if_icmp .lt 6, 3) := by decide +kernel
theorem dX7_nearest_67 : decode cX7_nearest 67 = .ok (.goto 10, 3) := by decide +kernel
theorem dX7_nearest_70 : decode cX7_nearest 70 = .ok (.iload 5, 2) := by decide +kernel
theorem dX7_nearest_72 : decode cX7_nearest 72 = .ok (.istore_n 3, 1) := by decide +kernel
theorem dX7_nearest_73 : decode cX7_nearest 73 = .ok (.iload 6, 2) := by decide +kernel
theorem dX7_nearest_75 : decode cX7_nearest 75 = .ok (.istore 4, 2) := by decide +kernel
theorem dX7_nearest_77 : decode cX7_nearest 77 = .ok (.iinc 5 1, 3) := by decide +kernel
theorem dX7_nearest_80 : decode cX7_nearest 80 = .ok (.goto (-49), 3) := by decide +kernel
theorem dX7_nearest_83 : decode cX7_nearest 83 = .ok (.iload_n 3, 1) := by decide +kernel
theorem dX7_nearest_84 : decode cX7_nearest 84 = .ok (.ireturn, 1) := by decide +kernel
theorem dX7_need_0 : decode cX7_need 0 = .ok (.aload_n 0, 1) := by decide +kernel
theorem dX7_need_1 : decode cX7_need 1 = .ok (.iconst 0, 1) := by decide +kernel
theorem dX7_need_2 : decode cX7_need 2 = .ok (.putfield 35, 3) := by decide +kernel
theorem dX7_need_5 : decode cX7_need 5 = .ok (.aload_n 0, 1) := by decide +kernel
theorem dX7_need_6 : decode cX7_need 6 = .ok (.iload_n 1, 1) := by decide +kernel
theorem dX7_need_7 : decode cX7_need 7 = .ok (.iload_n 2, 1) := by decide +kernel
theorem dX7_need_8 : decode cX7_need 8 = .ok (.invokevirtual 277, 3) := by decide +kernel
theorem dX7_need_11 : decode cX7_need 11 = .ok (.ifCond .eq 7, 3) := by decide +kernel
theorem dX7_need_14 : decode cX7_need 14 = .ok (.iconst 0, 1) := by decide +kernel
theorem dX7_need_15 : decode cX7_need 15 = .ok (.goto 9, 3) := by decide +kernel
theorem dX7_need_18 : decode cX7_need 18 = .ok (.aload_n 0, 1) := by decide +kernel
theorem dX7_need_19 : decode cX7_need 19 = .ok (.iload_n 1, 1) := by decide +kernel
theorem dX7_need_20 : decode cX7_need 20 = .ok (.iload_n 2, 1) := by decide +kernel
theorem dX7_need_21 : decode cX7_need 21 = .ok (.invokevirtual 235, 3) := by decide +kernel
theorem dX7_need_24 : decode cX7_need 24 = .ok (.ireturn, 1) := by decide +kernel
theorem dX7_value_0 : decode cX7_value 0 = .ok (.aload_n 0, 1) := by decide +kernel
theorem dX7_value_1 : decode cX7_value 1 = .ok (.iconst 0, 1) := by decide +kernel
theorem dX7_value_2 : decode cX7_value 2 = .ok (.putfield 35, 3) := by decide +kernel
theorem dX7_value_5 : decode cX7_value 5 = .ok (.aload_n 0, 1) := by decide +kernel
theorem dX7_value_6 : decode cX7_value 6 = .ok (.iload_n 1, 1) := by decide +kernel
theorem dX7_value_7 : decode cX7_value 7 = .ok (.iload_n 2, 1) := by decide +kernel
theorem dX7_value_8 : decode cX7_value 8 = .ok (.invokevirtual 277, 3) := by decide +kernel
theorem dX7_value_11 : decode cX7_value 11 = .ok (.ifCond .eq 7, 3) := by decide +kernel
theorem dX7_value_14 : decode cX7_value 14 = .ok (.iconst 0, 1) := by decide +kernel
theorem dX7_value_15 : decode cX7_value 15 = .ok (.goto 9, 3) := by decide +kernel
theorem dX7_value_18 : decode cX7_value 18 = .ok (.aload_n 0, 1) := by decide +kernel
theorem dX7_value_19 : decode cX7_value 19 = .ok (.iload_n 1, 1) := by decide +kernel
theorem dX7_value_20 : decode cX7_value 20 = .ok (.iload_n 2, 1) := by decide +kernel
theorem dX7_value_21 : decode cX7_value 21 = .ok (.invokevirtual 232, 3) := by decide +kernel
theorem dX7_value_24 : decode cX7_value 24 = .ok (.ireturn, 1) := by decide +kernel
theorem dX7_allViolated_0 : decode cX7_allViolated 0 = .ok (.aload_n 0, 1) := by decide +kernel
theorem dX7_allViolated_1 : decode cX7_allViolated 1 = .ok (.iconst 0, 1) := by decide +kernel
theorem dX7_allViolated_2 : decode cX7_allViolated 2 = .ok (.invokevirtual 245, 3) := by decide +kernel
theorem dX7_allViolated_5 : decode cX7_allViolated 5 = .ok (.aload_n 0, 1) := by decide +kernel
theorem dX7_allViolated_6 : decode cX7_allViolated 6 = .ok (.iconst 1, 1) := by decide +kernel
theorem dX7_allViolated_7 : decode cX7_allViolated 7 = .ok (.invokevirtual 245, 3) := by decide +kernel
theorem dX7_allViolated_10 : decode cX7_allViolated 10 = .ok (.iadd, 1) := by decide +kernel
theorem dX7_allViolated_11 : decode cX7_allViolated 11 = .ok (.ireturn, 1) := by decide +kernel
theorem dX7_violations_0 : decode cX7_violations 0 = .ok (.aload_n 0, 1) := by decide +kernel
theorem dX7_violations_1 : decode cX7_violations 1 = .ok (.iconst 0, 1) := by decide +kernel
theorem dX7_violations_2 : decode cX7_violations 2 = .ok (.putfield 35, 3) := by decide +kernel
theorem dX7_violations_5 : decode cX7_violations 5 = .ok (.aload_n 0, 1) := by decide +kernel
theorem dX7_violations_6 : decode cX7_violations 6 = .ok (.invokevirtual 280, 3) := by decide +kernel
theorem dX7_violations_9 : decode cX7_violations 9 = .ok (.ireturn, 1) := by decide +kernel
theorem dX7_violation_0 : decode cX7_violation 0 = .ok (.aload_n 0, 1) := by decide +kernel
theorem dX7_violation_1 : decode cX7_violation 1 = .ok (.iconst 0, 1) := by decide +kernel
theorem dX7_violation_2 : decode cX7_violation 2 = .ok (.putfield 35, 3) := by decide +kernel
theorem dX7_violation_5 : decode cX7_violation 5 = .ok (.aload_n 0, 1) := by decide +kernel
theorem dX7_violation_6 : decode cX7_violation 6 = .ok (.iload_n 1, 1) := by decide +kernel
theorem dX7_violation_7 : decode cX7_violation 7 = .ok (.iconst 0, 1) := by decide +kernel
theorem dX7_violation_8 : decode cX7_violation 8 = .ok (.aload_n 0, 1) := by decide +kernel
theorem dX7_violation_9 : decode cX7_violation 9 = .ok (.invokevirtual 280, 3) := by decide +kernel
theorem dX7_violation_12 : decode cX7_violation 12 = .ok (.iconst 1, 1) := by decide +kernel
theorem dX7_violation_13 : decode cX7_violation 13 = .ok (.isub, 1) := by decide +kernel
theorem dX7_violation_14 : decode cX7_violation 14 = .ok (.invokestatic 58, 3) := by decide +kernel
theorem dX7_violation_17 : decode cX7_violation 17 = .ok (.ifCond .ne 7, 3) := by decide +kernel
theorem dX7_violation_20 : decode cX7_violation 20 = .ok (.iconst 1, 1) := by decide +kernel
theorem dX7_violation_21 : decode cX7_violation 21 = .ok (.goto 4, 3) := by decide +kernel
theorem dX7_violation_24 : decode cX7_violation 24 = .ok (.iconst 0, 1) := by decide +kernel
theorem dX7_violation_25 : decode cX7_violation 25 = .ok (.iconst 1, 1) := by decide +kernel
theorem dX7_violation_26 : decode cX7_violation 26 = .ok (.invokevirtual 159, 3) := by decide +kernel
theorem dX7_violation_29 : decode cX7_violation 29 = .ok (.ifCond .eq 5, 3) := by decide +kernel
theorem dX7_violation_32 : decode cX7_violation 32 = .ok (.iconst 0, 1) := by decide +kernel
theorem dX7_violation_33 : decode cX7_violation 33 = .ok (.ireturn, 1) := by decide +kernel
theorem dX7_violation_34 : decode cX7_violation 34 = .ok (.iconst 0, 1) := by decide +kernel
theorem dX7_violation_35 : decode cX7_violation 35 = .ok (.istore_n 2, 1) := by decide +kernel
theorem dX7_violation_36 : decode cX7_violation 36 = .ok (.iload_n 1, 1) := by decide +kernel
theorem dX7_violation_37 : decode cX7_violation 37 = .ok (.istore_n 3, 1) := by decide +kernel
theorem dX7_violation_38 : decode cX7_violation 38 = .ok (.aload_n 0, 1) := by decide +kernel
theorem dX7_violation_39 : decode cX7_violation 39 = .ok (.iload_n 2, 1) := by decide +kernel
theorem dX7_violation_40 : decode cX7_violation 40 = .ok (.iconst 2, 1) := by decide +kernel
theorem dX7_violation_41 : decode cX7_violation 41 = .ok (.idiv, 1) := by decide +kernel
theorem dX7_violation_42 : decode cX7_violation 42 = .ok (.iload_n 2, 1) := by decide +kernel
theorem dX7_violation_43 : decode cX7_violation 43 = .ok (.iconst 2, 1) := by decide +kernel
theorem dX7_violation_44 : decode cX7_violation 44 = .ok (.irem, 1) := by decide +kernel
theorem dX7_violation_45 : decode cX7_violation 45 = .ok (.invokevirtual 238, 3) := by decide +kernel
theorem dX7_violation_48 : decode cX7_violation 48 = .ok (.ifCond .eq 7, 3) := by decide +kernel
theorem dX7_violation_51 : decode cX7_violation 51 = .ok (.iload_n 3, 1) := by decide +kernel
theorem dX7_violation_52 : decode cX7_violation 52 = .ok (.ifCond .le 30, 3) := by decide +kernel
theorem dX7_violation_55 : decode cX7_violation 55 = .ok (.iload_n 3, 1) := by decide +kernel
theorem dX7_violation_56 : decode cX7_violation 56 = .ok (.aload_n 0, 1) := by decide +kernel
theorem dX7_violation_57 : decode cX7_violation 57 = .ok (.iload_n 2, 1) := by decide +kernel
theorem dX7_violation_58 : decode cX7_violation 58 = .ok (.iconst 2, 1) := by decide +kernel
theorem dX7_violation_59 : decode cX7_violation 59 = .ok (.idiv, 1) := by decide +kernel
theorem dX7_violation_60 : decode cX7_violation 60 = .ok (.iload_n 2, 1) := by decide +kernel
theorem dX7_violation_61 : decode cX7_violation 61 = .ok (.iconst 2, 1) := by decide +kernel
theorem dX7_violation_62 : decode cX7_violation 62 = .ok (.irem, 1) := by decide +kernel
theorem dX7_violation_63 : decode cX7_violation 63 = .ok (.invokevirtual 238, 3) := by decide +kernel
theorem dX7_violation_66 : decode cX7_violation 66 = .ok (.ifCond .eq 7, 3) := by decide +kernel
theorem dX7_violation_69 : decode cX7_violation 69 = .ok (.iconst 1, 1) := by decide +kernel
theorem dX7_violation_70 : decode cX7_violation 70 = .ok (.goto 4, 3) := by decide +kernel
theorem dX7_violation_73 : decode cX7_violation 73 = .ok (.iconst 0, 1) := by decide +kernel
theorem dX7_violation_74 : decode cX7_violation 74 = .ok (.isub, 1) := by decide +kernel
theorem dX7_violation_75 : decode cX7_violation 75 = .ok (.istore_n 3, 1) := by decide +kernel
theorem dX7_violation_76 : decode cX7_violation 76 = .ok (.iinc 2 1, 3) := by decide +kernel
theorem dX7_violation_79 : decode cX7_violation 79 = .ok (.goto (-41), 3) := by decide +kernel
theorem dX7_violation_82 : decode cX7_violation 82 = .ok (.bipush 10, 2) := by decide +kernel
theorem dX7_violation_84 : decode cX7_violation 84 = .ok (.iload_n 2, 1) := by decide +kernel
theorem dX7_violation_85 : decode cX7_violation 85 = .ok (.iconst 2, 1) := by decide +kernel
theorem dX7_violation_86 : decode cX7_violation 86 = .ok (.idiv, 1) := by decide +kernel
theorem dX7_violation_87 : decode cX7_violation 87 = .ok (.imul, 1) := by decide +kernel
theorem dX7_violation_88 : decode cX7_violation 88 = .ok (.iload_n 2, 1) := by decide +kernel
theorem dX7_violation_89 : decode cX7_violation 89 = .ok (.iconst 2, 1) := by decide +kernel
theorem dX7_violation_90 : decode cX7_violation 90 = .ok (.irem, 1) := by decide +kernel
theorem dX7_violation_91 : decode cX7_violation 91 = .ok (.iadd, 1) := by decide +kernel
theorem dX7_violation_92 : decode cX7_violation 92 = .ok (.ireturn, 1) := by decide +kernel
theorem dX7_smallestMargin_0 : decode cX7_smallestMargin 0 = .ok (.aload_n 0, 1) := by decide +kernel
theorem dX7_smallestMargin_1 : decode cX7_smallestMargin 1 = .ok (.iconst 0, 1) := by decide +kernel
theorem dX7_smallestMargin_2 : decode cX7_smallestMargin 2 = .ok (.putfield 35, 3) := by decide +kernel
theorem dX7_smallestMargin_5 : decode cX7_smallestMargin 5 = .ok (.aload_n 0, 1) := by decide +kernel
theorem dX7_smallestMargin_6 : decode cX7_smallestMargin 6 = .ok (.iload_n 1, 1) := by decide +kernel
theorem dX7_smallestMargin_7 : decode cX7_smallestMargin 7 = .ok (.invokevirtual 264, 3) := by decide +kernel
theorem dX7_smallestMargin_10 : decode cX7_smallestMargin 10 = .ok (.ifCond .eq 5, 3) := by decide +kernel
theorem dX7_smallestMargin_13 : decode cX7_smallestMargin 13 = .ok (.iconst 0, 1) := by decide +kernel
theorem dX7_smallestMargin_14 : decode cX7_smallestMargin 14 = .ok (.ireturn, 1) := by decide +kernel
theorem dX7_smallestMargin_15 : decode cX7_smallestMargin 15 = .ok (.sipush 9999, 3) := by decide +kernel
theorem dX7_smallestMargin_18 : decode cX7_smallestMargin 18 = .ok (.istore_n 2, 1) := by decide +kernel
theorem dX7_smallestMargin_19 : decode cX7_smallestMargin 19 = .ok (.iconst 0, 1) := by decide +kernel
theorem dX7_smallestMargin_20 : decode cX7_smallestMargin 20 = .ok (.istore_n 3, 1) := by decide +kernel
theorem dX7_smallestMargin_21 : decode cX7_smallestMargin 21 = .ok (.iload_n 3, 1) := by decide +kernel
theorem dX7_smallestMargin_22 : decode cX7_smallestMargin 22 = .ok (.aload_n 0, 1) := by decide +kernel
theorem dX7_smallestMargin_23 : decode cX7_smallestMargin 23 = .ok (.getfield 17, 3) := by decide +kernel
theorem dX7_smallestMargin_26 : decode cX7_smallestMargin 26 = .ok (.iconst 1, 1) := by decide +kernel
theorem dX7_smallestMargin_27 : decode cX7_smallestMargin 27 = .ok (.iaload, 1) := by decide +kernel
theorem dX7_smallestMargin_28 : decode cX7_smallestMargin 28 = .ok (.if_icmp .ge 27, 3) := by decide +kernel
theorem dX7_smallestMargin_31 : decode cX7_smallestMargin 31 = .ok (.iload_n 2, 1) := by decide +kernel
theorem dX7_smallestMargin_32 : decode cX7_smallestMargin 32 = .ok (.aload_n 0, 1) := by decide +kernel
theorem dX7_smallestMargin_33 : decode cX7_smallestMargin 33 = .ok (.iload_n 3, 1) := by decide +kernel
theorem dX7_smallestMargin_34 : decode cX7_smallestMargin 34 = .ok (.iload_n 1, 1) := by decide +kernel
theorem dX7_smallestMargin_35 : decode cX7_smallestMargin 35 = .ok (.invokevirtual 232, 3) := by decide +kernel
theorem dX7_smallestMargin_38 : decode cX7_smallestMargin 38 = .ok (.aload_n 0, 1) := by decide +kernel
theorem dX7_smallestMargin_39 : decode cX7_smallestMargin 39 = .ok (.iload_n 3, 1) := by decide +kernel
theorem dX7_smallestMargin_40 : decode cX7_smallestMargin 40 = .ok (.iload_n 1, 1) := by decide +kernel
theorem dX7_smallestMargin_41 : decode cX7_smallestMargin 41 = .ok (.invokevirtual 235, 3) := by decide +kernel
theorem dX7_smallestMargin_44 : decode cX7_smallestMargin 44 = .ok (.isub, 1) := by decide +kernel
theorem dX7_smallestMargin_45 : decode cX7_smallestMargin 45 = .ok (.invokestatic 91, 3) := by decide +kernel
theorem dX7_smallestMargin_48 : decode cX7_smallestMargin 48 = .ok (.istore_n 2, 1) := by decide +kernel
theorem dX7_smallestMargin_49 : decode cX7_smallestMargin 49 = .ok (.iinc 3 1, 3) := by decide +kernel
theorem dX7_smallestMargin_52 : decode cX7_smallestMargin 52 = .ok (.goto (-31), 3) := by decide +kernel
theorem dX7_smallestMargin_55 : decode cX7_smallestMargin 55 = .ok (.iload_n 2, 1) := by decide +kernel
theorem dX7_smallestMargin_56 : decode cX7_smallestMargin 56 = .ok (.ireturn, 1) := by decide +kernel
theorem dX7_bestShift_0 : decode cX7_bestShift 0 = .ok (.aload_n 0, 1) := by decide +kernel
theorem dX7_bestShift_1 : decode cX7_bestShift 1 = .ok (.iconst 0, 1) := by decide +kernel
theorem dX7_bestShift_2 : decode cX7_bestShift 2 = .ok (.putfield 35, 3) := by decide +kernel
theorem dX7_bestShift_5 : decode cX7_bestShift 5 = .ok (.aload_n 0, 1) := by decide +kernel
theorem dX7_bestShift_6 : decode cX7_bestShift 6 = .ok (.iload_n 1, 1) := by decide +kernel
theorem dX7_bestShift_7 : decode cX7_bestShift 7 = .ok (.iload_n 2, 1) := by decide +kernel
theorem dX7_bestShift_8 : decode cX7_bestShift 8 = .ok (.invokevirtual 277, 3) := by decide +kernel
theorem dX7_bestShift_11 : decode cX7_bestShift 11 = .ok (.ifCond .ne 12, 3) := by decide +kernel
theorem dX7_bestShift_14 : decode cX7_bestShift 14 = .ok (.aload_n 0, 1) := by decide +kernel
theorem dX7_bestShift_15 : decode cX7_bestShift 15 = .ok (.iload_n 1, 1) := by decide +kernel
theorem dX7_bestShift_16 : decode cX7_bestShift 16 = .ok (.iload_n 2, 1) := by decide +kernel
theorem dX7_bestShift_17 : decode cX7_bestShift 17 = .ok (.invokevirtual 238, 3) := by decide +kernel
theorem dX7_bestShift_20 : decode cX7_bestShift 20 = .ok (.ifCond .ne 5, 3) := by decide +kernel
theorem dX7_bestShift_23 : decode cX7_bestShift 23 = .ok (.iconst 0, 1) := by decide +kernel
theorem dX7_bestShift_24 : decode cX7_bestShift 24 = .ok (.ireturn, 1) := by decide +kernel
theorem dX7_bestShift_25 : decode cX7_bestShift 25 = .ok (.aload_n 0, 1) := by decide +kernel
theorem dX7_bestShift_26 : decode cX7_bestShift 26 = .ok (.iload_n 1, 1) := by decide +kernel
theorem dX7_bestShift_27 : decode cX7_bestShift 27 = .ok (.iload_n 2, 1) := by decide +kernel
theorem dX7_bestShift_28 : decode cX7_bestShift 28 = .ok (.invokevirtual 261, 3) := by decide +kernel
theorem dX7_bestShift_31 : decode cX7_bestShift 31 = .ok (.ifCond .eq 10, 3) := by decide +kernel
theorem dX7_bestShift_34 : decode cX7_bestShift 34 = .ok (.aload_n 0, 1) := by decide +kernel
theorem dX7_bestShift_35 : decode cX7_bestShift 35 = .ok (.getfield 248, 3) := by decide +kernel
theorem dX7_bestShift_38 : decode cX7_bestShift 38 = .ok (.goto 6, 3) := by decide +kernel
theorem dX7_bestShift_41 : decode cX7_bestShift 41 = .ok (.sipush 9999, 3) := by decide +kernel
theorem dX7_bestShift_44 : decode cX7_bestShift 44 = .ok (.ireturn, 1) := by decide +kernel
theorem dX7_shiftRole_0 : decode cX7_shiftRole 0 = .ok (.aload_n 0, 1) := by decide +kernel
theorem dX7_shiftRole_1 : decode cX7_shiftRole 1 = .ok (.iconst 0, 1) := by decide +kernel
theorem dX7_shiftRole_2 : decode cX7_shiftRole 2 = .ok (.putfield 35, 3) := by decide +kernel
theorem dX7_shiftRole_5 : decode cX7_shiftRole 5 = .ok (.aload_n 0, 1) := by decide +kernel
theorem dX7_shiftRole_6 : decode cX7_shiftRole 6 = .ok (.iload_n 1, 1) := by decide +kernel
theorem dX7_shiftRole_7 : decode cX7_shiftRole 7 = .ok (.iload_n 2, 1) := by decide +kernel
theorem dX7_shiftRole_8 : decode cX7_shiftRole 8 = .ok (.invokevirtual 277, 3) := by decide +kernel
theorem dX7_shiftRole_11 : decode cX7_shiftRole 11 = .ok (.ifCond .eq 5, 3) := by decide +kernel
theorem dX7_shiftRole_14 : decode cX7_shiftRole 14 = .ok (.iconst 0, 1) := by decide +kernel
theorem dX7_shiftRole_15 : decode cX7_shiftRole 15 = .ok (.ireturn, 1) := by decide +kernel
theorem dX7_shiftRole_16 : decode cX7_shiftRole 16 = .ok (.aload_n 0, 1) := by decide +kernel
theorem dX7_shiftRole_17 : decode cX7_shiftRole 17 = .ok (.iload_n 1, 1) := by decide +kernel
theorem dX7_shiftRole_18 : decode cX7_shiftRole 18 = .ok (.iload_n 2, 1) := by decide +kernel
theorem dX7_shiftRole_19 : decode cX7_shiftRole 19 = .ok (.invokevirtual 238, 3) := by decide +kernel
theorem dX7_shiftRole_22 : decode cX7_shiftRole 22 = .ok (.ifCond .eq 19, 3) := by decide +kernel
theorem dX7_shiftRole_25 : decode cX7_shiftRole 25 = .ok (.aload_n 0, 1) := by decide +kernel
theorem dX7_shiftRole_26 : decode cX7_shiftRole 26 = .ok (.iload_n 1, 1) := by decide +kernel
theorem dX7_shiftRole_27 : decode cX7_shiftRole 27 = .ok (.iload_n 2, 1) := by decide +kernel
theorem dX7_shiftRole_28 : decode cX7_shiftRole 28 = .ok (.invokevirtual 261, 3) := by decide +kernel
theorem dX7_shiftRole_31 : decode cX7_shiftRole 31 = .ok (.ifCond .eq 10, 3) := by decide +kernel
theorem dX7_shiftRole_34 : decode cX7_shiftRole 34 = .ok (.aload_n 0, 1) := by decide +kernel
theorem dX7_shiftRole_35 : decode cX7_shiftRole 35 = .ok (.getfield 251, 3) := by decide +kernel
theorem dX7_shiftRole_38 : decode cX7_shiftRole 38 = .ok (.goto 4, 3) := by decide +kernel
theorem dX7_shiftRole_41 : decode cX7_shiftRole 41 = .ok (.iconst (-1), 1) := by decide +kernel
theorem dX7_shiftRole_42 : decode cX7_shiftRole 42 = .ok (.ireturn, 1) := by decide +kernel
theorem dX7_remember_0 : decode cX7_remember 0 = .ok (.aload_n 0, 1) := by decide +kernel
theorem dX7_remember_1 : decode cX7_remember 1 = .ok (.getfield 283, 3) := by decide +kernel
theorem dX7_remember_4 : decode cX7_remember 4 = .ok (.bipush 8, 2) := by decide +kernel
theorem dX7_remember_6 : decode cX7_remember 6 = .ok (.if_icmp .ne 44, 3) := by decide +kernel
theorem dX7_remember_9 : decode cX7_remember 9 = .ok (.iconst 1, 1) := by decide +kernel
theorem dX7_remember_10 : decode cX7_remember 10 = .ok (.istore_n 1, 1) := by decide +kernel
theorem dX7_remember_11 : decode cX7_remember 11 = .ok (.iload_n 1, 1) := by decide +kernel
theorem dX7_remember_12 : decode cX7_remember 12 = .ok (.bipush 8, 2) := by decide +kernel
theorem dX7_remember_14 : decode cX7_remember 14 = .ok (.if_icmp .ge 26, 3) := by decide +kernel
theorem dX7_remember_17 : decode cX7_remember 17 = .ok (.aload_n 0, 1) := by decide +kernel
theorem dX7_remember_18 : decode cX7_remember 18 = .ok (.getfield 25, 3) := by decide +kernel
theorem dX7_remember_21 : decode cX7_remember 21 = .ok (.iload_n 1, 1) := by decide +kernel
theorem dX7_remember_22 : decode cX7_remember 22 = .ok (.aaload, 1) := by decide +kernel
theorem dX7_remember_23 : decode cX7_remember 23 = .ok (.aload_n 0, 1) := by decide +kernel
theorem dX7_remember_24 : decode cX7_remember 24 = .ok (.getfield 25, 3) := by decide +kernel
theorem dX7_remember_27 : decode cX7_remember 27 = .ok (.iload_n 1, 1) := by decide +kernel
theorem dX7_remember_28 : decode cX7_remember 28 = .ok (.iconst 1, 1) := by decide +kernel
theorem dX7_remember_29 : decode cX7_remember 29 = .ok (.isub, 1) := by decide +kernel
theorem dX7_remember_30 : decode cX7_remember 30 = .ok (.aaload, 1) := by decide +kernel
theorem dX7_remember_31 : decode cX7_remember 31 = .ok (.invokestatic 169, 3) := by decide +kernel
theorem dX7_remember_34 : decode cX7_remember 34 = .ok (.iinc 1 1, 3) := by decide +kernel
theorem dX7_remember_37 : decode cX7_remember 37 = .ok (.goto (-26), 3) := by decide +kernel
theorem dX7_remember_40 : decode cX7_remember 40 = .ok (.aload_n 0, 1) := by decide +kernel
theorem dX7_remember_41 : decode cX7_remember 41 = .ok (.dup, 1) := by decide +kernel
theorem dX7_remember_42 : decode cX7_remember 42 = .ok (.getfield 283, 3) := by decide +kernel
theorem dX7_remember_45 : decode cX7_remember 45 = .ok (.iconst 1, 1) := by decide +kernel
theorem dX7_remember_46 : decode cX7_remember 46 = .ok (.isub, 1) := by decide +kernel
theorem dX7_remember_47 : decode cX7_remember 47 = .ok (.putfield 283, 3) := by decide +kernel
theorem dX7_remember_50 : decode cX7_remember 50 = .ok (.aload_n 0, 1) := by decide +kernel
theorem dX7_remember_51 : decode cX7_remember 51 = .ok (.getfield 17, 3) := by decide +kernel
theorem dX7_remember_54 : decode cX7_remember 54 = .ok (.aload_n 0, 1) := by decide +kernel
theorem dX7_remember_55 : decode cX7_remember 55 = .ok (.getfield 25, 3) := by decide +kernel
theorem dX7_remember_58 : decode cX7_remember 58 = .ok (.aload_n 0, 1) := by decide +kernel
theorem dX7_remember_59 : decode cX7_remember 59 = .ok (.getfield 283, 3) := by decide +kernel
theorem dX7_remember_62 : decode cX7_remember 62 = .ok (.aaload, 1) := by decide +kernel
theorem dX7_remember_63 : decode cX7_remember 63 = .ok (.invokestatic 169, 3) := by decide +kernel
theorem dX7_remember_66 : decode cX7_remember 66 = .ok (.aload_n 0, 1) := by decide +kernel
theorem dX7_remember_67 : decode cX7_remember 67 = .ok (.dup, 1) := by decide +kernel
theorem dX7_remember_68 : decode cX7_remember 68 = .ok (.getfield 283, 3) := by decide +kernel
theorem dX7_remember_71 : decode cX7_remember 71 = .ok (.iconst 1, 1) := by decide +kernel
theorem dX7_remember_72 : decode cX7_remember 72 = .ok (.iadd, 1) := by decide +kernel
theorem dX7_remember_73 : decode cX7_remember 73 = .ok (.putfield 283, 3) := by decide +kernel
theorem dX7_remember_76 : decode cX7_remember 76 = .ok (.return_, 1) := by decide +kernel
theorem dX7_setColour_0 : decode cX7_setColour 0 = .ok (.aload_n 0, 1) := by decide +kernel
theorem dX7_setColour_1 : decode cX7_setColour 1 = .ok (.iconst 0, 1) := by decide +kernel
theorem dX7_setColour_2 : decode cX7_setColour 2 = .ok (.putfield 35, 3) := by decide +kernel
theorem dX7_setColour_5 : decode cX7_setColour 5 = .ok (.aload_n 0, 1) := by decide +kernel
theorem dX7_setColour_6 : decode cX7_setColour 6 = .ok (.iload_n 1, 1) := by decide +kernel
theorem dX7_setColour_7 : decode cX7_setColour 7 = .ok (.invokevirtual 267, 3) := by decide +kernel
theorem dX7_setColour_10 : decode cX7_setColour 10 = .ok (.ifCond .ne 19, 3) := by decide +kernel
theorem dX7_setColour_13 : decode cX7_setColour 13 = .ok (.aload_n 0, 1) := by decide +kernel
theorem dX7_setColour_14 : decode cX7_setColour 14 = .ok (.iload_n 2, 1) := by decide +kernel
theorem dX7_setColour_15 : decode cX7_setColour 15 = .ok (.invokevirtual 264, 3) := by decide +kernel
theorem dX7_setColour_18 : decode cX7_setColour 18 = .ok (.ifCond .ne 11, 3) := by decide +kernel
theorem dX7_setColour_21 : decode cX7_setColour 21 = .ok (.aload_n 0, 1) := by decide +kernel
theorem dX7_setColour_22 : decode cX7_setColour 22 = .ok (.iload_n 3, 1) := by decide +kernel
theorem dX7_setColour_23 : decode cX7_setColour 23 = .ok (.invokevirtual 274, 3) := by decide +kernel
theorem dX7_setColour_26 : decode cX7_setColour 26 = .ok (.ifCond .eq 5, 3) := by decide +kernel
theorem dX7_setColour_29 : decode cX7_setColour 29 = .ok (.iconst 0, 1) := by decide +kernel
theorem dX7_setColour_30 : decode cX7_setColour 30 = .ok (.ireturn, 1) := by decide +kernel
theorem dX7_setColour_31 : decode cX7_setColour 31 = .ok (.aload_n 0, 1) := by decide +kernel
theorem dX7_setColour_32 : decode cX7_setColour 32 = .ok (.invokevirtual 166, 3) := by decide +kernel
theorem dX7_setColour_35 : decode cX7_setColour 35 = .ok (.aload_n 0, 1) := by decide +kernel
theorem dX7_setColour_36 : decode cX7_setColour 36 = .ok (.iload_n 1, 1) := by decide +kernel
theorem dX7_setColour_37 : decode cX7_setColour 37 = .ok (.iload_n 2, 1) := by decide +kernel
theorem dX7_setColour_38 : decode cX7_setColour 38 = .ok (.invokevirtual 220, 3) := by decide +kernel
theorem dX7_setColour_41 : decode cX7_setColour 41 = .ok (.istore 4, 2) := by decide +kernel
theorem dX7_setColour_43 : decode cX7_setColour 43 = .ok (.aload_n 0, 1) := by decide +kernel
theorem dX7_setColour_44 : decode cX7_setColour 44 = .ok (.getfield 17, 3) := by decide +kernel
theorem dX7_setColour_47 : decode cX7_setColour 47 = .ok (.iload_n 1, 1) := by decide +kernel
theorem dX7_setColour_48 : decode cX7_setColour 48 = .ok (.invokestatic 136, 3) := by decide +kernel
theorem dX7_setColour_51 : decode cX7_setColour 51 = .ok (.iload_n 2, 1) := by decide +kernel
theorem dX7_setColour_52 : decode cX7_setColour 52 = .ok (.iadd, 1) := by decide +kernel
theorem dX7_setColour_53 : decode cX7_setColour 53 = .ok (.iload_n 3, 1) := by decide +kernel
theorem dX7_setColour_54 : decode cX7_setColour 54 = .ok (.iastore, 1) := by decide +kernel
theorem dX7_setColour_55 : decode cX7_setColour 55 = .ok (.iload 4, 2) := by decide +kernel
theorem dX7_setColour_57 : decode cX7_setColour 57 = .ok (.ireturn, 1) := by decide +kernel
theorem dX7_setFixed_0 : decode cX7_setFixed 0 = .ok (.aload_n 0, 1) := by decide +kernel
theorem dX7_setFixed_1 : decode cX7_setFixed 1 = .ok (.iconst 0, 1) := by decide +kernel
theorem dX7_setFixed_2 : decode cX7_setFixed 2 = .ok (.putfield 35, 3) := by decide +kernel
theorem dX7_setFixed_5 : decode cX7_setFixed 5 = .ok (.aload_n 0, 1) := by decide +kernel
theorem dX7_setFixed_6 : decode cX7_setFixed 6 = .ok (.iload_n 1, 1) := by decide +kernel
theorem dX7_setFixed_7 : decode cX7_setFixed 7 = .ok (.invokevirtual 267, 3) := by decide +kernel
theorem dX7_setFixed_10 : decode cX7_setFixed 10 = .ok (.ifCond .eq 5, 3) := by decide +kernel
theorem dX7_setFixed_13 : decode cX7_setFixed 13 = .ok (.iconst 0, 1) := by decide +kernel
theorem dX7_setFixed_14 : decode cX7_setFixed 14 = .ok (.ireturn, 1) := by decide +kernel
theorem dX7_setFixed_15 : decode cX7_setFixed 15 = .ok (.aload_n 0, 1) := by decide +kernel
theorem dX7_setFixed_16 : decode cX7_setFixed 16 = .ok (.invokevirtual 166, 3) := by decide +kernel
theorem dX7_setFixed_19 : decode cX7_setFixed 19 = .ok (.aload_n 0, 1) := by decide +kernel
theorem dX7_setFixed_20 : decode cX7_setFixed 20 = .ok (.getfield 17, 3) := by decide +kernel
theorem dX7_setFixed_23 : decode cX7_setFixed 23 = .ok (.iload_n 1, 1) := by decide +kernel
theorem dX7_setFixed_24 : decode cX7_setFixed 24 = .ok (.invokestatic 136, 3) := by decide +kernel
theorem dX7_setFixed_27 : decode cX7_setFixed 27 = .ok (.iconst 2, 1) := by decide +kernel
theorem dX7_setFixed_28 : decode cX7_setFixed 28 = .ok (.iadd, 1) := by decide +kernel
theorem dX7_setFixed_29 : decode cX7_setFixed 29 = .ok (.iaload, 1) := by decide +kernel
theorem dX7_setFixed_30 : decode cX7_setFixed 30 = .ok (.iconst 1, 1) := by decide +kernel
theorem dX7_setFixed_31 : decode cX7_setFixed 31 = .ok (.if_icmp .ne 7, 3) := by decide +kernel
theorem dX7_setFixed_34 : decode cX7_setFixed 34 = .ok (.iconst 1, 1) := by decide +kernel
theorem dX7_setFixed_35 : decode cX7_setFixed 35 = .ok (.goto 4, 3) := by decide +kernel
theorem dX7_setFixed_38 : decode cX7_setFixed 38 = .ok (.iconst 0, 1) := by decide +kernel
theorem dX7_setFixed_39 : decode cX7_setFixed 39 = .ok (.istore_n 3, 1) := by decide +kernel
theorem dX7_setFixed_40 : decode cX7_setFixed 40 = .ok (.aload_n 0, 1) := by decide +kernel
theorem dX7_setFixed_41 : decode cX7_setFixed 41 = .ok (.getfield 17, 3) := by decide +kernel
theorem dX7_setFixed_44 : decode cX7_setFixed 44 = .ok (.iload_n 1, 1) := by decide +kernel
theorem dX7_setFixed_45 : decode cX7_setFixed 45 = .ok (.invokestatic 136, 3) := by decide +kernel
theorem dX7_setFixed_48 : decode cX7_setFixed 48 = .ok (.iconst 2, 1) := by decide +kernel
theorem dX7_setFixed_49 : decode cX7_setFixed 49 = .ok (.iadd, 1) := by decide +kernel
theorem dX7_setFixed_50 : decode cX7_setFixed 50 = .ok (.iload_n 2, 1) := by decide +kernel
theorem dX7_setFixed_51 : decode cX7_setFixed 51 = .ok (.ifCond .eq 7, 3) := by decide +kernel
theorem dX7_setFixed_54 : decode cX7_setFixed 54 = .ok (.iconst 1, 1) := by decide +kernel
theorem dX7_setFixed_55 : decode cX7_setFixed 55 = .ok (.goto 4, 3) := by decide +kernel
theorem dX7_setFixed_58 : decode cX7_setFixed 58 = .ok (.iconst 0, 1) := by decide +kernel
theorem dX7_setFixed_59 : decode cX7_setFixed 59 = .ok (.iastore, 1) := by decide +kernel
theorem dX7_setFixed_60 : decode cX7_setFixed 60 = .ok (.iload_n 3, 1) := by decide +kernel
theorem dX7_setFixed_61 : decode cX7_setFixed 61 = .ok (.ireturn, 1) := by decide +kernel
theorem dX7_makeShift_0 : decode cX7_makeShift 0 = .ok (.iload_n 1, 1) := by decide +kernel
theorem dX7_makeShift_1 : decode cX7_makeShift 1 = .ok (.invokestatic 136, 3) := by decide +kernel
theorem dX7_makeShift_4 : decode cX7_makeShift 4 = .ok (.iload_n 2, 1) := by decide +kernel
theorem dX7_makeShift_5 : decode cX7_makeShift 5 = .ok (.iadd, 1) := by decide +kernel
theorem dX7_makeShift_6 : decode cX7_makeShift 6 = .ok (.istore 4, 2) := by decide +kernel
theorem dX7_makeShift_8 : decode cX7_makeShift 8 = .ok (.aload_n 0, 1) := by decide +kernel
theorem dX7_makeShift_9 : decode cX7_makeShift 9 = .ok (.getfield 17, 3) := by decide +kernel
theorem dX7_makeShift_12 : decode cX7_makeShift 12 = .ok (.iload 4, 2) := by decide +kernel
theorem dX7_makeShift_14 : decode cX7_makeShift 14 = .ok (.aload_n 0, 1) := by decide +kernel
theorem dX7_makeShift_15 : decode cX7_makeShift 15 = .ok (.getfield 17, 3) := by decide +kernel
theorem dX7_makeShift_18 : decode cX7_makeShift 18 = .ok (.iload 4, 2) := by decide +kernel
theorem dX7_makeShift_20 : decode cX7_makeShift 20 = .ok (.iaload, 1) := by decide +kernel
theorem dX7_makeShift_21 : decode cX7_makeShift 21 = .ok (.iload_n 3, 1) := by decide +kernel
theorem dX7_makeShift_22 : decode cX7_makeShift 22 = .ok (.invokestatic 242, 3) := by decide +kernel
theorem dX7_makeShift_25 : decode cX7_makeShift 25 = .ok (.iastore, 1) := by decide +kernel
theorem dX7_makeShift_26 : decode cX7_makeShift 26 = .ok (.aload_n 0, 1) := by decide +kernel
theorem dX7_makeShift_27 : decode cX7_makeShift 27 = .ok (.getfield 17, 3) := by decide +kernel
theorem dX7_makeShift_30 : decode cX7_makeShift 30 = .ok (.iload 4, 2) := by decide +kernel
theorem dX7_makeShift_32 : decode cX7_makeShift 32 = .ok (.iaload, 1) := by decide +kernel
theorem dX7_makeShift_33 : decode cX7_makeShift 33 = .ok (.ireturn, 1) := by decide +kernel
theorem dX7_shift_0 : decode cX7_shift 0 = .ok (.aload_n 0, 1) := by decide +kernel
theorem dX7_shift_1 : decode cX7_shift 1 = .ok (.iconst 0, 1) := by decide +kernel
theorem dX7_shift_2 : decode cX7_shift 2 = .ok (.putfield 35, 3) := by decide +kernel
theorem dX7_shift_5 : decode cX7_shift 5 = .ok (.aload_n 0, 1) := by decide +kernel
theorem dX7_shift_6 : decode cX7_shift 6 = .ok (.iload_n 1, 1) := by decide +kernel
theorem dX7_shift_7 : decode cX7_shift 7 = .ok (.invokevirtual 267, 3) := by decide +kernel
theorem dX7_shift_10 : decode cX7_shift 10 = .ok (.ifCond .ne 65, 3) := by decide +kernel
theorem dX7_shift_13 : decode cX7_shift 13 = .ok (.aload_n 0, 1) := by decide +kernel
theorem dX7_shift_14 : decode cX7_shift 14 = .ok (.iload_n 2, 1) := by decide +kernel
theorem dX7_shift_15 : decode cX7_shift 15 = .ok (.invokevirtual 264, 3) := by decide +kernel
theorem dX7_shift_18 : decode cX7_shift 18 = .ok (.ifCond .ne 57, 3) := by decide +kernel
theorem dX7_shift_21 : decode cX7_shift 21 = .ok (.aload_n 0, 1) := by decide +kernel
theorem dX7_shift_22 : decode cX7_shift 22 = .ok (.iload_n 3, 1) := by decide +kernel
theorem dX7_shift_23 : decode cX7_shift 23 = .ok (.sipush (-255), 3) := by decide +kernel
theorem dX7_shift_26 : decode cX7_shift 26 = .ok (.sipush 255, 3) := by decide +kernel
theorem dX7_shift_29 : decode cX7_shift 29 = .ok (.invokestatic 58, 3) := by decide +kernel
theorem dX7_shift_32 : decode cX7_shift 32 = .ok (.ifCond .ne 7, 3) := by decide +kernel
theorem dX7_shift_35 : decode cX7_shift 35 = .ok (.iconst 1, 1) := by decide +kernel
theorem dX7_shift_36 : decode cX7_shift 36 = .ok (.goto 4, 3) := by decide +kernel
theorem dX7_shift_39 : decode cX7_shift 39 = .ok (.iconst 0, 1) := by decide +kernel
theorem dX7_shift_40 : decode cX7_shift 40 = .ok (.iconst 2, 1) := by decide +kernel
theorem dX7_shift_41 : decode cX7_shift 41 = .ok (.invokevirtual 159, 3) := by decide +kernel
theorem dX7_shift_44 : decode cX7_shift 44 = .ok (.ifCond .ne 31, 3) := by decide +kernel
theorem dX7_shift_47 : decode cX7_shift 47 = .ok (.aload_n 0, 1) := by decide +kernel
theorem dX7_shift_48 : decode cX7_shift 48 = .ok (.aload_n 0, 1) := by decide +kernel
theorem dX7_shift_49 : decode cX7_shift 49 = .ok (.getfield 17, 3) := by decide +kernel
theorem dX7_shift_52 : decode cX7_shift 52 = .ok (.iload_n 1, 1) := by decide +kernel
theorem dX7_shift_53 : decode cX7_shift 53 = .ok (.invokestatic 136, 3) := by decide +kernel
theorem dX7_shift_56 : decode cX7_shift 56 = .ok (.iconst 2, 1) := by decide +kernel
theorem dX7_shift_57 : decode cX7_shift 57 = .ok (.iadd, 1) := by decide +kernel
theorem dX7_shift_58 : decode cX7_shift 58 = .ok (.iaload, 1) := by decide +kernel
theorem dX7_shift_59 : decode cX7_shift 59 = .ok (.iconst 1, 1) := by decide +kernel
theorem dX7_shift_60 : decode cX7_shift 60 = .ok (.if_icmp .ne 7, 3) := by decide +kernel
theorem dX7_shift_63 : decode cX7_shift 63 = .ok (.iconst 1, 1) := by decide +kernel
theorem dX7_shift_64 : decode cX7_shift 64 = .ok (.goto 4, 3) := by decide +kernel
theorem dX7_shift_67 : decode cX7_shift 67 = .ok (.iconst 0, 1) := by decide +kernel
theorem dX7_shift_68 : decode cX7_shift 68 = .ok (.iconst 3, 1) := by decide +kernel
theorem dX7_shift_69 : decode cX7_shift 69 = .ok (.invokevirtual 159, 3) := by decide +kernel
theorem dX7_shift_72 : decode cX7_shift 72 = .ok (.ifCond .eq 5, 3) := by decide +kernel
theorem dX7_shift_75 : decode cX7_shift 75 = .ok (.iconst 0, 1) := by decide +kernel
theorem dX7_shift_76 : decode cX7_shift 76 = .ok (.ireturn, 1) := by decide +kernel
theorem dX7_shift_77 : decode cX7_shift 77 = .ok (.aload_n 0, 1) := by decide +kernel
theorem dX7_shift_78 : decode cX7_shift 78 = .ok (.invokevirtual 166, 3) := by decide +kernel
theorem dX7_shift_81 : decode cX7_shift 81 = .ok (.aload_n 0, 1) := by decide +kernel
theorem dX7_shift_82 : decode cX7_shift 82 = .ok (.iload_n 1, 1) := by decide +kernel
theorem dX7_shift_83 : decode cX7_shift 83 = .ok (.iload_n 2, 1) := by decide +kernel
theorem dX7_shift_84 : decode cX7_shift 84 = .ok (.iload_n 3, 1) := by decide +kernel
theorem dX7_shift_85 : decode cX7_shift 85 = .ok (.invokevirtual 286, 3) := by decide +kernel
theorem dX7_shift_88 : decode cX7_shift 88 = .ok (.ireturn, 1) := by decide +kernel
theorem dX7_repair_0 : decode cX7_repair 0 = .ok (.aload_n 0, 1) := by decide +kernel
theorem dX7_repair_1 : decode cX7_repair 1 = .ok (.iconst 0, 1) := by decide +kernel
theorem dX7_repair_2 : decode cX7_repair 2 = .ok (.putfield 35, 3) := by decide +kernel
theorem dX7_repair_5 : decode cX7_repair 5 = .ok (.aload_n 0, 1) := by decide +kernel
theorem dX7_repair_6 : decode cX7_repair 6 = .ok (.iload_n 1, 1) := by decide +kernel
theorem dX7_repair_7 : decode cX7_repair 7 = .ok (.iconst 1, 1) := by decide +kernel
theorem dX7_repair_8 : decode cX7_repair 8 = .ok (.bipush 6, 2) := by decide +kernel
theorem dX7_repair_10 : decode cX7_repair 10 = .ok (.invokestatic 58, 3) := by decide +kernel
theorem dX7_repair_13 : decode cX7_repair 13 = .ok (.ifCond .ne 7, 3) := by decide +kernel
theorem dX7_repair_16 : decode cX7_repair 16 = .ok (.iconst 1, 1) := by decide +kernel
theorem dX7_repair_17 : decode cX7_repair 17 = .ok (.goto 4, 3) := by decide +kernel
theorem dX7_repair_20 : decode cX7_repair 20 = .ok (.iconst 0, 1) := by decide +kernel
theorem dX7_repair_21 : decode cX7_repair 21 = .ok (.iconst 1, 1) := by decide +kernel
theorem dX7_repair_22 : decode cX7_repair 22 = .ok (.invokevirtual 159, 3) := by decide +kernel
theorem dX7_repair_25 : decode cX7_repair 25 = .ok (.ifCond .eq 5, 3) := by decide +kernel
theorem dX7_repair_28 : decode cX7_repair 28 = .ok (.iconst 0, 1) := by decide +kernel
theorem dX7_repair_29 : decode cX7_repair 29 = .ok (.ireturn, 1) := by decide +kernel
theorem dX7_repair_30 : decode cX7_repair 30 = .ok (.aload_n 0, 1) := by decide +kernel
theorem dX7_repair_31 : decode cX7_repair 31 = .ok (.invokevirtual 166, 3) := by decide +kernel
theorem dX7_repair_34 : decode cX7_repair 34 = .ok (.iconst 0, 1) := by decide +kernel
theorem dX7_repair_35 : decode cX7_repair 35 = .ok (.istore_n 2, 1) := by decide +kernel
theorem dX7_repair_36 : decode cX7_repair 36 = .ok (.iload_n 2, 1) := by decide +kernel
theorem dX7_repair_37 : decode cX7_repair 37 = .ok (.iload_n 1, 1) := by decide +kernel
theorem dX7_repair_38 : decode cX7_repair 38 = .ok (.if_icmp .ge 35, 3) := by decide +kernel
theorem dX7_repair_41 : decode cX7_repair 41 = .ok (.aload_n 0, 1) := by decide +kernel
theorem dX7_repair_42 : decode cX7_repair 42 = .ok (.invokevirtual 289, 3) := by decide +kernel
theorem dX7_repair_45 : decode cX7_repair 45 = .ok (.ifCond .ne 5, 3) := by decide +kernel
theorem dX7_repair_48 : decode cX7_repair 48 = .ok (.iload_n 2, 1) := by decide +kernel
theorem dX7_repair_49 : decode cX7_repair 49 = .ok (.ireturn, 1) := by decide +kernel
theorem dX7_repair_50 : decode cX7_repair 50 = .ok (.aload_n 0, 1) := by decide +kernel
theorem dX7_repair_51 : decode cX7_repair 51 = .ok (.aload_n 0, 1) := by decide +kernel
theorem dX7_repair_52 : decode cX7_repair 52 = .ok (.getfield 251, 3) := by decide +kernel
theorem dX7_repair_55 : decode cX7_repair 55 = .ok (.aload_n 0, 1) := by decide +kernel
theorem dX7_repair_56 : decode cX7_repair 56 = .ok (.getfield 258, 3) := by decide +kernel
theorem dX7_repair_59 : decode cX7_repair 59 = .ok (.aload_n 0, 1) := by decide +kernel
theorem dX7_repair_60 : decode cX7_repair 60 = .ok (.getfield 248, 3) := by decide +kernel
theorem dX7_repair_63 : decode cX7_repair 63 = .ok (.invokevirtual 286, 3) := by decide +kernel
theorem dX7_repair_66 : decode cX7_repair 66 = .ok (.pop, 1) := by decide +kernel
theorem dX7_repair_67 : decode cX7_repair 67 = .ok (.iinc 2 1, 3) := by decide +kernel
theorem dX7_repair_70 : decode cX7_repair 70 = .ok (.goto (-34), 3) := by decide +kernel
theorem dX7_repair_73 : decode cX7_repair 73 = .ok (.iload_n 1, 1) := by decide +kernel
theorem dX7_repair_74 : decode cX7_repair 74 = .ok (.ireturn, 1) := by decide +kernel
theorem dX7_swapSchemes_0 : decode cX7_swapSchemes 0 = .ok (.aload_n 0, 1) := by decide +kernel
theorem dX7_swapSchemes_1 : decode cX7_swapSchemes 1 = .ok (.iconst 0, 1) := by decide +kernel
theorem dX7_swapSchemes_2 : decode cX7_swapSchemes 2 = .ok (.putfield 35, 3) := by decide +kernel
theorem dX7_swapSchemes_5 : decode cX7_swapSchemes 5 = .ok (.aload_n 0, 1) := by decide +kernel
theorem dX7_swapSchemes_6 : decode cX7_swapSchemes 6 = .ok (.invokevirtual 166, 3) := by decide +kernel
theorem dX7_swapSchemes_9 : decode cX7_swapSchemes 9 = .ok (.iconst 0, 1) := by decide +kernel
theorem dX7_swapSchemes_10 : decode cX7_swapSchemes 10 = .ok (.istore_n 1, 1) := by decide +kernel
theorem dX7_swapSchemes_11 : decode cX7_swapSchemes 11 = .ok (.iload_n 1, 1) := by decide +kernel
theorem dX7_swapSchemes_12 : decode cX7_swapSchemes 12 = .ok (.aload_n 0, 1) := by decide +kernel
theorem dX7_swapSchemes_13 : decode cX7_swapSchemes 13 = .ok (.getfield 17, 3) := by decide +kernel
theorem dX7_swapSchemes_16 : decode cX7_swapSchemes 16 = .ok (.iconst 0, 1) := by decide +kernel
theorem dX7_swapSchemes_17 : decode cX7_swapSchemes 17 = .ok (.iaload, 1) := by decide +kernel
theorem dX7_swapSchemes_18 : decode cX7_swapSchemes 18 = .ok (.if_icmp .ge 51, 3) := by decide +kernel
theorem dX7_swapSchemes_21 : decode cX7_swapSchemes 21 = .ok (.aload_n 0, 1) := by decide +kernel
theorem dX7_swapSchemes_22 : decode cX7_swapSchemes 22 = .ok (.getfield 17, 3) := by decide +kernel
theorem dX7_swapSchemes_25 : decode cX7_swapSchemes 25 = .ok (.iload_n 1, 1) := by decide +kernel
theorem dX7_swapSchemes_26 : decode cX7_swapSchemes 26 = .ok (.invokestatic 136, 3) := by decide +kernel
theorem dX7_swapSchemes_29 : decode cX7_swapSchemes 29 = .ok (.iaload, 1) := by decide +kernel
theorem dX7_swapSchemes_30 : decode cX7_swapSchemes 30 = .ok (.istore_n 2, 1) := by decide +kernel
theorem dX7_swapSchemes_31 : decode cX7_swapSchemes 31 = .ok (.aload_n 0, 1) := by decide +kernel
theorem dX7_swapSchemes_32 : decode cX7_swapSchemes 32 = .ok (.getfield 17, 3) := by decide +kernel
theorem dX7_swapSchemes_35 : decode cX7_swapSchemes 35 = .ok (.iload_n 1, 1) := by decide +kernel
theorem dX7_swapSchemes_36 : decode cX7_swapSchemes 36 = .ok (.invokestatic 136, 3) := by decide +kernel
theorem dX7_swapSchemes_39 : decode cX7_swapSchemes 39 = .ok (.aload_n 0, 1) := by decide +kernel
theorem dX7_swapSchemes_40 : decode cX7_swapSchemes 40 = .ok (.getfield 17, 3) := by decide +kernel
theorem dX7_swapSchemes_43 : decode cX7_swapSchemes 43 = .ok (.iload_n 1, 1) := by decide +kernel
theorem dX7_swapSchemes_44 : decode cX7_swapSchemes 44 = .ok (.invokestatic 136, 3) := by decide +kernel
theorem dX7_swapSchemes_47 : decode cX7_swapSchemes 47 = .ok (.iconst 1, 1) := by decide +kernel
theorem dX7_swapSchemes_48 : decode cX7_swapSchemes 48 = .ok (.iadd, 1) := by decide +kernel
theorem dX7_swapSchemes_49 : decode cX7_swapSchemes 49 = .ok (.iaload, 1) := by decide +kernel
theorem dX7_swapSchemes_50 : decode cX7_swapSchemes 50 = .ok (.iastore, 1) := by decide +kernel
theorem dX7_swapSchemes_51 : decode cX7_swapSchemes 51 = .ok (.aload_n 0, 1) := by decide +kernel
theorem dX7_swapSchemes_52 : decode cX7_swapSchemes 52 = .ok (.getfield 17, 3) := by decide +kernel
theorem dX7_swapSchemes_55 : decode cX7_swapSchemes 55 = .ok (.iload_n 1, 1) := by decide +kernel
theorem dX7_swapSchemes_56 : decode cX7_swapSchemes 56 = .ok (.invokestatic 136, 3) := by decide +kernel
theorem dX7_swapSchemes_59 : decode cX7_swapSchemes 59 = .ok (.iconst 1, 1) := by decide +kernel
theorem dX7_swapSchemes_60 : decode cX7_swapSchemes 60 = .ok (.iadd, 1) := by decide +kernel
theorem dX7_swapSchemes_61 : decode cX7_swapSchemes 61 = .ok (.iload_n 2, 1) := by decide +kernel
theorem dX7_swapSchemes_62 : decode cX7_swapSchemes 62 = .ok (.iastore, 1) := by decide +kernel
theorem dX7_swapSchemes_63 : decode cX7_swapSchemes 63 = .ok (.iinc 1 1, 3) := by decide +kernel
theorem dX7_swapSchemes_66 : decode cX7_swapSchemes 66 = .ok (.goto (-55), 3) := by decide +kernel
theorem dX7_swapSchemes_69 : decode cX7_swapSchemes 69 = .ok (.aload_n 0, 1) := by decide +kernel
theorem dX7_swapSchemes_70 : decode cX7_swapSchemes 70 = .ok (.invokevirtual 280, 3) := by decide +kernel
theorem dX7_swapSchemes_73 : decode cX7_swapSchemes 73 = .ok (.ireturn, 1) := by decide +kernel
theorem dX7_undo_0 : decode cX7_undo 0 = .ok (.aload_n 0, 1) := by decide +kernel
theorem dX7_undo_1 : decode cX7_undo 1 = .ok (.iconst 0, 1) := by decide +kernel
theorem dX7_undo_2 : decode cX7_undo 2 = .ok (.putfield 35, 3) := by decide +kernel
theorem dX7_undo_5 : decode cX7_undo 5 = .ok (.aload_n 0, 1) := by decide +kernel
theorem dX7_undo_6 : decode cX7_undo 6 = .ok (.getfield 283, 3) := by decide +kernel
theorem dX7_undo_9 : decode cX7_undo 9 = .ok (.ifCond .ne 5, 3) := by decide +kernel
theorem dX7_undo_12 : decode cX7_undo 12 = .ok (.iconst (-1), 1) := by decide +kernel
theorem dX7_undo_13 : decode cX7_undo 13 = .ok (.ireturn, 1) := by decide +kernel
theorem dX7_undo_14 : decode cX7_undo 14 = .ok (.aload_n 0, 1) := by decide +kernel
theorem dX7_undo_15 : decode cX7_undo 15 = .ok (.dup, 1) := by decide +kernel
theorem dX7_undo_16 : decode cX7_undo 16 = .ok (.getfield 283, 3) := by decide +kernel
theorem dX7_undo_19 : decode cX7_undo 19 = .ok (.iconst 1, 1) := by decide +kernel
theorem dX7_undo_20 : decode cX7_undo 20 = .ok (.isub, 1) := by decide +kernel
theorem dX7_undo_21 : decode cX7_undo 21 = .ok (.putfield 283, 3) := by decide +kernel
theorem dX7_undo_24 : decode cX7_undo 24 = .ok (.aload_n 0, 1) := by decide +kernel
theorem dX7_undo_25 : decode cX7_undo 25 = .ok (.getfield 25, 3) := by decide +kernel
theorem dX7_undo_28 : decode cX7_undo 28 = .ok (.aload_n 0, 1) := by decide +kernel
theorem dX7_undo_29 : decode cX7_undo 29 = .ok (.getfield 283, 3) := by decide +kernel
theorem dX7_undo_32 : decode cX7_undo 32 = .ok (.aaload, 1) := by decide +kernel
theorem dX7_undo_33 : decode cX7_undo 33 = .ok (.aload_n 0, 1) := by decide +kernel
theorem dX7_undo_34 : decode cX7_undo 34 = .ok (.getfield 17, 3) := by decide +kernel
theorem dX7_undo_37 : decode cX7_undo 37 = .ok (.invokestatic 169, 3) := by decide +kernel
theorem dX7_undo_40 : decode cX7_undo 40 = .ok (.aload_n 0, 1) := by decide +kernel
theorem dX7_undo_41 : decode cX7_undo 41 = .ok (.invokevirtual 173, 3) := by decide +kernel
theorem dX7_undo_44 : decode cX7_undo 44 = .ok (.aload_n 0, 1) := by decide +kernel
theorem dX7_undo_45 : decode cX7_undo 45 = .ok (.getfield 283, 3) := by decide +kernel
theorem dX7_undo_48 : decode cX7_undo 48 = .ok (.ireturn, 1) := by decide +kernel
theorem dX7_checksum_0 : decode cX7_checksum 0 = .ok (.aload_n 0, 1) := by decide +kernel
theorem dX7_checksum_1 : decode cX7_checksum 1 = .ok (.iconst 0, 1) := by decide +kernel
theorem dX7_checksum_2 : decode cX7_checksum 2 = .ok (.putfield 35, 3) := by decide +kernel
theorem dX7_checksum_5 : decode cX7_checksum 5 = .ok (.lconst 0, 1) := by decide +kernel
theorem dX7_checksum_6 : decode cX7_checksum 6 = .ok (.lstore_n 1, 1) := by decide +kernel
theorem dX7_checksum_7 : decode cX7_checksum 7 = .ok (.iconst 0, 1) := by decide +kernel
theorem dX7_checksum_8 : decode cX7_checksum 8 = .ok (.istore_n 3, 1) := by decide +kernel
theorem dX7_checksum_9 : decode cX7_checksum 9 = .ok (.iload_n 3, 1) := by decide +kernel
theorem dX7_checksum_10 : decode cX7_checksum 10 = .ok (.aload_n 0, 1) := by decide +kernel
theorem dX7_checksum_11 : decode cX7_checksum 11 = .ok (.getfield 17, 3) := by decide +kernel
theorem dX7_checksum_14 : decode cX7_checksum 14 = .ok (.iconst 0, 1) := by decide +kernel
theorem dX7_checksum_15 : decode cX7_checksum 15 = .ok (.iaload, 1) := by decide +kernel
theorem dX7_checksum_16 : decode cX7_checksum 16 = .ok (.if_icmp .ge 44, 3) := by decide +kernel
theorem dX7_checksum_19 : decode cX7_checksum 19 = .ok (.iconst 0, 1) := by decide +kernel
theorem dX7_checksum_20 : decode cX7_checksum 20 = .ok (.istore 4, 2) := by decide +kernel
theorem dX7_checksum_22 : decode cX7_checksum 22 = .ok (.iload 4, 2) := by decide +kernel
theorem dX7_checksum_24 : decode cX7_checksum 24 = .ok (.iconst 3, 1) := by decide +kernel
theorem dX7_checksum_25 : decode cX7_checksum 25 = .ok (.if_icmp .ge 29, 3) := by decide +kernel
theorem dX7_checksum_28 : decode cX7_checksum 28 = .ok (.ldc2_w 292, 3) := by decide +kernel
theorem dX7_checksum_31 : decode cX7_checksum 31 = .ok (.lload_n 1, 1) := by decide +kernel
theorem dX7_checksum_32 : decode cX7_checksum 32 = .ok (.lmul, 1) := by decide +kernel
theorem dX7_checksum_33 : decode cX7_checksum 33 = .ok (.aload_n 0, 1) := by decide +kernel
theorem dX7_checksum_34 : decode cX7_checksum 34 = .ok (.getfield 17, 3) := by decide +kernel
theorem dX7_checksum_37 : decode cX7_checksum 37 = .ok (.iload_n 3, 1) := by decide +kernel
theorem dX7_checksum_38 : decode cX7_checksum 38 = .ok (.invokestatic 136, 3) := by decide +kernel
theorem dX7_checksum_41 : decode cX7_checksum 41 = .ok (.iload 4, 2) := by decide +kernel
theorem dX7_checksum_43 : decode cX7_checksum 43 = .ok (.iadd, 1) := by decide +kernel
theorem dX7_checksum_44 : decode cX7_checksum 44 = .ok (.iaload, 1) := by decide +kernel
theorem dX7_checksum_45 : decode cX7_checksum 45 = .ok (.i2l, 1) := by decide +kernel
theorem dX7_checksum_46 : decode cX7_checksum 46 = .ok (.ladd, 1) := by decide +kernel
theorem dX7_checksum_47 : decode cX7_checksum 47 = .ok (.lstore_n 1, 1) := by decide +kernel
theorem dX7_checksum_48 : decode cX7_checksum 48 = .ok (.iinc 4 1, 3) := by decide +kernel
theorem dX7_checksum_51 : decode cX7_checksum 51 = .ok (.goto (-29), 3) := by decide +kernel
theorem dX7_checksum_54 : decode cX7_checksum 54 = .ok (.iinc 3 1, 3) := by decide +kernel
theorem dX7_checksum_57 : decode cX7_checksum 57 = .ok (.goto (-48), 3) := by decide +kernel
theorem dX7_checksum_60 : decode cX7_checksum 60 = .ok (.iconst 0, 1) := by decide +kernel
theorem dX7_checksum_61 : decode cX7_checksum 61 = .ok (.istore_n 3, 1) := by decide +kernel
theorem dX7_checksum_62 : decode cX7_checksum 62 = .ok (.iload_n 3, 1) := by decide +kernel
theorem dX7_checksum_63 : decode cX7_checksum 63 = .ok (.aload_n 0, 1) := by decide +kernel
theorem dX7_checksum_64 : decode cX7_checksum 64 = .ok (.getfield 17, 3) := by decide +kernel
theorem dX7_checksum_67 : decode cX7_checksum 67 = .ok (.iconst 1, 1) := by decide +kernel
theorem dX7_checksum_68 : decode cX7_checksum 68 = .ok (.iaload, 1) := by decide +kernel
theorem dX7_checksum_69 : decode cX7_checksum 69 = .ok (.if_icmp .ge 35, 3) := by decide +kernel
theorem dX7_checksum_72 : decode cX7_checksum 72 = .ok (.ldc2_w 292, 3) := by decide +kernel
theorem dX7_checksum_75 : decode cX7_checksum 75 = .ok (.ldc2_w 292, 3) := by decide +kernel
theorem dX7_checksum_78 : decode cX7_checksum 78 = .ok (.lload_n 1, 1) := by decide +kernel
theorem dX7_checksum_79 : decode cX7_checksum 79 = .ok (.lmul, 1) := by decide +kernel
theorem dX7_checksum_80 : decode cX7_checksum 80 = .ok (.aload_n 0, 1) := by decide +kernel
theorem dX7_checksum_81 : decode cX7_checksum 81 = .ok (.iload_n 3, 1) := by decide +kernel
theorem dX7_checksum_82 : decode cX7_checksum 82 = .ok (.iconst 0, 1) := by decide +kernel
theorem dX7_checksum_83 : decode cX7_checksum 83 = .ok (.invokevirtual 232, 3) := by decide +kernel
theorem dX7_checksum_86 : decode cX7_checksum 86 = .ok (.i2l, 1) := by decide +kernel
theorem dX7_checksum_87 : decode cX7_checksum 87 = .ok (.ladd, 1) := by decide +kernel
theorem dX7_checksum_88 : decode cX7_checksum 88 = .ok (.lmul, 1) := by decide +kernel
theorem dX7_checksum_89 : decode cX7_checksum 89 = .ok (.aload_n 0, 1) := by decide +kernel
theorem dX7_checksum_90 : decode cX7_checksum 90 = .ok (.iload_n 3, 1) := by decide +kernel
theorem dX7_checksum_91 : decode cX7_checksum 91 = .ok (.iconst 1, 1) := by decide +kernel
theorem dX7_checksum_92 : decode cX7_checksum 92 = .ok (.invokevirtual 232, 3) := by decide +kernel
theorem dX7_checksum_95 : decode cX7_checksum 95 = .ok (.i2l, 1) := by decide +kernel
theorem dX7_checksum_96 : decode cX7_checksum 96 = .ok (.ladd, 1) := by decide +kernel
theorem dX7_checksum_97 : decode cX7_checksum 97 = .ok (.lstore_n 1, 1) := by decide +kernel
theorem dX7_checksum_98 : decode cX7_checksum 98 = .ok (.iinc 3 1, 3) := by decide +kernel
theorem dX7_checksum_101 : decode cX7_checksum 101 = .ok (.goto (-39), 3) := by decide +kernel
theorem dX7_checksum_104 : decode cX7_checksum 104 = .ok (.lload_n 1, 1) := by decide +kernel
theorem dX7_checksum_105 : decode cX7_checksum 105 = .ok (.lreturn, 1) := by decide +kernel
theorem dJ9_abs_0f7a4_0 : decode cJ9_abs_0f7a4 0 = .ok (.iload_n 0, 1) := by decide +kernel
theorem dJ9_abs_0f7a4_1 : decode cJ9_abs_0f7a4 1 = .ok (.ifCond .ge 8, 3) := by decide +kernel
theorem dJ9_abs_0f7a4_4 : decode cJ9_abs_0f7a4 4 = .ok (.iload_n 0, 1) := by decide +kernel
theorem dJ9_abs_0f7a4_5 : decode cJ9_abs_0f7a4 5 = .ok (.ineg, 1) := by decide +kernel
theorem dJ9_abs_0f7a4_6 : decode cJ9_abs_0f7a4 6 = .ok (.goto 4, 3) := by decide +kernel
theorem dJ9_abs_0f7a4_9 : decode cJ9_abs_0f7a4 9 = .ok (.iload_n 0, 1) := by decide +kernel
theorem dJ9_abs_0f7a4_10 : decode cJ9_abs_0f7a4 10 = .ok (.ireturn, 1) := by decide +kernel
theorem dJ9_max_7cf53_0 : decode cJ9_max_7cf53 0 = .ok (.iload_n 0, 1) := by decide +kernel
theorem dJ9_max_7cf53_1 : decode cJ9_max_7cf53 1 = .ok (.iload_n 1, 1) := by decide +kernel
theorem dJ9_max_7cf53_2 : decode cJ9_max_7cf53 2 = .ok (.if_icmp .lt 7, 3) := by decide +kernel
theorem dJ9_max_7cf53_5 : decode cJ9_max_7cf53 5 = .ok (.iload_n 0, 1) := by decide +kernel
theorem dJ9_max_7cf53_6 : decode cJ9_max_7cf53 6 = .ok (.goto 4, 3) := by decide +kernel
theorem dJ9_max_7cf53_9 : decode cJ9_max_7cf53 9 = .ok (.iload_n 1, 1) := by decide +kernel
theorem dJ9_max_7cf53_10 : decode cJ9_max_7cf53 10 = .ok (.ireturn, 1) := by decide +kernel
theorem dJ9_max_f86c9_0 : decode cJ9_max_f86c9 0 = .ok (.lload_n 0, 1) := by decide +kernel
theorem dJ9_max_f86c9_1 : decode cJ9_max_f86c9 1 = .ok (.lload_n 2, 1) := by decide +kernel
theorem dJ9_max_f86c9_2 : decode cJ9_max_f86c9 2 = .ok (.lcmp, 1) := by decide +kernel
theorem dJ9_max_f86c9_3 : decode cJ9_max_f86c9 3 = .ok (.ifCond .lt 7, 3) := by decide +kernel
theorem dJ9_max_f86c9_6 : decode cJ9_max_f86c9 6 = .ok (.lload_n 0, 1) := by decide +kernel
theorem dJ9_max_f86c9_7 : decode cJ9_max_f86c9 7 = .ok (.goto 4, 3) := by decide +kernel
theorem dJ9_max_f86c9_10 : decode cJ9_max_f86c9 10 = .ok (.lload_n 2, 1) := by decide +kernel
theorem dJ9_max_f86c9_11 : decode cJ9_max_f86c9 11 = .ok (.lreturn, 1) := by decide +kernel
theorem dJ9_min_7cf53_0 : decode cJ9_min_7cf53 0 = .ok (.iload_n 0, 1) := by decide +kernel
theorem dJ9_min_7cf53_1 : decode cJ9_min_7cf53 1 = .ok (.iload_n 1, 1) := by decide +kernel
theorem dJ9_min_7cf53_2 : decode cJ9_min_7cf53 2 = .ok (.if_icmp .gt 7, 3) := by decide +kernel
theorem dJ9_min_7cf53_5 : decode cJ9_min_7cf53 5 = .ok (.iload_n 0, 1) := by decide +kernel
theorem dJ9_min_7cf53_6 : decode cJ9_min_7cf53 6 = .ok (.goto 4, 3) := by decide +kernel
theorem dJ9_min_7cf53_9 : decode cJ9_min_7cf53 9 = .ok (.iload_n 1, 1) := by decide +kernel
theorem dJ9_min_7cf53_10 : decode cJ9_min_7cf53 10 = .ok (.ireturn, 1) := by decide +kernel
theorem dJ9_min_f86c9_0 : decode cJ9_min_f86c9 0 = .ok (.lload_n 0, 1) := by decide +kernel
theorem dJ9_min_f86c9_1 : decode cJ9_min_f86c9 1 = .ok (.lload_n 2, 1) := by decide +kernel
theorem dJ9_min_f86c9_2 : decode cJ9_min_f86c9 2 = .ok (.lcmp, 1) := by decide +kernel
theorem dJ9_min_f86c9_3 : decode cJ9_min_f86c9 3 = .ok (.ifCond .gt 7, 3) := by decide +kernel
theorem dJ9_min_f86c9_6 : decode cJ9_min_f86c9 6 = .ok (.lload_n 0, 1) := by decide +kernel
theorem dJ9_min_f86c9_7 : decode cJ9_min_f86c9 7 = .ok (.goto 4, 3) := by decide +kernel
theorem dJ9_min_f86c9_10 : decode cJ9_min_f86c9 10 = .ok (.lload_n 2, 1) := by decide +kernel
theorem dJ9_min_f86c9_11 : decode cJ9_min_f86c9 11 = .ok (.lreturn, 1) := by decide +kernel
theorem dJ0_length_8abf5_0 : decode cJ0_length_8abf5 0 = .ok (.aload_n 0, 1) := by decide +kernel
theorem dJ0_length_8abf5_1 : decode cJ0_length_8abf5 1 = .ok (.getfield 9, 3) := by decide +kernel
theorem dJ0_length_8abf5_4 : decode cJ0_length_8abf5 4 = .ok (.arraylength, 1) := by decide +kernel
theorem dJ0_length_8abf5_5 : decode cJ0_length_8abf5 5 = .ok (.aload_n 0, 1) := by decide +kernel
theorem dJ0_length_8abf5_6 : decode cJ0_length_8abf5 6 = .ok (.invokevirtual 335, 3) := by decide +kernel
theorem dJ0_length_8abf5_9 : decode cJ0_length_8abf5 9 = .ok (.ishr, 1) := by decide +kernel
theorem dJ0_length_8abf5_10 : decode cJ0_length_8abf5 10 = .ok (.ireturn, 1) := by decide +kernel
theorem dJ0_charAt_5068e_0 : decode cJ0_charAt_5068e 0 = .ok (.aload_n 0, 1) := by decide +kernel
theorem dJ0_charAt_5068e_1 : decode cJ0_charAt_5068e 1 = .ok (.invokevirtual 492, 3) := by decide +kernel
theorem dJ0_charAt_5068e_4 : decode cJ0_charAt_5068e 4 = .ok (.ifCond .eq 12, 3) := by decide +kernel
theorem dJ0_charAt_5068e_7 : decode cJ0_charAt_5068e 7 = .ok (.aload_n 0, 1) := by decide +kernel
theorem dJ0_charAt_5068e_8 : decode cJ0_charAt_5068e 8 = .ok (.getfield 9, 3) := by decide +kernel
theorem dJ0_charAt_5068e_11 : decode cJ0_charAt_5068e 11 = .ok (.iload_n 1, 1) := by decide +kernel
theorem dJ0_charAt_5068e_12 : decode cJ0_charAt_5068e 12 = .ok (.invokestatic 495, 3) := by decide +kernel
theorem dJ0_charAt_5068e_15 : decode cJ0_charAt_5068e 15 = .ok (.ireturn, 1) := by decide +kernel
theorem dJ0_charAt_5068e_16 : decode cJ0_charAt_5068e 16 = .ok (.aload_n 0, 1) := by decide +kernel
theorem dJ0_charAt_5068e_17 : decode cJ0_charAt_5068e 17 = .ok (.getfield 9, 3) := by decide +kernel
theorem dJ0_charAt_5068e_20 : decode cJ0_charAt_5068e 20 = .ok (.iload_n 1, 1) := by decide +kernel
theorem dJ0_charAt_5068e_21 : decode cJ0_charAt_5068e 21 = .ok (.invokestatic 498, 3) := by decide +kernel
theorem dJ0_charAt_5068e_24 : decode cJ0_charAt_5068e 24 = .ok (.ireturn, 1) := by decide +kernel
theorem dJ0_coder_7d493_0 : decode cJ0_coder_7d493 0 = .ok (.getstatic 38, 3) := by decide +kernel
theorem dJ0_coder_7d493_3 : decode cJ0_coder_7d493 3 = .ok (.ifCond .eq 10, 3) := by decide +kernel
theorem dJ0_coder_7d493_6 : decode cJ0_coder_7d493 6 = .ok (.aload_n 0, 1) := by decide +kernel
theorem dJ0_coder_7d493_7 : decode cJ0_coder_7d493 7 = .ok (.getfield 15, 3) := by decide +kernel
theorem dJ0_coder_7d493_10 : decode cJ0_coder_7d493 10 = .ok (.goto 4, 3) := by decide +kernel
theorem dJ0_coder_7d493_13 : decode cJ0_coder_7d493 13 = .ok (.iconst 1, 1) := by decide +kernel
theorem dJ0_coder_7d493_14 : decode cJ0_coder_7d493 14 = .ok (.ireturn, 1) := by decide +kernel
theorem dJ0_isLatin1_aae02_0 : decode cJ0_isLatin1_aae02 0 = .ok (.getstatic 38, 3) := by decide +kernel
theorem dJ0_isLatin1_aae02_3 : decode cJ0_isLatin1_aae02 3 = .ok (.ifCond .eq 14, 3) := by decide +kernel
theorem dJ0_isLatin1_aae02_6 : decode cJ0_isLatin1_aae02 6 = .ok (.aload_n 0, 1) := by decide +kernel
theorem dJ0_isLatin1_aae02_7 : decode cJ0_isLatin1_aae02 7 = .ok (.getfield 15, 3) := by decide +kernel
theorem dJ0_isLatin1_aae02_10 : decode cJ0_isLatin1_aae02 10 = .ok (.ifCond .ne 7, 3) := by decide +kernel
theorem dJ0_isLatin1_aae02_13 : decode cJ0_isLatin1_aae02 13 = .ok (.iconst 1, 1) := by decide +kernel
theorem dJ0_isLatin1_aae02_14 : decode cJ0_isLatin1_aae02 14 = .ok (.goto 4, 3) := by decide +kernel
theorem dJ0_isLatin1_aae02_17 : decode cJ0_isLatin1_aae02 17 = .ok (.iconst 0, 1) := by decide +kernel
theorem dJ0_isLatin1_aae02_18 : decode cJ0_isLatin1_aae02 18 = .ok (.ireturn, 1) := by decide +kernel
theorem dJ0_checkIndex_df160_0 : decode cJ0_checkIndex_df160 0 = .ok (.iload_n 0, 1) := by decide +kernel
theorem dJ0_checkIndex_df160_1 : decode cJ0_checkIndex_df160 1 = .ok (.iload_n 1, 1) := by decide +kernel
theorem dJ0_checkIndex_df160_2 : decode cJ0_checkIndex_df160 2 = .ok (.getstatic 1053, 3) := by decide +kernel
theorem dJ0_checkIndex_df160_5 : decode cJ0_checkIndex_df160 5 = .ok (.invokestatic 1059, 3) := by decide +kernel
theorem dJ0_checkIndex_df160_8 : decode cJ0_checkIndex_df160 8 = .ok (.pop, 1) := by decide +kernel
theorem dJ0_checkIndex_df160_9 : decode cJ0_checkIndex_df160 9 = .ok (.return_, 1) := by decide +kernel
theorem dJ1_charAt_3b067_0 : decode cJ1_charAt_3b067 0 = .ok (.iload_n 1, 1) := by decide +kernel
theorem dJ1_charAt_3b067_1 : decode cJ1_charAt_3b067 1 = .ok (.aload_n 0, 1) := by decide +kernel
theorem dJ1_charAt_3b067_2 : decode cJ1_charAt_3b067 2 = .ok (.arraylength, 1) := by decide +kernel
theorem dJ1_charAt_3b067_3 : decode cJ1_charAt_3b067 3 = .ok (.invokestatic 9, 3) := by decide +kernel
theorem dJ1_charAt_3b067_6 : decode cJ1_charAt_3b067 6 = .ok (.aload_n 0, 1) := by decide +kernel
theorem dJ1_charAt_3b067_7 : decode cJ1_charAt_3b067 7 = .ok (.iload_n 1, 1) := by decide +kernel
theorem dJ1_charAt_3b067_8 : decode cJ1_charAt_3b067 8 = .ok (.baload, 1) := by decide +kernel
theorem dJ1_charAt_3b067_9 : decode cJ1_charAt_3b067 9 = .ok (.sipush 255, 3) := by decide +kernel
theorem dJ1_charAt_3b067_12 : decode cJ1_charAt_3b067 12 = .ok (.iand, 1) := by decide +kernel
theorem dJ1_charAt_3b067_13 : decode cJ1_charAt_3b067 13 = .ok (.i2c, 1) := by decide +kernel
theorem dJ1_charAt_3b067_14 : decode cJ1_charAt_3b067 14 = .ok (.ireturn, 1) := by decide +kernel
theorem dJ2_getChar_3b067_0 : decode cJ2_getChar_3b067 0 = .ok (.getstatic 44, 3) := by decide +kernel
theorem dJ2_getChar_3b067_3 : decode cJ2_getChar_3b067 3 = .ok (.ifCond .ne 25, 3) := by decide +kernel
theorem dJ2_getChar_3b067_6 : decode cJ2_getChar_3b067 6 = .ok (.iload_n 1, 1) := by decide +kernel
theorem dJ2_getChar_3b067_7 : decode cJ2_getChar_3b067 7 = .ok (.ifCond .lt 11, 3) := by decide +kernel
theorem dJ2_getChar_3b067_10 : decode cJ2_getChar_3b067 10 = .ok (.iload_n 1, 1) := by decide +kernel
theorem dJ2_getChar_3b067_11 : decode cJ2_getChar_3b067 11 = .ok (.aload_n 0, 1) := by decide +kernel
theorem dJ2_getChar_3b067_12 : decode cJ2_getChar_3b067 12 = .ok (.invokestatic 48, 3) := by decide +kernel
theorem dJ2_getChar_3b067_15 : decode cJ2_getChar_3b067 15 = .ok (.if_icmp .lt 13, 3) := by decide +kernel
theorem dJ2_getChar_3b067_18 : decode cJ2_getChar_3b067 18 = .ok (.new 52, 3) := by decide +kernel
theorem dJ2_getChar_3b067_21 : decode cJ2_getChar_3b067 21 = .ok (.dup, 1) := by decide +kernel
theorem dJ2_getChar_3b067_22 : decode cJ2_getChar_3b067 22 = .ok (.ldc 54, 2) := by decide +kernel
theorem dJ2_getChar_3b067_24 : decode cJ2_getChar_3b067 24 = .ok (.invokespecial 56, 3) := by decide +kernel
theorem dJ2_getChar_3b067_27 : decode cJ2_getChar_3b067 27 = .ok (.athrow, 1) := by decide +kernel
theorem dJ2_getChar_3b067_28 : decode cJ2_getChar_3b067 28 = .ok (.iload_n 1, 1) := by decide +kernel
theorem dJ2_getChar_3b067_29 : decode cJ2_getChar_3b067 29 = .ok (.iconst 1, 1) := by decide +kernel
theorem dJ2_getChar_3b067_30 : decode cJ2_getChar_3b067 30 = .ok (.ishl, 1) := by decide +kernel
theorem dJ2_getChar_3b067_31 : decode cJ2_getChar_3b067 31 = .ok (.istore_n 1, 1) := by decide +kernel
theorem dJ2_getChar_3b067_32 : decode cJ2_getChar_3b067 32 = .ok (.aload_n 0, 1) := by decide +kernel
theorem dJ2_getChar_3b067_33 : decode cJ2_getChar_3b067 33 = .ok (.iload_n 1, 1) := by decide +kernel
theorem dJ2_getChar_3b067_34 : decode cJ2_getChar_3b067 34 = .ok (.iinc 1 1, 3) := by decide +kernel
theorem dJ2_getChar_3b067_37 : decode cJ2_getChar_3b067 37 = .ok (.baload, 1) := by decide +kernel
theorem dJ2_getChar_3b067_38 : decode cJ2_getChar_3b067 38 = .ok (.sipush 255, 3) := by decide +kernel
theorem dJ2_getChar_3b067_41 : decode cJ2_getChar_3b067 41 = .ok (.iand, 1) := by decide +kernel
theorem dJ2_getChar_3b067_42 : decode cJ2_getChar_3b067 42 = .ok (.getstatic 59, 3) := by decide +kernel
theorem dJ2_getChar_3b067_45 : decode cJ2_getChar_3b067 45 = .ok (.ishl, 1) := by decide +kernel
theorem dJ2_getChar_3b067_46 : decode cJ2_getChar_3b067 46 = .ok (.aload_n 0, 1) := by decide +kernel
theorem dJ2_getChar_3b067_47 : decode cJ2_getChar_3b067 47 = .ok (.iload_n 1, 1) := by decide +kernel
theorem dJ2_getChar_3b067_48 : decode cJ2_getChar_3b067 48 = .ok (.baload, 1) := by decide +kernel
theorem dJ2_getChar_3b067_49 : decode cJ2_getChar_3b067 49 = .ok (.sipush 255, 3) := by decide +kernel
theorem dJ2_getChar_3b067_52 : decode cJ2_getChar_3b067 52 = .ok (.iand, 1) := by decide +kernel
theorem dJ2_getChar_3b067_53 : decode cJ2_getChar_3b067 53 = .ok (.getstatic 63, 3) := by decide +kernel
theorem dJ2_getChar_3b067_56 : decode cJ2_getChar_3b067 56 = .ok (.ishl, 1) := by decide +kernel
theorem dJ2_getChar_3b067_57 : decode cJ2_getChar_3b067 57 = .ok (.ior, 1) := by decide +kernel
theorem dJ2_getChar_3b067_58 : decode cJ2_getChar_3b067 58 = .ok (.i2c, 1) := by decide +kernel
theorem dJ2_getChar_3b067_59 : decode cJ2_getChar_3b067 59 = .ok (.ireturn, 1) := by decide +kernel
theorem dJ2_length_9d52b_0 : decode cJ2_length_9d52b 0 = .ok (.aload_n 0, 1) := by decide +kernel
theorem dJ2_length_9d52b_1 : decode cJ2_length_9d52b 1 = .ok (.arraylength, 1) := by decide +kernel
theorem dJ2_length_9d52b_2 : decode cJ2_length_9d52b 2 = .ok (.iconst 1, 1) := by decide +kernel
theorem dJ2_length_9d52b_3 : decode cJ2_length_9d52b 3 = .ok (.ishr, 1) := by decide +kernel
theorem dJ2_length_9d52b_4 : decode cJ2_length_9d52b 4 = .ok (.ireturn, 1) := by decide +kernel
theorem dJ2_charAt_3b067_0 : decode cJ2_charAt_3b067 0 = .ok (.iload_n 1, 1) := by decide +kernel
theorem dJ2_charAt_3b067_1 : decode cJ2_charAt_3b067 1 = .ok (.aload_n 0, 1) := by decide +kernel
theorem dJ2_charAt_3b067_2 : decode cJ2_charAt_3b067 2 = .ok (.invokestatic 67, 3) := by decide +kernel
theorem dJ2_charAt_3b067_5 : decode cJ2_charAt_3b067 5 = .ok (.aload_n 0, 1) := by decide +kernel
theorem dJ2_charAt_3b067_6 : decode cJ2_charAt_3b067 6 = .ok (.iload_n 1, 1) := by decide +kernel
theorem dJ2_charAt_3b067_7 : decode cJ2_charAt_3b067 7 = .ok (.invokestatic 71, 3) := by decide +kernel
theorem dJ2_charAt_3b067_10 : decode cJ2_charAt_3b067 10 = .ok (.ireturn, 1) := by decide +kernel
theorem dJ2_checkIndex_2214a_0 : decode cJ2_checkIndex_2214a 0 = .ok (.iload_n 0, 1) := by decide +kernel
theorem dJ2_checkIndex_2214a_1 : decode cJ2_checkIndex_2214a 1 = .ok (.aload_n 1, 1) := by decide +kernel
theorem dJ2_checkIndex_2214a_2 : decode cJ2_checkIndex_2214a 2 = .ok (.invokestatic 48, 3) := by decide +kernel
theorem dJ2_checkIndex_2214a_5 : decode cJ2_checkIndex_2214a 5 = .ok (.invokestatic 414, 3) := by decide +kernel
theorem dJ2_checkIndex_2214a_8 : decode cJ2_checkIndex_2214a 8 = .ok (.return_, 1) := by decide +kernel
theorem dJ3_checkIndex_8e157_0 : decode cJ3_checkIndex_8e157 0 = .ok (.iload_n 0, 1) := by decide +kernel
theorem dJ3_checkIndex_8e157_1 : decode cJ3_checkIndex_8e157 1 = .ok (.ifCond .lt 8, 3) := by decide +kernel
theorem dJ3_checkIndex_8e157_4 : decode cJ3_checkIndex_8e157 4 = .ok (.iload_n 0, 1) := by decide +kernel
theorem dJ3_checkIndex_8e157_5 : decode cJ3_checkIndex_8e157 5 = .ok (.iload_n 1, 1) := by decide +kernel
theorem dJ3_checkIndex_8e157_6 : decode cJ3_checkIndex_8e157 6 = .ok (.if_icmp .lt 10, 3) := by decide +kernel
theorem dJ3_checkIndex_8e157_9 : decode cJ3_checkIndex_8e157 9 = .ok (.aload_n 2, 1) := by decide +kernel
theorem dJ3_checkIndex_8e157_10 : decode cJ3_checkIndex_8e157 10 = .ok (.iload_n 0, 1) := by decide +kernel
theorem dJ3_checkIndex_8e157_11 : decode cJ3_checkIndex_8e157 11 = .ok (.iload_n 1, 1) := by decide +kernel
theorem dJ3_checkIndex_8e157_12 : decode cJ3_checkIndex_8e157 12 = .ok (.invokestatic 95, 3) := by decide +kernel
theorem dJ3_checkIndex_8e157_15 : decode cJ3_checkIndex_8e157 15 = .ok (.athrow, 1) := by decide +kernel
theorem dJ3_checkIndex_8e157_16 : decode cJ3_checkIndex_8e157 16 = .ok (.iload_n 0, 1) := by decide +kernel
theorem dJ3_checkIndex_8e157_17 : decode cJ3_checkIndex_8e157 17 = .ok (.ireturn, 1) := by decide +kernel
theorem dL_load_0 : decode cL_load 0 = .ok (.aload_n 2, 1) := by decide +kernel
theorem dL_load_1 : decode cL_load 1 = .ok (.iconst 0, 1) := by decide +kernel
theorem dL_load_2 : decode cL_load 2 = .ok (.aload_n 0, 1) := by decide +kernel
theorem dL_load_3 : decode cL_load 3 = .ok (.iload_n 1, 1) := by decide +kernel
theorem dL_load_4 : decode cL_load 4 = .ok (.invokevirtual 7, 3) := by decide +kernel
theorem dL_load_7 : decode cL_load 7 = .ok (.i2l, 1) := by decide +kernel
theorem dL_load_8 : decode cL_load 8 = .ok (.lastore, 1) := by decide +kernel
theorem dL_load_9 : decode cL_load 9 = .ok (.goto 6, 3) := by decide +kernel
theorem dL_load_12 : decode cL_load 12 = .ok (.astore_n 3, 1) := by decide +kernel
theorem dL_load_13 : decode cL_load 13 = .ok (.iconst 1, 1) := by decide +kernel
theorem dL_load_14 : decode cL_load 14 = .ok (.ireturn, 1) := by decide +kernel
theorem dL_load_15 : decode cL_load 15 = .ok (.iconst 0, 1) := by decide +kernel
theorem dL_load_16 : decode cL_load 16 = .ok (.ireturn, 1) := by decide +kernel
theorem dL_colour_0 : decode cL_colour 0 = .ok (.aload_n 3, 1) := by decide +kernel
theorem dL_colour_1 : decode cL_colour 1 = .ok (.iconst 0, 1) := by decide +kernel
theorem dL_colour_2 : decode cL_colour 2 = .ok (.aload_n 0, 1) := by decide +kernel
theorem dL_colour_3 : decode cL_colour 3 = .ok (.iload_n 1, 1) := by decide +kernel
theorem dL_colour_4 : decode cL_colour 4 = .ok (.iload_n 2, 1) := by decide +kernel
theorem dL_colour_5 : decode cL_colour 5 = .ok (.invokevirtual 15, 3) := by decide +kernel
theorem dL_colour_8 : decode cL_colour 8 = .ok (.i2l, 1) := by decide +kernel
theorem dL_colour_9 : decode cL_colour 9 = .ok (.lastore, 1) := by decide +kernel
theorem dL_colour_10 : decode cL_colour 10 = .ok (.goto 7, 3) := by decide +kernel
theorem dL_colour_13 : decode cL_colour 13 = .ok (.astore 4, 2) := by decide +kernel
theorem dL_colour_15 : decode cL_colour 15 = .ok (.iconst 1, 1) := by decide +kernel
theorem dL_colour_16 : decode cL_colour 16 = .ok (.ireturn, 1) := by decide +kernel
theorem dL_colour_17 : decode cL_colour 17 = .ok (.iconst 0, 1) := by decide +kernel
theorem dL_colour_18 : decode cL_colour 18 = .ok (.ireturn, 1) := by decide +kernel
theorem dL_isFixed_0 : decode cL_isFixed 0 = .ok (.aload_n 2, 1) := by decide +kernel
theorem dL_isFixed_1 : decode cL_isFixed 1 = .ok (.iconst 0, 1) := by decide +kernel
theorem dL_isFixed_2 : decode cL_isFixed 2 = .ok (.aload_n 0, 1) := by decide +kernel
theorem dL_isFixed_3 : decode cL_isFixed 3 = .ok (.iload_n 1, 1) := by decide +kernel
theorem dL_isFixed_4 : decode cL_isFixed 4 = .ok (.invokevirtual 21, 3) := by decide +kernel
theorem dL_isFixed_7 : decode cL_isFixed 7 = .ok (.ifCond .eq 7, 3) := by decide +kernel
theorem dL_isFixed_10 : decode cL_isFixed 10 = .ok (.lconst 1, 1) := by decide +kernel
theorem dL_isFixed_11 : decode cL_isFixed 11 = .ok (.goto 4, 3) := by decide +kernel
theorem dL_isFixed_14 : decode cL_isFixed 14 = .ok (.lconst 0, 1) := by decide +kernel
theorem dL_isFixed_15 : decode cL_isFixed 15 = .ok (.lastore, 1) := by decide +kernel
theorem dL_isFixed_16 : decode cL_isFixed 16 = .ok (.goto 6, 3) := by decide +kernel
theorem dL_isFixed_19 : decode cL_isFixed 19 = .ok (.astore_n 3, 1) := by decide +kernel
theorem dL_isFixed_20 : decode cL_isFixed 20 = .ok (.iconst 1, 1) := by decide +kernel
theorem dL_isFixed_21 : decode cL_isFixed 21 = .ok (.ireturn, 1) := by decide +kernel
theorem dL_isFixed_22 : decode cL_isFixed 22 = .ok (.iconst 0, 1) := by decide +kernel
theorem dL_isFixed_23 : decode cL_isFixed 23 = .ok (.ireturn, 1) := by decide +kernel
theorem dL_luminance_0 : decode cL_luminance 0 = .ok (.aload_n 3, 1) := by decide +kernel
theorem dL_luminance_1 : decode cL_luminance 1 = .ok (.iconst 0, 1) := by decide +kernel
theorem dL_luminance_2 : decode cL_luminance 2 = .ok (.aload_n 0, 1) := by decide +kernel
theorem dL_luminance_3 : decode cL_luminance 3 = .ok (.iload_n 1, 1) := by decide +kernel
theorem dL_luminance_4 : decode cL_luminance 4 = .ok (.iload_n 2, 1) := by decide +kernel
theorem dL_luminance_5 : decode cL_luminance 5 = .ok (.invokevirtual 25, 3) := by decide +kernel
theorem dL_luminance_8 : decode cL_luminance 8 = .ok (.i2l, 1) := by decide +kernel
theorem dL_luminance_9 : decode cL_luminance 9 = .ok (.lastore, 1) := by decide +kernel
theorem dL_luminance_10 : decode cL_luminance 10 = .ok (.goto 7, 3) := by decide +kernel
theorem dL_luminance_13 : decode cL_luminance 13 = .ok (.astore 4, 2) := by decide +kernel
theorem dL_luminance_15 : decode cL_luminance 15 = .ok (.iconst 1, 1) := by decide +kernel
theorem dL_luminance_16 : decode cL_luminance 16 = .ok (.ireturn, 1) := by decide +kernel
theorem dL_luminance_17 : decode cL_luminance 17 = .ok (.iconst 0, 1) := by decide +kernel
theorem dL_luminance_18 : decode cL_luminance 18 = .ok (.ireturn, 1) := by decide +kernel
theorem dL_contrast_0 : decode cL_contrast 0 = .ok (.aload 4, 2) := by decide +kernel
theorem dL_contrast_2 : decode cL_contrast 2 = .ok (.iconst 0, 1) := by decide +kernel
theorem dL_contrast_3 : decode cL_contrast 3 = .ok (.aload_n 0, 1) := by decide +kernel
theorem dL_contrast_4 : decode cL_contrast 4 = .ok (.iload_n 1, 1) := by decide +kernel
theorem dL_contrast_5 : decode cL_contrast 5 = .ok (.iload_n 2, 1) := by decide +kernel
theorem dL_contrast_6 : decode cL_contrast 6 = .ok (.iload_n 3, 1) := by decide +kernel
theorem dL_contrast_7 : decode cL_contrast 7 = .ok (.invokevirtual 28, 3) := by decide +kernel
theorem dL_contrast_10 : decode cL_contrast 10 = .ok (.i2l, 1) := by decide +kernel
theorem dL_contrast_11 : decode cL_contrast 11 = .ok (.lastore, 1) := by decide +kernel
theorem dL_contrast_12 : decode cL_contrast 12 = .ok (.goto 7, 3) := by decide +kernel
theorem dL_contrast_15 : decode cL_contrast 15 = .ok (.astore 5, 2) := by decide +kernel
theorem dL_contrast_17 : decode cL_contrast 17 = .ok (.iconst 1, 1) := by decide +kernel
theorem dL_contrast_18 : decode cL_contrast 18 = .ok (.ireturn, 1) := by decide +kernel
theorem dL_contrast_19 : decode cL_contrast 19 = .ok (.iconst 0, 1) := by decide +kernel
theorem dL_contrast_20 : decode cL_contrast 20 = .ok (.ireturn, 1) := by decide +kernel
theorem dL_seen_0 : decode cL_seen 0 = .ok (.aload 4, 2) := by decide +kernel
theorem dL_seen_2 : decode cL_seen 2 = .ok (.iconst 0, 1) := by decide +kernel
theorem dL_seen_3 : decode cL_seen 3 = .ok (.aload_n 0, 1) := by decide +kernel
theorem dL_seen_4 : decode cL_seen 4 = .ok (.iload_n 1, 1) := by decide +kernel
theorem dL_seen_5 : decode cL_seen 5 = .ok (.iload_n 2, 1) := by decide +kernel
theorem dL_seen_6 : decode cL_seen 6 = .ok (.iload_n 3, 1) := by decide +kernel
theorem dL_seen_7 : decode cL_seen 7 = .ok (.invokevirtual 32, 3) := by decide +kernel
theorem dL_seen_10 : decode cL_seen 10 = .ok (.i2l, 1) := by decide +kernel
theorem dL_seen_11 : decode cL_seen 11 = .ok (.lastore, 1) := by decide +kernel
theorem dL_seen_12 : decode cL_seen 12 = .ok (.goto 11, 3) := by decide +kernel
theorem dL_seen_15 : decode cL_seen 15 = .ok (.astore 5, 2) := by decide +kernel
theorem dL_seen_17 : decode cL_seen 17 = .ok (.iconst 1, 1) := by decide +kernel
theorem dL_seen_18 : decode cL_seen 18 = .ok (.ireturn, 1) := by decide +kernel
theorem dL_seen_19 : decode cL_seen 19 = .ok (.astore 5, 2) := by decide +kernel
theorem dL_seen_21 : decode cL_seen 21 = .ok (.iconst 2, 1) := by decide +kernel
theorem dL_seen_22 : decode cL_seen 22 = .ok (.ireturn, 1) := by decide +kernel
theorem dL_seen_23 : decode cL_seen 23 = .ok (.iconst 0, 1) := by decide +kernel
theorem dL_seen_24 : decode cL_seen 24 = .ok (.ireturn, 1) := by decide +kernel
theorem dL_difference_0 : decode cL_difference 0 = .ok (.aload 5, 2) := by decide +kernel
theorem dL_difference_2 : decode cL_difference 2 = .ok (.iconst 0, 1) := by decide +kernel
theorem dL_difference_3 : decode cL_difference 3 = .ok (.aload_n 0, 1) := by decide +kernel
theorem dL_difference_4 : decode cL_difference 4 = .ok (.iload_n 1, 1) := by decide +kernel
theorem dL_difference_5 : decode cL_difference 5 = .ok (.iload_n 2, 1) := by decide +kernel
theorem dL_difference_6 : decode cL_difference 6 = .ok (.iload_n 3, 1) := by decide +kernel
theorem dL_difference_7 : decode cL_difference 7 = .ok (.iload 4, 2) := by decide +kernel
theorem dL_difference_9 : decode cL_difference 9 = .ok (.invokevirtual 35, 3) := by decide +kernel
theorem dL_difference_12 : decode cL_difference 12 = .ok (.i2l, 1) := by decide +kernel
theorem dL_difference_13 : decode cL_difference 13 = .ok (.lastore, 1) := by decide +kernel
theorem dL_difference_14 : decode cL_difference 14 = .ok (.goto 11, 3) := by decide +kernel
theorem dL_difference_17 : decode cL_difference 17 = .ok (.astore 6, 2) := by decide +kernel
theorem dL_difference_19 : decode cL_difference 19 = .ok (.iconst 1, 1) := by decide +kernel
theorem dL_difference_20 : decode cL_difference 20 = .ok (.ireturn, 1) := by decide +kernel
theorem dL_difference_21 : decode cL_difference 21 = .ok (.astore 6, 2) := by decide +kernel
theorem dL_difference_23 : decode cL_difference 23 = .ok (.iconst 2, 1) := by decide +kernel
theorem dL_difference_24 : decode cL_difference 24 = .ok (.ireturn, 1) := by decide +kernel
theorem dL_difference_25 : decode cL_difference 25 = .ok (.iconst 0, 1) := by decide +kernel
theorem dL_difference_26 : decode cL_difference 26 = .ok (.ireturn, 1) := by decide +kernel
theorem dL_nearest_0 : decode cL_nearest 0 = .ok (.aload_n 3, 1) := by decide +kernel
theorem dL_nearest_1 : decode cL_nearest 1 = .ok (.iconst 0, 1) := by decide +kernel
theorem dL_nearest_2 : decode cL_nearest 2 = .ok (.aload_n 0, 1) := by decide +kernel
theorem dL_nearest_3 : decode cL_nearest 3 = .ok (.iload_n 1, 1) := by decide +kernel
theorem dL_nearest_4 : decode cL_nearest 4 = .ok (.iload_n 2, 1) := by decide +kernel
theorem dL_nearest_5 : decode cL_nearest 5 = .ok (.invokevirtual 39, 3) := by decide +kernel
theorem dL_nearest_8 : decode cL_nearest 8 = .ok (.i2l, 1) := by decide +kernel
theorem dL_nearest_9 : decode cL_nearest 9 = .ok (.lastore, 1) := by decide +kernel
theorem dL_nearest_10 : decode cL_nearest 10 = .ok (.goto 11, 3) := by decide +kernel
theorem dL_nearest_13 : decode cL_nearest 13 = .ok (.astore 4, 2) := by decide +kernel
theorem dL_nearest_15 : decode cL_nearest 15 = .ok (.iconst 1, 1) := by decide +kernel
theorem dL_nearest_16 : decode cL_nearest 16 = .ok (.ireturn, 1) := by decide +kernel
theorem dL_nearest_17 : decode cL_nearest 17 = .ok (.astore 4, 2) := by decide +kernel
theorem dL_nearest_19 : decode cL_nearest 19 = .ok (.iconst 2, 1) := by decide +kernel
theorem dL_nearest_20 : decode cL_nearest 20 = .ok (.ireturn, 1) := by decide +kernel
theorem dL_nearest_21 : decode cL_nearest 21 = .ok (.iconst 0, 1) := by decide +kernel
theorem dL_nearest_22 : decode cL_nearest 22 = .ok (.ireturn, 1) := by decide +kernel
theorem dL_need_0 : decode cL_need 0 = .ok (.aload_n 3, 1) := by decide +kernel
theorem dL_need_1 : decode cL_need 1 = .ok (.iconst 0, 1) := by decide +kernel
theorem dL_need_2 : decode cL_need 2 = .ok (.aload_n 0, 1) := by decide +kernel
theorem dL_need_3 : decode cL_need 3 = .ok (.iload_n 1, 1) := by decide +kernel
theorem dL_need_4 : decode cL_need 4 = .ok (.iload_n 2, 1) := by decide +kernel
theorem dL_need_5 : decode cL_need 5 = .ok (.invokevirtual 42, 3) := by decide +kernel
theorem dL_need_8 : decode cL_need 8 = .ok (.i2l, 1) := by decide +kernel
theorem dL_need_9 : decode cL_need 9 = .ok (.lastore, 1) := by decide +kernel
theorem dL_need_10 : decode cL_need 10 = .ok (.goto 7, 3) := by decide +kernel
theorem dL_need_13 : decode cL_need 13 = .ok (.astore 4, 2) := by decide +kernel
theorem dL_need_15 : decode cL_need 15 = .ok (.iconst 1, 1) := by decide +kernel
theorem dL_need_16 : decode cL_need 16 = .ok (.ireturn, 1) := by decide +kernel
theorem dL_need_17 : decode cL_need 17 = .ok (.iconst 0, 1) := by decide +kernel
theorem dL_need_18 : decode cL_need 18 = .ok (.ireturn, 1) := by decide +kernel
theorem dL_value_0 : decode cL_value 0 = .ok (.aload_n 3, 1) := by decide +kernel
theorem dL_value_1 : decode cL_value 1 = .ok (.iconst 0, 1) := by decide +kernel
theorem dL_value_2 : decode cL_value 2 = .ok (.aload_n 0, 1) := by decide +kernel
theorem dL_value_3 : decode cL_value 3 = .ok (.iload_n 1, 1) := by decide +kernel
theorem dL_value_4 : decode cL_value 4 = .ok (.iload_n 2, 1) := by decide +kernel
theorem dL_value_5 : decode cL_value 5 = .ok (.invokevirtual 45, 3) := by decide +kernel
theorem dL_value_8 : decode cL_value 8 = .ok (.i2l, 1) := by decide +kernel
theorem dL_value_9 : decode cL_value 9 = .ok (.lastore, 1) := by decide +kernel
theorem dL_value_10 : decode cL_value 10 = .ok (.goto 7, 3) := by decide +kernel
theorem dL_value_13 : decode cL_value 13 = .ok (.astore 4, 2) := by decide +kernel
theorem dL_value_15 : decode cL_value 15 = .ok (.iconst 1, 1) := by decide +kernel
theorem dL_value_16 : decode cL_value 16 = .ok (.ireturn, 1) := by decide +kernel
theorem dL_value_17 : decode cL_value 17 = .ok (.iconst 0, 1) := by decide +kernel
theorem dL_value_18 : decode cL_value 18 = .ok (.ireturn, 1) := by decide +kernel
theorem dL_violation_0 : decode cL_violation 0 = .ok (.aload_n 2, 1) := by decide +kernel
theorem dL_violation_1 : decode cL_violation 1 = .ok (.iconst 0, 1) := by decide +kernel
theorem dL_violation_2 : decode cL_violation 2 = .ok (.aload_n 0, 1) := by decide +kernel
theorem dL_violation_3 : decode cL_violation 3 = .ok (.iload_n 1, 1) := by decide +kernel
theorem dL_violation_4 : decode cL_violation 4 = .ok (.invokevirtual 48, 3) := by decide +kernel
theorem dL_violation_7 : decode cL_violation 7 = .ok (.i2l, 1) := by decide +kernel
theorem dL_violation_8 : decode cL_violation 8 = .ok (.lastore, 1) := by decide +kernel
theorem dL_violation_9 : decode cL_violation 9 = .ok (.goto 6, 3) := by decide +kernel
theorem dL_violation_12 : decode cL_violation 12 = .ok (.astore_n 3, 1) := by decide +kernel
theorem dL_violation_13 : decode cL_violation 13 = .ok (.iconst 1, 1) := by decide +kernel
theorem dL_violation_14 : decode cL_violation 14 = .ok (.ireturn, 1) := by decide +kernel
theorem dL_violation_15 : decode cL_violation 15 = .ok (.iconst 0, 1) := by decide +kernel
theorem dL_violation_16 : decode cL_violation 16 = .ok (.ireturn, 1) := by decide +kernel
theorem dL_smallestMargin_0 : decode cL_smallestMargin 0 = .ok (.aload_n 2, 1) := by decide +kernel
theorem dL_smallestMargin_1 : decode cL_smallestMargin 1 = .ok (.iconst 0, 1) := by decide +kernel
theorem dL_smallestMargin_2 : decode cL_smallestMargin 2 = .ok (.aload_n 0, 1) := by decide +kernel
theorem dL_smallestMargin_3 : decode cL_smallestMargin 3 = .ok (.iload_n 1, 1) := by decide +kernel
theorem dL_smallestMargin_4 : decode cL_smallestMargin 4 = .ok (.invokevirtual 53, 3) := by decide +kernel
theorem dL_smallestMargin_7 : decode cL_smallestMargin 7 = .ok (.i2l, 1) := by decide +kernel
theorem dL_smallestMargin_8 : decode cL_smallestMargin 8 = .ok (.lastore, 1) := by decide +kernel
theorem dL_smallestMargin_9 : decode cL_smallestMargin 9 = .ok (.goto 6, 3) := by decide +kernel
theorem dL_smallestMargin_12 : decode cL_smallestMargin 12 = .ok (.astore_n 3, 1) := by decide +kernel
theorem dL_smallestMargin_13 : decode cL_smallestMargin 13 = .ok (.iconst 1, 1) := by decide +kernel
theorem dL_smallestMargin_14 : decode cL_smallestMargin 14 = .ok (.ireturn, 1) := by decide +kernel
theorem dL_smallestMargin_15 : decode cL_smallestMargin 15 = .ok (.iconst 0, 1) := by decide +kernel
theorem dL_smallestMargin_16 : decode cL_smallestMargin 16 = .ok (.ireturn, 1) := by decide +kernel
theorem dL_bestShift_0 : decode cL_bestShift 0 = .ok (.aload_n 3, 1) := by decide +kernel
theorem dL_bestShift_1 : decode cL_bestShift 1 = .ok (.iconst 0, 1) := by decide +kernel
theorem dL_bestShift_2 : decode cL_bestShift 2 = .ok (.aload_n 0, 1) := by decide +kernel
theorem dL_bestShift_3 : decode cL_bestShift 3 = .ok (.iload_n 1, 1) := by decide +kernel
theorem dL_bestShift_4 : decode cL_bestShift 4 = .ok (.iload_n 2, 1) := by decide +kernel
theorem dL_bestShift_5 : decode cL_bestShift 5 = .ok (.invokevirtual 56, 3) := by decide +kernel
theorem dL_bestShift_8 : decode cL_bestShift 8 = .ok (.i2l, 1) := by decide +kernel
theorem dL_bestShift_9 : decode cL_bestShift 9 = .ok (.lastore, 1) := by decide +kernel
theorem dL_bestShift_10 : decode cL_bestShift 10 = .ok (.goto 7, 3) := by decide +kernel
theorem dL_bestShift_13 : decode cL_bestShift 13 = .ok (.astore 4, 2) := by decide +kernel
theorem dL_bestShift_15 : decode cL_bestShift 15 = .ok (.iconst 1, 1) := by decide +kernel
theorem dL_bestShift_16 : decode cL_bestShift 16 = .ok (.ireturn, 1) := by decide +kernel
theorem dL_bestShift_17 : decode cL_bestShift 17 = .ok (.iconst 0, 1) := by decide +kernel
theorem dL_bestShift_18 : decode cL_bestShift 18 = .ok (.ireturn, 1) := by decide +kernel
theorem dL_shiftRole_0 : decode cL_shiftRole 0 = .ok (.aload_n 3, 1) := by decide +kernel
theorem dL_shiftRole_1 : decode cL_shiftRole 1 = .ok (.iconst 0, 1) := by decide +kernel
theorem dL_shiftRole_2 : decode cL_shiftRole 2 = .ok (.aload_n 0, 1) := by decide +kernel
theorem dL_shiftRole_3 : decode cL_shiftRole 3 = .ok (.iload_n 1, 1) := by decide +kernel
theorem dL_shiftRole_4 : decode cL_shiftRole 4 = .ok (.iload_n 2, 1) := by decide +kernel
theorem dL_shiftRole_5 : decode cL_shiftRole 5 = .ok (.invokevirtual 59, 3) := by decide +kernel
theorem dL_shiftRole_8 : decode cL_shiftRole 8 = .ok (.i2l, 1) := by decide +kernel
theorem dL_shiftRole_9 : decode cL_shiftRole 9 = .ok (.lastore, 1) := by decide +kernel
theorem dL_shiftRole_10 : decode cL_shiftRole 10 = .ok (.goto 7, 3) := by decide +kernel
theorem dL_shiftRole_13 : decode cL_shiftRole 13 = .ok (.astore 4, 2) := by decide +kernel
theorem dL_shiftRole_15 : decode cL_shiftRole 15 = .ok (.iconst 1, 1) := by decide +kernel
theorem dL_shiftRole_16 : decode cL_shiftRole 16 = .ok (.ireturn, 1) := by decide +kernel
theorem dL_shiftRole_17 : decode cL_shiftRole 17 = .ok (.iconst 0, 1) := by decide +kernel
theorem dL_shiftRole_18 : decode cL_shiftRole 18 = .ok (.ireturn, 1) := by decide +kernel
theorem dL_setColour_0 : decode cL_setColour 0 = .ok (.aload 4, 2) := by decide +kernel
theorem dL_setColour_2 : decode cL_setColour 2 = .ok (.iconst 0, 1) := by decide +kernel
theorem dL_setColour_3 : decode cL_setColour 3 = .ok (.aload_n 0, 1) := by decide +kernel
theorem dL_setColour_4 : decode cL_setColour 4 = .ok (.iload_n 1, 1) := by decide +kernel
theorem dL_setColour_5 : decode cL_setColour 5 = .ok (.iload_n 2, 1) := by decide +kernel
theorem dL_setColour_6 : decode cL_setColour 6 = .ok (.iload_n 3, 1) := by decide +kernel
theorem dL_setColour_7 : decode cL_setColour 7 = .ok (.invokevirtual 62, 3) := by decide +kernel
theorem dL_setColour_10 : decode cL_setColour 10 = .ok (.i2l, 1) := by decide +kernel
theorem dL_setColour_11 : decode cL_setColour 11 = .ok (.lastore, 1) := by decide +kernel
theorem dL_setColour_12 : decode cL_setColour 12 = .ok (.goto 11, 3) := by decide +kernel
theorem dL_setColour_15 : decode cL_setColour 15 = .ok (.astore 5, 2) := by decide +kernel
theorem dL_setColour_17 : decode cL_setColour 17 = .ok (.iconst 1, 1) := by decide +kernel
theorem dL_setColour_18 : decode cL_setColour 18 = .ok (.ireturn, 1) := by decide +kernel
theorem dL_setColour_19 : decode cL_setColour 19 = .ok (.astore 5, 2) := by decide +kernel
theorem dL_setColour_21 : decode cL_setColour 21 = .ok (.iconst 2, 1) := by decide +kernel
theorem dL_setColour_22 : decode cL_setColour 22 = .ok (.ireturn, 1) := by decide +kernel
theorem dL_setColour_23 : decode cL_setColour 23 = .ok (.iconst 0, 1) := by decide +kernel
theorem dL_setColour_24 : decode cL_setColour 24 = .ok (.ireturn, 1) := by decide +kernel
theorem dL_setFixed_0 : decode cL_setFixed 0 = .ok (.aload_n 3, 1) := by decide +kernel
theorem dL_setFixed_1 : decode cL_setFixed 1 = .ok (.iconst 0, 1) := by decide +kernel
theorem dL_setFixed_2 : decode cL_setFixed 2 = .ok (.aload_n 0, 1) := by decide +kernel
theorem dL_setFixed_3 : decode cL_setFixed 3 = .ok (.iload_n 1, 1) := by decide +kernel
theorem dL_setFixed_4 : decode cL_setFixed 4 = .ok (.iload_n 2, 1) := by decide +kernel
theorem dL_setFixed_5 : decode cL_setFixed 5 = .ok (.invokevirtual 65, 3) := by decide +kernel
theorem dL_setFixed_8 : decode cL_setFixed 8 = .ok (.ifCond .eq 7, 3) := by decide +kernel
theorem dL_setFixed_11 : decode cL_setFixed 11 = .ok (.lconst 1, 1) := by decide +kernel
theorem dL_setFixed_12 : decode cL_setFixed 12 = .ok (.goto 4, 3) := by decide +kernel
theorem dL_setFixed_15 : decode cL_setFixed 15 = .ok (.lconst 0, 1) := by decide +kernel
theorem dL_setFixed_16 : decode cL_setFixed 16 = .ok (.lastore, 1) := by decide +kernel
theorem dL_setFixed_17 : decode cL_setFixed 17 = .ok (.goto 7, 3) := by decide +kernel
theorem dL_setFixed_20 : decode cL_setFixed 20 = .ok (.astore 4, 2) := by decide +kernel
theorem dL_setFixed_22 : decode cL_setFixed 22 = .ok (.iconst 1, 1) := by decide +kernel
theorem dL_setFixed_23 : decode cL_setFixed 23 = .ok (.ireturn, 1) := by decide +kernel
theorem dL_setFixed_24 : decode cL_setFixed 24 = .ok (.iconst 0, 1) := by decide +kernel
theorem dL_setFixed_25 : decode cL_setFixed 25 = .ok (.ireturn, 1) := by decide +kernel
theorem dL_shift_0 : decode cL_shift 0 = .ok (.aload 4, 2) := by decide +kernel
theorem dL_shift_2 : decode cL_shift 2 = .ok (.iconst 0, 1) := by decide +kernel
theorem dL_shift_3 : decode cL_shift 3 = .ok (.aload_n 0, 1) := by decide +kernel
theorem dL_shift_4 : decode cL_shift 4 = .ok (.iload_n 1, 1) := by decide +kernel
theorem dL_shift_5 : decode cL_shift 5 = .ok (.iload_n 2, 1) := by decide +kernel
theorem dL_shift_6 : decode cL_shift 6 = .ok (.iload_n 3, 1) := by decide +kernel
theorem dL_shift_7 : decode cL_shift 7 = .ok (.invokevirtual 69, 3) := by decide +kernel
theorem dL_shift_10 : decode cL_shift 10 = .ok (.i2l, 1) := by decide +kernel
theorem dL_shift_11 : decode cL_shift 11 = .ok (.lastore, 1) := by decide +kernel
theorem dL_shift_12 : decode cL_shift 12 = .ok (.goto 15, 3) := by decide +kernel
theorem dL_shift_15 : decode cL_shift 15 = .ok (.astore 5, 2) := by decide +kernel
theorem dL_shift_17 : decode cL_shift 17 = .ok (.iconst 1, 1) := by decide +kernel
theorem dL_shift_18 : decode cL_shift 18 = .ok (.ireturn, 1) := by decide +kernel
theorem dL_shift_19 : decode cL_shift 19 = .ok (.astore 5, 2) := by decide +kernel
theorem dL_shift_21 : decode cL_shift 21 = .ok (.iconst 2, 1) := by decide +kernel
theorem dL_shift_22 : decode cL_shift 22 = .ok (.ireturn, 1) := by decide +kernel
theorem dL_shift_23 : decode cL_shift 23 = .ok (.astore 5, 2) := by decide +kernel
theorem dL_shift_25 : decode cL_shift 25 = .ok (.iconst 3, 1) := by decide +kernel
theorem dL_shift_26 : decode cL_shift 26 = .ok (.ireturn, 1) := by decide +kernel
theorem dL_shift_27 : decode cL_shift 27 = .ok (.iconst 0, 1) := by decide +kernel
theorem dL_shift_28 : decode cL_shift 28 = .ok (.ireturn, 1) := by decide +kernel
theorem dL_repair_0 : decode cL_repair 0 = .ok (.aload_n 2, 1) := by decide +kernel
theorem dL_repair_1 : decode cL_repair 1 = .ok (.iconst 0, 1) := by decide +kernel
theorem dL_repair_2 : decode cL_repair 2 = .ok (.aload_n 0, 1) := by decide +kernel
theorem dL_repair_3 : decode cL_repair 3 = .ok (.iload_n 1, 1) := by decide +kernel
theorem dL_repair_4 : decode cL_repair 4 = .ok (.invokevirtual 74, 3) := by decide +kernel
theorem dL_repair_7 : decode cL_repair 7 = .ok (.i2l, 1) := by decide +kernel
theorem dL_repair_8 : decode cL_repair 8 = .ok (.lastore, 1) := by decide +kernel
theorem dL_repair_9 : decode cL_repair 9 = .ok (.goto 6, 3) := by decide +kernel
theorem dL_repair_12 : decode cL_repair 12 = .ok (.astore_n 3, 1) := by decide +kernel
theorem dL_repair_13 : decode cL_repair 13 = .ok (.iconst 1, 1) := by decide +kernel
theorem dL_repair_14 : decode cL_repair 14 = .ok (.ireturn, 1) := by decide +kernel
theorem dL_repair_15 : decode cL_repair 15 = .ok (.iconst 0, 1) := by decide +kernel
theorem dL_repair_16 : decode cL_repair 16 = .ok (.ireturn, 1) := by decide +kernel
theorem dL_law_0 : decode cL_law 0 = .ok (.new 8, 3) := by decide +kernel
theorem dL_law_3 : decode cL_law 3 = .ok (.dup, 1) := by decide +kernel
theorem dL_law_4 : decode cL_law 4 = .ok (.invokespecial 77, 3) := by decide +kernel
theorem dL_law_7 : decode cL_law 7 = .ok (.astore_n 1, 1) := by decide +kernel
theorem dL_law_8 : decode cL_law 8 = .ok (.new 78, 3) := by decide +kernel
theorem dL_law_11 : decode cL_law 11 = .ok (.dup, 1) := by decide +kernel
theorem dL_law_12 : decode cL_law 12 = .ok (.invokespecial 80, 3) := by decide +kernel
theorem dL_law_15 : decode cL_law 15 = .ok (.astore_n 2, 1) := by decide +kernel
theorem dL_law_16 : decode cL_law 16 = .ok (.iconst 1, 1) := by decide +kernel
theorem dL_law_17 : decode cL_law 17 = .ok (.newarray .long, 2) := by decide +kernel
theorem dL_law_19 : decode cL_law 19 = .ok (.astore_n 3, 1) := by decide +kernel
theorem dL_law_20 : decode cL_law 20 = .ok (.iconst 0, 1) := by decide +kernel
theorem dL_law_21 : decode cL_law 21 = .ok (.istore 4, 2) := by decide +kernel
theorem dL_law_23 : decode cL_law 23 = .ok (.iload 4, 2) := by decide +kernel
theorem dL_law_25 : decode cL_law 25 = .ok (.aload_n 0, 1) := by decide +kernel
theorem dL_law_26 : decode cL_law 26 = .ok (.arraylength, 1) := by decide +kernel
theorem dL_law_27 : decode cL_law 27 = .ok (.bipush 6, 2) := by decide +kernel
theorem dL_law_29 : decode cL_law 29 = .ok (.isub, 1) := by decide +kernel
theorem dL_law_30 : decode cL_law 30 = .ok (.if_icmp .gt 1567, 3) := by decide +kernel
theorem dL_law_33 : decode cL_law 33 = .ok (.aload_n 0, 1) := by decide +kernel
theorem dL_law_34 : decode cL_law 34 = .ok (.iload 4, 2) := by decide +kernel
theorem dL_law_36 : decode cL_law 36 = .ok (.iaload, 1) := by decide +kernel
theorem dL_law_37 : decode cL_law 37 = .ok (.bipush 31, 2) := by decide +kernel
theorem dL_law_39 : decode cL_law 39 = .ok (.iand, 1) := by decide +kernel
theorem dL_law_40 : decode cL_law 40 = .ok (.tableswitch 1551 0 25 #[120, 193, 249, 262, 275, 288, 356, 419, 487, 567, 647, 739, 807, 875, 943, 956, 1012, 1068, 1136, 1204, 1284, 1375, 1455, 1511, 1524, 1537], 120) := by decide +kernel
theorem dL_law_160 : decode cL_law 160 = .ok (.aload_n 1, 1) := by decide +kernel
theorem dL_law_161 : decode cL_law 161 = .ok (.aload_n 0, 1) := by decide +kernel
theorem dL_law_162 : decode cL_law 162 = .ok (.iload 4, 2) := by decide +kernel
theorem dL_law_164 : decode cL_law 164 = .ok (.iconst 1, 1) := by decide +kernel
theorem dL_law_165 : decode cL_law 165 = .ok (.iadd, 1) := by decide +kernel
theorem dL_law_166 : decode cL_law 166 = .ok (.iaload, 1) := by decide +kernel
theorem dL_law_167 : decode cL_law 167 = .ok (.aload_n 0, 1) := by decide +kernel
theorem dL_law_168 : decode cL_law 168 = .ok (.iload 4, 2) := by decide +kernel
theorem dL_law_170 : decode cL_law 170 = .ok (.iconst 2, 1) := by decide +kernel
theorem dL_law_171 : decode cL_law 171 = .ok (.iadd, 1) := by decide +kernel
theorem dL_law_172 : decode cL_law 172 = .ok (.iaload, 1) := by decide +kernel
theorem dL_law_173 : decode cL_law 173 = .ok (.aload_n 0, 1) := by decide +kernel
theorem dL_law_174 : decode cL_law 174 = .ok (.iload 4, 2) := by decide +kernel
theorem dL_law_176 : decode cL_law 176 = .ok (.iconst 3, 1) := by decide +kernel
theorem dL_law_177 : decode cL_law 177 = .ok (.iadd, 1) := by decide +kernel
theorem dL_law_178 : decode cL_law 178 = .ok (.iaload, 1) := by decide +kernel
theorem dL_law_179 : decode cL_law 179 = .ok (.aload_n 0, 1) := by decide +kernel
theorem dL_law_180 : decode cL_law 180 = .ok (.iload 4, 2) := by decide +kernel
theorem dL_law_182 : decode cL_law 182 = .ok (.iconst 4, 1) := by decide +kernel
theorem dL_law_183 : decode cL_law 183 = .ok (.iadd, 1) := by decide +kernel
theorem dL_law_184 : decode cL_law 184 = .ok (.iaload, 1) := by decide +kernel
theorem dL_law_185 : decode cL_law 185 = .ok (.aload_n 0, 1) := by decide +kernel
theorem dL_law_186 : decode cL_law 186 = .ok (.iload 4, 2) := by decide +kernel
theorem dL_law_188 : decode cL_law 188 = .ok (.iconst 5, 1) := by decide +kernel
theorem dL_law_189 : decode cL_law 189 = .ok (.iadd, 1) := by decide +kernel
theorem dL_law_190 : decode cL_law 190 = .ok (.iaload, 1) := by decide +kernel
theorem dL_law_191 : decode cL_law 191 = .ok (.invokevirtual 81, 3) := by decide +kernel
theorem dL_law_194 : decode cL_law 194 = .ok (.aload_n 2, 1) := by decide +kernel
theorem dL_law_195 : decode cL_law 195 = .ok (.aload_n 0, 1) := by decide +kernel
theorem dL_law_196 : decode cL_law 196 = .ok (.iload 4, 2) := by decide +kernel
theorem dL_law_198 : decode cL_law 198 = .ok (.iconst 1, 1) := by decide +kernel
theorem dL_law_199 : decode cL_law 199 = .ok (.iadd, 1) := by decide +kernel
theorem dL_law_200 : decode cL_law 200 = .ok (.iaload, 1) := by decide +kernel
theorem dL_law_201 : decode cL_law 201 = .ok (.aload_n 0, 1) := by decide +kernel
theorem dL_law_202 : decode cL_law 202 = .ok (.iload 4, 2) := by decide +kernel
theorem dL_law_204 : decode cL_law 204 = .ok (.iconst 2, 1) := by decide +kernel
theorem dL_law_205 : decode cL_law 205 = .ok (.iadd, 1) := by decide +kernel
theorem dL_law_206 : decode cL_law 206 = .ok (.iaload, 1) := by decide +kernel
theorem dL_law_207 : decode cL_law 207 = .ok (.aload_n 0, 1) := by decide +kernel
theorem dL_law_208 : decode cL_law 208 = .ok (.iload 4, 2) := by decide +kernel
theorem dL_law_210 : decode cL_law 210 = .ok (.iconst 3, 1) := by decide +kernel
theorem dL_law_211 : decode cL_law 211 = .ok (.iadd, 1) := by decide +kernel
theorem dL_law_212 : decode cL_law 212 = .ok (.iaload, 1) := by decide +kernel
theorem dL_law_213 : decode cL_law 213 = .ok (.aload_n 0, 1) := by decide +kernel
theorem dL_law_214 : decode cL_law 214 = .ok (.iload 4, 2) := by decide +kernel
theorem dL_law_216 : decode cL_law 216 = .ok (.iconst 4, 1) := by decide +kernel
theorem dL_law_217 : decode cL_law 217 = .ok (.iadd, 1) := by decide +kernel
theorem dL_law_218 : decode cL_law 218 = .ok (.iaload, 1) := by decide +kernel
theorem dL_law_219 : decode cL_law 219 = .ok (.aload_n 0, 1) := by decide +kernel
theorem dL_law_220 : decode cL_law 220 = .ok (.iload 4, 2) := by decide +kernel
theorem dL_law_222 : decode cL_law 222 = .ok (.iconst 5, 1) := by decide +kernel
theorem dL_law_223 : decode cL_law 223 = .ok (.iadd, 1) := by decide +kernel
theorem dL_law_224 : decode cL_law 224 = .ok (.iaload, 1) := by decide +kernel
theorem dL_law_225 : decode cL_law 225 = .ok (.invokevirtual 85, 3) := by decide +kernel
theorem dL_law_228 : decode cL_law 228 = .ok (.if_icmp .eq 1363, 3) := by decide +kernel
theorem dL_law_231 : decode cL_law 231 = .ok (.iconst 0, 1) := by decide +kernel
theorem dL_law_232 : decode cL_law 232 = .ok (.ireturn, 1) := by decide +kernel
theorem dL_law_233 : decode cL_law 233 = .ok (.aload_n 1, 1) := by decide +kernel
theorem dL_law_234 : decode cL_law 234 = .ok (.aload_n 0, 1) := by decide +kernel
theorem dL_law_235 : decode cL_law 235 = .ok (.iload 4, 2) := by decide +kernel
theorem dL_law_237 : decode cL_law 237 = .ok (.iconst 1, 1) := by decide +kernel
theorem dL_law_238 : decode cL_law 238 = .ok (.iadd, 1) := by decide +kernel
theorem dL_law_239 : decode cL_law 239 = .ok (.iaload, 1) := by decide +kernel
theorem dL_law_240 : decode cL_law 240 = .ok (.aload_n 3, 1) := by decide +kernel
theorem dL_law_241 : decode cL_law 241 = .ok (.invokestatic 86, 3) := by decide +kernel
theorem dL_law_244 : decode cL_law 244 = .ok (.istore 5, 2) := by decide +kernel
theorem dL_law_246 : decode cL_law 246 = .ok (.aload_n 2, 1) := by decide +kernel
theorem dL_law_247 : decode cL_law 247 = .ok (.aload_n 0, 1) := by decide +kernel
theorem dL_law_248 : decode cL_law 248 = .ok (.iload 4, 2) := by decide +kernel
theorem dL_law_250 : decode cL_law 250 = .ok (.iconst 1, 1) := by decide +kernel
theorem dL_law_251 : decode cL_law 251 = .ok (.iadd, 1) := by decide +kernel
theorem dL_law_252 : decode cL_law 252 = .ok (.iaload, 1) := by decide +kernel
theorem dL_law_253 : decode cL_law 253 = .ok (.invokevirtual 91, 3) := by decide +kernel
theorem dL_law_256 : decode cL_law 256 = .ok (.istore 6, 2) := by decide +kernel
theorem dL_law_258 : decode cL_law 258 = .ok (.aload_n 2, 1) := by decide +kernel
theorem dL_law_259 : decode cL_law 259 = .ok (.invokevirtual 92, 3) := by decide +kernel
theorem dL_law_262 : decode cL_law 262 = .ok (.iload 5, 2) := by decide +kernel
theorem dL_law_264 : decode cL_law 264 = .ok (.if_icmp .eq 5, 3) := by decide +kernel
theorem dL_law_267 : decode cL_law 267 = .ok (.iconst 0, 1) := by decide +kernel
theorem dL_law_268 : decode cL_law 268 = .ok (.ireturn, 1) := by decide +kernel
theorem dL_law_269 : decode cL_law 269 = .ok (.iload 5, 2) := by decide +kernel
theorem dL_law_271 : decode cL_law 271 = .ok (.ifCond .ne 15, 3) := by decide +kernel
theorem dL_law_274 : decode cL_law 274 = .ok (.aload_n 3, 1) := by decide +kernel
theorem dL_law_275 : decode cL_law 275 = .ok (.iconst 0, 1) := by decide +kernel
theorem dL_law_276 : decode cL_law 276 = .ok (.laload, 1) := by decide +kernel
theorem dL_law_277 : decode cL_law 277 = .ok (.iload 6, 2) := by decide +kernel
theorem dL_law_279 : decode cL_law 279 = .ok (.i2l, 1) := by decide +kernel
theorem dL_law_280 : decode cL_law 280 = .ok (.lcmp, 1) := by decide +kernel
theorem dL_law_281 : decode cL_law 281 = .ok (.ifCond .eq 5, 3) := by decide +kernel
theorem dL_law_284 : decode cL_law 284 = .ok (.iconst 0, 1) := by decide +kernel
theorem dL_law_285 : decode cL_law 285 = .ok (.ireturn, 1) := by decide +kernel
theorem dL_law_286 : decode cL_law 286 = .ok (.goto 1305, 3) := by decide +kernel
theorem dL_law_289 : decode cL_law 289 = .ok (.aload_n 1, 1) := by decide +kernel
theorem dL_law_290 : decode cL_law 290 = .ok (.invokevirtual 96, 3) := by decide +kernel
theorem dL_law_293 : decode cL_law 293 = .ok (.aload_n 2, 1) := by decide +kernel
theorem dL_law_294 : decode cL_law 294 = .ok (.invokevirtual 99, 3) := by decide +kernel
theorem dL_law_297 : decode cL_law 297 = .ok (.if_icmp .eq 1294, 3) := by decide +kernel
theorem dL_law_300 : decode cL_law 300 = .ok (.iconst 0, 1) := by decide +kernel
theorem dL_law_301 : decode cL_law 301 = .ok (.ireturn, 1) := by decide +kernel
theorem dL_law_302 : decode cL_law 302 = .ok (.aload_n 1, 1) := by decide +kernel
theorem dL_law_303 : decode cL_law 303 = .ok (.invokevirtual 100, 3) := by decide +kernel
theorem dL_law_306 : decode cL_law 306 = .ok (.aload_n 2, 1) := by decide +kernel
theorem dL_law_307 : decode cL_law 307 = .ok (.invokevirtual 103, 3) := by decide +kernel
theorem dL_law_310 : decode cL_law 310 = .ok (.if_icmp .eq 1281, 3) := by decide +kernel
theorem dL_law_313 : decode cL_law 313 = .ok (.iconst 0, 1) := by decide +kernel
theorem dL_law_314 : decode cL_law 314 = .ok (.ireturn, 1) := by decide +kernel
theorem dL_law_315 : decode cL_law 315 = .ok (.aload_n 1, 1) := by decide +kernel
theorem dL_law_316 : decode cL_law 316 = .ok (.invokevirtual 104, 3) := by decide +kernel
theorem dL_law_319 : decode cL_law 319 = .ok (.aload_n 2, 1) := by decide +kernel
theorem dL_law_320 : decode cL_law 320 = .ok (.invokevirtual 107, 3) := by decide +kernel
theorem dL_law_323 : decode cL_law 323 = .ok (.if_icmp .eq 1268, 3) := by decide +kernel
theorem dL_law_326 : decode cL_law 326 = .ok (.iconst 0, 1) := by decide +kernel
theorem dL_law_327 : decode cL_law 327 = .ok (.ireturn, 1) := by decide +kernel
theorem dL_law_328 : decode cL_law 328 = .ok (.aload_n 1, 1) := by decide +kernel
theorem dL_law_329 : decode cL_law 329 = .ok (.aload_n 0, 1) := by decide +kernel
theorem dL_law_330 : decode cL_law 330 = .ok (.iload 4, 2) := by decide +kernel
theorem dL_law_332 : decode cL_law 332 = .ok (.iconst 1, 1) := by decide +kernel
theorem dL_law_333 : decode cL_law 333 = .ok (.iadd, 1) := by decide +kernel
theorem dL_law_334 : decode cL_law 334 = .ok (.iaload, 1) := by decide +kernel
theorem dL_law_335 : decode cL_law 335 = .ok (.aload_n 0, 1) := by decide +kernel
theorem dL_law_336 : decode cL_law 336 = .ok (.iload 4, 2) := by decide +kernel
theorem dL_law_338 : decode cL_law 338 = .ok (.iconst 2, 1) := by decide +kernel
theorem dL_law_339 : decode cL_law 339 = .ok (.iadd, 1) := by decide +kernel
theorem dL_law_340 : decode cL_law 340 = .ok (.iaload, 1) := by decide +kernel
theorem dL_law_341 : decode cL_law 341 = .ok (.aload_n 3, 1) := by decide +kernel
theorem dL_law_342 : decode cL_law 342 = .ok (.invokestatic 108, 3) := by decide +kernel
theorem dL_law_345 : decode cL_law 345 = .ok (.istore 5, 2) := by decide +kernel
theorem dL_law_347 : decode cL_law 347 = .ok (.aload_n 2, 1) := by decide +kernel
theorem dL_law_348 : decode cL_law 348 = .ok (.aload_n 0, 1) := by decide +kernel
theorem dL_law_349 : decode cL_law 349 = .ok (.iload 4, 2) := by decide +kernel
theorem dL_law_351 : decode cL_law 351 = .ok (.iconst 1, 1) := by decide +kernel
theorem dL_law_352 : decode cL_law 352 = .ok (.iadd, 1) := by decide +kernel
theorem dL_law_353 : decode cL_law 353 = .ok (.iaload, 1) := by decide +kernel
theorem dL_law_354 : decode cL_law 354 = .ok (.aload_n 0, 1) := by decide +kernel
theorem dL_law_355 : decode cL_law 355 = .ok (.iload 4, 2) := by decide +kernel
theorem dL_law_357 : decode cL_law 357 = .ok (.iconst 2, 1) := by decide +kernel
theorem dL_law_358 : decode cL_law 358 = .ok (.iadd, 1) := by decide +kernel
theorem dL_law_359 : decode cL_law 359 = .ok (.iaload, 1) := by decide +kernel
theorem dL_law_360 : decode cL_law 360 = .ok (.invokevirtual 111, 3) := by decide +kernel
theorem dL_law_363 : decode cL_law 363 = .ok (.istore 6, 2) := by decide +kernel
theorem dL_law_365 : decode cL_law 365 = .ok (.aload_n 2, 1) := by decide +kernel
theorem dL_law_366 : decode cL_law 366 = .ok (.invokevirtual 92, 3) := by decide +kernel
theorem dL_law_369 : decode cL_law 369 = .ok (.iload 5, 2) := by decide +kernel
theorem dL_law_371 : decode cL_law 371 = .ok (.if_icmp .eq 5, 3) := by decide +kernel
theorem dL_law_374 : decode cL_law 374 = .ok (.iconst 0, 1) := by decide +kernel
theorem dL_law_375 : decode cL_law 375 = .ok (.ireturn, 1) := by decide +kernel
theorem dL_law_376 : decode cL_law 376 = .ok (.iload 5, 2) := by decide +kernel
theorem dL_law_378 : decode cL_law 378 = .ok (.ifCond .ne 15, 3) := by decide +kernel
theorem dL_law_381 : decode cL_law 381 = .ok (.aload_n 3, 1) := by decide +kernel
theorem dL_law_382 : decode cL_law 382 = .ok (.iconst 0, 1) := by decide +kernel
theorem dL_law_383 : decode cL_law 383 = .ok (.laload, 1) := by decide +kernel
theorem dL_law_384 : decode cL_law 384 = .ok (.iload 6, 2) := by decide +kernel
theorem dL_law_386 : decode cL_law 386 = .ok (.i2l, 1) := by decide +kernel
theorem dL_law_387 : decode cL_law 387 = .ok (.lcmp, 1) := by decide +kernel
theorem dL_law_388 : decode cL_law 388 = .ok (.ifCond .eq 5, 3) := by decide +kernel
theorem dL_law_391 : decode cL_law 391 = .ok (.iconst 0, 1) := by decide +kernel
theorem dL_law_392 : decode cL_law 392 = .ok (.ireturn, 1) := by decide +kernel
theorem dL_law_393 : decode cL_law 393 = .ok (.goto 1198, 3) := by decide +kernel
theorem dL_law_396 : decode cL_law 396 = .ok (.aload_n 1, 1) := by decide +kernel
theorem dL_law_397 : decode cL_law 397 = .ok (.aload_n 0, 1) := by decide +kernel
theorem dL_law_398 : decode cL_law 398 = .ok (.iload 4, 2) := by decide +kernel
theorem dL_law_400 : decode cL_law 400 = .ok (.iconst 1, 1) := by decide +kernel
theorem dL_law_401 : decode cL_law 401 = .ok (.iadd, 1) := by decide +kernel
theorem dL_law_402 : decode cL_law 402 = .ok (.iaload, 1) := by decide +kernel
theorem dL_law_403 : decode cL_law 403 = .ok (.aload_n 3, 1) := by decide +kernel
theorem dL_law_404 : decode cL_law 404 = .ok (.invokestatic 112, 3) := by decide +kernel
theorem dL_law_407 : decode cL_law 407 = .ok (.istore 5, 2) := by decide +kernel
theorem dL_law_409 : decode cL_law 409 = .ok (.aload_n 2, 1) := by decide +kernel
theorem dL_law_410 : decode cL_law 410 = .ok (.aload_n 0, 1) := by decide +kernel
theorem dL_law_411 : decode cL_law 411 = .ok (.iload 4, 2) := by decide +kernel
theorem dL_law_413 : decode cL_law 413 = .ok (.iconst 1, 1) := by decide +kernel
theorem dL_law_414 : decode cL_law 414 = .ok (.iadd, 1) := by decide +kernel
theorem dL_law_415 : decode cL_law 415 = .ok (.iaload, 1) := by decide +kernel
theorem dL_law_416 : decode cL_law 416 = .ok (.invokevirtual 114, 3) := by decide +kernel
theorem dL_law_419 : decode cL_law 419 = .ok (.istore 6, 2) := by decide +kernel
theorem dL_law_421 : decode cL_law 421 = .ok (.aload_n 2, 1) := by decide +kernel
theorem dL_law_422 : decode cL_law 422 = .ok (.invokevirtual 92, 3) := by decide +kernel
theorem dL_law_425 : decode cL_law 425 = .ok (.iload 5, 2) := by decide +kernel
theorem dL_law_427 : decode cL_law 427 = .ok (.if_icmp .eq 5, 3) := by decide +kernel
theorem dL_law_430 : decode cL_law 430 = .ok (.iconst 0, 1) := by decide +kernel
theorem dL_law_431 : decode cL_law 431 = .ok (.ireturn, 1) := by decide +kernel
theorem dL_law_432 : decode cL_law 432 = .ok (.iload 5, 2) := by decide +kernel
theorem dL_law_434 : decode cL_law 434 = .ok (.ifCond .ne 22, 3) := by decide +kernel
theorem dL_law_437 : decode cL_law 437 = .ok (.aload_n 3, 1) := by decide +kernel
theorem dL_law_438 : decode cL_law 438 = .ok (.iconst 0, 1) := by decide +kernel
theorem dL_law_439 : decode cL_law 439 = .ok (.laload, 1) := by decide +kernel
theorem dL_law_440 : decode cL_law 440 = .ok (.iload 6, 2) := by decide +kernel
theorem dL_law_442 : decode cL_law 442 = .ok (.ifCond .eq 7, 3) := by decide +kernel
theorem dL_law_445 : decode cL_law 445 = .ok (.lconst 1, 1) := by decide +kernel
theorem dL_law_446 : decode cL_law 446 = .ok (.goto 4, 3) := by decide +kernel
theorem dL_law_449 : decode cL_law 449 = .ok (.lconst 0, 1) := by decide +kernel
theorem dL_law_450 : decode cL_law 450 = .ok (.lcmp, 1) := by decide +kernel
theorem dL_law_451 : decode cL_law 451 = .ok (.ifCond .eq 5, 3) := by decide +kernel
theorem dL_law_454 : decode cL_law 454 = .ok (.iconst 0, 1) := by decide +kernel
theorem dL_law_455 : decode cL_law 455 = .ok (.ireturn, 1) := by decide +kernel
theorem dL_law_456 : decode cL_law 456 = .ok (.goto 1135, 3) := by decide +kernel
theorem dL_law_459 : decode cL_law 459 = .ok (.aload_n 1, 1) := by decide +kernel
theorem dL_law_460 : decode cL_law 460 = .ok (.aload_n 0, 1) := by decide +kernel
theorem dL_law_461 : decode cL_law 461 = .ok (.iload 4, 2) := by decide +kernel
theorem dL_law_463 : decode cL_law 463 = .ok (.iconst 1, 1) := by decide +kernel
theorem dL_law_464 : decode cL_law 464 = .ok (.iadd, 1) := by decide +kernel
theorem dL_law_465 : decode cL_law 465 = .ok (.iaload, 1) := by decide +kernel
theorem dL_law_466 : decode cL_law 466 = .ok (.aload_n 0, 1) := by decide +kernel
theorem dL_law_467 : decode cL_law 467 = .ok (.iload 4, 2) := by decide +kernel
theorem dL_law_469 : decode cL_law 469 = .ok (.iconst 2, 1) := by decide +kernel
theorem dL_law_470 : decode cL_law 470 = .ok (.iadd, 1) := by decide +kernel
theorem dL_law_471 : decode cL_law 471 = .ok (.iaload, 1) := by decide +kernel
theorem dL_law_472 : decode cL_law 472 = .ok (.aload_n 3, 1) := by decide +kernel
theorem dL_law_473 : decode cL_law 473 = .ok (.invokestatic 115, 3) := by decide +kernel
theorem dL_law_476 : decode cL_law 476 = .ok (.istore 5, 2) := by decide +kernel
theorem dL_law_478 : decode cL_law 478 = .ok (.aload_n 2, 1) := by decide +kernel
theorem dL_law_479 : decode cL_law 479 = .ok (.aload_n 0, 1) := by decide +kernel
theorem dL_law_480 : decode cL_law 480 = .ok (.iload 4, 2) := by decide +kernel
theorem dL_law_482 : decode cL_law 482 = .ok (.iconst 1, 1) := by decide +kernel
theorem dL_law_483 : decode cL_law 483 = .ok (.iadd, 1) := by decide +kernel
theorem dL_law_484 : decode cL_law 484 = .ok (.iaload, 1) := by decide +kernel
theorem dL_law_485 : decode cL_law 485 = .ok (.aload_n 0, 1) := by decide +kernel
theorem dL_law_486 : decode cL_law 486 = .ok (.iload 4, 2) := by decide +kernel
theorem dL_law_488 : decode cL_law 488 = .ok (.iconst 2, 1) := by decide +kernel
theorem dL_law_489 : decode cL_law 489 = .ok (.iadd, 1) := by decide +kernel
theorem dL_law_490 : decode cL_law 490 = .ok (.iaload, 1) := by decide +kernel
theorem dL_law_491 : decode cL_law 491 = .ok (.invokevirtual 117, 3) := by decide +kernel
theorem dL_law_494 : decode cL_law 494 = .ok (.istore 6, 2) := by decide +kernel
theorem dL_law_496 : decode cL_law 496 = .ok (.aload_n 2, 1) := by decide +kernel
theorem dL_law_497 : decode cL_law 497 = .ok (.invokevirtual 92, 3) := by decide +kernel
theorem dL_law_500 : decode cL_law 500 = .ok (.iload 5, 2) := by decide +kernel
theorem dL_law_502 : decode cL_law 502 = .ok (.if_icmp .eq 5, 3) := by decide +kernel
theorem dL_law_505 : decode cL_law 505 = .ok (.iconst 0, 1) := by decide +kernel
theorem dL_law_506 : decode cL_law 506 = .ok (.ireturn, 1) := by decide +kernel
theorem dL_law_507 : decode cL_law 507 = .ok (.iload 5, 2) := by decide +kernel
theorem dL_law_509 : decode cL_law 509 = .ok (.ifCond .ne 15, 3) := by decide +kernel
theorem dL_law_512 : decode cL_law 512 = .ok (.aload_n 3, 1) := by decide +kernel
theorem dL_law_513 : decode cL_law 513 = .ok (.iconst 0, 1) := by decide +kernel
theorem dL_law_514 : decode cL_law 514 = .ok (.laload, 1) := by decide +kernel
theorem dL_law_515 : decode cL_law 515 = .ok (.iload 6, 2) := by decide +kernel
theorem dL_law_517 : decode cL_law 517 = .ok (.i2l, 1) := by decide +kernel
theorem dL_law_518 : decode cL_law 518 = .ok (.lcmp, 1) := by decide +kernel
theorem dL_law_519 : decode cL_law 519 = .ok (.ifCond .eq 5, 3) := by decide +kernel
theorem dL_law_522 : decode cL_law 522 = .ok (.iconst 0, 1) := by decide +kernel
theorem dL_law_523 : decode cL_law 523 = .ok (.ireturn, 1) := by decide +kernel
theorem dL_law_524 : decode cL_law 524 = .ok (.goto 1067, 3) := by decide +kernel
theorem dL_law_527 : decode cL_law 527 = .ok (.aload_n 1, 1) := by decide +kernel
theorem dL_law_528 : decode cL_law 528 = .ok (.aload_n 0, 1) := by decide +kernel
theorem dL_law_529 : decode cL_law 529 = .ok (.iload 4, 2) := by decide +kernel
theorem dL_law_531 : decode cL_law 531 = .ok (.iconst 1, 1) := by decide +kernel
theorem dL_law_532 : decode cL_law 532 = .ok (.iadd, 1) := by decide +kernel
theorem dL_law_533 : decode cL_law 533 = .ok (.iaload, 1) := by decide +kernel
theorem dL_law_534 : decode cL_law 534 = .ok (.aload_n 0, 1) := by decide +kernel
theorem dL_law_535 : decode cL_law 535 = .ok (.iload 4, 2) := by decide +kernel
theorem dL_law_537 : decode cL_law 537 = .ok (.iconst 2, 1) := by decide +kernel
theorem dL_law_538 : decode cL_law 538 = .ok (.iadd, 1) := by decide +kernel
theorem dL_law_539 : decode cL_law 539 = .ok (.iaload, 1) := by decide +kernel
theorem dL_law_540 : decode cL_law 540 = .ok (.aload_n 0, 1) := by decide +kernel
theorem dL_law_541 : decode cL_law 541 = .ok (.iload 4, 2) := by decide +kernel
theorem dL_law_543 : decode cL_law 543 = .ok (.iconst 3, 1) := by decide +kernel
theorem dL_law_544 : decode cL_law 544 = .ok (.iadd, 1) := by decide +kernel
theorem dL_law_545 : decode cL_law 545 = .ok (.iaload, 1) := by decide +kernel
theorem dL_law_546 : decode cL_law 546 = .ok (.aload_n 3, 1) := by decide +kernel
theorem dL_law_547 : decode cL_law 547 = .ok (.invokestatic 118, 3) := by decide +kernel
theorem dL_law_550 : decode cL_law 550 = .ok (.istore 5, 2) := by decide +kernel
theorem dL_law_552 : decode cL_law 552 = .ok (.aload_n 2, 1) := by decide +kernel
theorem dL_law_553 : decode cL_law 553 = .ok (.aload_n 0, 1) := by decide +kernel
theorem dL_law_554 : decode cL_law 554 = .ok (.iload 4, 2) := by decide +kernel
theorem dL_law_556 : decode cL_law 556 = .ok (.iconst 1, 1) := by decide +kernel
theorem dL_law_557 : decode cL_law 557 = .ok (.iadd, 1) := by decide +kernel
theorem dL_law_558 : decode cL_law 558 = .ok (.iaload, 1) := by decide +kernel
theorem dL_law_559 : decode cL_law 559 = .ok (.aload_n 0, 1) := by decide +kernel
theorem dL_law_560 : decode cL_law 560 = .ok (.iload 4, 2) := by decide +kernel
theorem dL_law_562 : decode cL_law 562 = .ok (.iconst 2, 1) := by decide +kernel
theorem dL_law_563 : decode cL_law 563 = .ok (.iadd, 1) := by decide +kernel
theorem dL_law_564 : decode cL_law 564 = .ok (.iaload, 1) := by decide +kernel
theorem dL_law_565 : decode cL_law 565 = .ok (.aload_n 0, 1) := by decide +kernel
theorem dL_law_566 : decode cL_law 566 = .ok (.iload 4, 2) := by decide +kernel
theorem dL_law_568 : decode cL_law 568 = .ok (.iconst 3, 1) := by decide +kernel
theorem dL_law_569 : decode cL_law 569 = .ok (.iadd, 1) := by decide +kernel
theorem dL_law_570 : decode cL_law 570 = .ok (.iaload, 1) := by decide +kernel
theorem dL_law_571 : decode cL_law 571 = .ok (.invokevirtual 121, 3) := by decide +kernel
theorem dL_law_574 : decode cL_law 574 = .ok (.istore 6, 2) := by decide +kernel
theorem dL_law_576 : decode cL_law 576 = .ok (.aload_n 2, 1) := by decide +kernel
theorem dL_law_577 : decode cL_law 577 = .ok (.invokevirtual 92, 3) := by decide +kernel
theorem dL_law_580 : decode cL_law 580 = .ok (.iload 5, 2) := by decide +kernel
theorem dL_law_582 : decode cL_law 582 = .ok (.if_icmp .eq 5, 3) := by decide +kernel
theorem dL_law_585 : decode cL_law 585 = .ok (.iconst 0, 1) := by decide +kernel
theorem dL_law_586 : decode cL_law 586 = .ok (.ireturn, 1) := by decide +kernel
theorem dL_law_587 : decode cL_law 587 = .ok (.iload 5, 2) := by decide +kernel
theorem dL_law_589 : decode cL_law 589 = .ok (.ifCond .ne 15, 3) := by decide +kernel
theorem dL_law_592 : decode cL_law 592 = .ok (.aload_n 3, 1) := by decide +kernel
theorem dL_law_593 : decode cL_law 593 = .ok (.iconst 0, 1) := by decide +kernel
theorem dL_law_594 : decode cL_law 594 = .ok (.laload, 1) := by decide +kernel
theorem dL_law_595 : decode cL_law 595 = .ok (.iload 6, 2) := by decide +kernel
theorem dL_law_597 : decode cL_law 597 = .ok (.i2l, 1) := by decide +kernel
theorem dL_law_598 : decode cL_law 598 = .ok (.lcmp, 1) := by decide +kernel
theorem dL_law_599 : decode cL_law 599 = .ok (.ifCond .eq 5, 3) := by decide +kernel
theorem dL_law_602 : decode cL_law 602 = .ok (.iconst 0, 1) := by decide +kernel
theorem dL_law_603 : decode cL_law 603 = .ok (.ireturn, 1) := by decide +kernel
theorem dL_law_604 : decode cL_law 604 = .ok (.goto 987, 3) := by decide +kernel
theorem dL_law_607 : decode cL_law 607 = .ok (.aload_n 1, 1) := by decide +kernel
theorem dL_law_608 : decode cL_law 608 = .ok (.aload_n 0, 1) := by decide +kernel
theorem dL_law_609 : decode cL_law 609 = .ok (.iload 4, 2) := by decide +kernel
theorem dL_law_611 : decode cL_law 611 = .ok (.iconst 1, 1) := by decide +kernel
theorem dL_law_612 : decode cL_law 612 = .ok (.iadd, 1) := by decide +kernel
theorem dL_law_613 : decode cL_law 613 = .ok (.iaload, 1) := by decide +kernel
theorem dL_law_614 : decode cL_law 614 = .ok (.aload_n 0, 1) := by decide +kernel
theorem dL_law_615 : decode cL_law 615 = .ok (.iload 4, 2) := by decide +kernel
theorem dL_law_617 : decode cL_law 617 = .ok (.iconst 2, 1) := by decide +kernel
theorem dL_law_618 : decode cL_law 618 = .ok (.iadd, 1) := by decide +kernel
theorem dL_law_619 : decode cL_law 619 = .ok (.iaload, 1) := by decide +kernel
theorem dL_law_620 : decode cL_law 620 = .ok (.aload_n 0, 1) := by decide +kernel
theorem dL_law_621 : decode cL_law 621 = .ok (.iload 4, 2) := by decide +kernel
theorem dL_law_623 : decode cL_law 623 = .ok (.iconst 3, 1) := by decide +kernel
theorem dL_law_624 : decode cL_law 624 = .ok (.iadd, 1) := by decide +kernel
theorem dL_law_625 : decode cL_law 625 = .ok (.iaload, 1) := by decide +kernel
theorem dL_law_626 : decode cL_law 626 = .ok (.aload_n 3, 1) := by decide +kernel
theorem dL_law_627 : decode cL_law 627 = .ok (.invokestatic 122, 3) := by decide +kernel
theorem dL_law_630 : decode cL_law 630 = .ok (.istore 5, 2) := by decide +kernel
theorem dL_law_632 : decode cL_law 632 = .ok (.aload_n 2, 1) := by decide +kernel
theorem dL_law_633 : decode cL_law 633 = .ok (.aload_n 0, 1) := by decide +kernel
theorem dL_law_634 : decode cL_law 634 = .ok (.iload 4, 2) := by decide +kernel
theorem dL_law_636 : decode cL_law 636 = .ok (.iconst 1, 1) := by decide +kernel
theorem dL_law_637 : decode cL_law 637 = .ok (.iadd, 1) := by decide +kernel
theorem dL_law_638 : decode cL_law 638 = .ok (.iaload, 1) := by decide +kernel
theorem dL_law_639 : decode cL_law 639 = .ok (.aload_n 0, 1) := by decide +kernel
theorem dL_law_640 : decode cL_law 640 = .ok (.iload 4, 2) := by decide +kernel
theorem dL_law_642 : decode cL_law 642 = .ok (.iconst 2, 1) := by decide +kernel
theorem dL_law_643 : decode cL_law 643 = .ok (.iadd, 1) := by decide +kernel
theorem dL_law_644 : decode cL_law 644 = .ok (.iaload, 1) := by decide +kernel
theorem dL_law_645 : decode cL_law 645 = .ok (.aload_n 0, 1) := by decide +kernel
theorem dL_law_646 : decode cL_law 646 = .ok (.iload 4, 2) := by decide +kernel
theorem dL_law_648 : decode cL_law 648 = .ok (.iconst 3, 1) := by decide +kernel
theorem dL_law_649 : decode cL_law 649 = .ok (.iadd, 1) := by decide +kernel
theorem dL_law_650 : decode cL_law 650 = .ok (.iaload, 1) := by decide +kernel
theorem dL_law_651 : decode cL_law 651 = .ok (.invokevirtual 124, 3) := by decide +kernel
theorem dL_law_654 : decode cL_law 654 = .ok (.istore 6, 2) := by decide +kernel
theorem dL_law_656 : decode cL_law 656 = .ok (.aload_n 2, 1) := by decide +kernel
theorem dL_law_657 : decode cL_law 657 = .ok (.invokevirtual 92, 3) := by decide +kernel
theorem dL_law_660 : decode cL_law 660 = .ok (.iload 5, 2) := by decide +kernel
theorem dL_law_662 : decode cL_law 662 = .ok (.if_icmp .eq 5, 3) := by decide +kernel
theorem dL_law_665 : decode cL_law 665 = .ok (.iconst 0, 1) := by decide +kernel
theorem dL_law_666 : decode cL_law 666 = .ok (.ireturn, 1) := by decide +kernel
theorem dL_law_667 : decode cL_law 667 = .ok (.iload 5, 2) := by decide +kernel
theorem dL_law_669 : decode cL_law 669 = .ok (.ifCond .ne 15, 3) := by decide +kernel
theorem dL_law_672 : decode cL_law 672 = .ok (.aload_n 3, 1) := by decide +kernel
theorem dL_law_673 : decode cL_law 673 = .ok (.iconst 0, 1) := by decide +kernel
theorem dL_law_674 : decode cL_law 674 = .ok (.laload, 1) := by decide +kernel
theorem dL_law_675 : decode cL_law 675 = .ok (.iload 6, 2) := by decide +kernel
theorem dL_law_677 : decode cL_law 677 = .ok (.i2l, 1) := by decide +kernel
theorem dL_law_678 : decode cL_law 678 = .ok (.lcmp, 1) := by decide +kernel
theorem dL_law_679 : decode cL_law 679 = .ok (.ifCond .eq 5, 3) := by decide +kernel
theorem dL_law_682 : decode cL_law 682 = .ok (.iconst 0, 1) := by decide +kernel
theorem dL_law_683 : decode cL_law 683 = .ok (.ireturn, 1) := by decide +kernel
theorem dL_law_684 : decode cL_law 684 = .ok (.goto 907, 3) := by decide +kernel
theorem dL_law_687 : decode cL_law 687 = .ok (.aload_n 1, 1) := by decide +kernel
theorem dL_law_688 : decode cL_law 688 = .ok (.aload_n 0, 1) := by decide +kernel
theorem dL_law_689 : decode cL_law 689 = .ok (.iload 4, 2) := by decide +kernel
theorem dL_law_691 : decode cL_law 691 = .ok (.iconst 1, 1) := by decide +kernel
theorem dL_law_692 : decode cL_law 692 = .ok (.iadd, 1) := by decide +kernel
theorem dL_law_693 : decode cL_law 693 = .ok (.iaload, 1) := by decide +kernel
theorem dL_law_694 : decode cL_law 694 = .ok (.aload_n 0, 1) := by decide +kernel
theorem dL_law_695 : decode cL_law 695 = .ok (.iload 4, 2) := by decide +kernel
theorem dL_law_697 : decode cL_law 697 = .ok (.iconst 2, 1) := by decide +kernel
theorem dL_law_698 : decode cL_law 698 = .ok (.iadd, 1) := by decide +kernel
theorem dL_law_699 : decode cL_law 699 = .ok (.iaload, 1) := by decide +kernel
theorem dL_law_700 : decode cL_law 700 = .ok (.aload_n 0, 1) := by decide +kernel
theorem dL_law_701 : decode cL_law 701 = .ok (.iload 4, 2) := by decide +kernel
theorem dL_law_703 : decode cL_law 703 = .ok (.iconst 3, 1) := by decide +kernel
theorem dL_law_704 : decode cL_law 704 = .ok (.iadd, 1) := by decide +kernel
theorem dL_law_705 : decode cL_law 705 = .ok (.iaload, 1) := by decide +kernel
theorem dL_law_706 : decode cL_law 706 = .ok (.aload_n 0, 1) := by decide +kernel
theorem dL_law_707 : decode cL_law 707 = .ok (.iload 4, 2) := by decide +kernel
theorem dL_law_709 : decode cL_law 709 = .ok (.iconst 4, 1) := by decide +kernel
theorem dL_law_710 : decode cL_law 710 = .ok (.iadd, 1) := by decide +kernel
theorem dL_law_711 : decode cL_law 711 = .ok (.iaload, 1) := by decide +kernel
theorem dL_law_712 : decode cL_law 712 = .ok (.aload_n 3, 1) := by decide +kernel
theorem dL_law_713 : decode cL_law 713 = .ok (.invokestatic 125, 3) := by decide +kernel
theorem dL_law_716 : decode cL_law 716 = .ok (.istore 5, 2) := by decide +kernel
theorem dL_law_718 : decode cL_law 718 = .ok (.aload_n 2, 1) := by decide +kernel
theorem dL_law_719 : decode cL_law 719 = .ok (.aload_n 0, 1) := by decide +kernel
theorem dL_law_720 : decode cL_law 720 = .ok (.iload 4, 2) := by decide +kernel
theorem dL_law_722 : decode cL_law 722 = .ok (.iconst 1, 1) := by decide +kernel
theorem dL_law_723 : decode cL_law 723 = .ok (.iadd, 1) := by decide +kernel
theorem dL_law_724 : decode cL_law 724 = .ok (.iaload, 1) := by decide +kernel
theorem dL_law_725 : decode cL_law 725 = .ok (.aload_n 0, 1) := by decide +kernel
theorem dL_law_726 : decode cL_law 726 = .ok (.iload 4, 2) := by decide +kernel
theorem dL_law_728 : decode cL_law 728 = .ok (.iconst 2, 1) := by decide +kernel
theorem dL_law_729 : decode cL_law 729 = .ok (.iadd, 1) := by decide +kernel
theorem dL_law_730 : decode cL_law 730 = .ok (.iaload, 1) := by decide +kernel
theorem dL_law_731 : decode cL_law 731 = .ok (.aload_n 0, 1) := by decide +kernel
theorem dL_law_732 : decode cL_law 732 = .ok (.iload 4, 2) := by decide +kernel
theorem dL_law_734 : decode cL_law 734 = .ok (.iconst 3, 1) := by decide +kernel
theorem dL_law_735 : decode cL_law 735 = .ok (.iadd, 1) := by decide +kernel
theorem dL_law_736 : decode cL_law 736 = .ok (.iaload, 1) := by decide +kernel
theorem dL_law_737 : decode cL_law 737 = .ok (.aload_n 0, 1) := by decide +kernel
theorem dL_law_738 : decode cL_law 738 = .ok (.iload 4, 2) := by decide +kernel
theorem dL_law_740 : decode cL_law 740 = .ok (.iconst 4, 1) := by decide +kernel
theorem dL_law_741 : decode cL_law 741 = .ok (.iadd, 1) := by decide +kernel
theorem dL_law_742 : decode cL_law 742 = .ok (.iaload, 1) := by decide +kernel
theorem dL_law_743 : decode cL_law 743 = .ok (.invokevirtual 128, 3) := by decide +kernel
theorem dL_law_746 : decode cL_law 746 = .ok (.istore 6, 2) := by decide +kernel
theorem dL_law_748 : decode cL_law 748 = .ok (.aload_n 2, 1) := by decide +kernel
theorem dL_law_749 : decode cL_law 749 = .ok (.invokevirtual 92, 3) := by decide +kernel
theorem dL_law_752 : decode cL_law 752 = .ok (.iload 5, 2) := by decide +kernel
theorem dL_law_754 : decode cL_law 754 = .ok (.if_icmp .eq 5, 3) := by decide +kernel
theorem dL_law_757 : decode cL_law 757 = .ok (.iconst 0, 1) := by decide +kernel
theorem dL_law_758 : decode cL_law 758 = .ok (.ireturn, 1) := by decide +kernel
theorem dL_law_759 : decode cL_law 759 = .ok (.iload 5, 2) := by decide +kernel
theorem dL_law_761 : decode cL_law 761 = .ok (.ifCond .ne 15, 3) := by decide +kernel
theorem dL_law_764 : decode cL_law 764 = .ok (.aload_n 3, 1) := by decide +kernel
theorem dL_law_765 : decode cL_law 765 = .ok (.iconst 0, 1) := by decide +kernel
theorem dL_law_766 : decode cL_law 766 = .ok (.laload, 1) := by decide +kernel
theorem dL_law_767 : decode cL_law 767 = .ok (.iload 6, 2) := by decide +kernel
theorem dL_law_769 : decode cL_law 769 = .ok (.i2l, 1) := by decide +kernel
theorem dL_law_770 : decode cL_law 770 = .ok (.lcmp, 1) := by decide +kernel
theorem dL_law_771 : decode cL_law 771 = .ok (.ifCond .eq 5, 3) := by decide +kernel
theorem dL_law_774 : decode cL_law 774 = .ok (.iconst 0, 1) := by decide +kernel
theorem dL_law_775 : decode cL_law 775 = .ok (.ireturn, 1) := by decide +kernel
theorem dL_law_776 : decode cL_law 776 = .ok (.goto 815, 3) := by decide +kernel
theorem dL_law_779 : decode cL_law 779 = .ok (.aload_n 1, 1) := by decide +kernel
theorem dL_law_780 : decode cL_law 780 = .ok (.aload_n 0, 1) := by decide +kernel
theorem dL_law_781 : decode cL_law 781 = .ok (.iload 4, 2) := by decide +kernel
theorem dL_law_783 : decode cL_law 783 = .ok (.iconst 1, 1) := by decide +kernel
theorem dL_law_784 : decode cL_law 784 = .ok (.iadd, 1) := by decide +kernel
theorem dL_law_785 : decode cL_law 785 = .ok (.iaload, 1) := by decide +kernel
theorem dL_law_786 : decode cL_law 786 = .ok (.aload_n 0, 1) := by decide +kernel
theorem dL_law_787 : decode cL_law 787 = .ok (.iload 4, 2) := by decide +kernel
theorem dL_law_789 : decode cL_law 789 = .ok (.iconst 2, 1) := by decide +kernel
theorem dL_law_790 : decode cL_law 790 = .ok (.iadd, 1) := by decide +kernel
theorem dL_law_791 : decode cL_law 791 = .ok (.iaload, 1) := by decide +kernel
theorem dL_law_792 : decode cL_law 792 = .ok (.aload_n 3, 1) := by decide +kernel
theorem dL_law_793 : decode cL_law 793 = .ok (.invokestatic 129, 3) := by decide +kernel
theorem dL_law_796 : decode cL_law 796 = .ok (.istore 5, 2) := by decide +kernel
theorem dL_law_798 : decode cL_law 798 = .ok (.aload_n 2, 1) := by decide +kernel
theorem dL_law_799 : decode cL_law 799 = .ok (.aload_n 0, 1) := by decide +kernel
theorem dL_law_800 : decode cL_law 800 = .ok (.iload 4, 2) := by decide +kernel
theorem dL_law_802 : decode cL_law 802 = .ok (.iconst 1, 1) := by decide +kernel
theorem dL_law_803 : decode cL_law 803 = .ok (.iadd, 1) := by decide +kernel
theorem dL_law_804 : decode cL_law 804 = .ok (.iaload, 1) := by decide +kernel
theorem dL_law_805 : decode cL_law 805 = .ok (.aload_n 0, 1) := by decide +kernel
theorem dL_law_806 : decode cL_law 806 = .ok (.iload 4, 2) := by decide +kernel
theorem dL_law_808 : decode cL_law 808 = .ok (.iconst 2, 1) := by decide +kernel
theorem dL_law_809 : decode cL_law 809 = .ok (.iadd, 1) := by decide +kernel
theorem dL_law_810 : decode cL_law 810 = .ok (.iaload, 1) := by decide +kernel
theorem dL_law_811 : decode cL_law 811 = .ok (.invokevirtual 131, 3) := by decide +kernel
theorem dL_law_814 : decode cL_law 814 = .ok (.istore 6, 2) := by decide +kernel
theorem dL_law_816 : decode cL_law 816 = .ok (.aload_n 2, 1) := by decide +kernel
theorem dL_law_817 : decode cL_law 817 = .ok (.invokevirtual 92, 3) := by decide +kernel
theorem dL_law_820 : decode cL_law 820 = .ok (.iload 5, 2) := by decide +kernel
theorem dL_law_822 : decode cL_law 822 = .ok (.if_icmp .eq 5, 3) := by decide +kernel
theorem dL_law_825 : decode cL_law 825 = .ok (.iconst 0, 1) := by decide +kernel
theorem dL_law_826 : decode cL_law 826 = .ok (.ireturn, 1) := by decide +kernel
theorem dL_law_827 : decode cL_law 827 = .ok (.iload 5, 2) := by decide +kernel
theorem dL_law_829 : decode cL_law 829 = .ok (.ifCond .ne 15, 3) := by decide +kernel
theorem dL_law_832 : decode cL_law 832 = .ok (.aload_n 3, 1) := by decide +kernel
theorem dL_law_833 : decode cL_law 833 = .ok (.iconst 0, 1) := by decide +kernel
theorem dL_law_834 : decode cL_law 834 = .ok (.laload, 1) := by decide +kernel
theorem dL_law_835 : decode cL_law 835 = .ok (.iload 6, 2) := by decide +kernel
theorem dL_law_837 : decode cL_law 837 = .ok (.i2l, 1) := by decide +kernel
theorem dL_law_838 : decode cL_law 838 = .ok (.lcmp, 1) := by decide +kernel
theorem dL_law_839 : decode cL_law 839 = .ok (.ifCond .eq 5, 3) := by decide +kernel
theorem dL_law_842 : decode cL_law 842 = .ok (.iconst 0, 1) := by decide +kernel
theorem dL_law_843 : decode cL_law 843 = .ok (.ireturn, 1) := by decide +kernel
theorem dL_law_844 : decode cL_law 844 = .ok (.goto 747, 3) := by decide +kernel
theorem dL_law_847 : decode cL_law 847 = .ok (.aload_n 1, 1) := by decide +kernel
theorem dL_law_848 : decode cL_law 848 = .ok (.aload_n 0, 1) := by decide +kernel
theorem dL_law_849 : decode cL_law 849 = .ok (.iload 4, 2) := by decide +kernel
theorem dL_law_851 : decode cL_law 851 = .ok (.iconst 1, 1) := by decide +kernel
theorem dL_law_852 : decode cL_law 852 = .ok (.iadd, 1) := by decide +kernel
theorem dL_law_853 : decode cL_law 853 = .ok (.iaload, 1) := by decide +kernel
theorem dL_law_854 : decode cL_law 854 = .ok (.aload_n 0, 1) := by decide +kernel
theorem dL_law_855 : decode cL_law 855 = .ok (.iload 4, 2) := by decide +kernel
theorem dL_law_857 : decode cL_law 857 = .ok (.iconst 2, 1) := by decide +kernel
theorem dL_law_858 : decode cL_law 858 = .ok (.iadd, 1) := by decide +kernel
theorem dL_law_859 : decode cL_law 859 = .ok (.iaload, 1) := by decide +kernel
theorem dL_law_860 : decode cL_law 860 = .ok (.aload_n 3, 1) := by decide +kernel
theorem dL_law_861 : decode cL_law 861 = .ok (.invokestatic 132, 3) := by decide +kernel
theorem dL_law_864 : decode cL_law 864 = .ok (.istore 5, 2) := by decide +kernel
theorem dL_law_866 : decode cL_law 866 = .ok (.aload_n 2, 1) := by decide +kernel
theorem dL_law_867 : decode cL_law 867 = .ok (.aload_n 0, 1) := by decide +kernel
theorem dL_law_868 : decode cL_law 868 = .ok (.iload 4, 2) := by decide +kernel
theorem dL_law_870 : decode cL_law 870 = .ok (.iconst 1, 1) := by decide +kernel
theorem dL_law_871 : decode cL_law 871 = .ok (.iadd, 1) := by decide +kernel
theorem dL_law_872 : decode cL_law 872 = .ok (.iaload, 1) := by decide +kernel
theorem dL_law_873 : decode cL_law 873 = .ok (.aload_n 0, 1) := by decide +kernel
theorem dL_law_874 : decode cL_law 874 = .ok (.iload 4, 2) := by decide +kernel
theorem dL_law_876 : decode cL_law 876 = .ok (.iconst 2, 1) := by decide +kernel
theorem dL_law_877 : decode cL_law 877 = .ok (.iadd, 1) := by decide +kernel
theorem dL_law_878 : decode cL_law 878 = .ok (.iaload, 1) := by decide +kernel
theorem dL_law_879 : decode cL_law 879 = .ok (.invokevirtual 134, 3) := by decide +kernel
theorem dL_law_882 : decode cL_law 882 = .ok (.istore 6, 2) := by decide +kernel
theorem dL_law_884 : decode cL_law 884 = .ok (.aload_n 2, 1) := by decide +kernel
theorem dL_law_885 : decode cL_law 885 = .ok (.invokevirtual 92, 3) := by decide +kernel
theorem dL_law_888 : decode cL_law 888 = .ok (.iload 5, 2) := by decide +kernel
theorem dL_law_890 : decode cL_law 890 = .ok (.if_icmp .eq 5, 3) := by decide +kernel
theorem dL_law_893 : decode cL_law 893 = .ok (.iconst 0, 1) := by decide +kernel
theorem dL_law_894 : decode cL_law 894 = .ok (.ireturn, 1) := by decide +kernel
theorem dL_law_895 : decode cL_law 895 = .ok (.iload 5, 2) := by decide +kernel
theorem dL_law_897 : decode cL_law 897 = .ok (.ifCond .ne 15, 3) := by decide +kernel
theorem dL_law_900 : decode cL_law 900 = .ok (.aload_n 3, 1) := by decide +kernel
theorem dL_law_901 : decode cL_law 901 = .ok (.iconst 0, 1) := by decide +kernel
theorem dL_law_902 : decode cL_law 902 = .ok (.laload, 1) := by decide +kernel
theorem dL_law_903 : decode cL_law 903 = .ok (.iload 6, 2) := by decide +kernel
theorem dL_law_905 : decode cL_law 905 = .ok (.i2l, 1) := by decide +kernel
theorem dL_law_906 : decode cL_law 906 = .ok (.lcmp, 1) := by decide +kernel
theorem dL_law_907 : decode cL_law 907 = .ok (.ifCond .eq 5, 3) := by decide +kernel
theorem dL_law_910 : decode cL_law 910 = .ok (.iconst 0, 1) := by decide +kernel
theorem dL_law_911 : decode cL_law 911 = .ok (.ireturn, 1) := by decide +kernel
theorem dL_law_912 : decode cL_law 912 = .ok (.goto 679, 3) := by decide +kernel
theorem dL_law_915 : decode cL_law 915 = .ok (.aload_n 1, 1) := by decide +kernel
theorem dL_law_916 : decode cL_law 916 = .ok (.aload_n 0, 1) := by decide +kernel
theorem dL_law_917 : decode cL_law 917 = .ok (.iload 4, 2) := by decide +kernel
theorem dL_law_919 : decode cL_law 919 = .ok (.iconst 1, 1) := by decide +kernel
theorem dL_law_920 : decode cL_law 920 = .ok (.iadd, 1) := by decide +kernel
theorem dL_law_921 : decode cL_law 921 = .ok (.iaload, 1) := by decide +kernel
theorem dL_law_922 : decode cL_law 922 = .ok (.aload_n 0, 1) := by decide +kernel
theorem dL_law_923 : decode cL_law 923 = .ok (.iload 4, 2) := by decide +kernel
theorem dL_law_925 : decode cL_law 925 = .ok (.iconst 2, 1) := by decide +kernel
theorem dL_law_926 : decode cL_law 926 = .ok (.iadd, 1) := by decide +kernel
theorem dL_law_927 : decode cL_law 927 = .ok (.iaload, 1) := by decide +kernel
theorem dL_law_928 : decode cL_law 928 = .ok (.aload_n 3, 1) := by decide +kernel
theorem dL_law_929 : decode cL_law 929 = .ok (.invokestatic 135, 3) := by decide +kernel
theorem dL_law_932 : decode cL_law 932 = .ok (.istore 5, 2) := by decide +kernel
theorem dL_law_934 : decode cL_law 934 = .ok (.aload_n 2, 1) := by decide +kernel
theorem dL_law_935 : decode cL_law 935 = .ok (.aload_n 0, 1) := by decide +kernel
theorem dL_law_936 : decode cL_law 936 = .ok (.iload 4, 2) := by decide +kernel
theorem dL_law_938 : decode cL_law 938 = .ok (.iconst 1, 1) := by decide +kernel
theorem dL_law_939 : decode cL_law 939 = .ok (.iadd, 1) := by decide +kernel
theorem dL_law_940 : decode cL_law 940 = .ok (.iaload, 1) := by decide +kernel
theorem dL_law_941 : decode cL_law 941 = .ok (.aload_n 0, 1) := by decide +kernel
theorem dL_law_942 : decode cL_law 942 = .ok (.iload 4, 2) := by decide +kernel
theorem dL_law_944 : decode cL_law 944 = .ok (.iconst 2, 1) := by decide +kernel
theorem dL_law_945 : decode cL_law 945 = .ok (.iadd, 1) := by decide +kernel
theorem dL_law_946 : decode cL_law 946 = .ok (.iaload, 1) := by decide +kernel
theorem dL_law_947 : decode cL_law 947 = .ok (.invokevirtual 137, 3) := by decide +kernel
theorem dL_law_950 : decode cL_law 950 = .ok (.istore 6, 2) := by decide +kernel
theorem dL_law_952 : decode cL_law 952 = .ok (.aload_n 2, 1) := by decide +kernel
theorem dL_law_953 : decode cL_law 953 = .ok (.invokevirtual 92, 3) := by decide +kernel
theorem dL_law_956 : decode cL_law 956 = .ok (.iload 5, 2) := by decide +kernel
theorem dL_law_958 : decode cL_law 958 = .ok (.if_icmp .eq 5, 3) := by decide +kernel
theorem dL_law_961 : decode cL_law 961 = .ok (.iconst 0, 1) := by decide +kernel
theorem dL_law_962 : decode cL_law 962 = .ok (.ireturn, 1) := by decide +kernel
theorem dL_law_963 : decode cL_law 963 = .ok (.iload 5, 2) := by decide +kernel
theorem dL_law_965 : decode cL_law 965 = .ok (.ifCond .ne 15, 3) := by decide +kernel
theorem dL_law_968 : decode cL_law 968 = .ok (.aload_n 3, 1) := by decide +kernel
theorem dL_law_969 : decode cL_law 969 = .ok (.iconst 0, 1) := by decide +kernel
theorem dL_law_970 : decode cL_law 970 = .ok (.laload, 1) := by decide +kernel
theorem dL_law_971 : decode cL_law 971 = .ok (.iload 6, 2) := by decide +kernel
theorem dL_law_973 : decode cL_law 973 = .ok (.i2l, 1) := by decide +kernel
theorem dL_law_974 : decode cL_law 974 = .ok (.lcmp, 1) := by decide +kernel
theorem dL_law_975 : decode cL_law 975 = .ok (.ifCond .eq 5, 3) := by decide +kernel
theorem dL_law_978 : decode cL_law 978 = .ok (.iconst 0, 1) := by decide +kernel
theorem dL_law_979 : decode cL_law 979 = .ok (.ireturn, 1) := by decide +kernel
theorem dL_law_980 : decode cL_law 980 = .ok (.goto 611, 3) := by decide +kernel
theorem dL_law_983 : decode cL_law 983 = .ok (.aload_n 1, 1) := by decide +kernel
theorem dL_law_984 : decode cL_law 984 = .ok (.invokevirtual 138, 3) := by decide +kernel
theorem dL_law_987 : decode cL_law 987 = .ok (.aload_n 2, 1) := by decide +kernel
theorem dL_law_988 : decode cL_law 988 = .ok (.invokevirtual 141, 3) := by decide +kernel
theorem dL_law_991 : decode cL_law 991 = .ok (.if_icmp .eq 600, 3) := by decide +kernel
theorem dL_law_994 : decode cL_law 994 = .ok (.iconst 0, 1) := by decide +kernel
theorem dL_law_995 : decode cL_law 995 = .ok (.ireturn, 1) := by decide +kernel
theorem dL_law_996 : decode cL_law 996 = .ok (.aload_n 1, 1) := by decide +kernel
theorem dL_law_997 : decode cL_law 997 = .ok (.aload_n 0, 1) := by decide +kernel
theorem dL_law_998 : decode cL_law 998 = .ok (.iload 4, 2) := by decide +kernel
theorem dL_law_1000 : decode cL_law 1000 = .ok (.iconst 1, 1) := by decide +kernel
theorem dL_law_1001 : decode cL_law 1001 = .ok (.iadd, 1) := by decide +kernel
theorem dL_law_1002 : decode cL_law 1002 = .ok (.iaload, 1) := by decide +kernel
theorem dL_law_1003 : decode cL_law 1003 = .ok (.aload_n 3, 1) := by decide +kernel
theorem dL_law_1004 : decode cL_law 1004 = .ok (.invokestatic 142, 3) := by decide +kernel
theorem dL_law_1007 : decode cL_law 1007 = .ok (.istore 5, 2) := by decide +kernel
theorem dL_law_1009 : decode cL_law 1009 = .ok (.aload_n 2, 1) := by decide +kernel
theorem dL_law_1010 : decode cL_law 1010 = .ok (.aload_n 0, 1) := by decide +kernel
theorem dL_law_1011 : decode cL_law 1011 = .ok (.iload 4, 2) := by decide +kernel
theorem dL_law_1013 : decode cL_law 1013 = .ok (.iconst 1, 1) := by decide +kernel
theorem dL_law_1014 : decode cL_law 1014 = .ok (.iadd, 1) := by decide +kernel
theorem dL_law_1015 : decode cL_law 1015 = .ok (.iaload, 1) := by decide +kernel
theorem dL_law_1016 : decode cL_law 1016 = .ok (.invokevirtual 144, 3) := by decide +kernel
theorem dL_law_1019 : decode cL_law 1019 = .ok (.istore 6, 2) := by decide +kernel
theorem dL_law_1021 : decode cL_law 1021 = .ok (.aload_n 2, 1) := by decide +kernel
theorem dL_law_1022 : decode cL_law 1022 = .ok (.invokevirtual 92, 3) := by decide +kernel
theorem dL_law_1025 : decode cL_law 1025 = .ok (.iload 5, 2) := by decide +kernel
theorem dL_law_1027 : decode cL_law 1027 = .ok (.if_icmp .eq 5, 3) := by decide +kernel
theorem dL_law_1030 : decode cL_law 1030 = .ok (.iconst 0, 1) := by decide +kernel
theorem dL_law_1031 : decode cL_law 1031 = .ok (.ireturn, 1) := by decide +kernel
theorem dL_law_1032 : decode cL_law 1032 = .ok (.iload 5, 2) := by decide +kernel
theorem dL_law_1034 : decode cL_law 1034 = .ok (.ifCond .ne 15, 3) := by decide +kernel
theorem dL_law_1037 : decode cL_law 1037 = .ok (.aload_n 3, 1) := by decide +kernel
theorem dL_law_1038 : decode cL_law 1038 = .ok (.iconst 0, 1) := by decide +kernel
theorem dL_law_1039 : decode cL_law 1039 = .ok (.laload, 1) := by decide +kernel
theorem dL_law_1040 : decode cL_law 1040 = .ok (.iload 6, 2) := by decide +kernel
theorem dL_law_1042 : decode cL_law 1042 = .ok (.i2l, 1) := by decide +kernel
theorem dL_law_1043 : decode cL_law 1043 = .ok (.lcmp, 1) := by decide +kernel
theorem dL_law_1044 : decode cL_law 1044 = .ok (.ifCond .eq 5, 3) := by decide +kernel
theorem dL_law_1047 : decode cL_law 1047 = .ok (.iconst 0, 1) := by decide +kernel
theorem dL_law_1048 : decode cL_law 1048 = .ok (.ireturn, 1) := by decide +kernel
theorem dL_law_1049 : decode cL_law 1049 = .ok (.goto 542, 3) := by decide +kernel
theorem dL_law_1052 : decode cL_law 1052 = .ok (.aload_n 1, 1) := by decide +kernel
theorem dL_law_1053 : decode cL_law 1053 = .ok (.aload_n 0, 1) := by decide +kernel
theorem dL_law_1054 : decode cL_law 1054 = .ok (.iload 4, 2) := by decide +kernel
theorem dL_law_1056 : decode cL_law 1056 = .ok (.iconst 1, 1) := by decide +kernel
theorem dL_law_1057 : decode cL_law 1057 = .ok (.iadd, 1) := by decide +kernel
theorem dL_law_1058 : decode cL_law 1058 = .ok (.iaload, 1) := by decide +kernel
theorem dL_law_1059 : decode cL_law 1059 = .ok (.aload_n 3, 1) := by decide +kernel
theorem dL_law_1060 : decode cL_law 1060 = .ok (.invokestatic 145, 3) := by decide +kernel
theorem dL_law_1063 : decode cL_law 1063 = .ok (.istore 5, 2) := by decide +kernel
theorem dL_law_1065 : decode cL_law 1065 = .ok (.aload_n 2, 1) := by decide +kernel
theorem dL_law_1066 : decode cL_law 1066 = .ok (.aload_n 0, 1) := by decide +kernel
theorem dL_law_1067 : decode cL_law 1067 = .ok (.iload 4, 2) := by decide +kernel
theorem dL_law_1069 : decode cL_law 1069 = .ok (.iconst 1, 1) := by decide +kernel
theorem dL_law_1070 : decode cL_law 1070 = .ok (.iadd, 1) := by decide +kernel
theorem dL_law_1071 : decode cL_law 1071 = .ok (.iaload, 1) := by decide +kernel
theorem dL_law_1072 : decode cL_law 1072 = .ok (.invokevirtual 147, 3) := by decide +kernel
theorem dL_law_1075 : decode cL_law 1075 = .ok (.istore 6, 2) := by decide +kernel
theorem dL_law_1077 : decode cL_law 1077 = .ok (.aload_n 2, 1) := by decide +kernel
theorem dL_law_1078 : decode cL_law 1078 = .ok (.invokevirtual 92, 3) := by decide +kernel
theorem dL_law_1081 : decode cL_law 1081 = .ok (.iload 5, 2) := by decide +kernel
theorem dL_law_1083 : decode cL_law 1083 = .ok (.if_icmp .eq 5, 3) := by decide +kernel
theorem dL_law_1086 : decode cL_law 1086 = .ok (.iconst 0, 1) := by decide +kernel
theorem dL_law_1087 : decode cL_law 1087 = .ok (.ireturn, 1) := by decide +kernel
theorem dL_law_1088 : decode cL_law 1088 = .ok (.iload 5, 2) := by decide +kernel
theorem dL_law_1090 : decode cL_law 1090 = .ok (.ifCond .ne 15, 3) := by decide +kernel
theorem dL_law_1093 : decode cL_law 1093 = .ok (.aload_n 3, 1) := by decide +kernel
theorem dL_law_1094 : decode cL_law 1094 = .ok (.iconst 0, 1) := by decide +kernel
theorem dL_law_1095 : decode cL_law 1095 = .ok (.laload, 1) := by decide +kernel
theorem dL_law_1096 : decode cL_law 1096 = .ok (.iload 6, 2) := by decide +kernel
theorem dL_law_1098 : decode cL_law 1098 = .ok (.i2l, 1) := by decide +kernel
theorem dL_law_1099 : decode cL_law 1099 = .ok (.lcmp, 1) := by decide +kernel
theorem dL_law_1100 : decode cL_law 1100 = .ok (.ifCond .eq 5, 3) := by decide +kernel
theorem dL_law_1103 : decode cL_law 1103 = .ok (.iconst 0, 1) := by decide +kernel
theorem dL_law_1104 : decode cL_law 1104 = .ok (.ireturn, 1) := by decide +kernel
theorem dL_law_1105 : decode cL_law 1105 = .ok (.goto 486, 3) := by decide +kernel
theorem dL_law_1108 : decode cL_law 1108 = .ok (.aload_n 1, 1) := by decide +kernel
theorem dL_law_1109 : decode cL_law 1109 = .ok (.aload_n 0, 1) := by decide +kernel
theorem dL_law_1110 : decode cL_law 1110 = .ok (.iload 4, 2) := by decide +kernel
theorem dL_law_1112 : decode cL_law 1112 = .ok (.iconst 1, 1) := by decide +kernel
theorem dL_law_1113 : decode cL_law 1113 = .ok (.iadd, 1) := by decide +kernel
theorem dL_law_1114 : decode cL_law 1114 = .ok (.iaload, 1) := by decide +kernel
theorem dL_law_1115 : decode cL_law 1115 = .ok (.aload_n 0, 1) := by decide +kernel
theorem dL_law_1116 : decode cL_law 1116 = .ok (.iload 4, 2) := by decide +kernel
theorem dL_law_1118 : decode cL_law 1118 = .ok (.iconst 2, 1) := by decide +kernel
theorem dL_law_1119 : decode cL_law 1119 = .ok (.iadd, 1) := by decide +kernel
theorem dL_law_1120 : decode cL_law 1120 = .ok (.iaload, 1) := by decide +kernel
theorem dL_law_1121 : decode cL_law 1121 = .ok (.aload_n 3, 1) := by decide +kernel
theorem dL_law_1122 : decode cL_law 1122 = .ok (.invokestatic 148, 3) := by decide +kernel
theorem dL_law_1125 : decode cL_law 1125 = .ok (.istore 5, 2) := by decide +kernel
theorem dL_law_1127 : decode cL_law 1127 = .ok (.aload_n 2, 1) := by decide +kernel
theorem dL_law_1128 : decode cL_law 1128 = .ok (.aload_n 0, 1) := by decide +kernel
theorem dL_law_1129 : decode cL_law 1129 = .ok (.iload 4, 2) := by decide +kernel
theorem dL_law_1131 : decode cL_law 1131 = .ok (.iconst 1, 1) := by decide +kernel
theorem dL_law_1132 : decode cL_law 1132 = .ok (.iadd, 1) := by decide +kernel
theorem dL_law_1133 : decode cL_law 1133 = .ok (.iaload, 1) := by decide +kernel
theorem dL_law_1134 : decode cL_law 1134 = .ok (.aload_n 0, 1) := by decide +kernel
theorem dL_law_1135 : decode cL_law 1135 = .ok (.iload 4, 2) := by decide +kernel
theorem dL_law_1137 : decode cL_law 1137 = .ok (.iconst 2, 1) := by decide +kernel
theorem dL_law_1138 : decode cL_law 1138 = .ok (.iadd, 1) := by decide +kernel
theorem dL_law_1139 : decode cL_law 1139 = .ok (.iaload, 1) := by decide +kernel
theorem dL_law_1140 : decode cL_law 1140 = .ok (.invokevirtual 150, 3) := by decide +kernel
theorem dL_law_1143 : decode cL_law 1143 = .ok (.istore 6, 2) := by decide +kernel
theorem dL_law_1145 : decode cL_law 1145 = .ok (.aload_n 2, 1) := by decide +kernel
theorem dL_law_1146 : decode cL_law 1146 = .ok (.invokevirtual 92, 3) := by decide +kernel
theorem dL_law_1149 : decode cL_law 1149 = .ok (.iload 5, 2) := by decide +kernel
theorem dL_law_1151 : decode cL_law 1151 = .ok (.if_icmp .eq 5, 3) := by decide +kernel
theorem dL_law_1154 : decode cL_law 1154 = .ok (.iconst 0, 1) := by decide +kernel
theorem dL_law_1155 : decode cL_law 1155 = .ok (.ireturn, 1) := by decide +kernel
theorem dL_law_1156 : decode cL_law 1156 = .ok (.iload 5, 2) := by decide +kernel
theorem dL_law_1158 : decode cL_law 1158 = .ok (.ifCond .ne 15, 3) := by decide +kernel
theorem dL_law_1161 : decode cL_law 1161 = .ok (.aload_n 3, 1) := by decide +kernel
theorem dL_law_1162 : decode cL_law 1162 = .ok (.iconst 0, 1) := by decide +kernel
theorem dL_law_1163 : decode cL_law 1163 = .ok (.laload, 1) := by decide +kernel
theorem dL_law_1164 : decode cL_law 1164 = .ok (.iload 6, 2) := by decide +kernel
theorem dL_law_1166 : decode cL_law 1166 = .ok (.i2l, 1) := by decide +kernel
theorem dL_law_1167 : decode cL_law 1167 = .ok (.lcmp, 1) := by decide +kernel
theorem dL_law_1168 : decode cL_law 1168 = .ok (.ifCond .eq 5, 3) := by decide +kernel
theorem dL_law_1171 : decode cL_law 1171 = .ok (.iconst 0, 1) := by decide +kernel
theorem dL_law_1172 : decode cL_law 1172 = .ok (.ireturn, 1) := by decide +kernel
theorem dL_law_1173 : decode cL_law 1173 = .ok (.goto 418, 3) := by decide +kernel
theorem dL_law_1176 : decode cL_law 1176 = .ok (.aload_n 1, 1) := by decide +kernel
theorem dL_law_1177 : decode cL_law 1177 = .ok (.aload_n 0, 1) := by decide +kernel
theorem dL_law_1178 : decode cL_law 1178 = .ok (.iload 4, 2) := by decide +kernel
theorem dL_law_1180 : decode cL_law 1180 = .ok (.iconst 1, 1) := by decide +kernel
theorem dL_law_1181 : decode cL_law 1181 = .ok (.iadd, 1) := by decide +kernel
theorem dL_law_1182 : decode cL_law 1182 = .ok (.iaload, 1) := by decide +kernel
theorem dL_law_1183 : decode cL_law 1183 = .ok (.aload_n 0, 1) := by decide +kernel
theorem dL_law_1184 : decode cL_law 1184 = .ok (.iload 4, 2) := by decide +kernel
theorem dL_law_1186 : decode cL_law 1186 = .ok (.iconst 2, 1) := by decide +kernel
theorem dL_law_1187 : decode cL_law 1187 = .ok (.iadd, 1) := by decide +kernel
theorem dL_law_1188 : decode cL_law 1188 = .ok (.iaload, 1) := by decide +kernel
theorem dL_law_1189 : decode cL_law 1189 = .ok (.aload_n 3, 1) := by decide +kernel
theorem dL_law_1190 : decode cL_law 1190 = .ok (.invokestatic 151, 3) := by decide +kernel
theorem dL_law_1193 : decode cL_law 1193 = .ok (.istore 5, 2) := by decide +kernel
theorem dL_law_1195 : decode cL_law 1195 = .ok (.aload_n 2, 1) := by decide +kernel
theorem dL_law_1196 : decode cL_law 1196 = .ok (.aload_n 0, 1) := by decide +kernel
theorem dL_law_1197 : decode cL_law 1197 = .ok (.iload 4, 2) := by decide +kernel
theorem dL_law_1199 : decode cL_law 1199 = .ok (.iconst 1, 1) := by decide +kernel
theorem dL_law_1200 : decode cL_law 1200 = .ok (.iadd, 1) := by decide +kernel
theorem dL_law_1201 : decode cL_law 1201 = .ok (.iaload, 1) := by decide +kernel
theorem dL_law_1202 : decode cL_law 1202 = .ok (.aload_n 0, 1) := by decide +kernel
theorem dL_law_1203 : decode cL_law 1203 = .ok (.iload 4, 2) := by decide +kernel
theorem dL_law_1205 : decode cL_law 1205 = .ok (.iconst 2, 1) := by decide +kernel
theorem dL_law_1206 : decode cL_law 1206 = .ok (.iadd, 1) := by decide +kernel
theorem dL_law_1207 : decode cL_law 1207 = .ok (.iaload, 1) := by decide +kernel
theorem dL_law_1208 : decode cL_law 1208 = .ok (.invokevirtual 153, 3) := by decide +kernel
theorem dL_law_1211 : decode cL_law 1211 = .ok (.istore 6, 2) := by decide +kernel
theorem dL_law_1213 : decode cL_law 1213 = .ok (.aload_n 2, 1) := by decide +kernel
theorem dL_law_1214 : decode cL_law 1214 = .ok (.invokevirtual 92, 3) := by decide +kernel
theorem dL_law_1217 : decode cL_law 1217 = .ok (.iload 5, 2) := by decide +kernel
theorem dL_law_1219 : decode cL_law 1219 = .ok (.if_icmp .eq 5, 3) := by decide +kernel
theorem dL_law_1222 : decode cL_law 1222 = .ok (.iconst 0, 1) := by decide +kernel
theorem dL_law_1223 : decode cL_law 1223 = .ok (.ireturn, 1) := by decide +kernel
theorem dL_law_1224 : decode cL_law 1224 = .ok (.iload 5, 2) := by decide +kernel
theorem dL_law_1226 : decode cL_law 1226 = .ok (.ifCond .ne 15, 3) := by decide +kernel
theorem dL_law_1229 : decode cL_law 1229 = .ok (.aload_n 3, 1) := by decide +kernel
theorem dL_law_1230 : decode cL_law 1230 = .ok (.iconst 0, 1) := by decide +kernel
theorem dL_law_1231 : decode cL_law 1231 = .ok (.laload, 1) := by decide +kernel
theorem dL_law_1232 : decode cL_law 1232 = .ok (.iload 6, 2) := by decide +kernel
theorem dL_law_1234 : decode cL_law 1234 = .ok (.i2l, 1) := by decide +kernel
theorem dL_law_1235 : decode cL_law 1235 = .ok (.lcmp, 1) := by decide +kernel
theorem dL_law_1236 : decode cL_law 1236 = .ok (.ifCond .eq 5, 3) := by decide +kernel
theorem dL_law_1239 : decode cL_law 1239 = .ok (.iconst 0, 1) := by decide +kernel
theorem dL_law_1240 : decode cL_law 1240 = .ok (.ireturn, 1) := by decide +kernel
theorem dL_law_1241 : decode cL_law 1241 = .ok (.goto 350, 3) := by decide +kernel
theorem dL_law_1244 : decode cL_law 1244 = .ok (.aload_n 1, 1) := by decide +kernel
theorem dL_law_1245 : decode cL_law 1245 = .ok (.aload_n 0, 1) := by decide +kernel
theorem dL_law_1246 : decode cL_law 1246 = .ok (.iload 4, 2) := by decide +kernel
theorem dL_law_1248 : decode cL_law 1248 = .ok (.iconst 1, 1) := by decide +kernel
theorem dL_law_1249 : decode cL_law 1249 = .ok (.iadd, 1) := by decide +kernel
theorem dL_law_1250 : decode cL_law 1250 = .ok (.iaload, 1) := by decide +kernel
theorem dL_law_1251 : decode cL_law 1251 = .ok (.aload_n 0, 1) := by decide +kernel
theorem dL_law_1252 : decode cL_law 1252 = .ok (.iload 4, 2) := by decide +kernel
theorem dL_law_1254 : decode cL_law 1254 = .ok (.iconst 2, 1) := by decide +kernel
theorem dL_law_1255 : decode cL_law 1255 = .ok (.iadd, 1) := by decide +kernel
theorem dL_law_1256 : decode cL_law 1256 = .ok (.iaload, 1) := by decide +kernel
theorem dL_law_1257 : decode cL_law 1257 = .ok (.aload_n 0, 1) := by decide +kernel
theorem dL_law_1258 : decode cL_law 1258 = .ok (.iload 4, 2) := by decide +kernel
theorem dL_law_1260 : decode cL_law 1260 = .ok (.iconst 3, 1) := by decide +kernel
theorem dL_law_1261 : decode cL_law 1261 = .ok (.iadd, 1) := by decide +kernel
theorem dL_law_1262 : decode cL_law 1262 = .ok (.iaload, 1) := by decide +kernel
theorem dL_law_1263 : decode cL_law 1263 = .ok (.aload_n 3, 1) := by decide +kernel
theorem dL_law_1264 : decode cL_law 1264 = .ok (.invokestatic 154, 3) := by decide +kernel
theorem dL_law_1267 : decode cL_law 1267 = .ok (.istore 5, 2) := by decide +kernel
theorem dL_law_1269 : decode cL_law 1269 = .ok (.aload_n 2, 1) := by decide +kernel
theorem dL_law_1270 : decode cL_law 1270 = .ok (.aload_n 0, 1) := by decide +kernel
theorem dL_law_1271 : decode cL_law 1271 = .ok (.iload 4, 2) := by decide +kernel
theorem dL_law_1273 : decode cL_law 1273 = .ok (.iconst 1, 1) := by decide +kernel
theorem dL_law_1274 : decode cL_law 1274 = .ok (.iadd, 1) := by decide +kernel
theorem dL_law_1275 : decode cL_law 1275 = .ok (.iaload, 1) := by decide +kernel
theorem dL_law_1276 : decode cL_law 1276 = .ok (.aload_n 0, 1) := by decide +kernel
theorem dL_law_1277 : decode cL_law 1277 = .ok (.iload 4, 2) := by decide +kernel
theorem dL_law_1279 : decode cL_law 1279 = .ok (.iconst 2, 1) := by decide +kernel
theorem dL_law_1280 : decode cL_law 1280 = .ok (.iadd, 1) := by decide +kernel
theorem dL_law_1281 : decode cL_law 1281 = .ok (.iaload, 1) := by decide +kernel
theorem dL_law_1282 : decode cL_law 1282 = .ok (.aload_n 0, 1) := by decide +kernel
theorem dL_law_1283 : decode cL_law 1283 = .ok (.iload 4, 2) := by decide +kernel
theorem dL_law_1285 : decode cL_law 1285 = .ok (.iconst 3, 1) := by decide +kernel
theorem dL_law_1286 : decode cL_law 1286 = .ok (.iadd, 1) := by decide +kernel
theorem dL_law_1287 : decode cL_law 1287 = .ok (.iaload, 1) := by decide +kernel
theorem dL_law_1288 : decode cL_law 1288 = .ok (.invokevirtual 156, 3) := by decide +kernel
theorem dL_law_1291 : decode cL_law 1291 = .ok (.istore 6, 2) := by decide +kernel
theorem dL_law_1293 : decode cL_law 1293 = .ok (.aload_n 2, 1) := by decide +kernel
theorem dL_law_1294 : decode cL_law 1294 = .ok (.invokevirtual 92, 3) := by decide +kernel
theorem dL_law_1297 : decode cL_law 1297 = .ok (.iload 5, 2) := by decide +kernel
theorem dL_law_1299 : decode cL_law 1299 = .ok (.if_icmp .eq 5, 3) := by decide +kernel
theorem dL_law_1302 : decode cL_law 1302 = .ok (.iconst 0, 1) := by decide +kernel
theorem dL_law_1303 : decode cL_law 1303 = .ok (.ireturn, 1) := by decide +kernel
theorem dL_law_1304 : decode cL_law 1304 = .ok (.iload 5, 2) := by decide +kernel
theorem dL_law_1306 : decode cL_law 1306 = .ok (.ifCond .ne 15, 3) := by decide +kernel
theorem dL_law_1309 : decode cL_law 1309 = .ok (.aload_n 3, 1) := by decide +kernel
theorem dL_law_1310 : decode cL_law 1310 = .ok (.iconst 0, 1) := by decide +kernel
theorem dL_law_1311 : decode cL_law 1311 = .ok (.laload, 1) := by decide +kernel
theorem dL_law_1312 : decode cL_law 1312 = .ok (.iload 6, 2) := by decide +kernel
theorem dL_law_1314 : decode cL_law 1314 = .ok (.i2l, 1) := by decide +kernel
theorem dL_law_1315 : decode cL_law 1315 = .ok (.lcmp, 1) := by decide +kernel
theorem dL_law_1316 : decode cL_law 1316 = .ok (.ifCond .eq 5, 3) := by decide +kernel
theorem dL_law_1319 : decode cL_law 1319 = .ok (.iconst 0, 1) := by decide +kernel
theorem dL_law_1320 : decode cL_law 1320 = .ok (.ireturn, 1) := by decide +kernel
theorem dL_law_1321 : decode cL_law 1321 = .ok (.goto 270, 3) := by decide +kernel
theorem dL_law_1324 : decode cL_law 1324 = .ok (.aload_n 1, 1) := by decide +kernel
theorem dL_law_1325 : decode cL_law 1325 = .ok (.aload_n 0, 1) := by decide +kernel
theorem dL_law_1326 : decode cL_law 1326 = .ok (.iload 4, 2) := by decide +kernel
theorem dL_law_1328 : decode cL_law 1328 = .ok (.iconst 1, 1) := by decide +kernel
theorem dL_law_1329 : decode cL_law 1329 = .ok (.iadd, 1) := by decide +kernel
theorem dL_law_1330 : decode cL_law 1330 = .ok (.iaload, 1) := by decide +kernel
theorem dL_law_1331 : decode cL_law 1331 = .ok (.aload_n 0, 1) := by decide +kernel
theorem dL_law_1332 : decode cL_law 1332 = .ok (.iload 4, 2) := by decide +kernel
theorem dL_law_1334 : decode cL_law 1334 = .ok (.iconst 2, 1) := by decide +kernel
theorem dL_law_1335 : decode cL_law 1335 = .ok (.iadd, 1) := by decide +kernel
theorem dL_law_1336 : decode cL_law 1336 = .ok (.iaload, 1) := by decide +kernel
theorem dL_law_1337 : decode cL_law 1337 = .ok (.ifCond .eq 7, 3) := by decide +kernel
theorem dL_law_1340 : decode cL_law 1340 = .ok (.iconst 1, 1) := by decide +kernel
theorem dL_law_1341 : decode cL_law 1341 = .ok (.goto 4, 3) := by decide +kernel
theorem dL_law_1344 : decode cL_law 1344 = .ok (.iconst 0, 1) := by decide +kernel
theorem dL_law_1345 : decode cL_law 1345 = .ok (.aload_n 3, 1) := by decide +kernel
theorem dL_law_1346 : decode cL_law 1346 = .ok (.invokestatic 157, 3) := by decide +kernel
theorem dL_law_1349 : decode cL_law 1349 = .ok (.istore 5, 2) := by decide +kernel
theorem dL_law_1351 : decode cL_law 1351 = .ok (.aload_n 2, 1) := by decide +kernel
theorem dL_law_1352 : decode cL_law 1352 = .ok (.aload_n 0, 1) := by decide +kernel
theorem dL_law_1353 : decode cL_law 1353 = .ok (.iload 4, 2) := by decide +kernel
theorem dL_law_1355 : decode cL_law 1355 = .ok (.iconst 1, 1) := by decide +kernel
theorem dL_law_1356 : decode cL_law 1356 = .ok (.iadd, 1) := by decide +kernel
theorem dL_law_1357 : decode cL_law 1357 = .ok (.iaload, 1) := by decide +kernel
theorem dL_law_1358 : decode cL_law 1358 = .ok (.aload_n 0, 1) := by decide +kernel
theorem dL_law_1359 : decode cL_law 1359 = .ok (.iload 4, 2) := by decide +kernel
theorem dL_law_1361 : decode cL_law 1361 = .ok (.iconst 2, 1) := by decide +kernel
theorem dL_law_1362 : decode cL_law 1362 = .ok (.iadd, 1) := by decide +kernel
theorem dL_law_1363 : decode cL_law 1363 = .ok (.iaload, 1) := by decide +kernel
theorem dL_law_1364 : decode cL_law 1364 = .ok (.ifCond .eq 7, 3) := by decide +kernel
theorem dL_law_1367 : decode cL_law 1367 = .ok (.iconst 1, 1) := by decide +kernel
theorem dL_law_1368 : decode cL_law 1368 = .ok (.goto 4, 3) := by decide +kernel
theorem dL_law_1371 : decode cL_law 1371 = .ok (.iconst 0, 1) := by decide +kernel
theorem dL_law_1372 : decode cL_law 1372 = .ok (.invokevirtual 160, 3) := by decide +kernel
theorem dL_law_1375 : decode cL_law 1375 = .ok (.istore 6, 2) := by decide +kernel
theorem dL_law_1377 : decode cL_law 1377 = .ok (.aload_n 2, 1) := by decide +kernel
theorem dL_law_1378 : decode cL_law 1378 = .ok (.invokevirtual 92, 3) := by decide +kernel
theorem dL_law_1381 : decode cL_law 1381 = .ok (.iload 5, 2) := by decide +kernel
theorem dL_law_1383 : decode cL_law 1383 = .ok (.if_icmp .eq 5, 3) := by decide +kernel
theorem dL_law_1386 : decode cL_law 1386 = .ok (.iconst 0, 1) := by decide +kernel
theorem dL_law_1387 : decode cL_law 1387 = .ok (.ireturn, 1) := by decide +kernel
theorem dL_law_1388 : decode cL_law 1388 = .ok (.iload 5, 2) := by decide +kernel
theorem dL_law_1390 : decode cL_law 1390 = .ok (.ifCond .ne 22, 3) := by decide +kernel
theorem dL_law_1393 : decode cL_law 1393 = .ok (.aload_n 3, 1) := by decide +kernel
theorem dL_law_1394 : decode cL_law 1394 = .ok (.iconst 0, 1) := by decide +kernel
theorem dL_law_1395 : decode cL_law 1395 = .ok (.laload, 1) := by decide +kernel
theorem dL_law_1396 : decode cL_law 1396 = .ok (.iload 6, 2) := by decide +kernel
theorem dL_law_1398 : decode cL_law 1398 = .ok (.ifCond .eq 7, 3) := by decide +kernel
theorem dL_law_1401 : decode cL_law 1401 = .ok (.lconst 1, 1) := by decide +kernel
theorem dL_law_1402 : decode cL_law 1402 = .ok (.goto 4, 3) := by decide +kernel
theorem dL_law_1405 : decode cL_law 1405 = .ok (.lconst 0, 1) := by decide +kernel
theorem dL_law_1406 : decode cL_law 1406 = .ok (.lcmp, 1) := by decide +kernel
theorem dL_law_1407 : decode cL_law 1407 = .ok (.ifCond .eq 5, 3) := by decide +kernel
theorem dL_law_1410 : decode cL_law 1410 = .ok (.iconst 0, 1) := by decide +kernel
theorem dL_law_1411 : decode cL_law 1411 = .ok (.ireturn, 1) := by decide +kernel
theorem dL_law_1412 : decode cL_law 1412 = .ok (.goto 179, 3) := by decide +kernel
theorem dL_law_1415 : decode cL_law 1415 = .ok (.aload_n 1, 1) := by decide +kernel
theorem dL_law_1416 : decode cL_law 1416 = .ok (.aload_n 0, 1) := by decide +kernel
theorem dL_law_1417 : decode cL_law 1417 = .ok (.iload 4, 2) := by decide +kernel
theorem dL_law_1419 : decode cL_law 1419 = .ok (.iconst 1, 1) := by decide +kernel
theorem dL_law_1420 : decode cL_law 1420 = .ok (.iadd, 1) := by decide +kernel
theorem dL_law_1421 : decode cL_law 1421 = .ok (.iaload, 1) := by decide +kernel
theorem dL_law_1422 : decode cL_law 1422 = .ok (.aload_n 0, 1) := by decide +kernel
theorem dL_law_1423 : decode cL_law 1423 = .ok (.iload 4, 2) := by decide +kernel
theorem dL_law_1425 : decode cL_law 1425 = .ok (.iconst 2, 1) := by decide +kernel
theorem dL_law_1426 : decode cL_law 1426 = .ok (.iadd, 1) := by decide +kernel
theorem dL_law_1427 : decode cL_law 1427 = .ok (.iaload, 1) := by decide +kernel
theorem dL_law_1428 : decode cL_law 1428 = .ok (.aload_n 0, 1) := by decide +kernel
theorem dL_law_1429 : decode cL_law 1429 = .ok (.iload 4, 2) := by decide +kernel
theorem dL_law_1431 : decode cL_law 1431 = .ok (.iconst 3, 1) := by decide +kernel
theorem dL_law_1432 : decode cL_law 1432 = .ok (.iadd, 1) := by decide +kernel
theorem dL_law_1433 : decode cL_law 1433 = .ok (.iaload, 1) := by decide +kernel
theorem dL_law_1434 : decode cL_law 1434 = .ok (.aload_n 3, 1) := by decide +kernel
theorem dL_law_1435 : decode cL_law 1435 = .ok (.invokestatic 161, 3) := by decide +kernel
theorem dL_law_1438 : decode cL_law 1438 = .ok (.istore 5, 2) := by decide +kernel
theorem dL_law_1440 : decode cL_law 1440 = .ok (.aload_n 2, 1) := by decide +kernel
theorem dL_law_1441 : decode cL_law 1441 = .ok (.aload_n 0, 1) := by decide +kernel
theorem dL_law_1442 : decode cL_law 1442 = .ok (.iload 4, 2) := by decide +kernel
theorem dL_law_1444 : decode cL_law 1444 = .ok (.iconst 1, 1) := by decide +kernel
theorem dL_law_1445 : decode cL_law 1445 = .ok (.iadd, 1) := by decide +kernel
theorem dL_law_1446 : decode cL_law 1446 = .ok (.iaload, 1) := by decide +kernel
theorem dL_law_1447 : decode cL_law 1447 = .ok (.aload_n 0, 1) := by decide +kernel
theorem dL_law_1448 : decode cL_law 1448 = .ok (.iload 4, 2) := by decide +kernel
theorem dL_law_1450 : decode cL_law 1450 = .ok (.iconst 2, 1) := by decide +kernel
theorem dL_law_1451 : decode cL_law 1451 = .ok (.iadd, 1) := by decide +kernel
theorem dL_law_1452 : decode cL_law 1452 = .ok (.iaload, 1) := by decide +kernel
theorem dL_law_1453 : decode cL_law 1453 = .ok (.aload_n 0, 1) := by decide +kernel
theorem dL_law_1454 : decode cL_law 1454 = .ok (.iload 4, 2) := by decide +kernel
theorem dL_law_1456 : decode cL_law 1456 = .ok (.iconst 3, 1) := by decide +kernel
theorem dL_law_1457 : decode cL_law 1457 = .ok (.iadd, 1) := by decide +kernel
theorem dL_law_1458 : decode cL_law 1458 = .ok (.iaload, 1) := by decide +kernel
theorem dL_law_1459 : decode cL_law 1459 = .ok (.invokevirtual 163, 3) := by decide +kernel
theorem dL_law_1462 : decode cL_law 1462 = .ok (.istore 6, 2) := by decide +kernel
theorem dL_law_1464 : decode cL_law 1464 = .ok (.aload_n 2, 1) := by decide +kernel
theorem dL_law_1465 : decode cL_law 1465 = .ok (.invokevirtual 92, 3) := by decide +kernel
theorem dL_law_1468 : decode cL_law 1468 = .ok (.iload 5, 2) := by decide +kernel
theorem dL_law_1470 : decode cL_law 1470 = .ok (.if_icmp .eq 5, 3) := by decide +kernel
theorem dL_law_1473 : decode cL_law 1473 = .ok (.iconst 0, 1) := by decide +kernel
theorem dL_law_1474 : decode cL_law 1474 = .ok (.ireturn, 1) := by decide +kernel
theorem dL_law_1475 : decode cL_law 1475 = .ok (.iload 5, 2) := by decide +kernel
theorem dL_law_1477 : decode cL_law 1477 = .ok (.ifCond .ne 15, 3) := by decide +kernel
theorem dL_law_1480 : decode cL_law 1480 = .ok (.aload_n 3, 1) := by decide +kernel
theorem dL_law_1481 : decode cL_law 1481 = .ok (.iconst 0, 1) := by decide +kernel
theorem dL_law_1482 : decode cL_law 1482 = .ok (.laload, 1) := by decide +kernel
theorem dL_law_1483 : decode cL_law 1483 = .ok (.iload 6, 2) := by decide +kernel
theorem dL_law_1485 : decode cL_law 1485 = .ok (.i2l, 1) := by decide +kernel
theorem dL_law_1486 : decode cL_law 1486 = .ok (.lcmp, 1) := by decide +kernel
theorem dL_law_1487 : decode cL_law 1487 = .ok (.ifCond .eq 5, 3) := by decide +kernel
theorem dL_law_1490 : decode cL_law 1490 = .ok (.iconst 0, 1) := by decide +kernel
theorem dL_law_1491 : decode cL_law 1491 = .ok (.ireturn, 1) := by decide +kernel
theorem dL_law_1492 : decode cL_law 1492 = .ok (.goto 99, 3) := by decide +kernel
theorem dL_law_1495 : decode cL_law 1495 = .ok (.aload_n 1, 1) := by decide +kernel
theorem dL_law_1496 : decode cL_law 1496 = .ok (.aload_n 0, 1) := by decide +kernel
theorem dL_law_1497 : decode cL_law 1497 = .ok (.iload 4, 2) := by decide +kernel
theorem dL_law_1499 : decode cL_law 1499 = .ok (.iconst 1, 1) := by decide +kernel
theorem dL_law_1500 : decode cL_law 1500 = .ok (.iadd, 1) := by decide +kernel
theorem dL_law_1501 : decode cL_law 1501 = .ok (.iaload, 1) := by decide +kernel
theorem dL_law_1502 : decode cL_law 1502 = .ok (.aload_n 3, 1) := by decide +kernel
theorem dL_law_1503 : decode cL_law 1503 = .ok (.invokestatic 164, 3) := by decide +kernel
theorem dL_law_1506 : decode cL_law 1506 = .ok (.istore 5, 2) := by decide +kernel
theorem dL_law_1508 : decode cL_law 1508 = .ok (.aload_n 2, 1) := by decide +kernel
theorem dL_law_1509 : decode cL_law 1509 = .ok (.aload_n 0, 1) := by decide +kernel
theorem dL_law_1510 : decode cL_law 1510 = .ok (.iload 4, 2) := by decide +kernel
theorem dL_law_1512 : decode cL_law 1512 = .ok (.iconst 1, 1) := by decide +kernel
theorem dL_law_1513 : decode cL_law 1513 = .ok (.iadd, 1) := by decide +kernel
theorem dL_law_1514 : decode cL_law 1514 = .ok (.iaload, 1) := by decide +kernel
theorem dL_law_1515 : decode cL_law 1515 = .ok (.invokevirtual 166, 3) := by decide +kernel
theorem dL_law_1518 : decode cL_law 1518 = .ok (.istore 6, 2) := by decide +kernel
theorem dL_law_1520 : decode cL_law 1520 = .ok (.aload_n 2, 1) := by decide +kernel
theorem dL_law_1521 : decode cL_law 1521 = .ok (.invokevirtual 92, 3) := by decide +kernel
theorem dL_law_1524 : decode cL_law 1524 = .ok (.iload 5, 2) := by decide +kernel
theorem dL_law_1526 : decode cL_law 1526 = .ok (.if_icmp .eq 5, 3) := by decide +kernel
theorem dL_law_1529 : decode cL_law 1529 = .ok (.iconst 0, 1) := by decide +kernel
theorem dL_law_1530 : decode cL_law 1530 = .ok (.ireturn, 1) := by decide +kernel
theorem dL_law_1531 : decode cL_law 1531 = .ok (.iload 5, 2) := by decide +kernel
theorem dL_law_1533 : decode cL_law 1533 = .ok (.ifCond .ne 15, 3) := by decide +kernel
theorem dL_law_1536 : decode cL_law 1536 = .ok (.aload_n 3, 1) := by decide +kernel
theorem dL_law_1537 : decode cL_law 1537 = .ok (.iconst 0, 1) := by decide +kernel
theorem dL_law_1538 : decode cL_law 1538 = .ok (.laload, 1) := by decide +kernel
theorem dL_law_1539 : decode cL_law 1539 = .ok (.iload 6, 2) := by decide +kernel
theorem dL_law_1541 : decode cL_law 1541 = .ok (.i2l, 1) := by decide +kernel
theorem dL_law_1542 : decode cL_law 1542 = .ok (.lcmp, 1) := by decide +kernel
theorem dL_law_1543 : decode cL_law 1543 = .ok (.ifCond .eq 5, 3) := by decide +kernel
theorem dL_law_1546 : decode cL_law 1546 = .ok (.iconst 0, 1) := by decide +kernel
theorem dL_law_1547 : decode cL_law 1547 = .ok (.ireturn, 1) := by decide +kernel
theorem dL_law_1548 : decode cL_law 1548 = .ok (.goto 43, 3) := by decide +kernel
theorem dL_law_1551 : decode cL_law 1551 = .ok (.aload_n 1, 1) := by decide +kernel
theorem dL_law_1552 : decode cL_law 1552 = .ok (.invokevirtual 167, 3) := by decide +kernel
theorem dL_law_1555 : decode cL_law 1555 = .ok (.aload_n 2, 1) := by decide +kernel
theorem dL_law_1556 : decode cL_law 1556 = .ok (.invokevirtual 170, 3) := by decide +kernel
theorem dL_law_1559 : decode cL_law 1559 = .ok (.if_icmp .eq 32, 3) := by decide +kernel
theorem dL_law_1562 : decode cL_law 1562 = .ok (.iconst 0, 1) := by decide +kernel
theorem dL_law_1563 : decode cL_law 1563 = .ok (.ireturn, 1) := by decide +kernel
theorem dL_law_1564 : decode cL_law 1564 = .ok (.aload_n 1, 1) := by decide +kernel
theorem dL_law_1565 : decode cL_law 1565 = .ok (.invokevirtual 171, 3) := by decide +kernel
theorem dL_law_1568 : decode cL_law 1568 = .ok (.aload_n 2, 1) := by decide +kernel
theorem dL_law_1569 : decode cL_law 1569 = .ok (.invokevirtual 174, 3) := by decide +kernel
theorem dL_law_1572 : decode cL_law 1572 = .ok (.if_icmp .eq 19, 3) := by decide +kernel
theorem dL_law_1575 : decode cL_law 1575 = .ok (.iconst 0, 1) := by decide +kernel
theorem dL_law_1576 : decode cL_law 1576 = .ok (.ireturn, 1) := by decide +kernel
theorem dL_law_1577 : decode cL_law 1577 = .ok (.aload_n 1, 1) := by decide +kernel
theorem dL_law_1578 : decode cL_law 1578 = .ok (.invokevirtual 175, 3) := by decide +kernel
theorem dL_law_1581 : decode cL_law 1581 = .ok (.aload_n 2, 1) := by decide +kernel
theorem dL_law_1582 : decode cL_law 1582 = .ok (.invokevirtual 179, 3) := by decide +kernel
theorem dL_law_1585 : decode cL_law 1585 = .ok (.lcmp, 1) := by decide +kernel
theorem dL_law_1586 : decode cL_law 1586 = .ok (.ifCond .eq 5, 3) := by decide +kernel
theorem dL_law_1589 : decode cL_law 1589 = .ok (.iconst 0, 1) := by decide +kernel
theorem dL_law_1590 : decode cL_law 1590 = .ok (.ireturn, 1) := by decide +kernel
theorem dL_law_1591 : decode cL_law 1591 = .ok (.iinc 4 6, 3) := by decide +kernel
theorem dL_law_1594 : decode cL_law 1594 = .ok (.goto (-1571), 3) := by decide +kernel
theorem dL_law_1597 : decode cL_law 1597 = .ok (.iconst 1, 1) := by decide +kernel
theorem dL_law_1598 : decode cL_law 1598 = .ok (.ireturn, 1) := by decide +kernel
end
section
/-! My own layer over the kit: one list of words for every method; a fixed plan of places; a state is three functions of place and index. -/
def lwg : List Cond := lw_tbl.filter goodWord
theorem lwg_in {w : Cond} (h : w ∈ lw_tbl) (hg : goodWord w = true) : w ∈ lwg := List.mem_filter.mpr ⟨h, hg⟩
theorem lwg_good {w : Cond} (h : w ∈ lwg) : goodWord w = true := (List.mem_filter.mp h).2
theorem lwg_at {w : Cond} (i : Nat) (h : (decide (lw_tbl[i]? = some w) && goodWord w) = true) : w ∈ lwg := by
  simp only [Bool.and_eq_true, decide_eq_true_eq] at h
  exact lwg_in (List.mem_of_getElem? h.1) h.2
abbrev wz (y : MethodName) (b : ByteArray) (n : Nat) (r : Option FieldType) : List Cond := .code y b n r :: lwg
theorem gi_z {y : MethodName} {b : ByteArray} {n : Nat} {r : Option FieldType} (h : Cond.code y b n r ∈ lwg) : GoodIn lwg (wz y b n r) := by
  intro w hw
  have hm : w ∈ lwg := by
    rcases List.mem_cons.mp hw with h1 | h1
    · rw [h1]; exact h
    · exact h1
  exact ⟨hm, good_of_word (lwg_good hm)⟩
/-! words of a call, of a field -/
def LkS (own : String) (idx : Nat) (y : MethodName) (b : ByteArray) (maxL : Nat) (ret : Option FieldType) (n : Nat) : Prop :=
  Cond.code y b maxL ret ∈ lwg ∧ Cond.methodLink own idx y ∈ lwg ∧ Cond.static y ∈ lwg ∧ Cond.initialized y.cls ∈ lwg ∧ (y.cls ≠ "java/lang/invoke/MethodHandle" ∧ y.cls ≠ "java/lang/invoke/VarHandle" ∧ (parseMethodDescriptor y.desc).map (fun d => d.parameters.length) = some n)
def LkV (own : String) (idx : Nat) (y : MethodName) (b : ByteArray) (maxL : Nat) (ret : Option FieldType) (n : Nat) : Prop :=
  Cond.code y b maxL ret ∈ lwg ∧ Cond.methodLink own idx y ∈ lwg ∧ Cond.instanceMethod y ∈ lwg ∧ Cond.selects y.cls y y ∈ lwg ∧ Cond.initialized y.cls ∈ lwg ∧ (y.cls ≠ "java/lang/invoke/MethodHandle" ∧ y.cls ≠ "java/lang/invoke/VarHandle" ∧ (parseMethodDescriptor y.desc).map (fun d => d.parameters.length) = some n)
def LkN (y : MethodName) (b : ByteArray) (maxL : Nat) (ret : Option FieldType) (n : Nat) : Prop :=
  Cond.code y b maxL ret ∈ lwg ∧ Cond.static y ∈ lwg ∧ Cond.initialized y.cls ∈ lwg ∧ (y.cls ≠ "java/lang/invoke/MethodHandle" ∧ y.cls ≠ "java/lang/invoke/VarHandle" ∧ (parseMethodDescriptor y.desc).map (fun d => d.parameters.length) = some n)
def Fk (own : String) (idx : Nat) (C : String) (T : u_T) (n ci j : Nat) : Prop := vwCl[ci]? = some (C, T, n) ∧ (∀ w ∈ u_ws C T n, w ∈ lwg) ∧ j < n ∧ Cond.fieldLink own idx (T j).1 (T j).2.1 (T j).2.2.1 ∈ lwg
/-! states and places -/
abbrev St : Type := (Nat → Nat → Int32) × (Nat → Nat → Int32) × (Nat → Nat → Int64)
abbrev Lk : Type := (Nat × List (Option Nat)) ⊕ ((Nat × Nat) ⊕ ((Nat × Nat) ⊕ (Nat × Nat × (Nat → Nat))))
abbrev En : Type := va_G × (Nat → ClassId) × Nat × (Nat → Nat) × (Nat → Nat)
def eD (E : En) : va_G := E.1
def eT (E : En) : Nat → ClassId := E.2.1
def eL (E : En) : Nat := E.2.2.1
def eP (E : En) : Nat → Nat := E.2.2.2.1
def eS (E : En) : Nat → Nat := E.2.2.2.2
def tys (E : En) : List (ClassId × FieldType) := [(eT E 0, .byte), (eT E 1, .int), (eT E 2, .long), (eT E 3, .boolean), (eT E 4, .object "ColorScheme$Design"), (eT E 5, .array .int)]
def obv (E : En) (tp : List (Option Nat)) (f : Nat → Int32) : List Value := (List.range tp.length).map (fun j => match tp[j]? with | some (some r) => Value.ref (eP E r) | _ => Value.int (f j))
def rfv (E : En) (n : Nat) (g : Nat → Nat) : Nat → Option Nat := fun j => if j < n then some (eP E (g j)) else none
def ent (E : En) (k : Lk) (i : Nat → Int32) (a : Nat → Int32) (b : Nat → Int64) : va_E := match k with
  | .inl o => .inr (o.1, obv E o.2 i)
  | .inr (.inl r) => .inl (eT E r.1, r.2, .inl a)
  | .inr (.inr (.inl r)) => .inl (eT E r.1, r.2, .inr (.inl b))
  | .inr (.inr (.inr r)) => .inl (eT E r.1, r.2.1, .inr (.inr (.inr (.inr (rfv E r.2.1 r.2.2)))))
def lay (E : En) (kd : Nat → Lk) (x : St) (q : Nat) : va_E := ent E (kd q) (x.1 q) (x.2.1 q) (x.2.2 q)
def fw (N : Nat) (P : Nat → Nat) (C : Nat → va_E) : va_W := (List.range N).map fun i => (P i, C i)
def up2 {α : Type} (f : Nat → Nat → α) (q j : Nat) (v : α) : Nat → Nat → α := fun a b => if a = q then (if b = j then v else f a b) else f a b
theorem up2_eq {α : Type} {f : Nat → Nat → α} {q j : Nat} {v : α} : up2 f q j v q j = v := by simp [up2]
theorem up2_q {α : Type} {f : Nat → Nat → α} {q j a b : Nat} {v : α} (h : a ≠ q) : up2 f q j v a b = f a b := by simp [up2, h]
theorem up2_j {α : Type} {f : Nat → Nat → α} {q j a b : Nat} {v : α} (h : b ≠ j) : up2 f q j v a b = f a b := by simp [up2, h]
theorem up2_row {α : Type} {f : Nat → Nat → α} {q j a : Nat} {v : α} (h : a ≠ q) : up2 f q j v a = f a := by funext b; simp [up2, h]
theorem up2_self {α : Type} {f : Nat → Nat → α} {q j : Nat} {v : α} : up2 f q j v q = fun b => if b = j then v else f q b := by funext b; simp [up2]
theorem fw_at {N : Nat} {P : Nat → Nat} {C : Nat → va_E} {k : Nat} (hk : k < N) : (fw N P C)[k]? = some (P k, C k) := by
  simp [fw, hk]
theorem fw_len {N : Nat} {P : Nat → Nat} {C : Nat → va_E} : (fw N P C).length = N := by simp [fw]
theorem fw_set {N : Nat} {P : Nat → Nat} {C : Nat → va_E} {k : Nat} {e : va_E} : (fw N P C).set k (P k, e) = fw N P (va_up C k e) := by
  apply List.ext_getElem?
  intro i
  rw [List.getElem?_set]
  by_cases h : k = i
  · subst h
    by_cases hk : k < N
    · simp [fw, hk, va_up]
    · simp [fw, hk]
  · rw [if_neg h]
    by_cases hi : i < N
    · simp [fw, hi, va_up, Ne.symm h]
    · simp [fw, hi]
theorem fw_get {N : Nat} {P : Nat → Nat} {C : Nat → va_E} {k : Nat} {q : Nat × va_E} (h : (fw N P C)[k]? = some q) : k < N ∧ q = (P k, C k) := by
  have hk : k < N := by
    have := (List.getElem?_eq_some_iff.mp h).1
    rwa [fw_len] at this
  rw [fw_at hk] at h
  exact ⟨hk, (Option.some.inj h).symm⟩
/-- which cells a method over the first N places may write -/
def cA (N : Nat) (E : En) : Nat → Prop := fun q => ∃ i, i < N ∧ q = eP E i
/-- what is always so of the places -/
def Ev (N : Nat) (E : En) : Prop := (∀ i j, i < N → j < N → eP E i = eP E j → i = j) ∧ ∀ i, i < N → eL E ≤ eP E i
theorem fw_D {N : Nat} {E : En} {C : Nat → va_E} (h : Ev N E) : va_D (cA N E) (fw N (eP E) C) := by
  refine ⟨fun i j p q hi hj hpq => ?_, fun k q hk => ?_⟩
  · obtain ⟨h1, rfl⟩ := fw_get hi
    obtain ⟨h2, rfl⟩ := fw_get hj
    exact h.1 i j h1 h2 hpq
  · obtain ⟨h1, rfl⟩ := fw_get hk
    exact ⟨k, h1, rfl⟩
theorem obv_set {E : En} {tp : List (Option Nat)} {f : Nat → Int32} {j : Nat} {v : Int32} (ht : tp[j]? = some none) : (obv E tp f).set j (.int v) = obv E tp (fun b => if b = j then v else f b) := by
  have hl := (List.getElem?_eq_some_iff.mp ht).1
  apply List.ext_getElem?
  intro i
  rw [List.getElem?_set]
  by_cases h : j = i
  · subst h
    simp [obv, hl]
    rw [List.getElem?_eq_getElem hl] at ht
    rw [Option.some.inj ht]
  · rw [if_neg h]
    by_cases hi : i < tp.length
    · simp [obv, hi, Ne.symm h]
    · simp [obv, hi]
theorem obv_int {E : En} {tp : List (Option Nat)} {f : Nat → Int32} {j : Nat} (ht : tp[j]? = some none) : (obv E tp f)[j]? = some (.int (f j)) := by
  have hl := (List.getElem?_eq_some_iff.mp ht).1
  simp [obv, hl, ht]
  rw [List.getElem?_eq_getElem hl] at ht
  rw [Option.some.inj ht]
theorem obv_ref {E : En} {tp : List (Option Nat)} {f : Nat → Int32} {j r : Nat} (ht : tp[j]? = some (some r)) : (obv E tp f)[j]? = some (.ref (eP E r)) := by
  have hl := (List.getElem?_eq_some_iff.mp ht).1
  simp [obv, hl, ht]
  rw [List.getElem?_eq_getElem hl] at ht
  rw [Option.some.inj ht]
theorem obv_len {E : En} {tp : List (Option Nat)} {f : Nat → Int32} : (obv E tp f).length = tp.length := by simp [obv]
theorem lay_up {E : En} {kd : Nat → Lk} {x y : St} {q : Nat} {e : va_E} (he : e = ent E (kd q) (y.1 q) (y.2.1 q) (y.2.2 q)) (h1 : ∀ a, a ≠ q → y.1 a = x.1 a) (h2 : ∀ a, a ≠ q → y.2.1 a = x.2.1 a) (h3 : ∀ a, a ≠ q → y.2.2 a = x.2.2 a) : va_up (lay E kd x) q e = lay E kd y := by
  funext a
  by_cases h : a = q
  · subst h
    simp [va_up, lay, he]
  · simp [va_up, lay, h, h1 a h, h2 a h, h3 a h]
/-! What never changes: the words that no list of words carries, a static array, the texts, and what an exception wants. -/
def StN (U : State) : Prop := va_Nw (.methodLinkNest "ColorScheme" 24 ⟨"ColorScheme$Design", "<init>", "()V"⟩ "ColorScheme") U ∧ va_Nw (.methodLinkNest "ColorScheme$History" 24 ⟨"ColorScheme$Design", "<init>", "()V"⟩ "ColorScheme") U ∧ va_Nw (.methodLinkNest "ColorScheme$Colours" 45 ⟨"ColorScheme", "limited", "(III)I"⟩ "ColorScheme") U ∧ va_Nw (.methodLinkNest "ColorScheme$Floor" 42 ⟨"ColorScheme", "limited", "(III)I"⟩ "ColorScheme") U ∧ va_Nw (.fieldLinkNest "ColorScheme$Colours" 41 "ColorScheme" "SIGHT_FACTORS" "[I" "ColorScheme") U
def sfL : List Int32 := [1000, 0, 0, 0, 1000, 0, 0, 0, 1000, 152, 1053, -205, 115, 786, 99, -4, -48, 1052, 367, 861, -228, 280, 673, 47, -12, 43, 969, 1256, -77, -179, -78, 930, 148, 5, 691, 304, 299, 587, 114, 299, 587, 114, 299, 587, 114]
def sfF (j : Nat) : Int32 := sfL.getD j 0
/-- cells that a run may not touch: those that were there before it -/
def eA (E : En) : Nat → Prop := fun q => eL E ≤ q
def StF (E : En) (U : State) (H : Heap) : Prop := ∃ t, va_Z "ColorScheme" "SIGHT_FACTORS" "[I" (.ref t) (eA E) U H ∧ va_T .int t 45 (fun j => .int (sfF j)) (eA E) U H
/-- the texts: whose constant, its number, the text, its bytes -/
def txT : List (String × Nat × String × List Int32) := [
  ("ColorScheme$SetupReader", 49, "scheme", [115, 99, 104, 101, 109, 101]), ("ColorScheme$SetupReader", 77, "role", [114, 111, 108, 101]), ("ColorScheme$SetupReader", 86, "text", [116, 101, 120, 116]), ("ColorScheme$SetupReader", 92, "distinct", [100, 105, 115, 116, 105, 110, 99, 116]), ("ColorScheme$SetupReader", 94, "floor", [102, 108, 111, 111, 114]), ("ColorScheme$SetupReader", 114, "dark", [100, 97, 114, 107]), ("ColorScheme$SetupReader", 119, "fixed", [102, 105, 120, 101, 100]),
  ("ColorScheme$Floor", 72, "size", [115, 105, 122, 101]), ("ColorScheme$Floor", 77, "scheme", [115, 99, 104, 101, 109, 101]),
  ("ColorSchemeModel", 111, "scheme", [115, 99, 104, 101, 109, 101]), ("ColorSchemeModel", 142, "role", [114, 111, 108, 101]), ("ColorSchemeModel", 146, "text", [116, 101, 120, 116]), ("ColorSchemeModel", 152, "distinct", [100, 105, 115, 116, 105, 110, 99, 116]), ("ColorSchemeModel", 154, "floor", [102, 108, 111, 111, 114]), ("ColorSchemeModel", 132, "dark", [100, 97, 114, 107]), ("ColorSchemeModel", 134, "fixed", [102, 105, 120, 101, 100]), ("ColorSchemeModel", 105, "size", [115, 105, 122, 101])]
def StR (E : En) (U : State) : Prop := ∀ (i : Nat) (t : String × Nat × String × List Int32), txT[i]? = some t → vk_R t.1 t.2.1 t.2.2.1 (eS E i) U
def StS (E : En) (U : State) (H : Heap) : Prop := ∀ (i : Nat) (t : String × Nat × String × List Int32), txT[i]? = some t → ∃ v, va_O "java/lang/String" (eS E i) (eA E) U H ∧ va_OF "java/lang/String" "coder" "B" (.int 0) (eS E i) (eA E) U H ∧ va_OF "java/lang/String" "value" "[B" (.ref v) (eS E i) (eA E) U H ∧ va_T .byte v t.2.2.2.length (fun j => .int (t.2.2.2.getD j 0)) (eA E) U H
def StC (E : En) (U : State) (H : Heap) : Prop := va_Z "java/lang/String" "COMPACT_STRINGS" "Z" (.int 1) (eA E) U H
def xcL : List String := ["java/lang/IllegalArgumentException", "java/lang/IndexOutOfBoundsException", "java/util/NoSuchElementException", "java/lang/IllegalStateException"]
def xtL : List (Nat × String) := [(52, "the buffer has no such length"), (187, "no such role"), (192, "no such scheme"), (194, "a sight is 0 to 4"), (197, "a colour is 0 to 16777215"), (190, "no such rule"), (136, "no such violation"), (155, "an amount is -255 to 255"), (159, "the role is fixed"), (165, "at most 1 to 6 shifts")]
def StW (U : State) : Prop := (∀ X ∈ xcL, va_Nw (.castable X X) U) ∧ ∀ t ∈ xtL, ∃ a, vk_R "ColorScheme" t.1 t.2 a U
def StX (E : En) (U : State) (H : Heap) : Prop := vx_Zq Bundle.tN "UNASSIGNED_STACK" Bundle.steD (eA E) U H ∧ vx_Zq Bundle.tN "SUPPRESSED_SENTINEL" Bundle.listD (eA E) U H
/-- all of it -/
def Stc (E : En) (U : State) (H : Heap) : Prop := (StN U ∧ StR E U ∧ StW U) ∧ StF E U H ∧ StS E U H ∧ StC E U H ∧ StX E U H
theorem Stc.warm {E : En} {s U : State} {H : Heap} (hW : s.WarmedH U.vm) (h : Stc E s H) : Stc E U H := by
  obtain ⟨⟨⟨n1, n2, n3, n4, n5⟩, hR, hX, hY⟩, ⟨t, f1, f2⟩, hS, hC, x1, x2⟩ := h
  refine ⟨⟨⟨n1.warmM hW, n2.warmM hW, n3.warmM hW, n4.warmM hW, n5.warmF hW⟩, fun i t ht => (hR i t ht).warm hW, fun X hXm => (hX X hXm).warmC hW, fun t ht => ?_⟩, ⟨t, f1.moved hW.alike, f2.moved hW.alike⟩, fun i t ht => ?_, va_Z.moved hW.alike hC, x1.moved hW.alike, x2.moved hW.alike⟩
  · obtain ⟨a, ha⟩ := hY t ht
    exact ⟨a, ha.warm hW⟩
  · obtain ⟨v, a, b, c, d⟩ := hS i t ht
    exact ⟨v, a.moved hW.alike, b.moved hW.alike, c.moved hW.alike, d.moved hW.alike⟩
theorem Stc.kept {E : En} {U : State} {H H1 : Heap} (h : Stc E U H) (hq : ∀ a : Nat, a < H.size → a < eL E → H1[a]? = H[a]?) : Stc E U H1 := by
  have hq : ∀ a : Nat, a < H.size → ¬ eA E a → H1[a]? = H[a]? := fun a h1 h2 => hq a h1 (Nat.not_le.mp h2)
  obtain ⟨h0, ⟨t, f1, f2⟩, hS, hC, x1, x2⟩ := h
  refine ⟨h0, ⟨t, f1.kept hq, f2.kept hq⟩, fun i t ht => ?_, va_Z.kept hC hq, x1.kept hq, x2.kept hq⟩
  obtain ⟨v, a, b, c, d⟩ := hS i t ht
  exact ⟨v, a.kept hq, b.kept hq, c.kept hq, d.kept hq⟩
section RW
variable {p : Program} {l : Launch} {e : Env} {R : Room} {s : State} {m : MethodId} {args : Array Value} {below : List Frame} {meth : Method} {c : Code} {H : Heap} {locs : List Loc} {cells slots : Nat} {Q : State → Prop}
variable {cc : ByteArray} {nL pc idx : Nat} {ls : Array Slot} {rest st : List Value} {own : String} {N : Nat} {E : En} {kd : Nat → Lk} {x : St}
abbrev CF (p : Program) (m : MethodId) (c : Code) (cc : ByteArray) (nL : Nat) (s : State) (args : Array Value) (own : String) : Prop := CallFix p m c cc nL s args lwg own
/-- the world: the places with their contents -/
abbrev Wp (N : Nat) (E : En) (kd : Nat → Lk) (x : St) (H : Heap) : Prop := va_P (eD E) vwCl (fw N (eP E) (lay E kd x)) H
abbrev Vk (E : En) (U : State) : Prop := va_K (eD E) vwCl (tys E) U
theorem rw_geti (S : CF p m c cc nL s args own) (hK : Vk E s) (hP : Wp N E kd x H) (q : Nat) (hq : q < N) {C : String} {T : u_T} {n ci j : Nat} {tp : List (Option Nat)} (hk : kd q = .inl (ci, tp)) (hF : Fk own idx C T n ci j) (ht : tp[j]? = some none) {v : Int32} (hv : x.1 q j = v) (hdg : decode cc pc = .ok (.getfield idx, 3))
    (kk : W p l e R s m args below meth c H locs cells slots Q (F0 m (pc + 3) ls (.int v :: rest))) : W p l e R s m args below meth c H locs cells slots Q (F0 m pc ls (.ref (eP E q) :: rest)) := by
  obtain ⟨hx, hb, -, hown, hts⟩ := S
  obtain ⟨hc, hin, hj, hl⟩ := hF
  subst hv
  refine va_get (ci := ci) (fs := obv E tp (x.1 q)) (C := C) (T := T) (N := n) hx hb hts hin hown hK hP q ?_ hc j hj (hts _ hl) (fun _ h => h) (obv_int ht) hdg kk
  rw [fw_at hq]
  unfold lay
  rw [hk]
  rfl
theorem rw_getr (S : CF p m c cc nL s args own) (hK : Vk E s) (hP : Wp N E kd x H) (q : Nat) (hq : q < N) {C : String} {T : u_T} {n ci j : Nat} {tp : List (Option Nat)} (hk : kd q = .inl (ci, tp)) (hF : Fk own idx C T n ci j) {r : Nat} (ht : tp[j]? = some (some r)) (hdg : decode cc pc = .ok (.getfield idx, 3))
    (kk : W p l e R s m args below meth c H locs cells slots Q (F0 m (pc + 3) ls (.ref (eP E r) :: rest))) : W p l e R s m args below meth c H locs cells slots Q (F0 m pc ls (.ref (eP E q) :: rest)) := by
  obtain ⟨hx, hb, -, hown, hts⟩ := S
  obtain ⟨hc, hin, hj, hl⟩ := hF
  refine va_get (ci := ci) (fs := obv E tp (x.1 q)) (C := C) (T := T) (N := n) hx hb hts hin hown hK hP q ?_ hc j hj (hts _ hl) (fun _ h => h) (obv_ref ht) hdg kk
  rw [fw_at hq]
  unfold lay
  rw [hk]
  rfl
/-- what a row that writes leaves -/
theorem rw_puti (S : CF p m c cc nL s args own) (hE : Ev N E) (hK : Vk E s) (hP : Wp N E kd x H) (hS : va_S (cA N E) s.heap H locs) (q : Nat) (hq : q < N) {C : String} {T : u_T} {n ci j : Nat} {tp : List (Option Nat)} (hk : kd q = .inl (ci, tp)) (hF : Fk own idx C T n ci j) (ht : tp[j]? = some none) {ty0 : Nat → FieldType} (hty : ∀ k, k < n → parseFieldDescriptor (T k).2.2.1 = some (ty0 k)) (hnm : ∀ a, a < n → ∀ b, b < n → a ≠ b → (T a).2.1 ≠ (T b).2.1) (hf : (T j).2.2.2 = false ∧ parseFieldDescriptor (T j).2.2.1 = some .int) {v : Int32} (hdg : decode cc pc = .ok (.putfield idx, 3))
    (kk : ∀ (H : Heap) (locs : List Loc), Wp N E kd (up2 x.1 q j v, x.2) H → va_S (cA N E) s.heap H locs → W p l e R s m args below meth c H locs cells slots Q (F0 m (pc + 3) ls rest)) : W p l e R s m args below meth c H locs cells slots Q (F0 m pc ls (.int v :: .ref (eP E q) :: rest)) := by
  obtain ⟨hx, hb, -, hown, hts⟩ := S
  obtain ⟨hc, hin, hj, hl⟩ := hF
  refine va_put (ci := ci) (fs := obv E tp (x.1 q)) (C := C) (T := T) (N := n) hx hb hts hin ty0 hty hnm hown hK hP (fw_D hE) hS q ?_ hc j hj (hts _ hl) (fun _ h => h) hf.1 hf.2 rfl rfl ?_ hdg (fun H1 locs1 hP1 _ hS1 => ?_)
  · rw [fw_at hq]
    unfold lay
    rw [hk]
    rfl
  · rw [obv_len]
    exact (List.getElem?_eq_some_iff.mp ht).1
  · refine kk H1 locs1 ?_ hS1
    rw [fw_set, obv_set ht, lay_up (x := x) (y := (up2 x.1 q j v, x.2)) ?_ (fun a ha => up2_row ha) (fun _ _ => rfl) (fun _ _ => rfl)] at hP1
    · exact hP1
    · rw [hk]
      simp [ent, up2_self]
theorem rw_at {q : Nat} {r : Nat × Nat} (hq : q < N) (hk : kd q = .inr (.inl r)) : (fw N (eP E) (lay E kd x))[q]? = some (eP E q, .inl (eT E r.1, r.2, .inl (x.2.1 q))) := by
  rw [fw_at hq]
  unfold lay
  rw [hk]
  rfl
theorem rw_upA {q : Nat} {r : Nat × Nat} {f : Nat → Int32} (hk : kd q = .inr (.inl r)) : (fw N (eP E) (lay E kd x)).set q (eP E q, .inl (eT E r.1, r.2, .inl f)) = fw N (eP E) (lay E kd (x.1, va_up x.2.1 q f, x.2.2)) := by
  rw [fw_set, lay_up (x := x) (y := (x.1, va_up x.2.1 q f, x.2.2)) ?_ (fun _ _ => rfl) (fun a ha => by simp [va_up, ha]) (fun _ _ => rfl)]
  rw [hk]
  simp [ent, va_up]
theorem rw_upd {f : Nat → Nat → Int32} {q j : Nat} {v : Int32} : va_up f q (upd (f q) j v) = up2 f q j v := by
  funext a b
  by_cases h : a = q
  · subst h
    by_cases hb : b = j <;> simp [va_up, up2, upd, hb]
  · simp [va_up, up2, h]
/-- an element of an array of ints, of bytes, of booleans: tt is the number of its kind -/
theorem rw_iald (S : CF p m c cc nL s args own) (hK : Vk E s) (hP : Wp N E kd x H) (q : Nat) (hq : q < N) {n : Nat} (hk : kd q = .inr (.inl (1, n))) {i : Int32} (j : Nat) (hi : i = nI j) (hj : j < n) (hn : n < 2 ^ 31) {v : Int32} (hv : x.2.1 q j = v) (hdg : decode cc pc = .ok (.iaload, 1))
    (kk : W p l e R s m args below meth c H locs cells slots Q (F0 m (pc + 1) ls (.int v :: rest))) : W p l e R s m args below meth c H locs cells slots Q (F0 m pc ls (.int i :: .ref (eP E q) :: rest)) := by
  obtain ⟨hx, hb, -, hown, hts⟩ := S
  subst hv; subst hi
  refine va_iald hx hb hK hP q 1 (rw_at hq hk) rfl (vp_in_nI hj hn) hdg ?_
  rw [nI_clamp (by omega)]
  exact kk
theorem rw_bald (S : CF p m c cc nL s args own) (hK : Vk E s) (hP : Wp N E kd x H) (q : Nat) (hq : q < N) {n : Nat} (hk : kd q = .inr (.inl (0, n))) {i : Int32} (j : Nat) (hi : i = nI j) (hj : j < n) (hn : n < 2 ^ 31) {v : Int32} (hv : x.2.1 q j = v) (hdg : decode cc pc = .ok (.baload, 1))
    (kk : W p l e R s m args below meth c H locs cells slots Q (F0 m (pc + 1) ls (.int v :: rest))) : W p l e R s m args below meth c H locs cells slots Q (F0 m pc ls (.int i :: .ref (eP E q) :: rest)) := by
  obtain ⟨hx, hb, -, hown, hts⟩ := S
  subst hv; subst hi
  refine va_bald hx hb hK hP q 0 (rw_at hq hk) rfl (vp_in_nI hj hn) hdg ?_
  rw [nI_clamp (by omega)]
  exact kk
theorem rw_zald (S : CF p m c cc nL s args own) (hK : Vk E s) (hP : Wp N E kd x H) (q : Nat) (hq : q < N) {n : Nat} (hk : kd q = .inr (.inl (3, n))) {i : Int32} (j : Nat) (hi : i = nI j) (hj : j < n) (hn : n < 2 ^ 31) {v : Int32} (hv : x.2.1 q j = v) (hdg : decode cc pc = .ok (.baload, 1))
    (kk : W p l e R s m args below meth c H locs cells slots Q (F0 m (pc + 1) ls (.int v :: rest))) : W p l e R s m args below meth c H locs cells slots Q (F0 m pc ls (.int i :: .ref (eP E q) :: rest)) := by
  obtain ⟨hx, hb, -, hown, hts⟩ := S
  subst hv; subst hi
  refine va_zald hx hb hK hP q 3 (rw_at hq hk) rfl (vp_in_nI hj hn) hdg ?_
  rw [nI_clamp (by omega)]
  exact kk
theorem rw_lald (S : CF p m c cc nL s args own) (hK : Vk E s) (hP : Wp N E kd x H) (q : Nat) (hq : q < N) {n : Nat} (hk : kd q = .inr (.inr (.inl (2, n)))) {i : Int32} (j : Nat) (hi : i = nI j) (hj : j < n) (hn : n < 2 ^ 31) {v : Int64} (hv : x.2.2 q j = v) (hdg : decode cc pc = .ok (.laload, 1))
    (kk : W p l e R s m args below meth c H locs cells slots Q (F0 m (pc + 1) ls (.long v :: rest))) : W p l e R s m args below meth c H locs cells slots Q (F0 m pc ls (.int i :: .ref (eP E q) :: rest)) := by
  obtain ⟨hx, hb, -, hown, hts⟩ := S
  subst hv; subst hi
  refine va_lald (n := n) (f := x.2.2 q) (cA := eT E 2) hx hb hK hP q 2 ?_ rfl (vp_in_nI hj hn) hdg ?_
  · rw [fw_at hq]
    unfold lay
    rw [hk]
    rfl
  · rw [nI_clamp (by omega)]
    exact kk
/-- an element of an array of designs (t0 = 4), of an array of arrays (t0 = 5) -/
theorem rw_aald (S : CF p m c cc nL s args own) (hK : Vk E s) (hP : Wp N E kd x H) (q : Nat) (hq : q < N) (t0 : Nat) {n : Nat} {g : Nat → Nat} (hk : kd q = .inr (.inr (.inr (t0, n, g)))) {ty : FieldType} (ht : (tys E)[t0]? = some (eT E t0, ty)) (hr : ty.isReference = true) {i : Int32} (j : Nat) (hi : i = nI j) (hj : j < n) (hn : n < 2 ^ 31) {r : Nat} (hg : g j = r) (hdg : decode cc pc = .ok (.aaload, 1))
    (kk : W p l e R s m args below meth c H locs cells slots Q (F0 m (pc + 1) ls (.ref (eP E r) :: rest))) : W p l e R s m args below meth c H locs cells slots Q (F0 m pc ls (.int i :: .ref (eP E q) :: rest)) := by
  obtain ⟨hx, hb, -, hown, hts⟩ := S
  subst hi; subst hg
  have hin : vp_in (nI j) n := vp_in_nI hj hn
  have hc : (nI j).toNatClampNeg = j := nI_clamp (by omega)
  have hf : va_rf (rfv E n g j) = .ref (eP E (g j)) := by simp [rfv, hj, va_rf]
  have ha : (fw N (eP E) (lay E kd x))[q]? = some (eP E q, .inl (eT E t0, n, .inr (.inr (.inr (.inr (rfv E n g)))))) := by
    rw [fw_at hq]
    unfold lay
    rw [hk]
    rfl
  refine W.aald (v := .ref (eP E (g j))) (ty := ty) hx hb (hP q _ ha) ((hK.2 t0 _ ht).1 n (fun j => va_rf (rfv E n g j))) hr (fun q => by cases q) (by show ¬ (nI j < 0 ∨ (arrV _ _ _).slots.size ≤ _); rw [arrV_size]; exact hin) (by show (arrV _ _ _).slots[_]? = _; rw [hc, arrV_read _ _ hj, hf]) rfl rfl hdg kk
theorem rw_alen (S : CF p m c cc nL s args own) (hK : Vk E s) (hP : Wp N E kd x H) (q : Nat) (hq : q < N) {r : Nat × Nat} (hk : kd q = .inr (.inl r)) {ty : FieldType} (ht : (tys E)[r.1]? = some (eT E r.1, ty)) (hdg : decode cc pc = .ok (.arraylength, 1))
    (kk : W p l e R s m args below meth c H locs cells slots Q (F0 m (pc + 1) ls (.int (nI r.2) :: rest))) : W p l e R s m args below meth c H locs cells slots Q (F0 m pc ls (.ref (eP E q) :: rest)) := by
  obtain ⟨hx, hb, -, hown, hts⟩ := S
  exact va_alen hx hb hK hP q r.1 (rw_at hq hk) ht rfl hdg kk
theorem rw_iast (S : CF p m c cc nL s args own) (hE : Ev N E) (hK : Vk E s) (hP : Wp N E kd x H) (hS : va_S (cA N E) s.heap H locs) (q : Nat) (hq : q < N) {n : Nat} (hk : kd q = .inr (.inl (1, n))) {i : Int32} (j : Nat) (hi : i = nI j) (hj : j < n) (hn : n < 2 ^ 31) {v : Int32} (hdg : decode cc pc = .ok (.iastore, 1))
    (kk : ∀ (H : Heap) (locs : List Loc), Wp N E kd (x.1, up2 x.2.1 q j v, x.2.2) H → va_S (cA N E) s.heap H locs → W p l e R s m args below meth c H locs cells slots Q (F0 m (pc + 1) ls rest)) : W p l e R s m args below meth c H locs cells slots Q (F0 m pc ls (.int v :: .int i :: .ref (eP E q) :: rest)) := by
  obtain ⟨hx, hb, -, hown, hts⟩ := S
  subst hi
  refine va_iast hx hb hK hP (fw_D hE) hS q 1 (rw_at hq hk) rfl (vp_in_nI hj hn) hdg (fun H1 locs1 hP1 _ hS1 => kk H1 locs1 ?_ hS1)
  rw [nI_clamp (by omega), rw_upA hk, rw_upd] at hP1
  exact hP1
theorem rw_bast (S : CF p m c cc nL s args own) (hE : Ev N E) (hK : Vk E s) (hP : Wp N E kd x H) (hS : va_S (cA N E) s.heap H locs) (q : Nat) (hq : q < N) {n : Nat} (hk : kd q = .inr (.inl (0, n))) {i : Int32} (j : Nat) (hi : i = nI j) (hj : j < n) (hn : n < 2 ^ 31) {v w : Int32} (hw : vp_nar .byte v = w) (hdg : decode cc pc = .ok (.bastore, 1))
    (kk : ∀ (H : Heap) (locs : List Loc), Wp N E kd (x.1, up2 x.2.1 q j w, x.2.2) H → va_S (cA N E) s.heap H locs → W p l e R s m args below meth c H locs cells slots Q (F0 m (pc + 1) ls rest)) : W p l e R s m args below meth c H locs cells slots Q (F0 m pc ls (.int v :: .int i :: .ref (eP E q) :: rest)) := by
  obtain ⟨hx, hb, -, hown, hts⟩ := S
  subst hi; subst hw
  refine va_bast hx hb hK hP (fw_D hE) hS q 0 (rw_at hq hk) rfl (vp_in_nI hj hn) hdg (fun H1 locs1 hP1 _ hS1 => kk H1 locs1 ?_ hS1)
  rw [nI_clamp (by omega), rw_upA hk, rw_upd] at hP1
  exact hP1
theorem rw_zast (S : CF p m c cc nL s args own) (hE : Ev N E) (hK : Vk E s) (hP : Wp N E kd x H) (hS : va_S (cA N E) s.heap H locs) (q : Nat) (hq : q < N) {n : Nat} (hk : kd q = .inr (.inl (3, n))) {i : Int32} (j : Nat) (hi : i = nI j) (hj : j < n) (hn : n < 2 ^ 31) {v w : Int32} (hw : vp_nar .boolean v = w) (hdg : decode cc pc = .ok (.bastore, 1))
    (kk : ∀ (H : Heap) (locs : List Loc), Wp N E kd (x.1, up2 x.2.1 q j w, x.2.2) H → va_S (cA N E) s.heap H locs → W p l e R s m args below meth c H locs cells slots Q (F0 m (pc + 1) ls rest)) : W p l e R s m args below meth c H locs cells slots Q (F0 m pc ls (.int v :: .int i :: .ref (eP E q) :: rest)) := by
  obtain ⟨hx, hb, -, hown, hts⟩ := S
  subst hi; subst hw
  refine va_zast hx hb hK hP (fw_D hE) hS q 3 (rw_at hq hk) rfl (vp_in_nI hj hn) hdg (fun H1 locs1 hP1 _ hS1 => kk H1 locs1 ?_ hS1)
  rw [nI_clamp (by omega), rw_upA hk, rw_upd] at hP1
  exact hP1
theorem rw_last (S : CF p m c cc nL s args own) (hE : Ev N E) (hK : Vk E s) (hP : Wp N E kd x H) (hS : va_S (cA N E) s.heap H locs) (q : Nat) (hq : q < N) {n : Nat} (hk : kd q = .inr (.inr (.inl (2, n)))) {i : Int32} (j : Nat) (hi : i = nI j) (hj : j < n) (hn : n < 2 ^ 31) {v : Int64} (hdg : decode cc pc = .ok (.lastore, 1))
    (kk : ∀ (H : Heap) (locs : List Loc), Wp N E kd (x.1, x.2.1, up2 x.2.2 q j v) H → va_S (cA N E) s.heap H locs → W p l e R s m args below meth c H locs cells slots Q (F0 m (pc + 1) ls rest)) : W p l e R s m args below meth c H locs cells slots Q (F0 m pc ls (.long v :: .int i :: .ref (eP E q) :: rest)) := by
  obtain ⟨hx, hb, -, hown, hts⟩ := S
  subst hi
  have ha : (fw N (eP E) (lay E kd x))[q]? = some (eP E q, .inl (eT E 2, n, .inr (.inl (x.2.2 q)))) := by
    rw [fw_at hq]
    unfold lay
    rw [hk]
    rfl
  refine va_last hx hb hK hP (fw_D hE) hS q 2 ha rfl (vp_in_nI hj hn) hdg (fun H1 locs1 hP1 _ hS1 => kk H1 locs1 ?_ hS1)
  rw [nI_clamp (by omega), fw_set, lay_up (x := x) (y := (x.1, x.2.1, up2 x.2.2 q j v)) ?_ (fun _ _ => rfl) (fun _ _ => rfl) (fun a ha => up2_row ha)] at hP1
  · exact hP1
  · rw [hk]
    simp [ent, up2_self]
    funext b
    simp [vp_updL]
/-- System.arraycopy between two rows of ints -/
theorem rw_copyi (S : CF p m c cc nL s args own) (hE : Ev N E) (hK : Vk E s) (hP : Wp N E kd x H) (hS : va_S (cA N E) s.heap H locs) (hsz : ls.size = nL) (q0 q1 : Nat) (hq0 : q0 < N) (hq1 : q1 < N) {n0 n1 : Nat} (hk0 : kd q0 = .inr (.inl (1, n0))) (hk1 : kd q1 = .inr (.inl (1, n1))) (hlk : Cond.methodLink own idx arraycopyName ∈ lwg) (hw : Cond.native arraycopyName ∈ lwg ∧ Cond.static arraycopyName ∈ lwg ∧ Cond.initialized "java/lang/System" ∈ lwg)
    {sp dp nn : Int32} (k : Nat) (h0 : sp = 0 ∧ dp = 0 ∧ nn = nI k) (hb0 : k ≤ n0) (hb1 : k ≤ n1) (hb2 : k < 2 ^ 31) (hframes : 1 ≤ R.frames) (hlocals : (rest.map fun v => v.category).sum + (nativeFrameWords "java/lang/System" "arraycopy" 5 + 11) ≤ R.locals) (hdg : decode cc pc = .ok (.invokestatic idx, 3))
    (kk : ∀ (H : Heap) (locs : List Loc), Wp N E kd (x.1, va_up x.2.1 q1 (va_cpy (x.2.1 q0) (x.2.1 q1) 0 0 k), x.2.2) H → va_S (cA N E) s.heap H locs → W p l e R s m args below meth c H locs cells slots Q (F0 m (pc + 3) ls rest)) : W p l e R s m args below meth c H locs cells slots Q (F0 m pc ls (.int nn :: .int dp :: .ref (eP E q1) :: .int sp :: .ref (eP E q0) :: rest)) := by
  obtain ⟨hx, hb, hml, hown, hts⟩ := S
  obtain ⟨rfl, rfl, rfl⟩ := h0
  obtain ⟨hnat, hst, hini⟩ := hw
  have hc : (nI k).toNatClampNeg = k := nI_clamp hb2
  have hz : (0 : Int32).toNatClampNeg = 0 := rfl
  refine va_copyi (ty := .int) hx hb (hml.trans hsz.symm) hown (hts _ hlk) (hts _ hnat) (hts _ hst) (hts _ hini) hK hP (fw_D hE) hS q0 q1 1 1 (rw_at hq0 hk0) (rw_at hq1 hk1) rfl rfl rfl (by decide) (by decide) (nI_pos hb2) (by rw [hc, hz]; omega) (by rw [hc, hz]; omega) (fun _ _ => rfl) hframes hlocals hdg (fun H1 locs1 hP1 _ hS1 => kk H1 locs1 ?_ hS1)
  rw [hc, hz, rw_upA hk1] at hP1
  exact hP1
end RW
/-! contracts and calls -/
/-- a start over the world -/
def Bw (N : Nat) (E : En) (kd : Nat → Lk) (x : St) (U : State) : Prop := Vk E U ∧ Stc E U U.heap ∧ Wp N E kd x U.heap
/-- a start over the tables and the static things alone -/
def Bs (E : En) (U : State) : Prop := Stc E U U.heap
/-- a room: frames, cells, slots, locals -/
abbrev rmk (f cl sl lo : Nat) : Room := { frames := f, cells := cl, slots := sl, locals := lo }
theorem bl_T {av : List Value} : FrameBlind (va_Pc av (fun _ => True)) := fun _ _ _ _ h => h
theorem bl_s {av : List Value} {E : En} : FrameBlind (va_Pc av (Bs E)) := fun _ U g mk h => ⟨h.1, (h.2 : Stc E U U.heap).warm (U := U.calling g mk _) (State.WarmedH.refl U)⟩
theorem bl_w {av : List Value} {N : Nat} {E : En} {kd : Nat → Lk} {x : St} : FrameBlind (va_Pc av (Bw N E kd x)) := fun a U g mk h => ⟨h.1, va_K.moved (u := U) (U := U.calling g mk a) (Vm.Alike.refl U.vm) h.2.1, h.2.2.1.warm (U := U.calling g mk a) (State.WarmedH.refl U), h.2.2.2⟩
section CR
variable {p : Program} {l : Launch} {e : Env} {R : Room} {s : State} {m : MethodId} {args : Array Value} {below : List Frame} {meth : Method} {c : Code} {H : Heap} {locs : List Loc} {cells slots : Nat} {Q : State → Prop}
variable {cc b : ByteArray} {nL pc idx maxL n mc ms : Nat} {ls : Array Slot} {rest av : List Value} {own host : String} {N : Nat} {E : En} {kd : Nat → Lk} {x : St} {y : MethodName} {ret : Option FieldType} {rm : Room} {Bp : State → Prop} {Qc : Array Value → State → Outcome → State → Prop} {free : Addr → Prop}
theorem bw_U (hE : Ev N E) (hK : Vk E s) (hC : Stc E s s.heap) (hP : Wp N E kd x H) (hS : va_S (cA N E) s.heap H locs) : ∀ U : State, U.heap = H → s.WarmedH U.vm → Bw N E kd x U := by
  intro U hU hW
  refine ⟨va_K.moved hW.alike hK, (hC.warm hW).kept (fun a h1 h2 => ?_), by rw [hU]; exact hP⟩
  rw [hU]
  refine hS.2.1 a h1 (fun h => ?_)
  obtain ⟨i, hi, rfl⟩ := h
  exact absurd (hE.2 i hi) (Nat.not_le.mpr h2)
theorem bs_U (hE : Ev N E) (hC : Stc E s s.heap) (hS : va_S (cA N E) s.heap H locs) : ∀ U : State, U.heap = H → s.WarmedH U.vm → Bs E U := by
  intro U hU hW
  refine (hC.warm hW).kept (fun a h1 h2 => ?_)
  rw [hU]
  refine hS.2.1 a h1 (fun h => ?_)
  obtain ⟨i, hi, rfl⟩ := h
  exact absurd (hE.2 i hi) (Nat.not_le.mpr h2)
theorem bs_H (hC : Stc E s s.heap) : ∀ U : State, U.heap = s.heap → s.WarmedH U.vm → Bs E U := by
  intro U hU hW
  refine (hC.warm hW).kept (fun a h1 h2 => ?_)
  rw [hU]
theorem t_U : ∀ U : State, U.heap = H → s.WarmedH U.vm → (fun _ : State => True) U := fun _ _ _ => trivial
theorem ck_S (S : CF p m c cc nL s args own) (L : LkS own idx y b maxL ret n) (hM : Met l y (wz y b maxL ret) rm (va_Pc av Bp) Qc mc ms free) (hr : rm.cells = mc ∧ rm.slots = ms) (hR : rm.frames + 1 ≤ R.frames ∧ 8 + (maxL + 11) + rm.locals ≤ R.locals) (hB : FrameBlind (va_Pc av Bp)) (hU : ∀ U : State, U.heap = H → s.WarmedH U.vm → Bp U) (hn : av.length = n) (hsz : ls.size = nL) (hcat : (rest.map fun v => v.category).sum ≤ 8) (hcs : cells + mc ≤ R.cells ∧ slots + ms ≤ R.slots) (hdg : decode cc pc = .ok (.invokestatic idx, 3)) {st0 : List Value} (hst : st0 = av.reverse ++ rest) :
    va_Run p l e R s m args below meth c H locs cells slots mc ms (F0 m pc ls st0) rest (Qc av.toArray) free := by
  obtain ⟨l1, l2, l3, l4, l5⟩ := L
  obtain ⟨hx, hb, hml, hown, hts⟩ := S
  exact va_runS ⟨hx, hb, hml, hown, hts⟩ hM ⟨callB_of n hts (gi_z l1) rfl hr.1 hr.2 (hts _ l4) (hts _ l2) l5 hR, hts _ l3⟩ ⟨hB, fun U h1 h2 => ⟨rfl, hU U h1 h2⟩⟩ rfl hn hsz hst (lv_room hcat) hdg hcs
theorem ck_N (S : CF p m c cc nL s args own) (L : LkN y b maxL ret n) (hl : va_Nw (.methodLinkNest own idx y host) s) (hM : Met l y (wz y b maxL ret) rm (va_Pc av Bp) Qc mc ms free) (hr : rm.cells = mc ∧ rm.slots = ms) (hR : rm.frames + 1 ≤ R.frames ∧ 8 + (maxL + 11) + rm.locals ≤ R.locals) (hB : FrameBlind (va_Pc av Bp)) (hU : ∀ U : State, U.heap = H → s.WarmedH U.vm → Bp U) (hn : av.length = n) (hsz : ls.size = nL) (hcat : (rest.map fun v => v.category).sum ≤ 8) (hcs : cells + mc ≤ R.cells ∧ slots + ms ≤ R.slots) (hdg : decode cc pc = .ok (.invokestatic idx, 3)) {st0 : List Value} (hst : st0 = av.reverse ++ rest) :
    va_Run p l e R s m args below meth c H locs cells slots mc ms (F0 m pc ls st0) rest (Qc av.toArray) free := by
  obtain ⟨l1, l3, l4, l5⟩ := L
  obtain ⟨hx, hb, hml, hown, hts⟩ := S
  exact va_runSN (host := host) ⟨hx, hb, hml, hown, hts⟩ hM ⟨va_cnB n hts (gi_z l1) rfl hr.1 hr.2 hl (hts _ l4) l5 hR, hts _ l3, trivial⟩ ⟨hB, fun U h1 h2 => ⟨rfl, hU U h1 h2⟩⟩ rfl hn hsz hst (lv_room hcat) hdg hcs
/-- the receiver is an object of the plan -/
theorem rc_w (hK : Vk E s) (hP : Wp N E kd x H) (q : Nat) (hq : q < N) {ci : Nat} {tp : List (Option Nat)} (hk : kd q = .inl (ci, tp)) {C : String} {T : u_T} {k : Nat} (hc : vwCl[ci]? = some (C, T, k)) : ∃ cellB : Cell, H[eP E q]? = some cellB ∧ cellB.vm.isStatics = false ∧ s.vm.findClass C = some cellB.cls := by
  refine va_recv (ci := ci) (q0 := q) (fs := obv E tp (x.1 q)) hK hP hc ?_
  rw [fw_at hq]
  unfold lay
  rw [hk]
  rfl
theorem ck_V (S : CF p m c cc nL s args own) (L : LkV own idx y b maxL ret n) {a : Nat} (hM : Met l y (wz y b maxL ret) rm (va_Pc (.ref a :: av) Bp) Qc mc ms free) (hr : rm.cells = mc ∧ rm.slots = ms) (hR : rm.frames + 1 ≤ R.frames ∧ 8 + (maxL + 11) + rm.locals ≤ R.locals) (hB : FrameBlind (va_Pc (.ref a :: av) Bp)) (hrc : ∃ cellB : Cell, H[a]? = some cellB ∧ cellB.vm.isStatics = false ∧ s.vm.findClass y.cls = some cellB.cls) (hU : ∀ U : State, U.heap = H → s.WarmedH U.vm → Bp U) (hn : av.length = n) (hsz : ls.size = nL) (hcat : (rest.map fun v => v.category).sum ≤ 8) (hcs : cells + mc ≤ R.cells ∧ slots + ms ≤ R.slots) (hdg : decode cc pc = .ok (.invokevirtual idx, 3)) {st0 : List Value} (hst : st0 = av.reverse ++ .ref a :: rest) :
    va_Run p l e R s m args below meth c H locs cells slots mc ms (F0 m pc ls st0) rest (Qc (Value.ref a :: av).toArray) free := by
  obtain ⟨l1, l2, l3, l4, l5, l6⟩ := L
  obtain ⟨hx, hb, hml, hown, hts⟩ := S
  exact va_runV ⟨hx, hb, hml, hown, hts⟩ hM ⟨callB_of n hts (gi_z l1) rfl hr.1 hr.2 (hts _ l5) (hts _ l2) l6 hR, hts _ l3, hts _ l4⟩ ⟨hB, hrc, fun U h1 h2 => ⟨rfl, hU U h1 h2⟩⟩ rfl hn hsz hst (lv_room hcat) hdg hcs
end CR
/-! what a call that writes nothing says -/
def qSi (post : Int32 → Prop) : Array Value → State → Outcome → State → Prop := fun _ st o t => ∃ r : Int32, o = .returned (some (.int r)) ∧ post r ∧ t.heap = st.heap
def qSl (post : Int64 → Prop) : Array Value → State → Outcome → State → Prop := fun _ st o t => ∃ r : Int64, o = .returned (some (.long r)) ∧ post r ∧ t.heap = st.heap
/-- what a call that writes says: its answer and the state behind it -/
def qWi (N : Nat) (E : En) (kd : Nat → Lk) (post : Int32 → St → Prop) : Array Value → State → Outcome → State → Prop := va_Qi post (fun u t => Wp N E kd u t.heap) (cA N E)
def qWv (N : Nat) (E : En) (kd : Nat → Lk) (post : St → Prop) : Array Value → State → Outcome → State → Prop := va_Qv post (fun u t => Wp N E kd u t.heap) (cA N E)
def fr0 : Addr → Prop := fun _ => False
section CC
variable {p : Program} {l : Launch} {e : Env} {R : Room} {s : State} {m : MethodId} {args : Array Value} {below : List Frame} {meth : Method} {c : Code} {H H0 : Heap} {locs : List Loc} {cells slots : Nat} {Q : State → Prop}
variable {pc mc ms : Nat} {ls : Array Slot} {rest st0 : List Value} {a : Array Value} {N : Nat} {E : En} {kd : Nat → Lk}
theorem cn_si {post : Int32 → Prop} (hr : va_Run p l e R s m args below meth c H locs cells slots 0 0 (F0 m pc ls st0) rest (qSi post a) fr0)
    (kk : ∀ r : Int32, post r → W p l e R s m args below meth c H locs cells slots Q (F0 m (pc + 3) ls (.int r :: rest))) : W p l e R s m args below meth c H locs cells slots Q (F0 m pc ls st0) := by
  intro T hT X
  obtain ⟨v, st₀, t, T', L, h0, X', hL, e1, e2, ⟨r, hv, hp, hh⟩, st⟩ := hr T hT X
  cases hv
  obtain ⟨t2, a1, b1⟩ := kk r hp T' (by rw [e1, hh, h0]) (Stand.forget X' (fun q h => (hL q h).elim))
  exact ⟨t2, st t2 a1, b1⟩
theorem cn_sl {post : Int64 → Prop} (hr : va_Run p l e R s m args below meth c H locs cells slots 0 0 (F0 m pc ls st0) rest (qSl post a) fr0)
    (kk : ∀ r : Int64, post r → W p l e R s m args below meth c H locs cells slots Q (F0 m (pc + 3) ls (.long r :: rest))) : W p l e R s m args below meth c H locs cells slots Q (F0 m pc ls st0) := by
  intro T hT X
  obtain ⟨v, st₀, t, T', L, h0, X', hL, e1, e2, ⟨r, hv, hp, hh⟩, st⟩ := hr T hT X
  cases hv
  obtain ⟨t2, a1, b1⟩ := kk r hp T' (by rw [e1, hh, h0]) (Stand.forget X' (fun q h => (hL q h).elim))
  exact ⟨t2, st t2 a1, b1⟩
theorem cn_wi {post : Int32 → St → Prop} (hr : va_Run p l e R s m args below meth c H locs cells slots mc ms (F0 m pc ls st0) rest (qWi N E kd post a) (cA N E)) (hS : va_S (cA N E) H0 H locs)
    (kk : ∀ (r : Int32) (u : St) (H : Heap) (locs : List Loc), post r u → Wp N E kd u H → va_S (cA N E) H0 H locs → W p l e R s m args below meth c H locs (cells + mc) (slots + ms) Q (F0 m (pc + 3) ls (.int r :: rest))) : W p l e R s m args below meth c H locs cells slots Q (F0 m pc ls st0) :=
  va_calli hr hS (fun _ _ h => h) (fun _ h => h) (fun r u t H1 locs1 ht _ hp hB _ _ hS1 => kk r u H1 locs1 hp (by rw [← ht]; exact hB) hS1)
theorem cn_wv {post : St → Prop} (hr : va_Run p l e R s m args below meth c H locs cells slots mc ms (F0 m pc ls st0) rest (qWv N E kd post a) (cA N E)) (hS : va_S (cA N E) H0 H locs)
    (kk : ∀ (u : St) (H : Heap) (locs : List Loc), post u → Wp N E kd u H → va_S (cA N E) H0 H locs → W p l e R s m args below meth c H locs (cells + mc) (slots + ms) Q (F0 m (pc + 3) ls rest)) : W p l e R s m args below meth c H locs cells slots Q (F0 m pc ls st0) :=
  va_callv hr hS (fun _ _ h => h) (fun _ h => h) (fun u t H1 locs1 ht _ hp hB _ _ hS1 => kk u H1 locs1 hp (by rw [← ht]; exact hB) hS1)
end CC
/-! the ends of a method -/
section RE
variable {p : Program} {l : Launch} {e : Env} {R : Room} {s : State} {m : MethodId} {args : Array Value} {below : List Frame} {meth : Method} {c : Code} {H : Heap} {locs : List Loc}
variable {cc : ByteArray} {pc : Nat} {ls : Array Slot} {N : Nat} {E : En} {kd : Nat → Lk} {x : St}
theorem re_si {post : Int32 → Prop} {v : Int32} (hx : p.tables.exec = Jvm.exec) (hb : c.code = cc) (hr : meth.sig.returnType = some .int) (hlocks : meth.locks = false) (h : post v) (hdg : decode cc pc = .ok (.ireturn, 1)) : W p l e R s m args below meth c s.heap [] 0 0 (MQ below (qSi post) args s 0 0 fr0) (F0 m pc ls [.int v]) :=
  W.iret hx hb hr (fun t ht _ => ⟨v, rfl, h, ht⟩) (fun q h => by cases h) hdg hlocks
theorem re_sz {post : Int32 → Prop} {v : Int32} (hx : p.tables.exec = Jvm.exec) (hb : c.code = cc) (hr : meth.sig.returnType = some .boolean) (hlocks : meth.locks = false) (hn : narrow .boolean (.int v) = .int v) (h : post v) (hdg : decode cc pc = .ok (.ireturn, 1)) : W p l e R s m args below meth c s.heap [] 0 0 (MQ below (qSi post) args s 0 0 fr0) (F0 m pc ls [.int v]) :=
  W.zret hx hb hr hn (fun t ht _ => ⟨v, rfl, h, ht⟩) (fun q h => by cases h) hdg hlocks
theorem re_sl {post : Int64 → Prop} {v : Int64} (hx : p.tables.exec = Jvm.exec) (hb : c.code = cc) (hr : meth.sig.returnType = some .long) (hlocks : meth.locks = false) (h : post v) (hdg : decode cc pc = .ok (.lreturn, 1)) : W p l e R s m args below meth c s.heap [] 0 0 (MQ below (qSl post) args s 0 0 fr0) (F0 m pc ls [.long v]) :=
  W.lret hx hb hr (fun t ht _ => ⟨v, rfl, h, ht⟩) (fun q h => by cases h) hdg hlocks
theorem re_wi {post : Int32 → St → Prop} {v : Int32} (hx : p.tables.exec = Jvm.exec) (hb : c.code = cc) (hr : meth.sig.returnType = some .int) (hlocks : meth.locks = false) (hP : Wp N E kd x H) (hS : va_S (cA N E) s.heap H locs) (h : post v x) (hdg : decode cc pc = .ok (.ireturn, 1)) : W p l e R s m args below meth c H locs 0 0 (MQ below (qWi N E kd post) args s 0 0 (cA N E)) (F0 m pc ls [.int v]) :=
  W.iret hx hb hr (fun t ht _ => ⟨⟨v, x, rfl, h, (show Wp N E kd x t.heap by rw [ht]; exact hP)⟩, hS.F ht⟩) hS.2.2 hdg hlocks
theorem re_wz {post : Int32 → St → Prop} {v : Int32} (hx : p.tables.exec = Jvm.exec) (hb : c.code = cc) (hr : meth.sig.returnType = some .boolean) (hlocks : meth.locks = false) (hn : narrow .boolean (.int v) = .int v) (hP : Wp N E kd x H) (hS : va_S (cA N E) s.heap H locs) (h : post v x) (hdg : decode cc pc = .ok (.ireturn, 1)) : W p l e R s m args below meth c H locs 0 0 (MQ below (qWi N E kd post) args s 0 0 (cA N E)) (F0 m pc ls [.int v]) :=
  W.zret hx hb hr hn (fun t ht _ => ⟨⟨v, x, rfl, h, (show Wp N E kd x t.heap by rw [ht]; exact hP)⟩, hS.F ht⟩) hS.2.2 hdg hlocks
theorem re_wv {post : St → Prop} (hx : p.tables.exec = Jvm.exec) (hb : c.code = cc) (hr : meth.sig.returnType = none) (hlocks : meth.locks = false) (hP : Wp N E kd x H) (hS : va_S (cA N E) s.heap H locs) (h : post x) (hdg : decode cc pc = .ok (.return_, 1)) : W p l e R s m args below meth c H locs 0 0 (MQ below (qWv N E kd post) args s 0 0 (cA N E)) (F0 m pc ls []) :=
  W.vret hx hb hr (fun t ht _ => ⟨⟨x, rfl, h, (show Wp N E kd x t.heap by rw [ht]; exact hP)⟩, hS.F ht⟩) hS.2.2 hdg hlocks
end RE
/-! the beginning of a method -/
theorem en_ofW {l : Launch} {y : MethodName} {rm : Room} {av : List Value} {Bp : State → Prop} {Qc : Array Value → State → Outcome → State → Prop} {mc ms : Nat} {free : Addr → Prop} {cc : ByteArray} {maxL : Nat} {ret : Option FieldType} (own : String) (hc : y.cls = own) (hy : plainName y.cls = true) (hlen : (lg_sl av).length ≤ maxL)
    (body : ∀ (p : Program) (e : Env) (s : State) (m : MethodId) (below : List Frame) (meth : Method) (c : Code) (ls : Array Slot), CF p m c cc maxL s av.toArray own → meth.sig.returnType = ret → meth.locks = false → meth.name = y.name → lv_has ls maxL (lv_args 0 av) → Bp s →
      W p l e rm s m av.toArray below meth c s.heap [] 0 0 (MQ below Qc av.toArray s mc ms free) (F0 m 0 ls [])) : Met l y (wz y cc maxL ret) rm (va_Pc av Bp) Qc mc ms free := by
  refine Met.ofW (cc := cc) (maxL := maxL) (ret := ret) hy rfl ?_
  intro p e s m args below meth c s₁ B hml hv
  obtain ⟨rfl, hv⟩ := hv
  have hts := atoms_spec (ws := wz y cc maxL ret) B.pre
  have hown : s.vm.findClass y.cls = some m.cls := findClass_of_methodNamed B.named
  rw [hc] at hown
  have hl := lv_entry av (n := maxL) hlen
  rw [lg_entry_eq]
  exact body p e s m below meth c _ ⟨B.exec, B.bytes, hml, hown, fun w hw => hts w (List.mem_cons_of_mem _ hw)⟩ B.returns B.notSynchronized (name_of_methodNamed B.named B.method).1 hl hv
end
section
/-! the plan of places; the words of fields and of calls, by their places in the tables -/
def dB (d k : Nat) : Nat := 8 + 11 * d + k
def dK (d k : Nat) : Lk := match k with
  | 0 => .inl (0, [none, some (dB d 1), some (dB d 4), none, some (dB d 5), some (dB d 6), some (dB d 7), some (dB d 8)])
  | 1 => .inr (.inr (.inr (5, 2, fun j => dB d (2 + j))))
  | 2 => .inr (.inl (1, 10))
  | 3 => .inr (.inl (1, 10))
  | 4 => .inr (.inl (3, 10))
  | 5 => .inr (.inl (1, 12))
  | 6 => .inr (.inl (1, 12))
  | 7 => .inr (.inl (1, 12))
  | 8 => .inr (.inr (.inr (5, 2, fun j => dB d (9 + j))))
  | _ => .inr (.inl (1, 12))
def cK0 (q : Nat) : Lk := match q with
  | 0 => .inl (5, [some 1, some 2, some (dB 0 0), some (dB 1 0), some 6, none, none])
  | 1 => .inr (.inl (0, 700))
  | 2 => .inl (3, [some 3, some 4, some 5, none])
  | 3 => .inl (4, [some 1, none, none, none, none, none, none])
  | 4 => .inl (1, [some 3, none, none, none])
  | 5 => .inr (.inl (1, 12))
  | 6 => .inl (2, [some 7, none, none])
  | _ => .inr (.inr (.inr (4, 8, fun j => dB (2 + j) 0)))
def cK (q : Nat) : Lk := if q < 8 then cK0 q else dK ((q - 8) / 11) ((q - 8) % 11)
def cN : Nat := 118
def mK (q : Nat) : Lk := match q with
  | 0 => .inl (6, [none, some 1, none, none, none, none, none, none, some 2, some 3, some 4, none, none, none, none, some 13, some 14, none, none, none])
  | 1 => .inr (.inl (1, 700))
  | 2 => .inr (.inl (1, 1282))
  | 3 => .inr (.inl (1, 1282))
  | 4 => .inr (.inr (.inr (5, 8, fun j => 5 + j)))
  | 13 => .inr (.inr (.inl (2, 1200)))
  | 14 => .inr (.inl (1, 24))
  | _ => .inr (.inl (1, 1282))
def mN : Nat := 15
theorem cK_lo {q : Nat} (h : q < 8) : cK q = cK0 q := if_pos h
theorem cK_D {d k : Nat} (hk : k < 11) : cK (dB d k) = dK d k := by
  unfold cK dB
  rw [if_neg (by omega), show (8 + 11 * d + k - 8) / 11 = d by omega, show (8 + 11 * d + k - 8) % 11 = k by omega]
theorem dB_lt {d k : Nat} (hd : d < 10) (hk : k < 11) : dB d k < cN := by unfold dB cN; omega
theorem dB_ne {d k e j : Nat} (hk : k < 11) (hj : j < 11) (h : d ≠ e ∨ k ≠ j) : dB d k ≠ dB e j := by unfold dB; omega
theorem dB_nlo {d k q : Nat} (h : q < 8) : dB d k ≠ q := by unfold dB; omega
theorem mK_hist {j : Nat} (h : j < 8) : mK (5 + j) = .inr (.inl (1, 1282)) := by
  rcases (show j = 0 ∨ j = 1 ∨ j = 2 ∨ j = 3 ∨ j = 4 ∨ j = 5 ∨ j = 6 ∨ j = 7 by omega) with rfl | rfl | rfl | rfl | rfl | rfl | rfl | rfl <;> rfl
theorem inw_of {C : String} {T : u_T} {n : Nat} (ps : List Nat) (h : (List.range n).all (fun j => decide (lw_tbl[ps.getD j 0]? = some (u_lay C T j)) && goodWord (u_lay C T j)) = true) : ∀ w ∈ u_ws C T n, w ∈ lwg := by
  intro w hw
  obtain ⟨j, hj, rfl⟩ := List.mem_map.mp hw
  exact lwg_at _ (List.all_eq_true.mp h j hj)
theorem inw_X1 : ∀ w ∈ u_ws RX1 TX1 8, w ∈ lwg := inw_of [172, 174, 176, 178, 180, 182, 184, 186] (by decide +kernel)
theorem inw_X2 : ∀ w ∈ u_ws RX2 TX2 4, w ∈ lwg := inw_of [125, 127, 129, 131] (by decide +kernel)
theorem inw_X3 : ∀ w ∈ u_ws RX3 TX3 3, w ∈ lwg := inw_of [203, 205, 207] (by decide +kernel)
theorem inw_X4 : ∀ w ∈ u_ws RX4 TX4 4, w ∈ lwg := inw_of [138, 140, 142, 144] (by decide +kernel)
theorem inw_X5 : ∀ w ∈ u_ws RX5 TX5 7, w ∈ lwg := inw_of [98, 100, 102, 104, 106, 108, 110] (by decide +kernel)
theorem inw_X6 : ∀ w ∈ u_ws RX6 TX6 7, w ∈ lwg := inw_of [217, 219, 221, 223, 225, 227, 229] (by decide +kernel)
theorem inw_X7 : ∀ w ∈ u_ws RX7 TX7 20, w ∈ lwg := inw_of [919, 921, 923, 925, 927, 929, 931, 933, 935, 937, 939, 941, 943, 945, 947, 949, 951, 953, 955, 957] (by decide +kernel)
theorem fk_X6_9 : Fk RX6 9 RX6 TX6 7 5 0 := ⟨rfl, inw_X6, by decide, lwg_at 210 (by decide +kernel)⟩
theorem fk_X6_18 : Fk RX6 18 RX6 TX6 7 5 1 := ⟨rfl, inw_X6, by decide, lwg_at 211 (by decide +kernel)⟩
theorem fk_X6_25 : Fk RX6 25 RX6 TX6 7 5 2 := ⟨rfl, inw_X6, by decide, lwg_at 212 (by decide +kernel)⟩
theorem fk_X6_29 : Fk RX6 29 RX6 TX6 7 5 3 := ⟨rfl, inw_X6, by decide, lwg_at 213 (by decide +kernel)⟩
theorem fk_X6_35 : Fk RX6 35 RX6 TX6 7 5 4 := ⟨rfl, inw_X6, by decide, lwg_at 214 (by decide +kernel)⟩
theorem fk_X6_39 : Fk RX6 39 RX6 TX6 7 5 5 := ⟨rfl, inw_X6, by decide, lwg_at 215 (by decide +kernel)⟩
theorem fk_X6_43 : Fk RX6 43 RX6 TX6 7 5 6 := ⟨rfl, inw_X6, by decide, lwg_at 216 (by decide +kernel)⟩
theorem fk_X6_72 : Fk RX6 72 RX1 TX1 8 0 3 := ⟨rfl, inw_X1, by decide, lwg_at 163 (by decide +kernel)⟩
theorem fk_X6_75 : Fk RX6 75 RX1 TX1 8 0 0 := ⟨rfl, inw_X1, by decide, lwg_at 157 (by decide +kernel)⟩
theorem fk_X6_85 : Fk RX6 85 RX1 TX1 8 0 1 := ⟨rfl, inw_X1, by decide, lwg_at 159 (by decide +kernel)⟩
theorem fk_X6_89 : Fk RX6 89 RX1 TX1 8 0 2 := ⟨rfl, inw_X1, by decide, lwg_at 161 (by decide +kernel)⟩
theorem fk_X6_122 : Fk RX6 122 RX1 TX1 8 0 7 := ⟨rfl, inw_X1, by decide, lwg_at 171 (by decide +kernel)⟩
theorem fk_X6_177 : Fk RX6 177 RX3 TX3 3 2 2 := ⟨rfl, inw_X3, by decide, lwg_at 202 (by decide +kernel)⟩
theorem fk_X1_9 : Fk RX1 9 RX1 TX1 8 0 0 := ⟨rfl, inw_X1, by decide, lwg_at 155 (by decide +kernel)⟩
theorem fk_X1_17 : Fk RX1 17 RX1 TX1 8 0 1 := ⟨rfl, inw_X1, by decide, lwg_at 158 (by decide +kernel)⟩
theorem fk_X1_20 : Fk RX1 20 RX1 TX1 8 0 2 := ⟨rfl, inw_X1, by decide, lwg_at 160 (by decide +kernel)⟩
theorem fk_X1_24 : Fk RX1 24 RX1 TX1 8 0 3 := ⟨rfl, inw_X1, by decide, lwg_at 162 (by decide +kernel)⟩
theorem fk_X1_27 : Fk RX1 27 RX1 TX1 8 0 4 := ⟨rfl, inw_X1, by decide, lwg_at 165 (by decide +kernel)⟩
theorem fk_X1_31 : Fk RX1 31 RX1 TX1 8 0 5 := ⟨rfl, inw_X1, by decide, lwg_at 166 (by decide +kernel)⟩
theorem fk_X1_34 : Fk RX1 34 RX1 TX1 8 0 6 := ⟨rfl, inw_X1, by decide, lwg_at 167 (by decide +kernel)⟩
theorem fk_X1_37 : Fk RX1 37 RX1 TX1 8 0 7 := ⟨rfl, inw_X1, by decide, lwg_at 169 (by decide +kernel)⟩
theorem fk_X2_11 : Fk RX2 11 RX2 TX2 4 1 1 := ⟨rfl, inw_X2, by decide, lwg_at 122 (by decide +kernel)⟩
theorem fk_X2_15 : Fk RX2 15 RX2 TX2 4 1 2 := ⟨rfl, inw_X2, by decide, lwg_at 123 (by decide +kernel)⟩
theorem fk_X2_18 : Fk RX2 18 RX2 TX2 4 1 3 := ⟨rfl, inw_X2, by decide, lwg_at 124 (by decide +kernel)⟩
theorem fk_X2_21 : Fk RX2 21 RX2 TX2 4 1 0 := ⟨rfl, inw_X2, by decide, lwg_at 121 (by decide +kernel)⟩
theorem fk_X3_11 : Fk RX3 11 RX3 TX3 3 2 0 := ⟨rfl, inw_X3, by decide, lwg_at 199 (by decide +kernel)⟩
theorem fk_X3_17 : Fk RX3 17 RX3 TX3 3 2 1 := ⟨rfl, inw_X3, by decide, lwg_at 200 (by decide +kernel)⟩
theorem fk_X3_21 : Fk RX3 21 RX3 TX3 3 2 2 := ⟨rfl, inw_X3, by decide, lwg_at 201 (by decide +kernel)⟩
theorem fk_X4_9 : Fk RX4 9 RX4 TX4 4 3 2 := ⟨rfl, inw_X4, by decide, lwg_at 136 (by decide +kernel)⟩
theorem fk_X4_15 : Fk RX4 15 RX4 TX4 4 3 3 := ⟨rfl, inw_X4, by decide, lwg_at 137 (by decide +kernel)⟩
theorem fk_X4_24 : Fk RX4 24 RX4 TX4 4 3 0 := ⟨rfl, inw_X4, by decide, lwg_at 134 (by decide +kernel)⟩
theorem fk_X4_33 : Fk RX4 33 RX4 TX4 4 3 1 := ⟨rfl, inw_X4, by decide, lwg_at 135 (by decide +kernel)⟩
theorem fk_X4_104 : Fk RX4 104 RX1 TX1 8 0 0 := ⟨rfl, inw_X1, by decide, lwg_at 156 (by decide +kernel)⟩
theorem fk_X4_135 : Fk RX4 135 RX1 TX1 8 0 3 := ⟨rfl, inw_X1, by decide, lwg_at 164 (by decide +kernel)⟩
theorem fk_X4_148 : Fk RX4 148 RX1 TX1 8 0 6 := ⟨rfl, inw_X1, by decide, lwg_at 168 (by decide +kernel)⟩
theorem fk_X4_151 : Fk RX4 151 RX1 TX1 8 0 7 := ⟨rfl, inw_X1, by decide, lwg_at 170 (by decide +kernel)⟩
theorem fk_X5_9 : Fk RX5 9 RX5 TX5 7 4 1 := ⟨rfl, inw_X5, by decide, lwg_at 92 (by decide +kernel)⟩
theorem fk_X5_15 : Fk RX5 15 RX5 TX5 7 4 2 := ⟨rfl, inw_X5, by decide, lwg_at 93 (by decide +kernel)⟩
theorem fk_X5_18 : Fk RX5 18 RX5 TX5 7 4 3 := ⟨rfl, inw_X5, by decide, lwg_at 94 (by decide +kernel)⟩
theorem fk_X5_21 : Fk RX5 21 RX5 TX5 7 4 4 := ⟨rfl, inw_X5, by decide, lwg_at 95 (by decide +kernel)⟩
theorem fk_X5_24 : Fk RX5 24 RX5 TX5 7 4 5 := ⟨rfl, inw_X5, by decide, lwg_at 96 (by decide +kernel)⟩
theorem fk_X5_27 : Fk RX5 27 RX5 TX5 7 4 6 := ⟨rfl, inw_X5, by decide, lwg_at 97 (by decide +kernel)⟩
theorem fk_X5_30 : Fk RX5 30 RX5 TX5 7 4 0 := ⟨rfl, inw_X5, by decide, lwg_at 91 (by decide +kernel)⟩
theorem fk_X7_9 : Fk RX7 9 RX7 TX7 20 6 1 := ⟨rfl, inw_X7, by decide, lwg_at 900 (by decide +kernel)⟩
theorem fk_X7_13 : Fk RX7 13 RX7 TX7 20 6 7 := ⟨rfl, inw_X7, by decide, lwg_at 906 (by decide +kernel)⟩
theorem fk_X7_17 : Fk RX7 17 RX7 TX7 20 6 8 := ⟨rfl, inw_X7, by decide, lwg_at 907 (by decide +kernel)⟩
theorem fk_X7_20 : Fk RX7 20 RX7 TX7 20 6 9 := ⟨rfl, inw_X7, by decide, lwg_at 908 (by decide +kernel)⟩
theorem fk_X7_25 : Fk RX7 25 RX7 TX7 20 6 10 := ⟨rfl, inw_X7, by decide, lwg_at 909 (by decide +kernel)⟩
theorem fk_X7_28 : Fk RX7 28 RX7 TX7 20 6 15 := ⟨rfl, inw_X7, by decide, lwg_at 914 (by decide +kernel)⟩
theorem fk_X7_32 : Fk RX7 32 RX7 TX7 20 6 16 := ⟨rfl, inw_X7, by decide, lwg_at 915 (by decide +kernel)⟩
theorem fk_X7_35 : Fk RX7 35 RX7 TX7 20 6 0 := ⟨rfl, inw_X7, by decide, lwg_at 899 (by decide +kernel)⟩
theorem fk_X7_39 : Fk RX7 39 RX7 TX7 20 6 2 := ⟨rfl, inw_X7, by decide, lwg_at 901 (by decide +kernel)⟩
theorem fk_X7_42 : Fk RX7 42 RX7 TX7 20 6 3 := ⟨rfl, inw_X7, by decide, lwg_at 902 (by decide +kernel)⟩
theorem fk_X7_45 : Fk RX7 45 RX7 TX7 20 6 4 := ⟨rfl, inw_X7, by decide, lwg_at 903 (by decide +kernel)⟩
theorem fk_X7_52 : Fk RX7 52 RX7 TX7 20 6 5 := ⟨rfl, inw_X7, by decide, lwg_at 904 (by decide +kernel)⟩
theorem fk_X7_55 : Fk RX7 55 RX7 TX7 20 6 6 := ⟨rfl, inw_X7, by decide, lwg_at 905 (by decide +kernel)⟩
theorem fk_X7_87 : Fk RX7 87 RX7 TX7 20 6 12 := ⟨rfl, inw_X7, by decide, lwg_at 911 (by decide +kernel)⟩
theorem fk_X7_95 : Fk RX7 95 RX7 TX7 20 6 13 := ⟨rfl, inw_X7, by decide, lwg_at 912 (by decide +kernel)⟩
theorem fk_X7_125 : Fk RX7 125 RX7 TX7 20 6 14 := ⟨rfl, inw_X7, by decide, lwg_at 913 (by decide +kernel)⟩
theorem fk_X7_248 : Fk RX7 248 RX7 TX7 20 6 17 := ⟨rfl, inw_X7, by decide, lwg_at 916 (by decide +kernel)⟩
theorem fk_X7_251 : Fk RX7 251 RX7 TX7 20 6 18 := ⟨rfl, inw_X7, by decide, lwg_at 917 (by decide +kernel)⟩
theorem fk_X7_258 : Fk RX7 258 RX7 TX7 20 6 19 := ⟨rfl, inw_X7, by decide, lwg_at 918 (by decide +kernel)⟩
theorem fk_X7_283 : Fk RX7 283 RX7 TX7 20 6 11 := ⟨rfl, inw_X7, by decide, lwg_at 910 (by decide +kernel)⟩
theorem cd_X0_blue : Cond.code yX0_blue cX0_blue 1 (some .int) ∈ lwg := lwg_at 279 (by decide +kernel)
theorem cd_X0_contrastOf : Cond.code yX0_contrastOf cX0_contrastOf 5 (some .int) ∈ lwg := lwg_at 266 (by decide +kernel)
theorem cd_X0_differenceOf : Cond.code yX0_differenceOf cX0_differenceOf 4 (some .int) ∈ lwg := lwg_at 288 (by decide +kernel)
theorem cd_X0_green : Cond.code yX0_green cX0_green 1 (some .int) ∈ lwg := lwg_at 276 (by decide +kernel)
theorem cd_X0_joined : Cond.code yX0_joined cX0_joined 3 (some .int) ∈ lwg := lwg_at 542 (by decide +kernel)
theorem cd_X0_luminanceOf : Cond.code yX0_luminanceOf cX0_luminanceOf 4 (some .int) ∈ lwg := lwg_at 269 (by decide +kernel)
theorem cd_X0_red : Cond.code yX0_red cX0_red 1 (some .int) ∈ lwg := lwg_at 272 (by decide +kernel)
theorem cd_X0_seenChannel : Cond.code yX0_seenChannel cX0_seenChannel 3 (some .int) ∈ lwg := lwg_at 291 (by decide +kernel)
theorem cd_X0_seenWith : Cond.code yX0_seenWith cX0_seenWith 3 (some .int) ∈ lwg := lwg_at 717 (by decide +kernel)
theorem cd_X0_shifted : Cond.code yX0_shifted cX0_shifted 2 (some .int) ∈ lwg := lwg_at 829 (by decide +kernel)
theorem cd_X1_addRole : Cond.code yX1_addRole cX1_addRole 4 none ∈ lwg := lwg_at 554 (by decide +kernel)
theorem cd_X1_addRule : Cond.code yX1_addRule cX1_addRule 5 none ∈ lwg := lwg_at 571 (by decide +kernel)
theorem cd_X1_bestChoice : Cond.code yX1_bestChoice cX1_bestChoice 8 (some .int) ∈ lwg := lwg_at 818 (by decide +kernel)
theorem cd_X1_choiceAmount : Cond.code yX1_choiceAmount cX1_choiceAmount 2 (some .int) ∈ lwg := lwg_at 826 (by decide +kernel)
theorem cd_X1_choiceRole : Cond.code yX1_choiceRole cX1_choiceRole 3 (some .int) ∈ lwg := lwg_at 823 (by decide +kernel)
theorem cd_X1_clear : Cond.code yX1_clear cX1_clear 1 none ∈ lwg := lwg_at 418 (by decide +kernel)
theorem cd_X1_copyFrom : Cond.code yX1_copyFrom cX1_copyFrom 3 none ∈ lwg := lwg_at 311 (by decide +kernel)
theorem cd_X1_exchangeColours : Cond.code yX1_exchangeColours cX1_exchangeColours 3 none ∈ lwg := lwg_at 319 (by decide +kernel)
theorem cd_X1_init : Cond.code yX1_init cX1_init 1 none ∈ lwg := lwg_at 151 (by decide +kernel)
theorem cd_X1_isKept : Cond.code yX1_isKept cX1_isKept 3 (some .boolean) ∈ lwg := lwg_at 778 (by decide +kernel)
theorem cd_X1_leastMargin : Cond.code yX1_leastMargin cX1_leastMargin 4 (some .int) ∈ lwg := lwg_at 805 (by decide +kernel)
theorem cd_X1_mendFirst : Cond.code yX1_mendFirst cX1_mendFirst 6 (some .boolean) ∈ lwg := lwg_at 890 (by decide +kernel)
theorem cd_X1_nearestRole : Cond.code yX1_nearestRole cX1_nearestRole 7 (some .int) ∈ lwg := lwg_at 743 (by decide +kernel)
theorem cd_X1_ruleValue : Cond.code yX1_ruleValue cX1_ruleValue 5 (some .int) ∈ lwg := lwg_at 263 (by decide +kernel)
theorem cd_X1_violatedIn : Cond.code yX1_violatedIn cX1_violatedIn 4 (some .int) ∈ lwg := lwg_at 259 (by decide +kernel)
theorem cd_X1_violationPlace : Cond.code yX1_violationPlace cX1_violationPlace 4 (some .int) ∈ lwg := lwg_at 774 (by decide +kernel)
theorem cd_X2_factor : Cond.code yX2_factor cX2_factor 3 (some .int) ∈ lwg := lwg_at 598 (by decide +kernel)
theorem cd_X2_forget : Cond.code yX2_forget cX2_forget 1 none ∈ lwg := lwg_at 422 (by decide +kernel)
theorem cd_X2_init : Cond.code yX2_init cX2_init 2 none ∈ lwg := lwg_at 119 (by decide +kernel)
theorem cd_X2_isThere : Cond.code yX2_isThere cX2_isThere 1 (some .boolean) ∈ lwg := lwg_at 577 (by decide +kernel)
theorem cd_X2_product : Cond.code yX2_product cX2_product 4 (some .int) ∈ lwg := lwg_at 610 (by decide +kernel)
theorem cd_X2_quotient : Cond.code yX2_quotient cX2_quotient 2 (some .int) ∈ lwg := lwg_at 621 (by decide +kernel)
theorem cd_X2_readSum : Cond.code yX2_readSum cX2_readSum 1 none ∈ lwg := lwg_at 581 (by decide +kernel)
theorem cd_X2_sum : Cond.code yX2_sum cX2_sum 4 (some .int) ∈ lwg := lwg_at 590 (by decide +kernel)
theorem cd_X2_term : Cond.code yX2_term cX2_term 4 (some .int) ∈ lwg := lwg_at 594 (by decide +kernel)
theorem cd_X2_textNeed : Cond.code yX2_textNeed cX2_textNeed 3 (some .int) ∈ lwg := lwg_at 636 (by decide +kernel)
theorem cd_X3_init : Cond.code yX3_init cX3_init 2 none ∈ lwg := lwg_at 194 (by decide +kernel)
theorem cd_X3_keep : Cond.code yX3_keep cX3_keep 2 none ∈ lwg := lwg_at 307 (by decide +kernel)
theorem cd_X3_takeBack : Cond.code yX3_takeBack cX3_takeBack 2 none ∈ lwg := lwg_at 328 (by decide +kernel)
theorem cd_X4_errorStart : Cond.code yX4_errorStart cX4_errorStart 1 (some .int) ∈ lwg := lwg_at 645 (by decide +kernel)
theorem cd_X4_init : Cond.code yX4_init cX4_init 2 none ∈ lwg := lwg_at 83 (by decide +kernel)
theorem cd_X4_read : Cond.code yX4_read cX4_read 4 (some .int) ∈ lwg := lwg_at 414 (by decide +kernel)
theorem cd_X4_readColour : Cond.code yX4_readColour cX4_readColour 4 (some .int) ∈ lwg := lwg_at 535 (by decide +kernel)
theorem cd_X4_readRole : Cond.code yX4_readRole cX4_readRole 5 none ∈ lwg := lwg_at 529 (by decide +kernel)
theorem cd_X4_readRule : Cond.code yX4_readRule cX4_readRule 7 none ∈ lwg := lwg_at 559 (by decide +kernel)
theorem cd_X4_readStatement : Cond.code yX4_readStatement cX4_readStatement 2 none ∈ lwg := lwg_at 523 (by decide +kernel)
theorem cd_X4_setTextNeeds : Cond.code yX4_setTextNeeds cX4_setTextNeeds 3 none ∈ lwg := lwg_at 632 (by decide +kernel)
theorem cd_X5_advance : Cond.code yX5_advance cX5_advance 1 none ∈ lwg := lwg_at 431 (by decide +kernel)
theorem cd_X5_currentEnd : Cond.code yX5_currentEnd cX5_currentEnd 1 (some .int) ∈ lwg := lwg_at 585 (by decide +kernel)
theorem cd_X5_currentNumber : Cond.code yX5_currentNumber cX5_currentNumber 1 (some .int) ∈ lwg := lwg_at 567 (by decide +kernel)
theorem cd_X5_currentStart : Cond.code yX5_currentStart cX5_currentStart 1 (some .int) ∈ lwg := lwg_at 628 (by decide +kernel)
theorem cd_X5_fail : Cond.code yX5_fail cX5_fail 2 none ∈ lwg := lwg_at 503 (by decide +kernel)
theorem cd_X5_firstError : Cond.code yX5_firstError cX5_firstError 1 (some .int) ∈ lwg := lwg_at 550 (by decide +kernel)
theorem cd_X5_hasMore : Cond.code yX5_hasMore cX5_hasMore 1 (some .boolean) ∈ lwg := lwg_at 519 (by decide +kernel)
theorem cd_X5_init : Cond.code yX5_init cX5_init 2 none ∈ lwg := lwg_at 89 (by decide +kernel)
theorem cd_X5_isDigit : Cond.code yX5_isDigit cX5_isDigit 1 (some .boolean) ∈ lwg := lwg_at 434 (by decide +kernel)
theorem cd_X5_isLetter : Cond.code yX5_isLetter cX5_isLetter 1 (some .boolean) ∈ lwg := lwg_at 438 (by decide +kernel)
theorem cd_X5_isNumber : Cond.code yX5_isNumber cX5_isNumber 1 (some .boolean) ∈ lwg := lwg_at 563 (by decide +kernel)
theorem cd_X5_isSign : Cond.code yX5_isSign cX5_isSign 2 (some .boolean) ∈ lwg := lwg_at 515 (by decide +kernel)
theorem cd_X5_isWord : Cond.code yX5_isWord cX5_isWord 3 (some .boolean) ∈ lwg := lwg_at 451 (by decide +kernel)
theorem cd_X5_needNumber : Cond.code yX5_needNumber cX5_needNumber 4 (some .int) ∈ lwg := lwg_at 539 (by decide +kernel)
theorem cd_X5_needSign : Cond.code yX5_needSign cX5_needSign 2 none ∈ lwg := lwg_at 507 (by decide +kernel)
theorem cd_X5_needWord : Cond.code yX5_needWord cX5_needWord 2 none ∈ lwg := lwg_at 443 (by decide +kernel)
theorem cd_X5_open : Cond.code yX5_open cX5_open 2 none ∈ lwg := lwg_at 426 (by decide +kernel)
theorem cd_X5_passSign : Cond.code yX5_passSign cX5_passSign 3 (some .boolean) ∈ lwg := lwg_at 511 (by decide +kernel)
theorem cd_X5_passWord : Cond.code yX5_passWord cX5_passWord 3 (some .boolean) ∈ lwg := lwg_at 447 (by decide +kernel)
theorem cd_X5_reopen : Cond.code yX5_reopen cX5_reopen 2 none ∈ lwg := lwg_at 640 (by decide +kernel)
theorem cd_X6_append : Cond.code yX6_append cX6_append 6 (some .int) ∈ lwg := lwg_at 235 (by decide +kernel)
theorem cd_X6_bestShift : Cond.code yX6_bestShift cX6_bestShift 4 (some .int) ∈ lwg := lwg_at 813 (by decide +kernel)
theorem cd_X6_checksum : Cond.code yX6_checksum cX6_checksum 4 (some .long) ∈ lwg := lwg_at 332 (by decide +kernel)
theorem cd_X6_colour : Cond.code yX6_colour cX6_colour 3 (some .int) ∈ lwg := lwg_at 654 (by decide +kernel)
theorem cd_X6_contrast : Cond.code yX6_contrast cX6_contrast 4 (some .int) ∈ lwg := lwg_at 701 (by decide +kernel)
theorem cd_X6_difference : Cond.code yX6_difference cX6_difference 5 (some .int) ∈ lwg := lwg_at 725 (by decide +kernel)
theorem cd_X6_errorOffset : Cond.code yX6_errorOffset cX6_errorOffset 1 (some .int) ∈ lwg := lwg_at 243 (by decide +kernel)
theorem cd_X6_init : Cond.code yX6_init cX6_init 1 none ∈ lwg := lwg_at 75 (by decide +kernel)
theorem cd_X6_isFixed : Cond.code yX6_isFixed cX6_isFixed 2 (some .boolean) ∈ lwg := lwg_at 686 (by decide +kernel)
theorem cd_X6_limited : Cond.code yX6_limited cX6_limited 3 (some .int) ∈ lwg := lwg_at 296 (by decide +kernel)
theorem cd_X6_load : Cond.code yX6_load cX6_load 3 (some .int) ∈ lwg := lwg_at 342 (by decide +kernel)
theorem cd_X6_luminance : Cond.code yX6_luminance cX6_luminance 3 (some .int) ∈ lwg := lwg_at 693 (by decide +kernel)
theorem cd_X6_nearest : Cond.code yX6_nearest cX6_nearest 3 (some .int) ∈ lwg := lwg_at 733 (by decide +kernel)
theorem cd_X6_need : Cond.code yX6_need cX6_need 3 (some .int) ∈ lwg := lwg_at 750 (by decide +kernel)
theorem cd_X6_putWord : Cond.code yX6_putWord cX6_putWord 3 none ∈ lwg := lwg_at 239 (by decide +kernel)
theorem cd_X6_repair : Cond.code yX6_repair cX6_repair 3 (some .int) ∈ lwg := lwg_at 885 (by decide +kernel)
theorem cd_X6_requireColour : Cond.code yX6_requireColour cX6_requireColour 2 none ∈ lwg := lwg_at 737 (by decide +kernel)
theorem cd_X6_requireRole : Cond.code yX6_requireRole cX6_requireRole 2 none ∈ lwg := lwg_at 658 (by decide +kernel)
theorem cd_X6_requireRule : Cond.code yX6_requireRule cX6_requireRule 2 none ∈ lwg := lwg_at 754 (by decide +kernel)
theorem cd_X6_requireScheme : Cond.code yX6_requireScheme cX6_requireScheme 2 none ∈ lwg := lwg_at 678 (by decide +kernel)
theorem cd_X6_requireSight : Cond.code yX6_requireSight cX6_requireSight 2 none ∈ lwg := lwg_at 713 (by decide +kernel)
theorem cd_X6_roleCount : Cond.code yX6_roleCount cX6_roleCount 1 (some .int) ∈ lwg := lwg_at 247 (by decide +kernel)
theorem cd_X6_ruleCount : Cond.code yX6_ruleCount cX6_ruleCount 1 (some .int) ∈ lwg := lwg_at 251 (by decide +kernel)
theorem cd_X6_seen : Cond.code yX6_seen cX6_seen 4 (some .int) ∈ lwg := lwg_at 709 (by decide +kernel)
theorem cd_X6_setColour : Cond.code yX6_setColour cX6_setColour 5 (some .int) ∈ lwg := lwg_at 845 (by decide +kernel)
theorem cd_X6_setFixed : Cond.code yX6_setFixed cX6_setFixed 4 (some .boolean) ∈ lwg := lwg_at 852 (by decide +kernel)
theorem cd_X6_shift : Cond.code yX6_shift cX6_shift 4 (some .int) ∈ lwg := lwg_at 860 (by decide +kernel)
theorem cd_X6_shiftRole : Cond.code yX6_shiftRole cX6_shiftRole 4 (some .int) ∈ lwg := lwg_at 837 (by decide +kernel)
theorem cd_X6_smallestMargin : Cond.code yX6_smallestMargin cX6_smallestMargin 2 (some .int) ∈ lwg := lwg_at 801 (by decide +kernel)
theorem cd_X6_swapSchemes : Cond.code yX6_swapSchemes cX6_swapSchemes 1 (some .int) ∈ lwg := lwg_at 303 (by decide +kernel)
theorem cd_X6_undo : Cond.code yX6_undo cX6_undo 1 (some .int) ∈ lwg := lwg_at 324 (by decide +kernel)
theorem cd_X6_value : Cond.code yX6_value cX6_value 3 (some .int) ∈ lwg := lwg_at 762 (by decide +kernel)
theorem cd_X6_violation : Cond.code yX6_violation cX6_violation 3 (some .int) ∈ lwg := lwg_at 770 (by decide +kernel)
theorem cd_X6_violations : Cond.code yX6_violations cX6_violations 1 (some .int) ∈ lwg := lwg_at 255 (by decide +kernel)
theorem cd_X7_allViolated : Cond.code yX7_allViolated cX7_allViolated 1 (some .int) ∈ lwg := lwg_at 1213 (by decide +kernel)
theorem cd_X7_apart : Cond.code yX7_apart cX7_apart 2 (some .int) ∈ lwg := lwg_at 1176 (by decide +kernel)
theorem cd_X7_append : Cond.code yX7_append cX7_append 8 (some .int) ∈ lwg := lwg_at 968 (by decide +kernel)
theorem cd_X7_bestShift : Cond.code yX7_bestShift cX7_bestShift 3 (some .int) ∈ lwg := lwg_at 1233 (by decide +kernel)
theorem cd_X7_blue : Cond.code yX7_blue cX7_blue 1 (some .int) ∈ lwg := lwg_at 1139 (by decide +kernel)
theorem cd_X7_bright : Cond.code yX7_bright cX7_bright 1 (some .int) ∈ lwg := lwg_at 1130 (by decide +kernel)
theorem cd_X7_byteAt : Cond.code yX7_byteAt cX7_byteAt 2 (some .int) ∈ lwg := lwg_at 996 (by decide +kernel)
theorem cd_X7_channel : Cond.code yX7_channel cX7_channel 4 (some .int) ∈ lwg := lwg_at 1163 (by decide +kernel)
theorem cd_X7_checksum : Cond.code yX7_checksum cX7_checksum 5 (some .long) ∈ lwg := lwg_at 1284 (by decide +kernel)
theorem cd_X7_colour : Cond.code yX7_colour cX7_colour 3 (some .int) ∈ lwg := lwg_at 1107 (by decide +kernel)
theorem cd_X7_colourOf : Cond.code yX7_colourOf cX7_colourOf 3 (some .int) ∈ lwg := lwg_at 1119 (by decide +kernel)
theorem cd_X7_contrast : Cond.code yX7_contrast cX7_contrast 4 (some .int) ∈ lwg := lwg_at 1143 (by decide +kernel)
theorem cd_X7_contrastOf : Cond.code yX7_contrastOf cX7_contrastOf 2 (some .int) ∈ lwg := lwg_at 1146 (by decide +kernel)
theorem cd_X7_copy : Cond.code yX7_copy cX7_copy 3 none ∈ lwg := lwg_at 1073 (by decide +kernel)
theorem cd_X7_difference : Cond.code yX7_difference cX7_difference 5 (some .int) ∈ lwg := lwg_at 1170 (by decide +kernel)
theorem cd_X7_differenceOf : Cond.code yX7_differenceOf cX7_differenceOf 2 (some .int) ∈ lwg := lwg_at 1173 (by decide +kernel)
theorem cd_X7_emit : Cond.code yX7_emit cX7_emit 2 none ∈ lwg := lwg_at 1066 (by decide +kernel)
theorem cd_X7_errorOffset : Cond.code yX7_errorOffset cX7_errorOffset 1 (some .int) ∈ lwg := lwg_at 1095 (by decide +kernel)
theorem cd_X7_expect : Cond.code yX7_expect cX7_expect 2 none ∈ lwg := lwg_at 1006 (by decide +kernel)
theorem cd_X7_factor : Cond.code yX7_factor cX7_factor 4 none ∈ lwg := lwg_at 1061 (by decide +kernel)
theorem cd_X7_fails : Cond.code yX7_fails cX7_fails 3 (some .boolean) ∈ lwg := lwg_at 979 (by decide +kernel)
theorem cd_X7_findAny : Cond.code yX7_findAny cX7_findAny 2 (some .boolean) ∈ lwg := lwg_at 1272 (by decide +kernel)
theorem cd_X7_findShift : Cond.code yX7_findShift cX7_findShift 7 (some .boolean) ∈ lwg := lwg_at 1237 (by decide +kernel)
theorem cd_X7_green : Cond.code yX7_green cX7_green 1 (some .int) ∈ lwg := lwg_at 1136 (by decide +kernel)
theorem cd_X7_held : Cond.code yX7_held cX7_held 1 (some .int) ∈ lwg := lwg_at 1166 (by decide +kernel)
theorem cd_X7_in : Cond.code yX7_in cX7_in 3 (some .boolean) ∈ lwg := lwg_at 975 (by decide +kernel)
theorem cd_X7_init : Cond.code yX7_init cX7_init 1 none ∈ lwg := lwg_at 896 (by decide +kernel)
theorem cd_X7_isDigit : Cond.code yX7_isDigit cX7_isDigit 1 (some .boolean) ∈ lwg := lwg_at 1022 (by decide +kernel)
theorem cd_X7_isFixed : Cond.code yX7_isFixed cX7_isFixed 2 (some .boolean) ∈ lwg := lwg_at 1123 (by decide +kernel)
theorem cd_X7_isGood : Cond.code yX7_isGood cX7_isGood 1 (some .boolean) ∈ lwg := lwg_at 988 (by decide +kernel)
theorem cd_X7_isViolated : Cond.code yX7_isViolated cX7_isViolated 3 (some .boolean) ∈ lwg := lwg_at 1221 (by decide +kernel)
theorem cd_X7_layNeeds : Cond.code yX7_layNeeds cX7_layNeeds 2 none ∈ lwg := lwg_at 1077 (by decide +kernel)
theorem cd_X7_limited : Cond.code yX7_limited cX7_limited 2 (some .long) ∈ lwg := lwg_at 1087 (by decide +kernel)
theorem cd_X7_load : Cond.code yX7_load cX7_load 3 (some .int) ∈ lwg := lwg_at 972 (by decide +kernel)
theorem cd_X7_luminance : Cond.code yX7_luminance cX7_luminance 3 (some .int) ∈ lwg := lwg_at 1127 (by decide +kernel)
theorem cd_X7_makeShift : Cond.code yX7_makeShift cX7_makeShift 5 (some .int) ∈ lwg := lwg_at 1264 (by decide +kernel)
theorem cd_X7_max : Cond.code yX7_max cX7_max 2 (some .int) ∈ lwg := lwg_at 1149 (by decide +kernel)
theorem cd_X7_mends : Cond.code yX7_mends cX7_mends 9 (some .boolean) ∈ lwg := lwg_at 1241 (by decide +kernel)
theorem cd_X7_min : Cond.code yX7_min cX7_min 2 (some .int) ∈ lwg := lwg_at 1026 (by decide +kernel)
theorem cd_X7_mixed : Cond.code yX7_mixed cX7_mixed 3 (some .int) ∈ lwg := lwg_at 1029 (by decide +kernel)
theorem cd_X7_nearest : Cond.code yX7_nearest cX7_nearest 7 (some .int) ∈ lwg := lwg_at 1180 (by decide +kernel)
theorem cd_X7_need : Cond.code yX7_need cX7_need 3 (some .int) ∈ lwg := lwg_at 1189 (by decide +kernel)
theorem cd_X7_needOf : Cond.code yX7_needOf cX7_needOf 3 (some .int) ∈ lwg := lwg_at 1197 (by decide +kernel)
theorem cd_X7_next : Cond.code yX7_next cX7_next 1 (some .int) ∈ lwg := lwg_at 992 (by decide +kernel)
theorem cd_X7_noColour : Cond.code yX7_noColour cX7_noColour 2 (some .boolean) ∈ lwg := lwg_at 1184 (by decide +kernel)
theorem cd_X7_noRole : Cond.code yX7_noRole cX7_noRole 2 (some .boolean) ∈ lwg := lwg_at 1111 (by decide +kernel)
theorem cd_X7_noRule : Cond.code yX7_noRule cX7_noRule 3 (some .boolean) ∈ lwg := lwg_at 1193 (by decide +kernel)
theorem cd_X7_noScheme : Cond.code yX7_noScheme cX7_noScheme 2 (some .boolean) ∈ lwg := lwg_at 1115 (by decide +kernel)
theorem cd_X7_noSight : Cond.code yX7_noSight cX7_noSight 2 (some .boolean) ∈ lwg := lwg_at 1157 (by decide +kernel)
theorem cd_X7_number : Cond.code yX7_number cX7_number 4 (some .int) ∈ lwg := lwg_at 1019 (by decide +kernel)
theorem cd_X7_once : Cond.code yX7_once cX7_once 3 none ∈ lwg := lwg_at 1049 (by decide +kernel)
theorem cd_X7_operate : Cond.code yX7_operate cX7_operate 5 (some .long) ∈ lwg := lwg_at 1084 (by decide +kernel)
theorem cd_X7_readRole : Cond.code yX7_readRole cX7_readRole 8 none ∈ lwg := lwg_at 1015 (by decide +kernel)
theorem cd_X7_readRule : Cond.code yX7_readRule cX7_readRule 8 none ∈ lwg := lwg_at 1040 (by decide +kernel)
theorem cd_X7_reckonNeed : Cond.code yX7_reckonNeed cX7_reckonNeed 8 (some .int) ∈ lwg := lwg_at 1081 (by decide +kernel)
theorem cd_X7_red : Cond.code yX7_red cX7_red 1 (some .int) ∈ lwg := lwg_at 1133 (by decide +kernel)
theorem cd_X7_remember : Cond.code yX7_remember cX7_remember 2 none ∈ lwg := lwg_at 1070 (by decide +kernel)
theorem cd_X7_repair : Cond.code yX7_repair cX7_repair 3 (some .int) ∈ lwg := lwg_at 1268 (by decide +kernel)
theorem cd_X7_report : Cond.code yX7_report cX7_report 3 none ∈ lwg := lwg_at 1002 (by decide +kernel)
theorem cd_X7_role : Cond.code yX7_role cX7_role 1 (some .int) ∈ lwg := lwg_at 1035 (by decide +kernel)
theorem cd_X7_roleCount : Cond.code yX7_roleCount cX7_roleCount 1 (some .int) ∈ lwg := lwg_at 1099 (by decide +kernel)
theorem cd_X7_rule : Cond.code yX7_rule cX7_rule 1 (some .int) ∈ lwg := lwg_at 1043 (by decide +kernel)
theorem cd_X7_ruleCount : Cond.code yX7_ruleCount cX7_ruleCount 1 (some .int) ∈ lwg := lwg_at 1103 (by decide +kernel)
theorem cd_X7_seen : Cond.code yX7_seen cX7_seen 4 (some .int) ∈ lwg := lwg_at 1153 (by decide +kernel)
theorem cd_X7_seenAs : Cond.code yX7_seenAs cX7_seenAs 2 (some .int) ∈ lwg := lwg_at 1160 (by decide +kernel)
theorem cd_X7_setColour : Cond.code yX7_setColour cX7_setColour 5 (some .int) ∈ lwg := lwg_at 1252 (by decide +kernel)
theorem cd_X7_setFixed : Cond.code yX7_setFixed cX7_setFixed 4 (some .boolean) ∈ lwg := lwg_at 1256 (by decide +kernel)
theorem cd_X7_shift : Cond.code yX7_shift cX7_shift 4 (some .int) ∈ lwg := lwg_at 1260 (by decide +kernel)
theorem cd_X7_shiftRole : Cond.code yX7_shiftRole cX7_shiftRole 3 (some .int) ∈ lwg := lwg_at 1248 (by decide +kernel)
theorem cd_X7_shifted : Cond.code yX7_shifted cX7_shifted 2 (some .int) ∈ lwg := lwg_at 1244 (by decide +kernel)
theorem cd_X7_smallestMargin : Cond.code yX7_smallestMargin cX7_smallestMargin 4 (some .int) ∈ lwg := lwg_at 1229 (by decide +kernel)
theorem cd_X7_statement : Cond.code yX7_statement cX7_statement 2 none ∈ lwg := lwg_at 1010 (by decide +kernel)
theorem cd_X7_sum : Cond.code yX7_sum cX7_sum 2 none ∈ lwg := lwg_at 1053 (by decide +kernel)
theorem cd_X7_swapSchemes : Cond.code yX7_swapSchemes cX7_swapSchemes 3 (some .int) ∈ lwg := lwg_at 1276 (by decide +kernel)
theorem cd_X7_takeWord : Cond.code yX7_takeWord cX7_takeWord 3 (some .boolean) ∈ lwg := lwg_at 984 (by decide +kernel)
theorem cd_X7_term : Cond.code yX7_term cX7_term 2 none ∈ lwg := lwg_at 1057 (by decide +kernel)
theorem cd_X7_thrown : Cond.code yX7_thrown cX7_thrown 1 (some .int) ∈ lwg := lwg_at 964 (by decide +kernel)
theorem cd_X7_undo : Cond.code yX7_undo cX7_undo 1 (some .int) ∈ lwg := lwg_at 1280 (by decide +kernel)
theorem cd_X7_value : Cond.code yX7_value cX7_value 3 (some .int) ∈ lwg := lwg_at 1201 (by decide +kernel)
theorem cd_X7_valueOf : Cond.code yX7_valueOf cX7_valueOf 6 (some .int) ∈ lwg := lwg_at 1205 (by decide +kernel)
theorem cd_X7_violatedIn : Cond.code yX7_violatedIn cX7_violatedIn 4 (some .int) ∈ lwg := lwg_at 1217 (by decide +kernel)
theorem cd_X7_violation : Cond.code yX7_violation cX7_violation 4 (some .int) ∈ lwg := lwg_at 1225 (by decide +kernel)
theorem cd_X7_violations : Cond.code yX7_violations cX7_violations 1 (some .int) ∈ lwg := lwg_at 1209 (by decide +kernel)
theorem ni_X6 : Cond.initialized "ColorScheme" ∈ lwg := lwg_at 50 (by decide +kernel)
theorem ni_X0 : Cond.initialized "ColorScheme$Colours" ∈ lwg := lwg_at 66 (by decide +kernel)
theorem ni_X1 : Cond.initialized "ColorScheme$Design" ∈ lwg := lwg_at 54 (by decide +kernel)
theorem ni_X2 : Cond.initialized "ColorScheme$Floor" ∈ lwg := lwg_at 53 (by decide +kernel)
theorem ni_X3 : Cond.initialized "ColorScheme$History" ∈ lwg := lwg_at 55 (by decide +kernel)
theorem ni_X4 : Cond.initialized "ColorScheme$SetupReader" ∈ lwg := lwg_at 51 (by decide +kernel)
theorem ni_X5 : Cond.initialized "ColorScheme$Tokens" ∈ lwg := lwg_at 52 (by decide +kernel)
theorem ni_L : Cond.initialized "ColorSchemeLaw" ∈ lwg := lwg_at 49 (by decide +kernel)
theorem ni_X7 : Cond.initialized "ColorSchemeModel" ∈ lwg := lwg_at 56 (by decide +kernel)
theorem st_X0_blue : Cond.static yX0_blue ∈ lwg := lwg_at 278 (by decide +kernel)
theorem st_X0_contrastOf : Cond.static yX0_contrastOf ∈ lwg := lwg_at 265 (by decide +kernel)
theorem st_X0_differenceOf : Cond.static yX0_differenceOf ∈ lwg := lwg_at 287 (by decide +kernel)
theorem st_X0_green : Cond.static yX0_green ∈ lwg := lwg_at 275 (by decide +kernel)
theorem st_X0_joined : Cond.static yX0_joined ∈ lwg := lwg_at 541 (by decide +kernel)
theorem st_X0_luminanceOf : Cond.static yX0_luminanceOf ∈ lwg := lwg_at 268 (by decide +kernel)
theorem st_X0_red : Cond.static yX0_red ∈ lwg := lwg_at 271 (by decide +kernel)
theorem st_X0_seenChannel : Cond.static yX0_seenChannel ∈ lwg := lwg_at 290 (by decide +kernel)
theorem st_X0_seenWith : Cond.static yX0_seenWith ∈ lwg := lwg_at 716 (by decide +kernel)
theorem st_X0_shifted : Cond.static yX0_shifted ∈ lwg := lwg_at 828 (by decide +kernel)
theorem im_X1_addRole : Cond.instanceMethod yX1_addRole ∈ lwg := lwg_at 552 (by decide +kernel)
theorem sl_X1_addRole : Cond.selects yX1_addRole.cls yX1_addRole yX1_addRole ∈ lwg := lwg_at 553 (by decide +kernel)
theorem im_X1_addRule : Cond.instanceMethod yX1_addRule ∈ lwg := lwg_at 569 (by decide +kernel)
theorem sl_X1_addRule : Cond.selects yX1_addRule.cls yX1_addRule yX1_addRule ∈ lwg := lwg_at 570 (by decide +kernel)
theorem im_X1_bestChoice : Cond.instanceMethod yX1_bestChoice ∈ lwg := lwg_at 816 (by decide +kernel)
theorem sl_X1_bestChoice : Cond.selects yX1_bestChoice.cls yX1_bestChoice yX1_bestChoice ∈ lwg := lwg_at 817 (by decide +kernel)
theorem st_X1_choiceAmount : Cond.static yX1_choiceAmount ∈ lwg := lwg_at 825 (by decide +kernel)
theorem im_X1_choiceRole : Cond.instanceMethod yX1_choiceRole ∈ lwg := lwg_at 821 (by decide +kernel)
theorem sl_X1_choiceRole : Cond.selects yX1_choiceRole.cls yX1_choiceRole yX1_choiceRole ∈ lwg := lwg_at 822 (by decide +kernel)
theorem im_X1_clear : Cond.instanceMethod yX1_clear ∈ lwg := lwg_at 416 (by decide +kernel)
theorem sl_X1_clear : Cond.selects yX1_clear.cls yX1_clear yX1_clear ∈ lwg := lwg_at 417 (by decide +kernel)
theorem im_X1_copyFrom : Cond.instanceMethod yX1_copyFrom ∈ lwg := lwg_at 309 (by decide +kernel)
theorem sl_X1_copyFrom : Cond.selects yX1_copyFrom.cls yX1_copyFrom yX1_copyFrom ∈ lwg := lwg_at 310 (by decide +kernel)
theorem im_X1_exchangeColours : Cond.instanceMethod yX1_exchangeColours ∈ lwg := lwg_at 317 (by decide +kernel)
theorem sl_X1_exchangeColours : Cond.selects yX1_exchangeColours.cls yX1_exchangeColours yX1_exchangeColours ∈ lwg := lwg_at 318 (by decide +kernel)
theorem im_X1_init : Cond.instanceMethod yX1_init ∈ lwg := lwg_at 150 (by decide +kernel)
theorem im_X1_isKept : Cond.instanceMethod yX1_isKept ∈ lwg := lwg_at 776 (by decide +kernel)
theorem sl_X1_isKept : Cond.selects yX1_isKept.cls yX1_isKept yX1_isKept ∈ lwg := lwg_at 777 (by decide +kernel)
theorem im_X1_leastMargin : Cond.instanceMethod yX1_leastMargin ∈ lwg := lwg_at 803 (by decide +kernel)
theorem sl_X1_leastMargin : Cond.selects yX1_leastMargin.cls yX1_leastMargin yX1_leastMargin ∈ lwg := lwg_at 804 (by decide +kernel)
theorem im_X1_mendFirst : Cond.instanceMethod yX1_mendFirst ∈ lwg := lwg_at 888 (by decide +kernel)
theorem sl_X1_mendFirst : Cond.selects yX1_mendFirst.cls yX1_mendFirst yX1_mendFirst ∈ lwg := lwg_at 889 (by decide +kernel)
theorem im_X1_nearestRole : Cond.instanceMethod yX1_nearestRole ∈ lwg := lwg_at 741 (by decide +kernel)
theorem sl_X1_nearestRole : Cond.selects yX1_nearestRole.cls yX1_nearestRole yX1_nearestRole ∈ lwg := lwg_at 742 (by decide +kernel)
theorem im_X1_ruleValue : Cond.instanceMethod yX1_ruleValue ∈ lwg := lwg_at 261 (by decide +kernel)
theorem sl_X1_ruleValue : Cond.selects yX1_ruleValue.cls yX1_ruleValue yX1_ruleValue ∈ lwg := lwg_at 262 (by decide +kernel)
theorem im_X1_violatedIn : Cond.instanceMethod yX1_violatedIn ∈ lwg := lwg_at 257 (by decide +kernel)
theorem sl_X1_violatedIn : Cond.selects yX1_violatedIn.cls yX1_violatedIn yX1_violatedIn ∈ lwg := lwg_at 258 (by decide +kernel)
theorem im_X1_violationPlace : Cond.instanceMethod yX1_violationPlace ∈ lwg := lwg_at 772 (by decide +kernel)
theorem sl_X1_violationPlace : Cond.selects yX1_violationPlace.cls yX1_violationPlace yX1_violationPlace ∈ lwg := lwg_at 773 (by decide +kernel)
theorem im_X2_factor : Cond.instanceMethod yX2_factor ∈ lwg := lwg_at 597 (by decide +kernel)
theorem sl_X2_factor : Cond.selects yX2_factor.cls yX2_factor yX2_factor ∈ lwg := lwg_at 8 (by decide +kernel)
theorem im_X2_forget : Cond.instanceMethod yX2_forget ∈ lwg := lwg_at 420 (by decide +kernel)
theorem sl_X2_forget : Cond.selects yX2_forget.cls yX2_forget yX2_forget ∈ lwg := lwg_at 421 (by decide +kernel)
theorem im_X2_init : Cond.instanceMethod yX2_init ∈ lwg := lwg_at 118 (by decide +kernel)
theorem im_X2_isThere : Cond.instanceMethod yX2_isThere ∈ lwg := lwg_at 575 (by decide +kernel)
theorem sl_X2_isThere : Cond.selects yX2_isThere.cls yX2_isThere yX2_isThere ∈ lwg := lwg_at 576 (by decide +kernel)
theorem st_X2_product : Cond.static yX2_product ∈ lwg := lwg_at 609 (by decide +kernel)
theorem st_X2_quotient : Cond.static yX2_quotient ∈ lwg := lwg_at 620 (by decide +kernel)
theorem im_X2_readSum : Cond.instanceMethod yX2_readSum ∈ lwg := lwg_at 579 (by decide +kernel)
theorem sl_X2_readSum : Cond.selects yX2_readSum.cls yX2_readSum yX2_readSum ∈ lwg := lwg_at 580 (by decide +kernel)
theorem im_X2_sum : Cond.instanceMethod yX2_sum ∈ lwg := lwg_at 589 (by decide +kernel)
theorem sl_X2_sum : Cond.selects yX2_sum.cls yX2_sum yX2_sum ∈ lwg := lwg_at 6 (by decide +kernel)
theorem im_X2_term : Cond.instanceMethod yX2_term ∈ lwg := lwg_at 593 (by decide +kernel)
theorem sl_X2_term : Cond.selects yX2_term.cls yX2_term yX2_term ∈ lwg := lwg_at 7 (by decide +kernel)
theorem im_X2_textNeed : Cond.instanceMethod yX2_textNeed ∈ lwg := lwg_at 634 (by decide +kernel)
theorem sl_X2_textNeed : Cond.selects yX2_textNeed.cls yX2_textNeed yX2_textNeed ∈ lwg := lwg_at 635 (by decide +kernel)
theorem im_X3_init : Cond.instanceMethod yX3_init ∈ lwg := lwg_at 193 (by decide +kernel)
theorem im_X3_keep : Cond.instanceMethod yX3_keep ∈ lwg := lwg_at 305 (by decide +kernel)
theorem sl_X3_keep : Cond.selects yX3_keep.cls yX3_keep yX3_keep ∈ lwg := lwg_at 306 (by decide +kernel)
theorem im_X3_takeBack : Cond.instanceMethod yX3_takeBack ∈ lwg := lwg_at 326 (by decide +kernel)
theorem sl_X3_takeBack : Cond.selects yX3_takeBack.cls yX3_takeBack yX3_takeBack ∈ lwg := lwg_at 327 (by decide +kernel)
theorem im_X4_errorStart : Cond.instanceMethod yX4_errorStart ∈ lwg := lwg_at 643 (by decide +kernel)
theorem sl_X4_errorStart : Cond.selects yX4_errorStart.cls yX4_errorStart yX4_errorStart ∈ lwg := lwg_at 644 (by decide +kernel)
theorem im_X4_init : Cond.instanceMethod yX4_init ∈ lwg := lwg_at 82 (by decide +kernel)
theorem im_X4_read : Cond.instanceMethod yX4_read ∈ lwg := lwg_at 412 (by decide +kernel)
theorem sl_X4_read : Cond.selects yX4_read.cls yX4_read yX4_read ∈ lwg := lwg_at 413 (by decide +kernel)
theorem im_X4_readColour : Cond.instanceMethod yX4_readColour ∈ lwg := lwg_at 534 (by decide +kernel)
theorem sl_X4_readColour : Cond.selects yX4_readColour.cls yX4_readColour yX4_readColour ∈ lwg := lwg_at 4 (by decide +kernel)
theorem im_X4_readRole : Cond.instanceMethod yX4_readRole ∈ lwg := lwg_at 528 (by decide +kernel)
theorem sl_X4_readRole : Cond.selects yX4_readRole.cls yX4_readRole yX4_readRole ∈ lwg := lwg_at 3 (by decide +kernel)
theorem im_X4_readRule : Cond.instanceMethod yX4_readRule ∈ lwg := lwg_at 558 (by decide +kernel)
theorem sl_X4_readRule : Cond.selects yX4_readRule.cls yX4_readRule yX4_readRule ∈ lwg := lwg_at 5 (by decide +kernel)
theorem im_X4_readStatement : Cond.instanceMethod yX4_readStatement ∈ lwg := lwg_at 522 (by decide +kernel)
theorem sl_X4_readStatement : Cond.selects yX4_readStatement.cls yX4_readStatement yX4_readStatement ∈ lwg := lwg_at 2 (by decide +kernel)
theorem im_X4_setTextNeeds : Cond.instanceMethod yX4_setTextNeeds ∈ lwg := lwg_at 631 (by decide +kernel)
theorem sl_X4_setTextNeeds : Cond.selects yX4_setTextNeeds.cls yX4_setTextNeeds yX4_setTextNeeds ∈ lwg := lwg_at 9 (by decide +kernel)
theorem im_X5_advance : Cond.instanceMethod yX5_advance ∈ lwg := lwg_at 429 (by decide +kernel)
theorem sl_X5_advance : Cond.selects yX5_advance.cls yX5_advance yX5_advance ∈ lwg := lwg_at 430 (by decide +kernel)
theorem im_X5_currentEnd : Cond.instanceMethod yX5_currentEnd ∈ lwg := lwg_at 583 (by decide +kernel)
theorem sl_X5_currentEnd : Cond.selects yX5_currentEnd.cls yX5_currentEnd yX5_currentEnd ∈ lwg := lwg_at 584 (by decide +kernel)
theorem im_X5_currentNumber : Cond.instanceMethod yX5_currentNumber ∈ lwg := lwg_at 565 (by decide +kernel)
theorem sl_X5_currentNumber : Cond.selects yX5_currentNumber.cls yX5_currentNumber yX5_currentNumber ∈ lwg := lwg_at 566 (by decide +kernel)
theorem im_X5_currentStart : Cond.instanceMethod yX5_currentStart ∈ lwg := lwg_at 626 (by decide +kernel)
theorem sl_X5_currentStart : Cond.selects yX5_currentStart.cls yX5_currentStart yX5_currentStart ∈ lwg := lwg_at 627 (by decide +kernel)
theorem im_X5_fail : Cond.instanceMethod yX5_fail ∈ lwg := lwg_at 501 (by decide +kernel)
theorem sl_X5_fail : Cond.selects yX5_fail.cls yX5_fail yX5_fail ∈ lwg := lwg_at 502 (by decide +kernel)
theorem im_X5_firstError : Cond.instanceMethod yX5_firstError ∈ lwg := lwg_at 548 (by decide +kernel)
theorem sl_X5_firstError : Cond.selects yX5_firstError.cls yX5_firstError yX5_firstError ∈ lwg := lwg_at 549 (by decide +kernel)
theorem im_X5_hasMore : Cond.instanceMethod yX5_hasMore ∈ lwg := lwg_at 517 (by decide +kernel)
theorem sl_X5_hasMore : Cond.selects yX5_hasMore.cls yX5_hasMore yX5_hasMore ∈ lwg := lwg_at 518 (by decide +kernel)
theorem im_X5_init : Cond.instanceMethod yX5_init ∈ lwg := lwg_at 88 (by decide +kernel)
theorem st_X5_isDigit : Cond.static yX5_isDigit ∈ lwg := lwg_at 433 (by decide +kernel)
theorem st_X5_isLetter : Cond.static yX5_isLetter ∈ lwg := lwg_at 437 (by decide +kernel)
theorem im_X5_isNumber : Cond.instanceMethod yX5_isNumber ∈ lwg := lwg_at 561 (by decide +kernel)
theorem sl_X5_isNumber : Cond.selects yX5_isNumber.cls yX5_isNumber yX5_isNumber ∈ lwg := lwg_at 562 (by decide +kernel)
theorem im_X5_isSign : Cond.instanceMethod yX5_isSign ∈ lwg := lwg_at 513 (by decide +kernel)
theorem sl_X5_isSign : Cond.selects yX5_isSign.cls yX5_isSign yX5_isSign ∈ lwg := lwg_at 514 (by decide +kernel)
theorem im_X5_isWord : Cond.instanceMethod yX5_isWord ∈ lwg := lwg_at 449 (by decide +kernel)
theorem sl_X5_isWord : Cond.selects yX5_isWord.cls yX5_isWord yX5_isWord ∈ lwg := lwg_at 450 (by decide +kernel)
theorem im_X5_needNumber : Cond.instanceMethod yX5_needNumber ∈ lwg := lwg_at 537 (by decide +kernel)
theorem sl_X5_needNumber : Cond.selects yX5_needNumber.cls yX5_needNumber yX5_needNumber ∈ lwg := lwg_at 538 (by decide +kernel)
theorem im_X5_needSign : Cond.instanceMethod yX5_needSign ∈ lwg := lwg_at 505 (by decide +kernel)
theorem sl_X5_needSign : Cond.selects yX5_needSign.cls yX5_needSign yX5_needSign ∈ lwg := lwg_at 506 (by decide +kernel)
theorem im_X5_needWord : Cond.instanceMethod yX5_needWord ∈ lwg := lwg_at 441 (by decide +kernel)
theorem sl_X5_needWord : Cond.selects yX5_needWord.cls yX5_needWord yX5_needWord ∈ lwg := lwg_at 442 (by decide +kernel)
theorem im_X5_open : Cond.instanceMethod yX5_open ∈ lwg := lwg_at 424 (by decide +kernel)
theorem sl_X5_open : Cond.selects yX5_open.cls yX5_open yX5_open ∈ lwg := lwg_at 425 (by decide +kernel)
theorem im_X5_passSign : Cond.instanceMethod yX5_passSign ∈ lwg := lwg_at 509 (by decide +kernel)
theorem sl_X5_passSign : Cond.selects yX5_passSign.cls yX5_passSign yX5_passSign ∈ lwg := lwg_at 510 (by decide +kernel)
theorem im_X5_passWord : Cond.instanceMethod yX5_passWord ∈ lwg := lwg_at 445 (by decide +kernel)
theorem sl_X5_passWord : Cond.selects yX5_passWord.cls yX5_passWord yX5_passWord ∈ lwg := lwg_at 446 (by decide +kernel)
theorem im_X5_reopen : Cond.instanceMethod yX5_reopen ∈ lwg := lwg_at 638 (by decide +kernel)
theorem sl_X5_reopen : Cond.selects yX5_reopen.cls yX5_reopen yX5_reopen ∈ lwg := lwg_at 639 (by decide +kernel)
theorem im_X6_append : Cond.instanceMethod yX6_append ∈ lwg := lwg_at 233 (by decide +kernel)
theorem sl_X6_append : Cond.selects yX6_append.cls yX6_append yX6_append ∈ lwg := lwg_at 234 (by decide +kernel)
theorem im_X6_bestShift : Cond.instanceMethod yX6_bestShift ∈ lwg := lwg_at 811 (by decide +kernel)
theorem sl_X6_bestShift : Cond.selects yX6_bestShift.cls yX6_bestShift yX6_bestShift ∈ lwg := lwg_at 812 (by decide +kernel)
theorem im_X6_checksum : Cond.instanceMethod yX6_checksum ∈ lwg := lwg_at 330 (by decide +kernel)
theorem sl_X6_checksum : Cond.selects yX6_checksum.cls yX6_checksum yX6_checksum ∈ lwg := lwg_at 331 (by decide +kernel)
theorem im_X6_colour : Cond.instanceMethod yX6_colour ∈ lwg := lwg_at 652 (by decide +kernel)
theorem sl_X6_colour : Cond.selects yX6_colour.cls yX6_colour yX6_colour ∈ lwg := lwg_at 653 (by decide +kernel)
theorem im_X6_contrast : Cond.instanceMethod yX6_contrast ∈ lwg := lwg_at 699 (by decide +kernel)
theorem sl_X6_contrast : Cond.selects yX6_contrast.cls yX6_contrast yX6_contrast ∈ lwg := lwg_at 700 (by decide +kernel)
theorem im_X6_difference : Cond.instanceMethod yX6_difference ∈ lwg := lwg_at 723 (by decide +kernel)
theorem sl_X6_difference : Cond.selects yX6_difference.cls yX6_difference yX6_difference ∈ lwg := lwg_at 724 (by decide +kernel)
theorem im_X6_errorOffset : Cond.instanceMethod yX6_errorOffset ∈ lwg := lwg_at 241 (by decide +kernel)
theorem sl_X6_errorOffset : Cond.selects yX6_errorOffset.cls yX6_errorOffset yX6_errorOffset ∈ lwg := lwg_at 242 (by decide +kernel)
theorem im_X6_init : Cond.instanceMethod yX6_init ∈ lwg := lwg_at 74 (by decide +kernel)
theorem im_X6_isFixed : Cond.instanceMethod yX6_isFixed ∈ lwg := lwg_at 684 (by decide +kernel)
theorem sl_X6_isFixed : Cond.selects yX6_isFixed.cls yX6_isFixed yX6_isFixed ∈ lwg := lwg_at 685 (by decide +kernel)
theorem st_X6_limited : Cond.static yX6_limited ∈ lwg := lwg_at 295 (by decide +kernel)
theorem im_X6_load : Cond.instanceMethod yX6_load ∈ lwg := lwg_at 340 (by decide +kernel)
theorem sl_X6_load : Cond.selects yX6_load.cls yX6_load yX6_load ∈ lwg := lwg_at 341 (by decide +kernel)
theorem im_X6_luminance : Cond.instanceMethod yX6_luminance ∈ lwg := lwg_at 691 (by decide +kernel)
theorem sl_X6_luminance : Cond.selects yX6_luminance.cls yX6_luminance yX6_luminance ∈ lwg := lwg_at 692 (by decide +kernel)
theorem im_X6_nearest : Cond.instanceMethod yX6_nearest ∈ lwg := lwg_at 731 (by decide +kernel)
theorem sl_X6_nearest : Cond.selects yX6_nearest.cls yX6_nearest yX6_nearest ∈ lwg := lwg_at 732 (by decide +kernel)
theorem im_X6_need : Cond.instanceMethod yX6_need ∈ lwg := lwg_at 748 (by decide +kernel)
theorem sl_X6_need : Cond.selects yX6_need.cls yX6_need yX6_need ∈ lwg := lwg_at 749 (by decide +kernel)
theorem im_X6_putWord : Cond.instanceMethod yX6_putWord ∈ lwg := lwg_at 238 (by decide +kernel)
theorem sl_X6_putWord : Cond.selects yX6_putWord.cls yX6_putWord yX6_putWord ∈ lwg := lwg_at 0 (by decide +kernel)
theorem im_X6_repair : Cond.instanceMethod yX6_repair ∈ lwg := lwg_at 883 (by decide +kernel)
theorem sl_X6_repair : Cond.selects yX6_repair.cls yX6_repair yX6_repair ∈ lwg := lwg_at 884 (by decide +kernel)
theorem im_X6_requireColour : Cond.instanceMethod yX6_requireColour ∈ lwg := lwg_at 736 (by decide +kernel)
theorem sl_X6_requireColour : Cond.selects yX6_requireColour.cls yX6_requireColour yX6_requireColour ∈ lwg := lwg_at 13 (by decide +kernel)
theorem im_X6_requireRole : Cond.instanceMethod yX6_requireRole ∈ lwg := lwg_at 657 (by decide +kernel)
theorem sl_X6_requireRole : Cond.selects yX6_requireRole.cls yX6_requireRole yX6_requireRole ∈ lwg := lwg_at 10 (by decide +kernel)
theorem im_X6_requireRule : Cond.instanceMethod yX6_requireRule ∈ lwg := lwg_at 753 (by decide +kernel)
theorem sl_X6_requireRule : Cond.selects yX6_requireRule.cls yX6_requireRule yX6_requireRule ∈ lwg := lwg_at 14 (by decide +kernel)
theorem im_X6_requireScheme : Cond.instanceMethod yX6_requireScheme ∈ lwg := lwg_at 677 (by decide +kernel)
theorem sl_X6_requireScheme : Cond.selects yX6_requireScheme.cls yX6_requireScheme yX6_requireScheme ∈ lwg := lwg_at 11 (by decide +kernel)
theorem im_X6_requireSight : Cond.instanceMethod yX6_requireSight ∈ lwg := lwg_at 712 (by decide +kernel)
theorem sl_X6_requireSight : Cond.selects yX6_requireSight.cls yX6_requireSight yX6_requireSight ∈ lwg := lwg_at 12 (by decide +kernel)
theorem im_X6_roleCount : Cond.instanceMethod yX6_roleCount ∈ lwg := lwg_at 245 (by decide +kernel)
theorem sl_X6_roleCount : Cond.selects yX6_roleCount.cls yX6_roleCount yX6_roleCount ∈ lwg := lwg_at 246 (by decide +kernel)
theorem im_X6_ruleCount : Cond.instanceMethod yX6_ruleCount ∈ lwg := lwg_at 249 (by decide +kernel)
theorem sl_X6_ruleCount : Cond.selects yX6_ruleCount.cls yX6_ruleCount yX6_ruleCount ∈ lwg := lwg_at 250 (by decide +kernel)
theorem im_X6_seen : Cond.instanceMethod yX6_seen ∈ lwg := lwg_at 707 (by decide +kernel)
theorem sl_X6_seen : Cond.selects yX6_seen.cls yX6_seen yX6_seen ∈ lwg := lwg_at 708 (by decide +kernel)
theorem im_X6_setColour : Cond.instanceMethod yX6_setColour ∈ lwg := lwg_at 843 (by decide +kernel)
theorem sl_X6_setColour : Cond.selects yX6_setColour.cls yX6_setColour yX6_setColour ∈ lwg := lwg_at 844 (by decide +kernel)
theorem im_X6_setFixed : Cond.instanceMethod yX6_setFixed ∈ lwg := lwg_at 850 (by decide +kernel)
theorem sl_X6_setFixed : Cond.selects yX6_setFixed.cls yX6_setFixed yX6_setFixed ∈ lwg := lwg_at 851 (by decide +kernel)
theorem im_X6_shift : Cond.instanceMethod yX6_shift ∈ lwg := lwg_at 858 (by decide +kernel)
theorem sl_X6_shift : Cond.selects yX6_shift.cls yX6_shift yX6_shift ∈ lwg := lwg_at 859 (by decide +kernel)
theorem im_X6_shiftRole : Cond.instanceMethod yX6_shiftRole ∈ lwg := lwg_at 835 (by decide +kernel)
theorem sl_X6_shiftRole : Cond.selects yX6_shiftRole.cls yX6_shiftRole yX6_shiftRole ∈ lwg := lwg_at 836 (by decide +kernel)
theorem im_X6_smallestMargin : Cond.instanceMethod yX6_smallestMargin ∈ lwg := lwg_at 799 (by decide +kernel)
theorem sl_X6_smallestMargin : Cond.selects yX6_smallestMargin.cls yX6_smallestMargin yX6_smallestMargin ∈ lwg := lwg_at 800 (by decide +kernel)
theorem im_X6_swapSchemes : Cond.instanceMethod yX6_swapSchemes ∈ lwg := lwg_at 301 (by decide +kernel)
theorem sl_X6_swapSchemes : Cond.selects yX6_swapSchemes.cls yX6_swapSchemes yX6_swapSchemes ∈ lwg := lwg_at 302 (by decide +kernel)
theorem im_X6_undo : Cond.instanceMethod yX6_undo ∈ lwg := lwg_at 322 (by decide +kernel)
theorem sl_X6_undo : Cond.selects yX6_undo.cls yX6_undo yX6_undo ∈ lwg := lwg_at 323 (by decide +kernel)
theorem im_X6_value : Cond.instanceMethod yX6_value ∈ lwg := lwg_at 760 (by decide +kernel)
theorem sl_X6_value : Cond.selects yX6_value.cls yX6_value yX6_value ∈ lwg := lwg_at 761 (by decide +kernel)
theorem im_X6_violation : Cond.instanceMethod yX6_violation ∈ lwg := lwg_at 768 (by decide +kernel)
theorem sl_X6_violation : Cond.selects yX6_violation.cls yX6_violation yX6_violation ∈ lwg := lwg_at 769 (by decide +kernel)
theorem im_X6_violations : Cond.instanceMethod yX6_violations ∈ lwg := lwg_at 253 (by decide +kernel)
theorem sl_X6_violations : Cond.selects yX6_violations.cls yX6_violations yX6_violations ∈ lwg := lwg_at 254 (by decide +kernel)
theorem im_X7_allViolated : Cond.instanceMethod yX7_allViolated ∈ lwg := lwg_at 1212 (by decide +kernel)
theorem sl_X7_allViolated : Cond.selects yX7_allViolated.cls yX7_allViolated yX7_allViolated ∈ lwg := lwg_at 42 (by decide +kernel)
theorem st_X7_apart : Cond.static yX7_apart ∈ lwg := lwg_at 1175 (by decide +kernel)
theorem im_X7_append : Cond.instanceMethod yX7_append ∈ lwg := lwg_at 966 (by decide +kernel)
theorem sl_X7_append : Cond.selects yX7_append.cls yX7_append yX7_append ∈ lwg := lwg_at 967 (by decide +kernel)
theorem im_X7_bestShift : Cond.instanceMethod yX7_bestShift ∈ lwg := lwg_at 1231 (by decide +kernel)
theorem sl_X7_bestShift : Cond.selects yX7_bestShift.cls yX7_bestShift yX7_bestShift ∈ lwg := lwg_at 1232 (by decide +kernel)
theorem st_X7_blue : Cond.static yX7_blue ∈ lwg := lwg_at 1138 (by decide +kernel)
theorem st_X7_bright : Cond.static yX7_bright ∈ lwg := lwg_at 1129 (by decide +kernel)
theorem im_X7_byteAt : Cond.instanceMethod yX7_byteAt ∈ lwg := lwg_at 995 (by decide +kernel)
theorem sl_X7_byteAt : Cond.selects yX7_byteAt.cls yX7_byteAt yX7_byteAt ∈ lwg := lwg_at 19 (by decide +kernel)
theorem st_X7_channel : Cond.static yX7_channel ∈ lwg := lwg_at 1162 (by decide +kernel)
theorem im_X7_checksum : Cond.instanceMethod yX7_checksum ∈ lwg := lwg_at 1282 (by decide +kernel)
theorem sl_X7_checksum : Cond.selects yX7_checksum.cls yX7_checksum yX7_checksum ∈ lwg := lwg_at 1283 (by decide +kernel)
theorem im_X7_colour : Cond.instanceMethod yX7_colour ∈ lwg := lwg_at 1105 (by decide +kernel)
theorem sl_X7_colour : Cond.selects yX7_colour.cls yX7_colour yX7_colour ∈ lwg := lwg_at 1106 (by decide +kernel)
theorem im_X7_colourOf : Cond.instanceMethod yX7_colourOf ∈ lwg := lwg_at 1118 (by decide +kernel)
theorem sl_X7_colourOf : Cond.selects yX7_colourOf.cls yX7_colourOf yX7_colourOf ∈ lwg := lwg_at 36 (by decide +kernel)
theorem im_X7_contrast : Cond.instanceMethod yX7_contrast ∈ lwg := lwg_at 1141 (by decide +kernel)
theorem sl_X7_contrast : Cond.selects yX7_contrast.cls yX7_contrast yX7_contrast ∈ lwg := lwg_at 1142 (by decide +kernel)
theorem st_X7_contrastOf : Cond.static yX7_contrastOf ∈ lwg := lwg_at 1145 (by decide +kernel)
theorem st_X7_copy : Cond.static yX7_copy ∈ lwg := lwg_at 1072 (by decide +kernel)
theorem im_X7_difference : Cond.instanceMethod yX7_difference ∈ lwg := lwg_at 1168 (by decide +kernel)
theorem sl_X7_difference : Cond.selects yX7_difference.cls yX7_difference yX7_difference ∈ lwg := lwg_at 1169 (by decide +kernel)
theorem st_X7_differenceOf : Cond.static yX7_differenceOf ∈ lwg := lwg_at 1172 (by decide +kernel)
theorem im_X7_emit : Cond.instanceMethod yX7_emit ∈ lwg := lwg_at 1065 (by decide +kernel)
theorem sl_X7_emit : Cond.selects yX7_emit.cls yX7_emit yX7_emit ∈ lwg := lwg_at 30 (by decide +kernel)
theorem im_X7_errorOffset : Cond.instanceMethod yX7_errorOffset ∈ lwg := lwg_at 1093 (by decide +kernel)
theorem sl_X7_errorOffset : Cond.selects yX7_errorOffset.cls yX7_errorOffset yX7_errorOffset ∈ lwg := lwg_at 1094 (by decide +kernel)
theorem im_X7_expect : Cond.instanceMethod yX7_expect ∈ lwg := lwg_at 1005 (by decide +kernel)
theorem sl_X7_expect : Cond.selects yX7_expect.cls yX7_expect yX7_expect ∈ lwg := lwg_at 21 (by decide +kernel)
theorem im_X7_factor : Cond.instanceMethod yX7_factor ∈ lwg := lwg_at 1060 (by decide +kernel)
theorem sl_X7_factor : Cond.selects yX7_factor.cls yX7_factor yX7_factor ∈ lwg := lwg_at 29 (by decide +kernel)
theorem im_X7_fails : Cond.instanceMethod yX7_fails ∈ lwg := lwg_at 978 (by decide +kernel)
theorem sl_X7_fails : Cond.selects yX7_fails.cls yX7_fails yX7_fails ∈ lwg := lwg_at 15 (by decide +kernel)
theorem im_X7_findAny : Cond.instanceMethod yX7_findAny ∈ lwg := lwg_at 1271 (by decide +kernel)
theorem sl_X7_findAny : Cond.selects yX7_findAny.cls yX7_findAny yX7_findAny ∈ lwg := lwg_at 48 (by decide +kernel)
theorem im_X7_findShift : Cond.instanceMethod yX7_findShift ∈ lwg := lwg_at 1236 (by decide +kernel)
theorem sl_X7_findShift : Cond.selects yX7_findShift.cls yX7_findShift yX7_findShift ∈ lwg := lwg_at 45 (by decide +kernel)
theorem st_X7_green : Cond.static yX7_green ∈ lwg := lwg_at 1135 (by decide +kernel)
theorem st_X7_held : Cond.static yX7_held ∈ lwg := lwg_at 1165 (by decide +kernel)
theorem st_X7_in : Cond.static yX7_in ∈ lwg := lwg_at 974 (by decide +kernel)
theorem im_X7_init : Cond.instanceMethod yX7_init ∈ lwg := lwg_at 895 (by decide +kernel)
theorem st_X7_isDigit : Cond.static yX7_isDigit ∈ lwg := lwg_at 1021 (by decide +kernel)
theorem im_X7_isFixed : Cond.instanceMethod yX7_isFixed ∈ lwg := lwg_at 1121 (by decide +kernel)
theorem sl_X7_isFixed : Cond.selects yX7_isFixed.cls yX7_isFixed yX7_isFixed ∈ lwg := lwg_at 1122 (by decide +kernel)
theorem im_X7_isGood : Cond.instanceMethod yX7_isGood ∈ lwg := lwg_at 987 (by decide +kernel)
theorem sl_X7_isGood : Cond.selects yX7_isGood.cls yX7_isGood yX7_isGood ∈ lwg := lwg_at 17 (by decide +kernel)
theorem im_X7_isViolated : Cond.instanceMethod yX7_isViolated ∈ lwg := lwg_at 1220 (by decide +kernel)
theorem sl_X7_isViolated : Cond.selects yX7_isViolated.cls yX7_isViolated yX7_isViolated ∈ lwg := lwg_at 44 (by decide +kernel)
theorem im_X7_layNeeds : Cond.instanceMethod yX7_layNeeds ∈ lwg := lwg_at 1076 (by decide +kernel)
theorem sl_X7_layNeeds : Cond.selects yX7_layNeeds.cls yX7_layNeeds yX7_layNeeds ∈ lwg := lwg_at 32 (by decide +kernel)
theorem st_X7_limited : Cond.static yX7_limited ∈ lwg := lwg_at 1086 (by decide +kernel)
theorem im_X7_load : Cond.instanceMethod yX7_load ∈ lwg := lwg_at 970 (by decide +kernel)
theorem sl_X7_load : Cond.selects yX7_load.cls yX7_load yX7_load ∈ lwg := lwg_at 971 (by decide +kernel)
theorem im_X7_luminance : Cond.instanceMethod yX7_luminance ∈ lwg := lwg_at 1125 (by decide +kernel)
theorem sl_X7_luminance : Cond.selects yX7_luminance.cls yX7_luminance yX7_luminance ∈ lwg := lwg_at 1126 (by decide +kernel)
theorem im_X7_makeShift : Cond.instanceMethod yX7_makeShift ∈ lwg := lwg_at 1263 (by decide +kernel)
theorem sl_X7_makeShift : Cond.selects yX7_makeShift.cls yX7_makeShift yX7_makeShift ∈ lwg := lwg_at 47 (by decide +kernel)
theorem st_X7_max : Cond.static yX7_max ∈ lwg := lwg_at 1148 (by decide +kernel)
theorem im_X7_mends : Cond.instanceMethod yX7_mends ∈ lwg := lwg_at 1240 (by decide +kernel)
theorem sl_X7_mends : Cond.selects yX7_mends.cls yX7_mends yX7_mends ∈ lwg := lwg_at 46 (by decide +kernel)
theorem st_X7_min : Cond.static yX7_min ∈ lwg := lwg_at 1025 (by decide +kernel)
theorem st_X7_mixed : Cond.static yX7_mixed ∈ lwg := lwg_at 1028 (by decide +kernel)
theorem im_X7_nearest : Cond.instanceMethod yX7_nearest ∈ lwg := lwg_at 1178 (by decide +kernel)
theorem sl_X7_nearest : Cond.selects yX7_nearest.cls yX7_nearest yX7_nearest ∈ lwg := lwg_at 1179 (by decide +kernel)
theorem im_X7_need : Cond.instanceMethod yX7_need ∈ lwg := lwg_at 1187 (by decide +kernel)
theorem sl_X7_need : Cond.selects yX7_need.cls yX7_need yX7_need ∈ lwg := lwg_at 1188 (by decide +kernel)
theorem im_X7_needOf : Cond.instanceMethod yX7_needOf ∈ lwg := lwg_at 1196 (by decide +kernel)
theorem sl_X7_needOf : Cond.selects yX7_needOf.cls yX7_needOf yX7_needOf ∈ lwg := lwg_at 40 (by decide +kernel)
theorem im_X7_next : Cond.instanceMethod yX7_next ∈ lwg := lwg_at 991 (by decide +kernel)
theorem sl_X7_next : Cond.selects yX7_next.cls yX7_next yX7_next ∈ lwg := lwg_at 18 (by decide +kernel)
theorem im_X7_noColour : Cond.instanceMethod yX7_noColour ∈ lwg := lwg_at 1183 (by decide +kernel)
theorem sl_X7_noColour : Cond.selects yX7_noColour.cls yX7_noColour yX7_noColour ∈ lwg := lwg_at 38 (by decide +kernel)
theorem im_X7_noRole : Cond.instanceMethod yX7_noRole ∈ lwg := lwg_at 1110 (by decide +kernel)
theorem sl_X7_noRole : Cond.selects yX7_noRole.cls yX7_noRole yX7_noRole ∈ lwg := lwg_at 34 (by decide +kernel)
theorem im_X7_noRule : Cond.instanceMethod yX7_noRule ∈ lwg := lwg_at 1192 (by decide +kernel)
theorem sl_X7_noRule : Cond.selects yX7_noRule.cls yX7_noRule yX7_noRule ∈ lwg := lwg_at 39 (by decide +kernel)
theorem im_X7_noScheme : Cond.instanceMethod yX7_noScheme ∈ lwg := lwg_at 1114 (by decide +kernel)
theorem sl_X7_noScheme : Cond.selects yX7_noScheme.cls yX7_noScheme yX7_noScheme ∈ lwg := lwg_at 35 (by decide +kernel)
theorem im_X7_noSight : Cond.instanceMethod yX7_noSight ∈ lwg := lwg_at 1156 (by decide +kernel)
theorem sl_X7_noSight : Cond.selects yX7_noSight.cls yX7_noSight yX7_noSight ∈ lwg := lwg_at 37 (by decide +kernel)
theorem im_X7_number : Cond.instanceMethod yX7_number ∈ lwg := lwg_at 1018 (by decide +kernel)
theorem sl_X7_number : Cond.selects yX7_number.cls yX7_number yX7_number ∈ lwg := lwg_at 24 (by decide +kernel)
theorem im_X7_once : Cond.instanceMethod yX7_once ∈ lwg := lwg_at 1048 (by decide +kernel)
theorem sl_X7_once : Cond.selects yX7_once.cls yX7_once yX7_once ∈ lwg := lwg_at 26 (by decide +kernel)
theorem st_X7_operate : Cond.static yX7_operate ∈ lwg := lwg_at 1083 (by decide +kernel)
theorem im_X7_readRole : Cond.instanceMethod yX7_readRole ∈ lwg := lwg_at 1014 (by decide +kernel)
theorem sl_X7_readRole : Cond.selects yX7_readRole.cls yX7_readRole yX7_readRole ∈ lwg := lwg_at 23 (by decide +kernel)
theorem im_X7_readRule : Cond.instanceMethod yX7_readRule ∈ lwg := lwg_at 1039 (by decide +kernel)
theorem sl_X7_readRule : Cond.selects yX7_readRule.cls yX7_readRule yX7_readRule ∈ lwg := lwg_at 25 (by decide +kernel)
theorem im_X7_reckonNeed : Cond.instanceMethod yX7_reckonNeed ∈ lwg := lwg_at 1080 (by decide +kernel)
theorem sl_X7_reckonNeed : Cond.selects yX7_reckonNeed.cls yX7_reckonNeed yX7_reckonNeed ∈ lwg := lwg_at 33 (by decide +kernel)
theorem st_X7_red : Cond.static yX7_red ∈ lwg := lwg_at 1132 (by decide +kernel)
theorem im_X7_remember : Cond.instanceMethod yX7_remember ∈ lwg := lwg_at 1069 (by decide +kernel)
theorem sl_X7_remember : Cond.selects yX7_remember.cls yX7_remember yX7_remember ∈ lwg := lwg_at 31 (by decide +kernel)
theorem im_X7_repair : Cond.instanceMethod yX7_repair ∈ lwg := lwg_at 1266 (by decide +kernel)
theorem sl_X7_repair : Cond.selects yX7_repair.cls yX7_repair yX7_repair ∈ lwg := lwg_at 1267 (by decide +kernel)
theorem im_X7_report : Cond.instanceMethod yX7_report ∈ lwg := lwg_at 1001 (by decide +kernel)
theorem sl_X7_report : Cond.selects yX7_report.cls yX7_report yX7_report ∈ lwg := lwg_at 20 (by decide +kernel)
theorem st_X7_role : Cond.static yX7_role ∈ lwg := lwg_at 1034 (by decide +kernel)
theorem im_X7_roleCount : Cond.instanceMethod yX7_roleCount ∈ lwg := lwg_at 1097 (by decide +kernel)
theorem sl_X7_roleCount : Cond.selects yX7_roleCount.cls yX7_roleCount yX7_roleCount ∈ lwg := lwg_at 1098 (by decide +kernel)
theorem st_X7_rule : Cond.static yX7_rule ∈ lwg := lwg_at 1042 (by decide +kernel)
theorem im_X7_ruleCount : Cond.instanceMethod yX7_ruleCount ∈ lwg := lwg_at 1101 (by decide +kernel)
theorem sl_X7_ruleCount : Cond.selects yX7_ruleCount.cls yX7_ruleCount yX7_ruleCount ∈ lwg := lwg_at 1102 (by decide +kernel)
theorem im_X7_seen : Cond.instanceMethod yX7_seen ∈ lwg := lwg_at 1151 (by decide +kernel)
theorem sl_X7_seen : Cond.selects yX7_seen.cls yX7_seen yX7_seen ∈ lwg := lwg_at 1152 (by decide +kernel)
theorem st_X7_seenAs : Cond.static yX7_seenAs ∈ lwg := lwg_at 1159 (by decide +kernel)
theorem im_X7_setColour : Cond.instanceMethod yX7_setColour ∈ lwg := lwg_at 1250 (by decide +kernel)
theorem sl_X7_setColour : Cond.selects yX7_setColour.cls yX7_setColour yX7_setColour ∈ lwg := lwg_at 1251 (by decide +kernel)
theorem im_X7_setFixed : Cond.instanceMethod yX7_setFixed ∈ lwg := lwg_at 1254 (by decide +kernel)
theorem sl_X7_setFixed : Cond.selects yX7_setFixed.cls yX7_setFixed yX7_setFixed ∈ lwg := lwg_at 1255 (by decide +kernel)
theorem im_X7_shift : Cond.instanceMethod yX7_shift ∈ lwg := lwg_at 1258 (by decide +kernel)
theorem sl_X7_shift : Cond.selects yX7_shift.cls yX7_shift yX7_shift ∈ lwg := lwg_at 1259 (by decide +kernel)
theorem im_X7_shiftRole : Cond.instanceMethod yX7_shiftRole ∈ lwg := lwg_at 1246 (by decide +kernel)
theorem sl_X7_shiftRole : Cond.selects yX7_shiftRole.cls yX7_shiftRole yX7_shiftRole ∈ lwg := lwg_at 1247 (by decide +kernel)
theorem st_X7_shifted : Cond.static yX7_shifted ∈ lwg := lwg_at 1243 (by decide +kernel)
theorem im_X7_smallestMargin : Cond.instanceMethod yX7_smallestMargin ∈ lwg := lwg_at 1227 (by decide +kernel)
theorem sl_X7_smallestMargin : Cond.selects yX7_smallestMargin.cls yX7_smallestMargin yX7_smallestMargin ∈ lwg := lwg_at 1228 (by decide +kernel)
theorem im_X7_statement : Cond.instanceMethod yX7_statement ∈ lwg := lwg_at 1009 (by decide +kernel)
theorem sl_X7_statement : Cond.selects yX7_statement.cls yX7_statement yX7_statement ∈ lwg := lwg_at 22 (by decide +kernel)
theorem im_X7_sum : Cond.instanceMethod yX7_sum ∈ lwg := lwg_at 1052 (by decide +kernel)
theorem sl_X7_sum : Cond.selects yX7_sum.cls yX7_sum yX7_sum ∈ lwg := lwg_at 27 (by decide +kernel)
theorem im_X7_swapSchemes : Cond.instanceMethod yX7_swapSchemes ∈ lwg := lwg_at 1274 (by decide +kernel)
theorem sl_X7_swapSchemes : Cond.selects yX7_swapSchemes.cls yX7_swapSchemes yX7_swapSchemes ∈ lwg := lwg_at 1275 (by decide +kernel)
theorem im_X7_takeWord : Cond.instanceMethod yX7_takeWord ∈ lwg := lwg_at 983 (by decide +kernel)
theorem sl_X7_takeWord : Cond.selects yX7_takeWord.cls yX7_takeWord yX7_takeWord ∈ lwg := lwg_at 16 (by decide +kernel)
theorem im_X7_term : Cond.instanceMethod yX7_term ∈ lwg := lwg_at 1056 (by decide +kernel)
theorem sl_X7_term : Cond.selects yX7_term.cls yX7_term yX7_term ∈ lwg := lwg_at 28 (by decide +kernel)
theorem im_X7_thrown : Cond.instanceMethod yX7_thrown ∈ lwg := lwg_at 962 (by decide +kernel)
theorem sl_X7_thrown : Cond.selects yX7_thrown.cls yX7_thrown yX7_thrown ∈ lwg := lwg_at 963 (by decide +kernel)
theorem im_X7_undo : Cond.instanceMethod yX7_undo ∈ lwg := lwg_at 1278 (by decide +kernel)
theorem sl_X7_undo : Cond.selects yX7_undo.cls yX7_undo yX7_undo ∈ lwg := lwg_at 1279 (by decide +kernel)
theorem im_X7_value : Cond.instanceMethod yX7_value ∈ lwg := lwg_at 1199 (by decide +kernel)
theorem sl_X7_value : Cond.selects yX7_value.cls yX7_value yX7_value ∈ lwg := lwg_at 1200 (by decide +kernel)
theorem im_X7_valueOf : Cond.instanceMethod yX7_valueOf ∈ lwg := lwg_at 1204 (by decide +kernel)
theorem sl_X7_valueOf : Cond.selects yX7_valueOf.cls yX7_valueOf yX7_valueOf ∈ lwg := lwg_at 41 (by decide +kernel)
theorem im_X7_violatedIn : Cond.instanceMethod yX7_violatedIn ∈ lwg := lwg_at 1216 (by decide +kernel)
theorem sl_X7_violatedIn : Cond.selects yX7_violatedIn.cls yX7_violatedIn yX7_violatedIn ∈ lwg := lwg_at 43 (by decide +kernel)
theorem im_X7_violation : Cond.instanceMethod yX7_violation ∈ lwg := lwg_at 1223 (by decide +kernel)
theorem sl_X7_violation : Cond.selects yX7_violation.cls yX7_violation yX7_violation ∈ lwg := lwg_at 1224 (by decide +kernel)
theorem im_X7_violations : Cond.instanceMethod yX7_violations ∈ lwg := lwg_at 1207 (by decide +kernel)
theorem sl_X7_violations : Cond.selects yX7_violations.cls yX7_violations yX7_violations ∈ lwg := lwg_at 1208 (by decide +kernel)
theorem lk_X6_46 : LkV RX6 46 yX6_putWord cX6_putWord 3 none 2 := ⟨cd_X6_putWord, lwg_at 236 (by decide +kernel), im_X6_putWord, sl_X6_putWord, ni_X6, by decide +kernel⟩
theorem lk_X6_57 : LkV RX6 57 yX4_read cX4_read 4 (some .int) 2 := ⟨cd_X4_read, lwg_at 411 (by decide +kernel), im_X4_read, sl_X4_read, ni_X4, by decide +kernel⟩
theorem lk_X6_61 : LkV RX6 61 yX4_errorStart cX4_errorStart 1 (some .int) 0 := ⟨cd_X4_errorStart, lwg_at 642 (by decide +kernel), im_X4_errorStart, sl_X4_errorStart, ni_X4, by decide +kernel⟩
theorem lk_X6_65 : LkV RX6 65 yX3_keep cX3_keep 2 none 1 := ⟨cd_X3_keep, lwg_at 304 (by decide +kernel), im_X3_keep, sl_X3_keep, ni_X3, by decide +kernel⟩
theorem lk_X6_69 : LkV RX6 69 yX1_copyFrom cX1_copyFrom 3 none 1 := ⟨cd_X1_copyFrom, lwg_at 646 (by decide +kernel), im_X1_copyFrom, sl_X1_copyFrom, ni_X1, by decide +kernel⟩
theorem lk_X6_78 : LkV RX6 78 yX6_requireRole cX6_requireRole 2 none 1 := ⟨cd_X6_requireRole, lwg_at 655 (by decide +kernel), im_X6_requireRole, sl_X6_requireRole, ni_X6, by decide +kernel⟩
theorem lk_X6_82 : LkV RX6 82 yX6_requireScheme cX6_requireScheme 2 none 1 := ⟨cd_X6_requireScheme, lwg_at 675 (by decide +kernel), im_X6_requireScheme, sl_X6_requireScheme, ni_X6, by decide +kernel⟩
theorem lk_X6_93 : LkS RX6 93 yX0_luminanceOf cX0_luminanceOf 4 (some .int) 1 := ⟨cd_X0_luminanceOf, lwg_at 694 (by decide +kernel), st_X0_luminanceOf, ni_X0, by decide +kernel⟩
theorem lk_X6_99 : LkS RX6 99 yX0_contrastOf cX0_contrastOf 5 (some .int) 2 := ⟨cd_X0_contrastOf, lwg_at 702 (by decide +kernel), st_X0_contrastOf, ni_X0, by decide +kernel⟩
theorem lk_X6_103 : LkV RX6 103 yX6_requireSight cX6_requireSight 2 none 1 := ⟨cd_X6_requireSight, lwg_at 710 (by decide +kernel), im_X6_requireSight, sl_X6_requireSight, ni_X6, by decide +kernel⟩
theorem lk_X6_106 : LkS RX6 106 yX0_seenWith cX0_seenWith 3 (some .int) 2 := ⟨cd_X0_seenWith, lwg_at 715 (by decide +kernel), st_X0_seenWith, ni_X0, by decide +kernel⟩
theorem lk_X6_109 : LkS RX6 109 yX0_differenceOf cX0_differenceOf 4 (some .int) 3 := ⟨cd_X0_differenceOf, lwg_at 726 (by decide +kernel), st_X0_differenceOf, ni_X0, by decide +kernel⟩
theorem lk_X6_113 : LkV RX6 113 yX6_requireColour cX6_requireColour 2 none 1 := ⟨cd_X6_requireColour, lwg_at 734 (by decide +kernel), im_X6_requireColour, sl_X6_requireColour, ni_X6, by decide +kernel⟩
theorem lk_X6_116 : LkV RX6 116 yX1_nearestRole cX1_nearestRole 7 (some .int) 2 := ⟨cd_X1_nearestRole, lwg_at 740 (by decide +kernel), im_X1_nearestRole, sl_X1_nearestRole, ni_X1, by decide +kernel⟩
theorem lk_X6_119 : LkV RX6 119 yX6_requireRule cX6_requireRule 2 none 1 := ⟨cd_X6_requireRule, lwg_at 751 (by decide +kernel), im_X6_requireRule, sl_X6_requireRule, ni_X6, by decide +kernel⟩
theorem lk_X6_125 : LkV RX6 125 yX1_ruleValue cX1_ruleValue 5 (some .int) 2 := ⟨cd_X1_ruleValue, lwg_at 334 (by decide +kernel), im_X1_ruleValue, sl_X1_ruleValue, ni_X1, by decide +kernel⟩
theorem lk_X6_128 : LkV RX6 128 yX1_violatedIn cX1_violatedIn 4 (some .int) 1 := ⟨cd_X1_violatedIn, lwg_at 256 (by decide +kernel), im_X1_violatedIn, sl_X1_violatedIn, ni_X1, by decide +kernel⟩
theorem lk_X6_131 : LkV RX6 131 yX1_violationPlace cX1_violationPlace 4 (some .int) 1 := ⟨cd_X1_violationPlace, lwg_at 771 (by decide +kernel), im_X1_violationPlace, sl_X1_violationPlace, ni_X1, by decide +kernel⟩
theorem lk_X6_139 : LkV RX6 139 yX1_leastMargin cX1_leastMargin 4 (some .int) 1 := ⟨cd_X1_leastMargin, lwg_at 802 (by decide +kernel), im_X1_leastMargin, sl_X1_leastMargin, ni_X1, by decide +kernel⟩
theorem lk_X6_142 : LkV RX6 142 yX1_isKept cX1_isKept 3 (some .boolean) 2 := ⟨cd_X1_isKept, lwg_at 814 (by decide +kernel), im_X1_isKept, sl_X1_isKept, ni_X1, by decide +kernel⟩
theorem lk_X6_146 : LkV RX6 146 yX1_bestChoice cX1_bestChoice 8 (some .int) 2 := ⟨cd_X1_bestChoice, lwg_at 815 (by decide +kernel), im_X1_bestChoice, sl_X1_bestChoice, ni_X1, by decide +kernel⟩
theorem lk_X6_149 : LkS RX6 149 yX1_choiceAmount cX1_choiceAmount 2 (some .int) 1 := ⟨cd_X1_choiceAmount, lwg_at 830 (by decide +kernel), st_X1_choiceAmount, ni_X1, by decide +kernel⟩
theorem lk_X6_152 : LkV RX6 152 yX1_choiceRole cX1_choiceRole 3 (some .int) 2 := ⟨cd_X1_choiceRole, lwg_at 838 (by decide +kernel), im_X1_choiceRole, sl_X1_choiceRole, ni_X1, by decide +kernel⟩
theorem lk_X6_162 : LkS RX6 162 yX0_shifted cX0_shifted 2 (some .int) 2 := ⟨cd_X0_shifted, lwg_at 878 (by decide +kernel), st_X0_shifted, ni_X0, by decide +kernel⟩
theorem lk_X6_167 : LkV RX6 167 yX1_mendFirst cX1_mendFirst 6 (some .boolean) 0 := ⟨cd_X1_mendFirst, lwg_at 887 (by decide +kernel), im_X1_mendFirst, sl_X1_mendFirst, ni_X1, by decide +kernel⟩
theorem lk_X6_171 : LkV RX6 171 yX1_exchangeColours cX1_exchangeColours 3 none 0 := ⟨cd_X1_exchangeColours, lwg_at 316 (by decide +kernel), im_X1_exchangeColours, sl_X1_exchangeColours, ni_X1, by decide +kernel⟩
theorem lk_X6_174 : LkV RX6 174 yX6_violations cX6_violations 1 (some .int) 0 := ⟨cd_X6_violations, lwg_at 320 (by decide +kernel), im_X6_violations, sl_X6_violations, ni_X6, by decide +kernel⟩
theorem lk_X6_180 : LkV RX6 180 yX3_takeBack cX3_takeBack 2 none 1 := ⟨cd_X3_takeBack, lwg_at 325 (by decide +kernel), im_X3_takeBack, sl_X3_takeBack, ni_X3, by decide +kernel⟩
theorem lk_X0_10 : LkS RX0 10 yX0_red cX0_red 1 (some .int) 1 := ⟨cd_X0_red, lwg_at 270 (by decide +kernel), st_X0_red, ni_X0, by decide +kernel⟩
theorem lk_X0_16 : LkS RX0 16 yX0_green cX0_green 1 (some .int) 1 := ⟨cd_X0_green, lwg_at 274 (by decide +kernel), st_X0_green, ni_X0, by decide +kernel⟩
theorem lk_X0_19 : LkS RX0 19 yX0_blue cX0_blue 1 (some .int) 1 := ⟨cd_X0_blue, lwg_at 277 (by decide +kernel), st_X0_blue, ni_X0, by decide +kernel⟩
theorem lk_X0_22 : LkS RX0 22 yX0_luminanceOf cX0_luminanceOf 4 (some .int) 1 := ⟨cd_X0_luminanceOf, lwg_at 267 (by decide +kernel), st_X0_luminanceOf, ni_X0, by decide +kernel⟩
theorem lk_X0_34 : LkS RX0 34 yX0_seenChannel cX0_seenChannel 3 (some .int) 2 := ⟨cd_X0_seenChannel, lwg_at 289 (by decide +kernel), st_X0_seenChannel, ni_X0, by decide +kernel⟩
theorem lk_X0_37 : LkS RX0 37 yX0_joined cX0_joined 3 (some .int) 3 := ⟨cd_X0_joined, lwg_at 718 (by decide +kernel), st_X0_joined, ni_X0, by decide +kernel⟩
theorem lk_X1_46 : LkS RX1 46 yX0_differenceOf cX0_differenceOf 4 (some .int) 3 := ⟨cd_X0_differenceOf, lwg_at 286 (by decide +kernel), st_X0_differenceOf, ni_X0, by decide +kernel⟩
theorem lk_X1_52 : LkS RX1 52 yX0_contrastOf cX0_contrastOf 5 (some .int) 2 := ⟨cd_X0_contrastOf, lwg_at 264 (by decide +kernel), st_X0_contrastOf, ni_X0, by decide +kernel⟩
theorem lk_X1_56 : LkV RX1 56 yX1_ruleValue cX1_ruleValue 5 (some .int) 2 := ⟨cd_X1_ruleValue, lwg_at 260 (by decide +kernel), im_X1_ruleValue, sl_X1_ruleValue, ni_X1, by decide +kernel⟩
theorem lk_X1_64 : LkV RX1 64 yX1_isKept cX1_isKept 3 (some .boolean) 2 := ⟨cd_X1_isKept, lwg_at 775 (by decide +kernel), im_X1_isKept, sl_X1_isKept, ni_X1, by decide +kernel⟩
theorem lk_X1_68 : LkV RX1 68 yX1_violatedIn cX1_violatedIn 4 (some .int) 1 := ⟨cd_X1_violatedIn, lwg_at 819 (by decide +kernel), im_X1_violatedIn, sl_X1_violatedIn, ni_X1, by decide +kernel⟩
theorem lk_X1_72 : LkV RX1 72 yX1_choiceRole cX1_choiceRole 3 (some .int) 2 := ⟨cd_X1_choiceRole, lwg_at 820 (by decide +kernel), im_X1_choiceRole, sl_X1_choiceRole, ni_X1, by decide +kernel⟩
theorem lk_X1_75 : LkS RX1 75 yX1_choiceAmount cX1_choiceAmount 2 (some .int) 1 := ⟨cd_X1_choiceAmount, lwg_at 824 (by decide +kernel), st_X1_choiceAmount, ni_X1, by decide +kernel⟩
theorem lk_X1_78 : LkS RX1 78 yX0_shifted cX0_shifted 2 (some .int) 2 := ⟨cd_X0_shifted, lwg_at 827 (by decide +kernel), st_X0_shifted, ni_X0, by decide +kernel⟩
theorem lk_X1_81 : LkV RX1 81 yX1_bestChoice cX1_bestChoice 8 (some .int) 2 := ⟨cd_X1_bestChoice, lwg_at 891 (by decide +kernel), im_X1_bestChoice, sl_X1_bestChoice, ni_X1, by decide +kernel⟩
theorem lk_X2_25 : LkV RX2 25 yX5_currentEnd cX5_currentEnd 1 (some .int) 0 := ⟨cd_X5_currentEnd, lwg_at 582 (by decide +kernel), im_X5_currentEnd, sl_X5_currentEnd, ni_X5, by decide +kernel⟩
theorem lk_X2_31 : LkV RX2 31 yX5_advance cX5_advance 1 none 0 := ⟨cd_X5_advance, lwg_at 586 (by decide +kernel), im_X5_advance, sl_X5_advance, ni_X5, by decide +kernel⟩
theorem lk_X2_34 : LkV RX2 34 yX2_sum cX2_sum 4 (some .int) 1 := ⟨cd_X2_sum, lwg_at 587 (by decide +kernel), im_X2_sum, sl_X2_sum, ni_X2, by decide +kernel⟩
theorem lk_X2_38 : LkV RX2 38 yX5_reopen cX5_reopen 2 none 1 := ⟨cd_X5_reopen, lwg_at 637 (by decide +kernel), im_X5_reopen, sl_X5_reopen, ni_X5, by decide +kernel⟩
theorem lk_X2_46 : LkV RX2 46 yX2_term cX2_term 4 (some .int) 1 := ⟨cd_X2_term, lwg_at 591 (by decide +kernel), im_X2_term, sl_X2_term, ni_X2, by decide +kernel⟩
theorem lk_X2_49 : LkV RX2 49 yX5_passSign cX5_passSign 3 (some .boolean) 1 := ⟨cd_X5_passSign, lwg_at 607 (by decide +kernel), im_X5_passSign, sl_X5_passSign, ni_X5, by decide +kernel⟩
theorem lk_X2_55 : LkV RX2 55 yX2_factor cX2_factor 3 (some .int) 1 := ⟨cd_X2_factor, lwg_at 595 (by decide +kernel), im_X2_factor, sl_X2_factor, ni_X2, by decide +kernel⟩
theorem lk_X2_58 : LkS RX2 58 yX2_product cX2_product 4 (some .int) 2 := ⟨cd_X2_product, lwg_at 608 (by decide +kernel), st_X2_product, ni_X2, by decide +kernel⟩
theorem lk_X2_62 : LkS RX2 62 yX2_quotient cX2_quotient 2 (some .int) 2 := ⟨cd_X2_quotient, lwg_at 619 (by decide +kernel), st_X2_quotient, ni_X2, by decide +kernel⟩
theorem lk_X2_65 : LkV RX2 65 yX5_isNumber cX5_isNumber 1 (some .boolean) 0 := ⟨cd_X5_isNumber, lwg_at 599 (by decide +kernel), im_X5_isNumber, sl_X5_isNumber, ni_X5, by decide +kernel⟩
theorem lk_X2_69 : LkV RX2 69 yX5_needNumber cX5_needNumber 4 (some .int) 2 := ⟨cd_X5_needNumber, lwg_at 600 (by decide +kernel), im_X5_needNumber, sl_X5_needNumber, ni_X5, by decide +kernel⟩
theorem lk_X2_73 : LkV RX2 73 yX5_passWord cX5_passWord 3 (some .boolean) 1 := ⟨cd_X5_passWord, lwg_at 602 (by decide +kernel), im_X5_passWord, sl_X5_passWord, ni_X5, by decide +kernel⟩
theorem lk_X2_78 : LkV RX2 78 yX5_isSign cX5_isSign 2 (some .boolean) 1 := ⟨cd_X5_isSign, lwg_at 604 (by decide +kernel), im_X5_isSign, sl_X5_isSign, ni_X5, by decide +kernel⟩
theorem lk_X2_81 : LkV RX2 81 yX5_fail cX5_fail 2 none 1 := ⟨cd_X5_fail, lwg_at 605 (by decide +kernel), im_X5_fail, sl_X5_fail, ni_X5, by decide +kernel⟩
theorem lk_X2_84 : LkV RX2 84 yX5_needSign cX5_needSign 2 none 1 := ⟨cd_X5_needSign, lwg_at 606 (by decide +kernel), im_X5_needSign, sl_X5_needSign, ni_X5, by decide +kernel⟩
theorem lk_X3_25 : LkV RX3 25 yX1_copyFrom cX1_copyFrom 3 none 1 := ⟨cd_X1_copyFrom, lwg_at 308 (by decide +kernel), im_X1_copyFrom, sl_X1_copyFrom, ni_X1, by decide +kernel⟩
theorem lk_X4_37 : LkV RX4 37 yX1_clear cX1_clear 1 none 0 := ⟨cd_X1_clear, lwg_at 415 (by decide +kernel), im_X1_clear, sl_X1_clear, ni_X1, by decide +kernel⟩
theorem lk_X4_42 : LkV RX4 42 yX2_forget cX2_forget 1 none 0 := ⟨cd_X2_forget, lwg_at 419 (by decide +kernel), im_X2_forget, sl_X2_forget, ni_X2, by decide +kernel⟩
theorem lk_X4_45 : LkV RX4 45 yX5_open cX5_open 2 none 1 := ⟨cd_X5_open, lwg_at 423 (by decide +kernel), im_X5_open, sl_X5_open, ni_X5, by decide +kernel⟩
theorem lk_X4_51 : LkV RX4 51 yX5_needWord cX5_needWord 2 none 1 := ⟨cd_X5_needWord, lwg_at 440 (by decide +kernel), im_X5_needWord, sl_X5_needWord, ni_X5, by decide +kernel⟩
theorem lk_X4_55 : LkV RX4 55 yX5_needSign cX5_needSign 2 none 1 := ⟨cd_X5_needSign, lwg_at 504 (by decide +kernel), im_X5_needSign, sl_X5_needSign, ni_X5, by decide +kernel⟩
theorem lk_X4_59 : LkV RX4 59 yX5_hasMore cX5_hasMore 1 (some .boolean) 0 := ⟨cd_X5_hasMore, lwg_at 516 (by decide +kernel), im_X5_hasMore, sl_X5_hasMore, ni_X5, by decide +kernel⟩
theorem lk_X4_63 : LkV RX4 63 yX4_readStatement cX4_readStatement 2 none 1 := ⟨cd_X4_readStatement, lwg_at 520 (by decide +kernel), im_X4_readStatement, sl_X4_readStatement, ni_X4, by decide +kernel⟩
theorem lk_X4_67 : LkV RX4 67 yX5_firstError cX5_firstError 1 (some .int) 0 := ⟨cd_X5_firstError, lwg_at 547 (by decide +kernel), im_X5_firstError, sl_X5_firstError, ni_X5, by decide +kernel⟩
theorem lk_X4_71 : LkV RX4 71 yX5_currentStart cX5_currentStart 1 (some .int) 0 := ⟨cd_X5_currentStart, lwg_at 625 (by decide +kernel), im_X5_currentStart, sl_X5_currentStart, ni_X5, by decide +kernel⟩
theorem lk_X4_74 : LkV RX4 74 yX4_setTextNeeds cX4_setTextNeeds 3 none 1 := ⟨cd_X4_setTextNeeds, lwg_at 629 (by decide +kernel), im_X4_setTextNeeds, sl_X4_setTextNeeds, ni_X4, by decide +kernel⟩
theorem lk_X4_79 : LkV RX4 79 yX5_isWord cX5_isWord 3 (some .boolean) 1 := ⟨cd_X5_isWord, lwg_at 525 (by decide +kernel), im_X5_isWord, sl_X5_isWord, ni_X5, by decide +kernel⟩
theorem lk_X4_83 : LkV RX4 83 yX4_readRole cX4_readRole 5 none 1 := ⟨cd_X4_readRole, lwg_at 526 (by decide +kernel), im_X4_readRole, sl_X4_readRole, ni_X4, by decide +kernel⟩
theorem lk_X4_88 : LkV RX4 88 yX4_readRule cX4_readRule 7 none 2 := ⟨cd_X4_readRule, lwg_at 556 (by decide +kernel), im_X4_readRule, sl_X4_readRule, ni_X4, by decide +kernel⟩
theorem lk_X4_95 : LkV RX4 95 yX2_isThere cX2_isThere 1 (some .boolean) 0 := ⟨cd_X2_isThere, lwg_at 574 (by decide +kernel), im_X2_isThere, sl_X2_isThere, ni_X2, by decide +kernel⟩
theorem lk_X4_98 : LkV RX4 98 yX2_readSum cX2_readSum 1 none 0 := ⟨cd_X2_readSum, lwg_at 578 (by decide +kernel), im_X2_readSum, sl_X2_readSum, ni_X2, by decide +kernel⟩
theorem lk_X4_101 : LkV RX4 101 yX5_fail cX5_fail 2 none 1 := ⟨cd_X5_fail, lwg_at 530 (by decide +kernel), im_X5_fail, sl_X5_fail, ni_X5, by decide +kernel⟩
theorem lk_X4_107 : LkV RX4 107 yX5_advance cX5_advance 1 none 0 := ⟨cd_X5_advance, lwg_at 531 (by decide +kernel), im_X5_advance, sl_X5_advance, ni_X5, by decide +kernel⟩
theorem lk_X4_110 : LkV RX4 110 yX4_readColour cX4_readColour 4 (some .int) 0 := ⟨cd_X4_readColour, lwg_at 532 (by decide +kernel), im_X4_readColour, sl_X4_readColour, ni_X4, by decide +kernel⟩
theorem lk_X4_116 : LkV RX4 116 yX5_passWord cX5_passWord 3 (some .boolean) 1 := ⟨cd_X5_passWord, lwg_at 545 (by decide +kernel), im_X5_passWord, sl_X5_passWord, ni_X5, by decide +kernel⟩
theorem lk_X4_121 : LkV RX4 121 yX1_addRole cX1_addRole 4 none 3 := ⟨cd_X1_addRole, lwg_at 551 (by decide +kernel), im_X1_addRole, sl_X1_addRole, ni_X1, by decide +kernel⟩
theorem lk_X4_125 : LkV RX4 125 yX5_needNumber cX5_needNumber 4 (some .int) 2 := ⟨cd_X5_needNumber, lwg_at 536 (by decide +kernel), im_X5_needNumber, sl_X5_needNumber, ni_X5, by decide +kernel⟩
theorem lk_X4_129 : LkS RX4 129 yX0_joined cX0_joined 3 (some .int) 3 := ⟨cd_X0_joined, lwg_at 540 (by decide +kernel), st_X0_joined, ni_X0, by decide +kernel⟩
theorem lk_X4_138 : LkV RX4 138 yX5_isNumber cX5_isNumber 1 (some .boolean) 0 := ⟨cd_X5_isNumber, lwg_at 560 (by decide +kernel), im_X5_isNumber, sl_X5_isNumber, ni_X5, by decide +kernel⟩
theorem lk_X4_141 : LkV RX4 141 yX5_currentNumber cX5_currentNumber 1 (some .int) 0 := ⟨cd_X5_currentNumber, lwg_at 564 (by decide +kernel), im_X5_currentNumber, sl_X5_currentNumber, ni_X5, by decide +kernel⟩
theorem lk_X4_144 : LkV RX4 144 yX1_addRule cX1_addRule 5 none 4 := ⟨cd_X1_addRule, lwg_at 568 (by decide +kernel), im_X1_addRule, sl_X1_addRule, ni_X1, by decide +kernel⟩
theorem lk_X4_155 : LkV RX4 155 yX2_textNeed cX2_textNeed 3 (some .int) 2 := ⟨cd_X2_textNeed, lwg_at 633 (by decide +kernel), im_X2_textNeed, sl_X2_textNeed, ni_X2, by decide +kernel⟩
theorem lk_X5_40 : LkV RX5 40 yX5_advance cX5_advance 1 none 0 := ⟨cd_X5_advance, lwg_at 428 (by decide +kernel), im_X5_advance, sl_X5_advance, ni_X5, by decide +kernel⟩
theorem lk_X5_46 : LkS RX5 46 yX5_isDigit cX5_isDigit 1 (some .boolean) 1 := ⟨cd_X5_isDigit, lwg_at 432 (by decide +kernel), st_X5_isDigit, ni_X5, by decide +kernel⟩
theorem lk_X5_51 : LkS RX5 51 yX5_isLetter cX5_isLetter 1 (some .boolean) 1 := ⟨cd_X5_isLetter, lwg_at 436 (by decide +kernel), st_X5_isLetter, ni_X5, by decide +kernel⟩
theorem lk_X5_63 : LkV RX5 63 yX5_isWord cX5_isWord 3 (some .boolean) 1 := ⟨cd_X5_isWord, lwg_at 448 (by decide +kernel), im_X5_isWord, sl_X5_isWord, ni_X5, by decide +kernel⟩
theorem lk_X5_67 : LkV RX5 67 yX5_isSign cX5_isSign 2 (some .boolean) 1 := ⟨cd_X5_isSign, lwg_at 512 (by decide +kernel), im_X5_isSign, sl_X5_isSign, ni_X5, by decide +kernel⟩
theorem lk_X5_71 : LkV RX5 71 yX5_passWord cX5_passWord 3 (some .boolean) 1 := ⟨cd_X5_passWord, lwg_at 444 (by decide +kernel), im_X5_passWord, sl_X5_passWord, ni_X5, by decide +kernel⟩
theorem lk_X5_74 : LkV RX5 74 yX5_fail cX5_fail 2 none 1 := ⟨cd_X5_fail, lwg_at 500 (by decide +kernel), im_X5_fail, sl_X5_fail, ni_X5, by decide +kernel⟩
theorem lk_X5_78 : LkV RX5 78 yX5_passSign cX5_passSign 3 (some .boolean) 1 := ⟨cd_X5_passSign, lwg_at 508 (by decide +kernel), im_X5_passSign, sl_X5_passSign, ni_X5, by decide +kernel⟩
theorem lk_L_7 : LkV RL 7 yX6_load cX6_load 3 (some .int) 1 := ⟨cd_X6_load, lwg_at 339 (by decide +kernel), im_X6_load, sl_X6_load, ni_X6, by decide +kernel⟩
theorem lk_L_15 : LkV RL 15 yX6_colour cX6_colour 3 (some .int) 2 := ⟨cd_X6_colour, lwg_at 651 (by decide +kernel), im_X6_colour, sl_X6_colour, ni_X6, by decide +kernel⟩
theorem lk_L_21 : LkV RL 21 yX6_isFixed cX6_isFixed 2 (some .boolean) 1 := ⟨cd_X6_isFixed, lwg_at 683 (by decide +kernel), im_X6_isFixed, sl_X6_isFixed, ni_X6, by decide +kernel⟩
theorem lk_L_25 : LkV RL 25 yX6_luminance cX6_luminance 3 (some .int) 2 := ⟨cd_X6_luminance, lwg_at 690 (by decide +kernel), im_X6_luminance, sl_X6_luminance, ni_X6, by decide +kernel⟩
theorem lk_L_28 : LkV RL 28 yX6_contrast cX6_contrast 4 (some .int) 3 := ⟨cd_X6_contrast, lwg_at 698 (by decide +kernel), im_X6_contrast, sl_X6_contrast, ni_X6, by decide +kernel⟩
theorem lk_L_32 : LkV RL 32 yX6_seen cX6_seen 4 (some .int) 3 := ⟨cd_X6_seen, lwg_at 706 (by decide +kernel), im_X6_seen, sl_X6_seen, ni_X6, by decide +kernel⟩
theorem lk_L_35 : LkV RL 35 yX6_difference cX6_difference 5 (some .int) 4 := ⟨cd_X6_difference, lwg_at 722 (by decide +kernel), im_X6_difference, sl_X6_difference, ni_X6, by decide +kernel⟩
theorem lk_L_39 : LkV RL 39 yX6_nearest cX6_nearest 3 (some .int) 2 := ⟨cd_X6_nearest, lwg_at 730 (by decide +kernel), im_X6_nearest, sl_X6_nearest, ni_X6, by decide +kernel⟩
theorem lk_L_42 : LkV RL 42 yX6_need cX6_need 3 (some .int) 2 := ⟨cd_X6_need, lwg_at 747 (by decide +kernel), im_X6_need, sl_X6_need, ni_X6, by decide +kernel⟩
theorem lk_L_45 : LkV RL 45 yX6_value cX6_value 3 (some .int) 2 := ⟨cd_X6_value, lwg_at 759 (by decide +kernel), im_X6_value, sl_X6_value, ni_X6, by decide +kernel⟩
theorem lk_L_48 : LkV RL 48 yX6_violation cX6_violation 3 (some .int) 1 := ⟨cd_X6_violation, lwg_at 767 (by decide +kernel), im_X6_violation, sl_X6_violation, ni_X6, by decide +kernel⟩
theorem lk_L_53 : LkV RL 53 yX6_smallestMargin cX6_smallestMargin 2 (some .int) 1 := ⟨cd_X6_smallestMargin, lwg_at 798 (by decide +kernel), im_X6_smallestMargin, sl_X6_smallestMargin, ni_X6, by decide +kernel⟩
theorem lk_L_56 : LkV RL 56 yX6_bestShift cX6_bestShift 4 (some .int) 2 := ⟨cd_X6_bestShift, lwg_at 810 (by decide +kernel), im_X6_bestShift, sl_X6_bestShift, ni_X6, by decide +kernel⟩
theorem lk_L_59 : LkV RL 59 yX6_shiftRole cX6_shiftRole 4 (some .int) 2 := ⟨cd_X6_shiftRole, lwg_at 834 (by decide +kernel), im_X6_shiftRole, sl_X6_shiftRole, ni_X6, by decide +kernel⟩
theorem lk_L_62 : LkV RL 62 yX6_setColour cX6_setColour 5 (some .int) 3 := ⟨cd_X6_setColour, lwg_at 842 (by decide +kernel), im_X6_setColour, sl_X6_setColour, ni_X6, by decide +kernel⟩
theorem lk_L_65 : LkV RL 65 yX6_setFixed cX6_setFixed 4 (some .boolean) 2 := ⟨cd_X6_setFixed, lwg_at 849 (by decide +kernel), im_X6_setFixed, sl_X6_setFixed, ni_X6, by decide +kernel⟩
theorem lk_L_69 : LkV RL 69 yX6_shift cX6_shift 4 (some .int) 3 := ⟨cd_X6_shift, lwg_at 857 (by decide +kernel), im_X6_shift, sl_X6_shift, ni_X6, by decide +kernel⟩
theorem lk_L_74 : LkV RL 74 yX6_repair cX6_repair 3 (some .int) 1 := ⟨cd_X6_repair, lwg_at 882 (by decide +kernel), im_X6_repair, sl_X6_repair, ni_X6, by decide +kernel⟩
theorem lk_L_81 : LkV RL 81 yX6_append cX6_append 6 (some .int) 5 := ⟨cd_X6_append, lwg_at 232 (by decide +kernel), im_X6_append, sl_X6_append, ni_X6, by decide +kernel⟩
theorem lk_L_85 : LkV RL 85 yX7_append cX7_append 8 (some .int) 5 := ⟨cd_X7_append, lwg_at 965 (by decide +kernel), im_X7_append, sl_X7_append, ni_X7, by decide +kernel⟩
theorem lk_L_91 : LkV RL 91 yX7_load cX7_load 3 (some .int) 1 := ⟨cd_X7_load, lwg_at 969 (by decide +kernel), im_X7_load, sl_X7_load, ni_X7, by decide +kernel⟩
theorem lk_L_92 : LkV RL 92 yX7_thrown cX7_thrown 1 (some .int) 0 := ⟨cd_X7_thrown, lwg_at 961 (by decide +kernel), im_X7_thrown, sl_X7_thrown, ni_X7, by decide +kernel⟩
theorem lk_L_96 : LkV RL 96 yX6_errorOffset cX6_errorOffset 1 (some .int) 0 := ⟨cd_X6_errorOffset, lwg_at 240 (by decide +kernel), im_X6_errorOffset, sl_X6_errorOffset, ni_X6, by decide +kernel⟩
theorem lk_L_99 : LkV RL 99 yX7_errorOffset cX7_errorOffset 1 (some .int) 0 := ⟨cd_X7_errorOffset, lwg_at 1092 (by decide +kernel), im_X7_errorOffset, sl_X7_errorOffset, ni_X7, by decide +kernel⟩
theorem lk_L_100 : LkV RL 100 yX6_roleCount cX6_roleCount 1 (some .int) 0 := ⟨cd_X6_roleCount, lwg_at 244 (by decide +kernel), im_X6_roleCount, sl_X6_roleCount, ni_X6, by decide +kernel⟩
theorem lk_L_103 : LkV RL 103 yX7_roleCount cX7_roleCount 1 (some .int) 0 := ⟨cd_X7_roleCount, lwg_at 1096 (by decide +kernel), im_X7_roleCount, sl_X7_roleCount, ni_X7, by decide +kernel⟩
theorem lk_L_104 : LkV RL 104 yX6_ruleCount cX6_ruleCount 1 (some .int) 0 := ⟨cd_X6_ruleCount, lwg_at 248 (by decide +kernel), im_X6_ruleCount, sl_X6_ruleCount, ni_X6, by decide +kernel⟩
theorem lk_L_107 : LkV RL 107 yX7_ruleCount cX7_ruleCount 1 (some .int) 0 := ⟨cd_X7_ruleCount, lwg_at 1100 (by decide +kernel), im_X7_ruleCount, sl_X7_ruleCount, ni_X7, by decide +kernel⟩
theorem lk_L_111 : LkV RL 111 yX7_colour cX7_colour 3 (some .int) 2 := ⟨cd_X7_colour, lwg_at 1104 (by decide +kernel), im_X7_colour, sl_X7_colour, ni_X7, by decide +kernel⟩
theorem lk_L_114 : LkV RL 114 yX7_isFixed cX7_isFixed 2 (some .boolean) 1 := ⟨cd_X7_isFixed, lwg_at 1120 (by decide +kernel), im_X7_isFixed, sl_X7_isFixed, ni_X7, by decide +kernel⟩
theorem lk_L_117 : LkV RL 117 yX7_luminance cX7_luminance 3 (some .int) 2 := ⟨cd_X7_luminance, lwg_at 1124 (by decide +kernel), im_X7_luminance, sl_X7_luminance, ni_X7, by decide +kernel⟩
theorem lk_L_121 : LkV RL 121 yX7_contrast cX7_contrast 4 (some .int) 3 := ⟨cd_X7_contrast, lwg_at 1140 (by decide +kernel), im_X7_contrast, sl_X7_contrast, ni_X7, by decide +kernel⟩
theorem lk_L_124 : LkV RL 124 yX7_seen cX7_seen 4 (some .int) 3 := ⟨cd_X7_seen, lwg_at 1150 (by decide +kernel), im_X7_seen, sl_X7_seen, ni_X7, by decide +kernel⟩
theorem lk_L_128 : LkV RL 128 yX7_difference cX7_difference 5 (some .int) 4 := ⟨cd_X7_difference, lwg_at 1167 (by decide +kernel), im_X7_difference, sl_X7_difference, ni_X7, by decide +kernel⟩
theorem lk_L_131 : LkV RL 131 yX7_nearest cX7_nearest 7 (some .int) 2 := ⟨cd_X7_nearest, lwg_at 1177 (by decide +kernel), im_X7_nearest, sl_X7_nearest, ni_X7, by decide +kernel⟩
theorem lk_L_134 : LkV RL 134 yX7_need cX7_need 3 (some .int) 2 := ⟨cd_X7_need, lwg_at 1186 (by decide +kernel), im_X7_need, sl_X7_need, ni_X7, by decide +kernel⟩
theorem lk_L_137 : LkV RL 137 yX7_value cX7_value 3 (some .int) 2 := ⟨cd_X7_value, lwg_at 1198 (by decide +kernel), im_X7_value, sl_X7_value, ni_X7, by decide +kernel⟩
theorem lk_L_138 : LkV RL 138 yX6_violations cX6_violations 1 (some .int) 0 := ⟨cd_X6_violations, lwg_at 252 (by decide +kernel), im_X6_violations, sl_X6_violations, ni_X6, by decide +kernel⟩
theorem lk_L_141 : LkV RL 141 yX7_violations cX7_violations 1 (some .int) 0 := ⟨cd_X7_violations, lwg_at 1206 (by decide +kernel), im_X7_violations, sl_X7_violations, ni_X7, by decide +kernel⟩
theorem lk_L_144 : LkV RL 144 yX7_violation cX7_violation 4 (some .int) 1 := ⟨cd_X7_violation, lwg_at 1222 (by decide +kernel), im_X7_violation, sl_X7_violation, ni_X7, by decide +kernel⟩
theorem lk_L_147 : LkV RL 147 yX7_smallestMargin cX7_smallestMargin 4 (some .int) 1 := ⟨cd_X7_smallestMargin, lwg_at 1226 (by decide +kernel), im_X7_smallestMargin, sl_X7_smallestMargin, ni_X7, by decide +kernel⟩
theorem lk_L_150 : LkV RL 150 yX7_bestShift cX7_bestShift 3 (some .int) 2 := ⟨cd_X7_bestShift, lwg_at 1230 (by decide +kernel), im_X7_bestShift, sl_X7_bestShift, ni_X7, by decide +kernel⟩
theorem lk_L_153 : LkV RL 153 yX7_shiftRole cX7_shiftRole 3 (some .int) 2 := ⟨cd_X7_shiftRole, lwg_at 1245 (by decide +kernel), im_X7_shiftRole, sl_X7_shiftRole, ni_X7, by decide +kernel⟩
theorem lk_L_156 : LkV RL 156 yX7_setColour cX7_setColour 5 (some .int) 3 := ⟨cd_X7_setColour, lwg_at 1249 (by decide +kernel), im_X7_setColour, sl_X7_setColour, ni_X7, by decide +kernel⟩
theorem lk_L_160 : LkV RL 160 yX7_setFixed cX7_setFixed 4 (some .boolean) 2 := ⟨cd_X7_setFixed, lwg_at 1253 (by decide +kernel), im_X7_setFixed, sl_X7_setFixed, ni_X7, by decide +kernel⟩
theorem lk_L_163 : LkV RL 163 yX7_shift cX7_shift 4 (some .int) 3 := ⟨cd_X7_shift, lwg_at 1257 (by decide +kernel), im_X7_shift, sl_X7_shift, ni_X7, by decide +kernel⟩
theorem lk_L_166 : LkV RL 166 yX7_repair cX7_repair 3 (some .int) 1 := ⟨cd_X7_repair, lwg_at 1265 (by decide +kernel), im_X7_repair, sl_X7_repair, ni_X7, by decide +kernel⟩
theorem lk_L_167 : LkV RL 167 yX6_swapSchemes cX6_swapSchemes 1 (some .int) 0 := ⟨cd_X6_swapSchemes, lwg_at 300 (by decide +kernel), im_X6_swapSchemes, sl_X6_swapSchemes, ni_X6, by decide +kernel⟩
theorem lk_L_170 : LkV RL 170 yX7_swapSchemes cX7_swapSchemes 3 (some .int) 0 := ⟨cd_X7_swapSchemes, lwg_at 1273 (by decide +kernel), im_X7_swapSchemes, sl_X7_swapSchemes, ni_X7, by decide +kernel⟩
theorem lk_L_171 : LkV RL 171 yX6_undo cX6_undo 1 (some .int) 0 := ⟨cd_X6_undo, lwg_at 321 (by decide +kernel), im_X6_undo, sl_X6_undo, ni_X6, by decide +kernel⟩
theorem lk_L_174 : LkV RL 174 yX7_undo cX7_undo 1 (some .int) 0 := ⟨cd_X7_undo, lwg_at 1277 (by decide +kernel), im_X7_undo, sl_X7_undo, ni_X7, by decide +kernel⟩
theorem lk_L_175 : LkV RL 175 yX6_checksum cX6_checksum 4 (some .long) 0 := ⟨cd_X6_checksum, lwg_at 329 (by decide +kernel), im_X6_checksum, sl_X6_checksum, ni_X6, by decide +kernel⟩
theorem lk_L_179 : LkV RL 179 yX7_checksum cX7_checksum 5 (some .long) 0 := ⟨cd_X7_checksum, lwg_at 1281 (by decide +kernel), im_X7_checksum, sl_X7_checksum, ni_X7, by decide +kernel⟩
theorem lk_X7_48 : LkV RX7 48 yX7_byteAt cX7_byteAt 2 (some .int) 1 := ⟨cd_X7_byteAt, lwg_at 993 (by decide +kernel), im_X7_byteAt, sl_X7_byteAt, ni_X7, by decide +kernel⟩
theorem lk_X7_58 : LkS RX7 58 yX7_in cX7_in 3 (some .boolean) 3 := ⟨cd_X7_in, lwg_at 973 (by decide +kernel), st_X7_in, ni_X7, by decide +kernel⟩
theorem lk_X7_62 : LkV RX7 62 yX7_isGood cX7_isGood 1 (some .boolean) 0 := ⟨cd_X7_isGood, lwg_at 985 (by decide +kernel), im_X7_isGood, sl_X7_isGood, ni_X7, by decide +kernel⟩
theorem lk_X7_66 : LkV RX7 66 yX7_next cX7_next 1 (some .int) 0 := ⟨cd_X7_next, lwg_at 989 (by decide +kernel), im_X7_next, sl_X7_next, ni_X7, by decide +kernel⟩
theorem lk_X7_79 : LkV RX7 79 yX7_report cX7_report 3 none 2 := ⟨cd_X7_report, lwg_at 999 (by decide +kernel), im_X7_report, sl_X7_report, ni_X7, by decide +kernel⟩
theorem lk_X7_83 : LkS RX7 83 yX7_isDigit cX7_isDigit 1 (some .boolean) 1 := ⟨cd_X7_isDigit, lwg_at 1020 (by decide +kernel), st_X7_isDigit, ni_X7, by decide +kernel⟩
theorem lk_X7_91 : LkS RX7 91 yX7_min cX7_min 2 (some .int) 2 := ⟨cd_X7_min, lwg_at 1024 (by decide +kernel), st_X7_min, ni_X7, by decide +kernel⟩
theorem lk_X7_98 : LkV RX7 98 yX7_sum cX7_sum 2 none 0 := ⟨cd_X7_sum, lwg_at 1050 (by decide +kernel), im_X7_sum, sl_X7_sum, ni_X7, by decide +kernel⟩
theorem lk_X7_101 : LkV RX7 101 yX7_expect cX7_expect 2 none 1 := ⟨cd_X7_expect, lwg_at 1003 (by decide +kernel), im_X7_expect, sl_X7_expect, ni_X7, by decide +kernel⟩
theorem lk_X7_107 : LkV RX7 107 yX7_takeWord cX7_takeWord 3 (some .boolean) 1 := ⟨cd_X7_takeWord, lwg_at 981 (by decide +kernel), im_X7_takeWord, sl_X7_takeWord, ni_X7, by decide +kernel⟩
theorem lk_X7_113 : LkV RX7 113 yX7_number cX7_number 4 (some .int) 2 := ⟨cd_X7_number, lwg_at 1016 (by decide +kernel), im_X7_number, sl_X7_number, ni_X7, by decide +kernel⟩
theorem lk_X7_116 : LkV RX7 116 yX7_emit cX7_emit 2 none 1 := ⟨cd_X7_emit, lwg_at 1063 (by decide +kernel), im_X7_emit, sl_X7_emit, ni_X7, by decide +kernel⟩
theorem lk_X7_119 : LkV RX7 119 yX7_factor cX7_factor 4 none 0 := ⟨cd_X7_factor, lwg_at 1058 (by decide +kernel), im_X7_factor, sl_X7_factor, ni_X7, by decide +kernel⟩
theorem lk_X7_122 : LkV RX7 122 yX7_term cX7_term 2 none 0 := ⟨cd_X7_term, lwg_at 1054 (by decide +kernel), im_X7_term, sl_X7_term, ni_X7, by decide +kernel⟩
theorem lk_X7_128 : LkS RX7 128 yX7_mixed cX7_mixed 3 (some .int) 3 := ⟨cd_X7_mixed, lwg_at 1027 (by decide +kernel), st_X7_mixed, ni_X7, by decide +kernel⟩
theorem lk_X7_136 : LkS RX7 136 yX7_role cX7_role 1 (some .int) 1 := ⟨cd_X7_role, lwg_at 1033 (by decide +kernel), st_X7_role, ni_X7, by decide +kernel⟩
theorem lk_X7_139 : LkS RX7 139 yX7_rule cX7_rule 1 (some .int) 1 := ⟨cd_X7_rule, lwg_at 1041 (by decide +kernel), st_X7_rule, ni_X7, by decide +kernel⟩
theorem lk_X7_143 : LkV RX7 143 yX7_readRole cX7_readRole 8 none 1 := ⟨cd_X7_readRole, lwg_at 1012 (by decide +kernel), im_X7_readRole, sl_X7_readRole, ni_X7, by decide +kernel⟩
theorem lk_X7_148 : LkV RX7 148 yX7_readRule cX7_readRule 8 none 2 := ⟨cd_X7_readRule, lwg_at 1037 (by decide +kernel), im_X7_readRule, sl_X7_readRule, ni_X7, by decide +kernel⟩
theorem lk_X7_156 : LkV RX7 156 yX7_once cX7_once 3 none 2 := ⟨cd_X7_once, lwg_at 1046 (by decide +kernel), im_X7_once, sl_X7_once, ni_X7, by decide +kernel⟩
theorem lk_X7_159 : LkV RX7 159 yX7_fails cX7_fails 3 (some .boolean) 2 := ⟨cd_X7_fails, lwg_at 976 (by decide +kernel), im_X7_fails, sl_X7_fails, ni_X7, by decide +kernel⟩
theorem lk_X7_163 : LkV RX7 163 yX7_statement cX7_statement 2 none 0 := ⟨cd_X7_statement, lwg_at 1007 (by decide +kernel), im_X7_statement, sl_X7_statement, ni_X7, by decide +kernel⟩
theorem lk_X7_166 : LkV RX7 166 yX7_remember cX7_remember 2 none 0 := ⟨cd_X7_remember, lwg_at 1067 (by decide +kernel), im_X7_remember, sl_X7_remember, ni_X7, by decide +kernel⟩
theorem lk_X7_169 : LkS RX7 169 yX7_copy cX7_copy 3 none 2 := ⟨cd_X7_copy, lwg_at 1071 (by decide +kernel), st_X7_copy, ni_X7, by decide +kernel⟩
theorem lk_X7_173 : LkV RX7 173 yX7_layNeeds cX7_layNeeds 2 none 0 := ⟨cd_X7_layNeeds, lwg_at 1074 (by decide +kernel), im_X7_layNeeds, sl_X7_layNeeds, ni_X7, by decide +kernel⟩
theorem lk_X7_176 : LkS RX7 176 yX7_red cX7_red 1 (some .int) 1 := ⟨cd_X7_red, lwg_at 1131 (by decide +kernel), st_X7_red, ni_X7, by decide +kernel⟩
theorem lk_X7_179 : LkS RX7 179 yX7_green cX7_green 1 (some .int) 1 := ⟨cd_X7_green, lwg_at 1134 (by decide +kernel), st_X7_green, ni_X7, by decide +kernel⟩
theorem lk_X7_182 : LkS RX7 182 yX7_blue cX7_blue 1 (some .int) 1 := ⟨cd_X7_blue, lwg_at 1137 (by decide +kernel), st_X7_blue, ni_X7, by decide +kernel⟩
theorem lk_X7_185 : LkS RX7 185 yX7_bright cX7_bright 1 (some .int) 1 := ⟨cd_X7_bright, lwg_at 1128 (by decide +kernel), st_X7_bright, ni_X7, by decide +kernel⟩
theorem lk_X7_188 : LkS RX7 188 yX7_max cX7_max 2 (some .int) 2 := ⟨cd_X7_max, lwg_at 1147 (by decide +kernel), st_X7_max, ni_X7, by decide +kernel⟩
theorem lk_X7_191 : LkS RX7 191 yX7_held cX7_held 1 (some .int) 1 := ⟨cd_X7_held, lwg_at 1164 (by decide +kernel), st_X7_held, ni_X7, by decide +kernel⟩
theorem lk_X7_194 : LkS RX7 194 yX7_channel cX7_channel 4 (some .int) 4 := ⟨cd_X7_channel, lwg_at 1161 (by decide +kernel), st_X7_channel, ni_X7, by decide +kernel⟩
theorem lk_X7_198 : LkS RX7 198 yX7_apart cX7_apart 2 (some .int) 2 := ⟨cd_X7_apart, lwg_at 1174 (by decide +kernel), st_X7_apart, ni_X7, by decide +kernel⟩
theorem lk_X7_205 : LkS RX7 205 yX7_limited cX7_limited 2 (some .long) 1 := ⟨cd_X7_limited, lwg_at 1085 (by decide +kernel), st_X7_limited, ni_X7, by decide +kernel⟩
theorem lk_X7_209 : LkS RX7 209 yX7_operate cX7_operate 5 (some .long) 3 := ⟨cd_X7_operate, lwg_at 1082 (by decide +kernel), st_X7_operate, ni_X7, by decide +kernel⟩
theorem lk_X7_217 : LkV RX7 217 yX7_reckonNeed cX7_reckonNeed 8 (some .int) 2 := ⟨cd_X7_reckonNeed, lwg_at 1078 (by decide +kernel), im_X7_reckonNeed, sl_X7_reckonNeed, ni_X7, by decide +kernel⟩
theorem lk_X7_220 : LkV RX7 220 yX7_colourOf cX7_colourOf 3 (some .int) 2 := ⟨cd_X7_colourOf, lwg_at 1116 (by decide +kernel), im_X7_colourOf, sl_X7_colourOf, ni_X7, by decide +kernel⟩
theorem lk_X7_223 : LkS RX7 223 yX7_contrastOf cX7_contrastOf 2 (some .int) 2 := ⟨cd_X7_contrastOf, lwg_at 1144 (by decide +kernel), st_X7_contrastOf, ni_X7, by decide +kernel⟩
theorem lk_X7_226 : LkS RX7 226 yX7_seenAs cX7_seenAs 2 (some .int) 2 := ⟨cd_X7_seenAs, lwg_at 1158 (by decide +kernel), st_X7_seenAs, ni_X7, by decide +kernel⟩
theorem lk_X7_229 : LkS RX7 229 yX7_differenceOf cX7_differenceOf 2 (some .int) 2 := ⟨cd_X7_differenceOf, lwg_at 1171 (by decide +kernel), st_X7_differenceOf, ni_X7, by decide +kernel⟩
theorem lk_X7_232 : LkV RX7 232 yX7_valueOf cX7_valueOf 6 (some .int) 2 := ⟨cd_X7_valueOf, lwg_at 1202 (by decide +kernel), im_X7_valueOf, sl_X7_valueOf, ni_X7, by decide +kernel⟩
theorem lk_X7_235 : LkV RX7 235 yX7_needOf cX7_needOf 3 (some .int) 2 := ⟨cd_X7_needOf, lwg_at 1194 (by decide +kernel), im_X7_needOf, sl_X7_needOf, ni_X7, by decide +kernel⟩
theorem lk_X7_238 : LkV RX7 238 yX7_isViolated cX7_isViolated 3 (some .boolean) 2 := ⟨cd_X7_isViolated, lwg_at 1218 (by decide +kernel), im_X7_isViolated, sl_X7_isViolated, ni_X7, by decide +kernel⟩
theorem lk_X7_242 : LkS RX7 242 yX7_shifted cX7_shifted 2 (some .int) 2 := ⟨cd_X7_shifted, lwg_at 1242 (by decide +kernel), st_X7_shifted, ni_X7, by decide +kernel⟩
theorem lk_X7_245 : LkV RX7 245 yX7_violatedIn cX7_violatedIn 4 (some .int) 1 := ⟨cd_X7_violatedIn, lwg_at 1214 (by decide +kernel), im_X7_violatedIn, sl_X7_violatedIn, ni_X7, by decide +kernel⟩
theorem lk_X7_254 : LkV RX7 254 yX7_mends cX7_mends 9 (some .boolean) 5 := ⟨cd_X7_mends, lwg_at 1238 (by decide +kernel), im_X7_mends, sl_X7_mends, ni_X7, by decide +kernel⟩
theorem lk_X7_261 : LkV RX7 261 yX7_findShift cX7_findShift 7 (some .boolean) 2 := ⟨cd_X7_findShift, lwg_at 1234 (by decide +kernel), im_X7_findShift, sl_X7_findShift, ni_X7, by decide +kernel⟩
theorem lk_X7_264 : LkV RX7 264 yX7_noScheme cX7_noScheme 2 (some .boolean) 1 := ⟨cd_X7_noScheme, lwg_at 1112 (by decide +kernel), im_X7_noScheme, sl_X7_noScheme, ni_X7, by decide +kernel⟩
theorem lk_X7_267 : LkV RX7 267 yX7_noRole cX7_noRole 2 (some .boolean) 1 := ⟨cd_X7_noRole, lwg_at 1108 (by decide +kernel), im_X7_noRole, sl_X7_noRole, ni_X7, by decide +kernel⟩
theorem lk_X7_270 : LkV RX7 270 yX7_noSight cX7_noSight 2 (some .boolean) 1 := ⟨cd_X7_noSight, lwg_at 1154 (by decide +kernel), im_X7_noSight, sl_X7_noSight, ni_X7, by decide +kernel⟩
theorem lk_X7_274 : LkV RX7 274 yX7_noColour cX7_noColour 2 (some .boolean) 1 := ⟨cd_X7_noColour, lwg_at 1181 (by decide +kernel), im_X7_noColour, sl_X7_noColour, ni_X7, by decide +kernel⟩
theorem lk_X7_277 : LkV RX7 277 yX7_noRule cX7_noRule 3 (some .boolean) 2 := ⟨cd_X7_noRule, lwg_at 1190 (by decide +kernel), im_X7_noRule, sl_X7_noRule, ni_X7, by decide +kernel⟩
theorem lk_X7_280 : LkV RX7 280 yX7_allViolated cX7_allViolated 1 (some .int) 0 := ⟨cd_X7_allViolated, lwg_at 1210 (by decide +kernel), im_X7_allViolated, sl_X7_allViolated, ni_X7, by decide +kernel⟩
theorem lk_X7_286 : LkV RX7 286 yX7_makeShift cX7_makeShift 5 (some .int) 3 := ⟨cd_X7_makeShift, lwg_at 1261 (by decide +kernel), im_X7_makeShift, sl_X7_makeShift, ni_X7, by decide +kernel⟩
theorem lk_X7_289 : LkV RX7 289 yX7_findAny cX7_findAny 2 (some .boolean) 0 := ⟨cd_X7_findAny, lwg_at 1269 (by decide +kernel), im_X7_findAny, sl_X7_findAny, ni_X7, by decide +kernel⟩
theorem ln_X6_limited : LkN yX6_limited cX6_limited 3 (some .int) 3 := ⟨cd_X6_limited, st_X6_limited, ni_X6, by decide +kernel⟩
theorem kc_X6_183 : Cond.constantLong RX6 183 (31) ∈ lwg := lwg_at 333 (by decide +kernel)
theorem kc_X6_196 : Cond.constant RX6 196 (16777215) ∈ lwg := lwg_at 738 (by decide +kernel)
theorem kc_X0_9 : Cond.constant RX0 9 (65536) ∈ lwg := lwg_at 273 (by decide +kernel)
theorem kc_X2_53 : Cond.constant RX2 53 (-1000000) ∈ lwg := lwg_at 622 (by decide +kernel)
theorem kc_X2_54 : Cond.constant RX2 54 (1000000) ∈ lwg := lwg_at 623 (by decide +kernel)
theorem kc_X2_88 : Cond.constantLong RX2 88 (-1000000) ∈ lwg := lwg_at 611 (by decide +kernel)
theorem kc_X2_90 : Cond.constantLong RX2 90 (1000000) ∈ lwg := lwg_at 612 (by decide +kernel)
theorem kc_X4_113 : Cond.constant RX4 113 (16777215) ∈ lwg := lwg_at 543 (by decide +kernel)
theorem kc_X5_50 : Cond.constant RX5 50 (1000000) ∈ lwg := lwg_at 435 (by decide +kernel)
theorem kc_X7_38 : Cond.constant RX7 38 (65536) ∈ lwg := lwg_at 1030 (by decide +kernel)
theorem kc_X7_90 : Cond.constant RX7 90 (1000000) ∈ lwg := lwg_at 1023 (by decide +kernel)
theorem kc_X7_201 : Cond.constantLong RX7 201 (1000000) ∈ lwg := lwg_at 1088 (by decide +kernel)
theorem kc_X7_203 : Cond.constantLong RX7 203 (-1000000) ∈ lwg := lwg_at 1089 (by decide +kernel)
theorem kc_X7_213 : Cond.constantLong RX7 213 (100) ∈ lwg := lwg_at 1090 (by decide +kernel)
theorem kc_X7_215 : Cond.constantLong RX7 215 (2100) ∈ lwg := lwg_at 1091 (by decide +kernel)
theorem kc_X7_273 : Cond.constant RX7 273 (16777215) ∈ lwg := lwg_at 1185 (by decide +kernel)
theorem kc_X7_292 : Cond.constantLong RX7 292 (31) ∈ lwg := lwg_at 1285 (by decide +kernel)
theorem km_X0_25 : Cond.methodLink RX0 25 Lib.Math.min.name ∈ lwg := lwg_at 280 (by decide +kernel)
theorem km_X0_31 : Cond.methodLink RX0 31 Lib.Math.max.name ∈ lwg := lwg_at 283 (by decide +kernel)
theorem km_X0_48 : Cond.methodLink RX0 48 Lib.Math.abs.name ∈ lwg := lwg_at 297 (by decide +kernel)
theorem km_X1_40 : Cond.methodLink RX1 40 arraycopyName ∈ lwg := lwg_at 312 (by decide +kernel)
theorem km_X1_59 : Cond.methodLink RX1 59 Lib.Math.min.name ∈ lwg := lwg_at 806 (by decide +kernel)
theorem km_X2_92 : Cond.methodLink RX2 92 Lib.MathLoose.min_long.x ∈ lwg := lwg_at 613 (by decide +kernel)
theorem km_X2_98 : Cond.methodLink RX2 98 Lib.MathLoose.max_long.x ∈ lwg := lwg_at 616 (by decide +kernel)
theorem km_X3_29 : Cond.methodLink RX3 29 Lib.Math.min.name ∈ lwg := lwg_at 315 (by decide +kernel)
theorem km_X5_34 : Cond.methodLink RX5 34 Lib.Math.min.name ∈ lwg := lwg_at 427 (by decide +kernel)
theorem km_X5_43 : Cond.methodLink RX5 43 Lib.Math.max.name ∈ lwg := lwg_at 641 (by decide +kernel)
theorem ms_abs : Cond.static Lib.Math.abs.name ∈ lwg := lwg_at 298 (by decide +kernel)
theorem mc_abs : Cond.code Lib.Math.abs.name Lib.Math.abs.code 1 (some .int) ∈ lwg := lwg_at 299 (by decide +kernel)
theorem ms_max : Cond.static Lib.Math.max.name ∈ lwg := lwg_at 284 (by decide +kernel)
theorem mc_max : Cond.code Lib.Math.max.name Lib.Math.max.code 2 (some .int) ∈ lwg := lwg_at 285 (by decide +kernel)
theorem ms_min : Cond.static Lib.Math.min.name ∈ lwg := lwg_at 281 (by decide +kernel)
theorem mc_min : Cond.code Lib.Math.min.name Lib.Math.min.code 2 (some .int) ∈ lwg := lwg_at 282 (by decide +kernel)
theorem ms_max_long : Cond.static Lib.MathLoose.max_long.x ∈ lwg := lwg_at 617 (by decide +kernel)
theorem mc_max_long : Cond.code Lib.MathLoose.max_long.x Lib.MathLoose.max_long.code 4 (some .long) ∈ lwg := lwg_at 618 (by decide +kernel)
theorem ms_min_long : Cond.static Lib.MathLoose.min_long.x ∈ lwg := lwg_at 614 (by decide +kernel)
theorem mc_min_long : Cond.code Lib.MathLoose.min_long.x Lib.MathLoose.min_long.code 4 (some .long) ∈ lwg := lwg_at 615 (by decide +kernel)
theorem mi_Math : Cond.initialized "java/lang/Math" ∈ lwg := lwg_at 61 (by decide +kernel)
theorem sy_copy : Cond.native arraycopyName ∈ lwg ∧ Cond.static arraycopyName ∈ lwg ∧ Cond.initialized "java/lang/System" ∈ lwg := ⟨lwg_at 314 (by decide +kernel), lwg_at 313 (by decide +kernel), lwg_at 67 (by decide +kernel)⟩
end
section
/-! the arithmetic of single colours, in the words of the programs -/
theorem n_lt {a b : Int32} (h : b ≤ a) : ¬ a < b := Int32.not_lt.mpr h
theorem n_le {a b : Int32} (h : b < a) : ¬ a ≤ b := Int32.not_le.mpr h
theorem l_lt {a b : Int32} (h : ¬ b ≤ a) : a < b := Int32.not_le.mp h
theorem l_le {a b : Int32} (h : ¬ b < a) : a ≤ b := Int32.not_lt.mp h
def pRed (c : Int32) : Int32 := c / 65536
def pGreen (c : Int32) : Int32 := c / 256 - c / 256 / 256 * 256
def pBlue (c : Int32) : Int32 := c - c / 256 * 256
def pMix (r g b : Int32) : Int32 := 65536 * r + 256 * g + b
def pBri (c : Int32) : Int32 := (2126 * pRed c * pRed c + 7152 * pGreen c * pGreen c + 722 * pBlue c * pBlue c) / 10000
def iMin (x y : Int32) : Int32 := if y < x then y else x
def iMax (x y : Int32) : Int32 := if x < y then y else x
def iAbs (x : Int32) : Int32 := if 0 ≤ x then x else 0 - x
def rMin (x y : Int32) : Int32 := if x < y then x else y
def rMax (x y : Int32) : Int32 := if y < x then x else y
def pLim (v lo hi : Int32) : Int32 := if v < lo then lo else if hi < v then hi else v
def pHeld (v : Int32) : Int32 := rMax 0 (rMin 255 v)
def cCon (a b : Int32) : Int32 := if iMin (pBri a + 3251) (pBri b + 3251) ≤ 0 then 0 else 100 * iMax (pBri a + 3251) (pBri b + 3251) / iMin (pBri a + 3251) (pBri b + 3251)
def rCon (a b : Int32) : Int32 := 100 * (rMax (pBri a) (pBri b) + 3251) / (rMin (pBri a) (pBri b) + 3251)
def cShf (c d : Int32) : Int32 := pMix (pLim (pRed c + d) 0 255) (pLim (pGreen c + d) 0 255) (pLim (pBlue c + d) 0 255)
def rShf (c d : Int32) : Int32 := pMix (pHeld (pRed c + d)) (pHeld (pGreen c + d)) (pHeld (pBlue c + d))
def rCh (f g h c : Int32) : Int32 := pHeld ((f * pRed c + g * pGreen c + h * pBlue c) / 1000)
def rSeen (c s : Int32) : Int32 := if s = 1 then pMix (rCh 152 1053 (-205) c) (rCh 115 786 99 c) (rCh (-4) (-48) 1052 c) else if s = 2 then pMix (rCh 367 861 (-228) c) (rCh 280 673 47 c) (rCh (-12) 43 969 c) else if s = 3 then pMix (rCh 1256 (-77) (-179) c) (rCh (-78) 930 148 c) (rCh 5 691 304 c) else if s = 4 then pMix (rCh 299 587 114 c) (rCh 299 587 114 c) (rCh 299 587 114 c) else c
def rApart (a b : Int32) : Int32 := if b < a then a - b else b - a
def rDif (a b : Int32) : Int32 := 3 * rApart (pRed a) (pRed b) + 4 * rApart (pGreen a) (pGreen b) + 2 * rApart (pBlue a) (pBlue b)
def rIn (v lo hi : Int32) : Int32 := if v < lo then 0 else if hi < v then 0 else 1
def rLimL (v : Int64) : Int64 := if 1000000 < v then 1000000 else if v < -1000000 then -1000000 else v
def rOp (op : Int32) (a b : Int64) : Int64 := if op = 5 then (if b = 0 then 0 else a / b) else rLimL (if op = 2 then a + b else if op = 3 then a - b else a * b)
def cAmt (k : Int32) : Int32 := if k / 2 - k / 2 / 2 * 2 = 0 then k / 4 + 1 else -(k / 4 + 1)
def cQuo (a b : Int32) : Int32 := if b = 0 then 0 else a / b
set_option maxHeartbeats 4000000 in
set_option maxRecDepth 100000 in
theorem c_X0_red (l : Launch) (x : Int32)  : Met l yX0_red (wz yX0_red cX0_red 1 (some .int)) (rmk 0 0 0 0) (va_Pc [.int x] (fun _ => True)) (qSi (fun zz => zz = pRed x)) 0 0 fr0 := by
  refine en_ofW RX0 rfl (by decide +kernel) (Nat.le_of_ble_eq_true rfl) ?_
  intro p e s m below meth c ls S hr hlk hnm hl hB
  have hx := S.1
  have hb := S.2.1
  have hl : lv_has ls 1 [(0, .int x)] := hl
  refine lv_iload_n hx hb dX0_red_0 rfl (lv_at hl 0 rfl) ?_
  refine lv_ldc (v := 65536) hx hb S.2.2.2.1 (S.2.2.2.2 _ kc_X0_9) dX0_red_1 ?_
  refine lv_idiv hx hb dX0_red_3 (by decide) ?_
  exact re_si (v := (x / 65536)) hx hb hr hlk rfl dX0_red_4

set_option maxHeartbeats 4000000 in
set_option maxRecDepth 100000 in
theorem c_X0_green (l : Launch) (x : Int32)  : Met l yX0_green (wz yX0_green cX0_green 1 (some .int)) (rmk 0 0 0 0) (va_Pc [.int x] (fun _ => True)) (qSi (fun zz => zz = pGreen x)) 0 0 fr0 := by
  refine en_ofW RX0 rfl (by decide +kernel) (Nat.le_of_ble_eq_true rfl) ?_
  intro p e s m below meth c ls S hr hlk hnm hl hB
  have hx := S.1
  have hb := S.2.1
  have hl : lv_has ls 1 [(0, .int x)] := hl
  refine lv_iload_n hx hb dX0_green_0 rfl (lv_at hl 0 rfl) ?_
  refine lv_sipush (v := 256) hx hb dX0_green_1 (by decide) ?_
  refine lv_idiv hx hb dX0_green_4 (by decide) ?_
  refine lv_sipush (v := 256) hx hb dX0_green_5 (by decide) ?_
  refine lv_irem hx hb dX0_green_8 (by decide) ?_
  exact re_si (v := ((x / 256) - (x / 256) / 256 * 256)) hx hb hr hlk rfl dX0_green_9

set_option maxHeartbeats 4000000 in
set_option maxRecDepth 100000 in
theorem c_X0_blue (l : Launch) (x : Int32)  : Met l yX0_blue (wz yX0_blue cX0_blue 1 (some .int)) (rmk 0 0 0 0) (va_Pc [.int x] (fun _ => True)) (qSi (fun zz => zz = pBlue x)) 0 0 fr0 := by
  refine en_ofW RX0 rfl (by decide +kernel) (Nat.le_of_ble_eq_true rfl) ?_
  intro p e s m below meth c ls S hr hlk hnm hl hB
  have hx := S.1
  have hb := S.2.1
  have hl : lv_has ls 1 [(0, .int x)] := hl
  refine lv_iload_n hx hb dX0_blue_0 rfl (lv_at hl 0 rfl) ?_
  refine lv_sipush (v := 256) hx hb dX0_blue_1 (by decide) ?_
  refine lv_irem hx hb dX0_blue_4 (by decide) ?_
  exact re_si (v := (x - x / 256 * 256)) hx hb hr hlk rfl dX0_blue_5

set_option maxHeartbeats 4000000 in
set_option maxRecDepth 100000 in
theorem c_X0_joined (l : Launch) (r g b : Int32)  : Met l yX0_joined (wz yX0_joined cX0_joined 3 (some .int)) (rmk 0 0 0 0) (va_Pc [.int r, .int g, .int b] (fun _ => True)) (qSi (fun zz => zz = pMix r g b)) 0 0 fr0 := by
  refine en_ofW RX0 rfl (by decide +kernel) (Nat.le_of_ble_eq_true rfl) ?_
  intro p e s m below meth c ls S hr hlk hnm hl hB
  have hx := S.1
  have hb := S.2.1
  have hl : lv_has ls 3 [(0, .int r), (1, .int g), (2, .int b)] := hl
  refine lv_ldc (v := 65536) hx hb S.2.2.2.1 (S.2.2.2.2 _ kc_X0_9) dX0_joined_0 ?_
  refine lv_iload_n hx hb dX0_joined_2 rfl (lv_at hl 0 rfl) ?_
  refine lv_imul hx hb dX0_joined_3 ?_
  refine lv_sipush (v := 256) hx hb dX0_joined_4 (by decide) ?_
  refine lv_iload_n hx hb dX0_joined_7 rfl (lv_at hl 1 rfl) ?_
  refine lv_imul hx hb dX0_joined_8 ?_
  refine lv_iadd hx hb dX0_joined_9 ?_
  refine lv_iload_n hx hb dX0_joined_10 rfl (lv_at hl 2 rfl) ?_
  refine lv_iadd hx hb dX0_joined_11 ?_
  exact re_si (v := (((65536 * r) + (256 * g)) + b)) hx hb hr hlk rfl dX0_joined_12

set_option maxHeartbeats 4000000 in
set_option maxRecDepth 100000 in
theorem c_X7_red (l : Launch) (x : Int32)  : Met l yX7_red (wz yX7_red cX7_red 1 (some .int)) (rmk 0 0 0 0) (va_Pc [.int x] (fun _ => True)) (qSi (fun zz => zz = pRed x)) 0 0 fr0 := by
  refine en_ofW RX7 rfl (by decide +kernel) (Nat.le_of_ble_eq_true rfl) ?_
  intro p e s m below meth c ls S hr hlk hnm hl hB
  have hx := S.1
  have hb := S.2.1
  have hl : lv_has ls 1 [(0, .int x)] := hl
  refine lv_iload_n hx hb dX7_red_0 rfl (lv_at hl 0 rfl) ?_
  refine lv_ldc (v := 65536) hx hb S.2.2.2.1 (S.2.2.2.2 _ kc_X7_38) dX7_red_1 ?_
  refine lv_idiv hx hb dX7_red_3 (by decide) ?_
  exact re_si (v := (x / 65536)) hx hb hr hlk rfl dX7_red_4

set_option maxHeartbeats 4000000 in
set_option maxRecDepth 100000 in
theorem c_X7_green (l : Launch) (x : Int32)  : Met l yX7_green (wz yX7_green cX7_green 1 (some .int)) (rmk 0 0 0 0) (va_Pc [.int x] (fun _ => True)) (qSi (fun zz => zz = pGreen x)) 0 0 fr0 := by
  refine en_ofW RX7 rfl (by decide +kernel) (Nat.le_of_ble_eq_true rfl) ?_
  intro p e s m below meth c ls S hr hlk hnm hl hB
  have hx := S.1
  have hb := S.2.1
  have hl : lv_has ls 1 [(0, .int x)] := hl
  refine lv_iload_n hx hb dX7_green_0 rfl (lv_at hl 0 rfl) ?_
  refine lv_sipush (v := 256) hx hb dX7_green_1 (by decide) ?_
  refine lv_idiv hx hb dX7_green_4 (by decide) ?_
  refine lv_sipush (v := 256) hx hb dX7_green_5 (by decide) ?_
  refine lv_irem hx hb dX7_green_8 (by decide) ?_
  exact re_si (v := ((x / 256) - (x / 256) / 256 * 256)) hx hb hr hlk rfl dX7_green_9

set_option maxHeartbeats 4000000 in
set_option maxRecDepth 100000 in
theorem c_X7_blue (l : Launch) (x : Int32)  : Met l yX7_blue (wz yX7_blue cX7_blue 1 (some .int)) (rmk 0 0 0 0) (va_Pc [.int x] (fun _ => True)) (qSi (fun zz => zz = pBlue x)) 0 0 fr0 := by
  refine en_ofW RX7 rfl (by decide +kernel) (Nat.le_of_ble_eq_true rfl) ?_
  intro p e s m below meth c ls S hr hlk hnm hl hB
  have hx := S.1
  have hb := S.2.1
  have hl : lv_has ls 1 [(0, .int x)] := hl
  refine lv_iload_n hx hb dX7_blue_0 rfl (lv_at hl 0 rfl) ?_
  refine lv_sipush (v := 256) hx hb dX7_blue_1 (by decide) ?_
  refine lv_irem hx hb dX7_blue_4 (by decide) ?_
  exact re_si (v := (x - x / 256 * 256)) hx hb hr hlk rfl dX7_blue_5

set_option maxHeartbeats 4000000 in
set_option maxRecDepth 100000 in
theorem c_X7_mixed (l : Launch) (r g b : Int32)  : Met l yX7_mixed (wz yX7_mixed cX7_mixed 3 (some .int)) (rmk 0 0 0 0) (va_Pc [.int r, .int g, .int b] (fun _ => True)) (qSi (fun zz => zz = pMix r g b)) 0 0 fr0 := by
  refine en_ofW RX7 rfl (by decide +kernel) (Nat.le_of_ble_eq_true rfl) ?_
  intro p e s m below meth c ls S hr hlk hnm hl hB
  have hx := S.1
  have hb := S.2.1
  have hl : lv_has ls 3 [(0, .int r), (1, .int g), (2, .int b)] := hl
  refine lv_ldc (v := 65536) hx hb S.2.2.2.1 (S.2.2.2.2 _ kc_X7_38) dX7_mixed_0 ?_
  refine lv_iload_n hx hb dX7_mixed_2 rfl (lv_at hl 0 rfl) ?_
  refine lv_imul hx hb dX7_mixed_3 ?_
  refine lv_sipush (v := 256) hx hb dX7_mixed_4 (by decide) ?_
  refine lv_iload_n hx hb dX7_mixed_7 rfl (lv_at hl 1 rfl) ?_
  refine lv_imul hx hb dX7_mixed_8 ?_
  refine lv_iadd hx hb dX7_mixed_9 ?_
  refine lv_iload_n hx hb dX7_mixed_10 rfl (lv_at hl 2 rfl) ?_
  refine lv_iadd hx hb dX7_mixed_11 ?_
  exact re_si (v := (((65536 * r) + (256 * g)) + b)) hx hb hr hlk rfl dX7_mixed_12

set_option maxHeartbeats 4000000 in
set_option maxRecDepth 100000 in
theorem c_X0_luminanceOf (l : Launch) (x : Int32)  : Met l yX0_luminanceOf (wz yX0_luminanceOf cX0_luminanceOf 4 (some .int)) (rmk 1 0 0 20) (va_Pc [.int x] (fun _ => True)) (qSi (fun zz => zz = pBri x)) 0 0 fr0 := by
  refine en_ofW RX0 rfl (by decide +kernel) (Nat.le_of_ble_eq_true rfl) ?_
  intro p e s m below meth c ls S hr hlk hnm hl hB
  have hx := S.1
  have hb := S.2.1
  have hl : lv_has ls 4 [(0, .int x)] := hl
  refine lv_iload_n hx hb dX0_luminanceOf_0 rfl (lv_at hl 0 rfl) ?_
  refine cn_si (ck_S S lk_X0_10 (c_X0_red l x) ⟨rfl, rfl⟩ ⟨Nat.le_of_ble_eq_true rfl, Nat.le_of_ble_eq_true rfl⟩ bl_T t_U rfl hl.1 (Nat.le_of_ble_eq_true rfl) ⟨Nat.le_refl _, Nat.le_refl _⟩ dX0_luminanceOf_1 rfl) (fun r1 g2 => ?_)
  obtain rfl : r1 = pRed x := g2
  refine lv_istore_n (lv' := [(1, .int (pRed x)), (0, .int x)]) hx hb dX0_luminanceOf_4 rfl hl (by decide) rfl (fun ls hl => ?_)
  refine lv_iload_n hx hb dX0_luminanceOf_5 rfl (lv_at hl 1 rfl) ?_
  refine cn_si (ck_S S lk_X0_16 (c_X0_green l x) ⟨rfl, rfl⟩ ⟨Nat.le_of_ble_eq_true rfl, Nat.le_of_ble_eq_true rfl⟩ bl_T t_U rfl hl.1 (Nat.le_of_ble_eq_true rfl) ⟨Nat.le_refl _, Nat.le_refl _⟩ dX0_luminanceOf_6 rfl) (fun r3 g4 => ?_)
  obtain rfl : r3 = pGreen x := g4
  refine lv_istore_n (lv' := [(2, .int (pGreen x)), (1, .int (pRed x)), (0, .int x)]) hx hb dX0_luminanceOf_9 rfl hl (by decide) rfl (fun ls hl => ?_)
  refine lv_iload_n hx hb dX0_luminanceOf_10 rfl (lv_at hl 2 rfl) ?_
  refine cn_si (ck_S S lk_X0_19 (c_X0_blue l x) ⟨rfl, rfl⟩ ⟨Nat.le_of_ble_eq_true rfl, Nat.le_of_ble_eq_true rfl⟩ bl_T t_U rfl hl.1 (Nat.le_of_ble_eq_true rfl) ⟨Nat.le_refl _, Nat.le_refl _⟩ dX0_luminanceOf_11 rfl) (fun r5 g6 => ?_)
  obtain rfl : r5 = pBlue x := g6
  refine lv_istore_n (lv' := [(3, .int (pBlue x)), (2, .int (pGreen x)), (1, .int (pRed x)), (0, .int x)]) hx hb dX0_luminanceOf_14 rfl hl (by decide) rfl (fun ls hl => ?_)
  refine lv_sipush (v := 2126) hx hb dX0_luminanceOf_15 (by decide) ?_
  refine lv_iload_n hx hb dX0_luminanceOf_18 rfl (lv_at hl 2 rfl) ?_
  refine lv_imul hx hb dX0_luminanceOf_19 ?_
  refine lv_iload_n hx hb dX0_luminanceOf_20 rfl (lv_at hl 2 rfl) ?_
  refine lv_imul hx hb dX0_luminanceOf_21 ?_
  refine lv_sipush (v := 7152) hx hb dX0_luminanceOf_22 (by decide) ?_
  refine lv_iload_n hx hb dX0_luminanceOf_25 rfl (lv_at hl 1 rfl) ?_
  refine lv_imul hx hb dX0_luminanceOf_26 ?_
  refine lv_iload_n hx hb dX0_luminanceOf_27 rfl (lv_at hl 1 rfl) ?_
  refine lv_imul hx hb dX0_luminanceOf_28 ?_
  refine lv_iadd hx hb dX0_luminanceOf_29 ?_
  refine lv_sipush (v := 722) hx hb dX0_luminanceOf_30 (by decide) ?_
  refine lv_iload_n hx hb dX0_luminanceOf_33 rfl (lv_at hl 0 rfl) ?_
  refine lv_imul hx hb dX0_luminanceOf_34 ?_
  refine lv_iload_n hx hb dX0_luminanceOf_35 rfl (lv_at hl 0 rfl) ?_
  refine lv_imul hx hb dX0_luminanceOf_36 ?_
  refine lv_iadd hx hb dX0_luminanceOf_37 ?_
  refine lv_sipush (v := 10000) hx hb dX0_luminanceOf_38 (by decide) ?_
  refine lv_idiv hx hb dX0_luminanceOf_41 (by decide) ?_
  exact re_si (v := (((((2126 * (pRed x)) * (pRed x)) + ((7152 * (pGreen x)) * (pGreen x))) + ((722 * (pBlue x)) * (pBlue x))) / 10000)) hx hb hr hlk rfl dX0_luminanceOf_42

set_option maxHeartbeats 4000000 in
set_option maxRecDepth 100000 in
theorem c_X7_bright (l : Launch) (x : Int32)  : Met l yX7_bright (wz yX7_bright cX7_bright 1 (some .int)) (rmk 1 0 0 20) (va_Pc [.int x] (fun _ => True)) (qSi (fun zz => zz = pBri x)) 0 0 fr0 := by
  refine en_ofW RX7 rfl (by decide +kernel) (Nat.le_of_ble_eq_true rfl) ?_
  intro p e s m below meth c ls S hr hlk hnm hl hB
  have hx := S.1
  have hb := S.2.1
  have hl : lv_has ls 1 [(0, .int x)] := hl
  refine lv_sipush (v := 2126) hx hb dX7_bright_0 (by decide) ?_
  refine lv_iload_n hx hb dX7_bright_3 rfl (lv_at hl 0 rfl) ?_
  refine cn_si (ck_S S lk_X7_176 (c_X7_red l x) ⟨rfl, rfl⟩ ⟨Nat.le_of_ble_eq_true rfl, Nat.le_of_ble_eq_true rfl⟩ bl_T t_U rfl hl.1 (Nat.le_of_ble_eq_true rfl) ⟨Nat.le_refl _, Nat.le_refl _⟩ dX7_bright_4 rfl) (fun r1 g2 => ?_)
  obtain rfl : r1 = pRed x := g2
  refine lv_imul hx hb dX7_bright_7 ?_
  refine lv_iload_n hx hb dX7_bright_8 rfl (lv_at hl 0 rfl) ?_
  refine cn_si (ck_S S lk_X7_176 (c_X7_red l x) ⟨rfl, rfl⟩ ⟨Nat.le_of_ble_eq_true rfl, Nat.le_of_ble_eq_true rfl⟩ bl_T t_U rfl hl.1 (Nat.le_of_ble_eq_true rfl) ⟨Nat.le_refl _, Nat.le_refl _⟩ dX7_bright_9 rfl) (fun r3 g4 => ?_)
  obtain rfl : r3 = pRed x := g4
  refine lv_imul hx hb dX7_bright_12 ?_
  refine lv_sipush (v := 7152) hx hb dX7_bright_13 (by decide) ?_
  refine lv_iload_n hx hb dX7_bright_16 rfl (lv_at hl 0 rfl) ?_
  refine cn_si (ck_S S lk_X7_179 (c_X7_green l x) ⟨rfl, rfl⟩ ⟨Nat.le_of_ble_eq_true rfl, Nat.le_of_ble_eq_true rfl⟩ bl_T t_U rfl hl.1 (Nat.le_of_ble_eq_true rfl) ⟨Nat.le_refl _, Nat.le_refl _⟩ dX7_bright_17 rfl) (fun r5 g6 => ?_)
  obtain rfl : r5 = pGreen x := g6
  refine lv_imul hx hb dX7_bright_20 ?_
  refine lv_iload_n hx hb dX7_bright_21 rfl (lv_at hl 0 rfl) ?_
  refine cn_si (ck_S S lk_X7_179 (c_X7_green l x) ⟨rfl, rfl⟩ ⟨Nat.le_of_ble_eq_true rfl, Nat.le_of_ble_eq_true rfl⟩ bl_T t_U rfl hl.1 (Nat.le_of_ble_eq_true rfl) ⟨Nat.le_refl _, Nat.le_refl _⟩ dX7_bright_22 rfl) (fun r7 g8 => ?_)
  obtain rfl : r7 = pGreen x := g8
  refine lv_imul hx hb dX7_bright_25 ?_
  refine lv_iadd hx hb dX7_bright_26 ?_
  refine lv_sipush (v := 722) hx hb dX7_bright_27 (by decide) ?_
  refine lv_iload_n hx hb dX7_bright_30 rfl (lv_at hl 0 rfl) ?_
  refine cn_si (ck_S S lk_X7_182 (c_X7_blue l x) ⟨rfl, rfl⟩ ⟨Nat.le_of_ble_eq_true rfl, Nat.le_of_ble_eq_true rfl⟩ bl_T t_U rfl hl.1 (Nat.le_of_ble_eq_true rfl) ⟨Nat.le_refl _, Nat.le_refl _⟩ dX7_bright_31 rfl) (fun r9 g10 => ?_)
  obtain rfl : r9 = pBlue x := g10
  refine lv_imul hx hb dX7_bright_34 ?_
  refine lv_iload_n hx hb dX7_bright_35 rfl (lv_at hl 0 rfl) ?_
  refine cn_si (ck_S S lk_X7_182 (c_X7_blue l x) ⟨rfl, rfl⟩ ⟨Nat.le_of_ble_eq_true rfl, Nat.le_of_ble_eq_true rfl⟩ bl_T t_U rfl hl.1 (Nat.le_of_ble_eq_true rfl) ⟨Nat.le_refl _, Nat.le_refl _⟩ dX7_bright_36 rfl) (fun r11 g12 => ?_)
  obtain rfl : r11 = pBlue x := g12
  refine lv_imul hx hb dX7_bright_39 ?_
  refine lv_iadd hx hb dX7_bright_40 ?_
  refine lv_sipush (v := 10000) hx hb dX7_bright_41 (by decide) ?_
  refine lv_idiv hx hb dX7_bright_44 (by decide) ?_
  exact re_si (v := (((((2126 * (pRed x)) * (pRed x)) + ((7152 * (pGreen x)) * (pGreen x))) + ((722 * (pBlue x)) * (pBlue x))) / 10000)) hx hb hr hlk rfl dX7_bright_45

set_option maxHeartbeats 4000000 in
set_option maxRecDepth 100000 in
theorem c_X6_limited (l : Launch) (v lo hi : Int32)  : Met l yX6_limited (wz yX6_limited cX6_limited 3 (some .int)) (rmk 0 0 0 0) (va_Pc [.int v, .int lo, .int hi] (fun _ => True)) (qSi (fun zz => zz = pLim v lo hi)) 0 0 fr0 := by
  refine en_ofW RX6 rfl (by decide +kernel) (Nat.le_of_ble_eq_true rfl) ?_
  intro p e s m below meth c ls S hr hlk hnm hl hB
  have hx := S.1
  have hb := S.2.1
  have hl : lv_has ls 3 [(0, .int v), (1, .int lo), (2, .int hi)] := hl
  refine lv_iload_n hx hb dX6_limited_0 rfl (lv_at hl 0 rfl) ?_
  refine lv_iload_n hx hb dX6_limited_1 rfl (lv_at hl 1 rfl) ?_
  refine lv_icmp_ge (tgt := 9) hx hb dX6_limited_2 (by decide) (fun h2 => ?_) (fun h2 => ?_)
  · refine lv_iload_n hx hb dX6_limited_9 rfl (lv_at hl 0 rfl) ?_
    refine lv_iload_n hx hb dX6_limited_10 rfl (lv_at hl 2 rfl) ?_
    refine lv_icmp_le (tgt := 18) hx hb dX6_limited_11 (by decide) (fun h11 => ?_) (fun h11 => ?_)
    · refine lv_iload_n hx hb dX6_limited_18 rfl (lv_at hl 0 rfl) ?_
      exact re_si (v := v) hx hb hr hlk (by simp [pLim, h2, (n_lt h2), h11, (n_lt h11)]) dX6_limited_19
    · refine lv_iload_n hx hb dX6_limited_14 rfl (lv_at hl 2 rfl) ?_
      refine lv_goto (tgt := 19) hx hb dX6_limited_15 (by decide) ?_
      exact re_si (v := hi) hx hb hr hlk (by simp [pLim, h2, (n_lt h2), h11, (l_lt h11)]) dX6_limited_19
  · refine lv_iload_n hx hb dX6_limited_5 rfl (lv_at hl 1 rfl) ?_
    refine lv_goto (tgt := 19) hx hb dX6_limited_6 (by decide) ?_
    exact re_si (v := lo) hx hb hr hlk (by simp [pLim, h2, (l_lt h2)]) dX6_limited_19

set_option maxHeartbeats 4000000 in
set_option maxRecDepth 100000 in
theorem c_X7_in (l : Launch) (v lo hi : Int32)  : Met l yX7_in (wz yX7_in cX7_in 3 (some .boolean)) (rmk 0 0 0 0) (va_Pc [.int v, .int lo, .int hi] (fun _ => True)) (qSi (fun zz => zz = rIn v lo hi)) 0 0 fr0 := by
  refine en_ofW RX7 rfl (by decide +kernel) (Nat.le_of_ble_eq_true rfl) ?_
  intro p e s m below meth c ls S hr hlk hnm hl hB
  have hx := S.1
  have hb := S.2.1
  have hl : lv_has ls 3 [(0, .int v), (1, .int lo), (2, .int hi)] := hl
  refine lv_iload_n hx hb dX7_in_0 rfl (lv_at hl 0 rfl) ?_
  refine lv_iload_n hx hb dX7_in_1 rfl (lv_at hl 1 rfl) ?_
  refine lv_icmp_lt (tgt := 14) hx hb dX7_in_2 (by decide) (fun h2 => ?_) (fun h2 => ?_)
  · refine lv_iconst (v := 0) hx hb dX7_in_14 (by decide) ?_
    exact re_sz (v := 0) hx hb hr hlk rfl (by simp [rIn, h2, (n_le h2)]) dX7_in_15
  · refine lv_iload_n hx hb dX7_in_5 rfl (lv_at hl 0 rfl) ?_
    refine lv_iload_n hx hb dX7_in_6 rfl (lv_at hl 2 rfl) ?_
    refine lv_icmp_gt (tgt := 14) hx hb dX7_in_7 (by decide) (fun h7 => ?_) (fun h7 => ?_)
    · refine lv_iconst (v := 0) hx hb dX7_in_14 (by decide) ?_
      exact re_sz (v := 0) hx hb hr hlk rfl (by simp [rIn, h2, (l_le h2), h7, (n_le h7)]) dX7_in_15
    · refine lv_iconst (v := 1) hx hb dX7_in_10 (by decide) ?_
      refine lv_goto (tgt := 15) hx hb dX7_in_11 (by decide) ?_
      exact re_sz (v := 1) hx hb hr hlk rfl (by simp [rIn, h2, (l_le h2), h7, (l_le h7)]) dX7_in_15

set_option maxHeartbeats 4000000 in
set_option maxRecDepth 100000 in
theorem c_X7_min (l : Launch) (x y : Int32)  : Met l yX7_min (wz yX7_min cX7_min 2 (some .int)) (rmk 0 0 0 0) (va_Pc [.int x, .int y] (fun _ => True)) (qSi (fun zz => zz = rMin x y)) 0 0 fr0 := by
  refine en_ofW RX7 rfl (by decide +kernel) (Nat.le_of_ble_eq_true rfl) ?_
  intro p e s m below meth c ls S hr hlk hnm hl hB
  have hx := S.1
  have hb := S.2.1
  have hl : lv_has ls 2 [(0, .int x), (1, .int y)] := hl
  refine lv_iload_n hx hb dX7_min_0 rfl (lv_at hl 0 rfl) ?_
  refine lv_iload_n hx hb dX7_min_1 rfl (lv_at hl 1 rfl) ?_
  refine lv_icmp_ge (tgt := 9) hx hb dX7_min_2 (by decide) (fun h2 => ?_) (fun h2 => ?_)
  · refine lv_iload_n hx hb dX7_min_9 rfl (lv_at hl 1 rfl) ?_
    exact re_si (v := y) hx hb hr hlk (by simp [rMin, h2, (n_lt h2)]) dX7_min_10
  · refine lv_iload_n hx hb dX7_min_5 rfl (lv_at hl 0 rfl) ?_
    refine lv_goto (tgt := 10) hx hb dX7_min_6 (by decide) ?_
    exact re_si (v := x) hx hb hr hlk (by simp [rMin, h2, (l_lt h2)]) dX7_min_10

set_option maxHeartbeats 4000000 in
set_option maxRecDepth 100000 in
theorem c_X7_max (l : Launch) (x y : Int32)  : Met l yX7_max (wz yX7_max cX7_max 2 (some .int)) (rmk 0 0 0 0) (va_Pc [.int x, .int y] (fun _ => True)) (qSi (fun zz => zz = rMax x y)) 0 0 fr0 := by
  refine en_ofW RX7 rfl (by decide +kernel) (Nat.le_of_ble_eq_true rfl) ?_
  intro p e s m below meth c ls S hr hlk hnm hl hB
  have hx := S.1
  have hb := S.2.1
  have hl : lv_has ls 2 [(0, .int x), (1, .int y)] := hl
  refine lv_iload_n hx hb dX7_max_0 rfl (lv_at hl 0 rfl) ?_
  refine lv_iload_n hx hb dX7_max_1 rfl (lv_at hl 1 rfl) ?_
  refine lv_icmp_le (tgt := 9) hx hb dX7_max_2 (by decide) (fun h2 => ?_) (fun h2 => ?_)
  · refine lv_iload_n hx hb dX7_max_9 rfl (lv_at hl 1 rfl) ?_
    exact re_si (v := y) hx hb hr hlk (by simp [rMax, h2, (n_lt h2)]) dX7_max_10
  · refine lv_iload_n hx hb dX7_max_5 rfl (lv_at hl 0 rfl) ?_
    refine lv_goto (tgt := 10) hx hb dX7_max_6 (by decide) ?_
    exact re_si (v := x) hx hb hr hlk (by simp [rMax, h2, (l_lt h2)]) dX7_max_10

set_option maxHeartbeats 4000000 in
set_option maxRecDepth 100000 in
theorem c_X7_role (l : Launch) (x : Int32)  : Met l yX7_role (wz yX7_role cX7_role 1 (some .int)) (rmk 0 0 0 0) (va_Pc [.int x] (fun _ => True)) (qSi (fun zz => zz = 4 + 3 * x)) 0 0 fr0 := by
  refine en_ofW RX7 rfl (by decide +kernel) (Nat.le_of_ble_eq_true rfl) ?_
  intro p e s m below meth c ls S hr hlk hnm hl hB
  have hx := S.1
  have hb := S.2.1
  have hl : lv_has ls 1 [(0, .int x)] := hl
  refine lv_iconst (v := 4) hx hb dX7_role_0 (by decide) ?_
  refine lv_iconst (v := 3) hx hb dX7_role_1 (by decide) ?_
  refine lv_iload_n hx hb dX7_role_2 rfl (lv_at hl 0 rfl) ?_
  refine lv_imul hx hb dX7_role_3 ?_
  refine lv_iadd hx hb dX7_role_4 ?_
  exact re_si (v := (4 + (3 * x))) hx hb hr hlk rfl dX7_role_5

set_option maxHeartbeats 4000000 in
set_option maxRecDepth 100000 in
theorem c_X7_rule (l : Launch) (x : Int32)  : Met l yX7_rule (wz yX7_rule cX7_rule 1 (some .int)) (rmk 0 0 0 0) (va_Pc [.int x] (fun _ => True)) (qSi (fun zz => zz = 34 + 4 * x)) 0 0 fr0 := by
  refine en_ofW RX7 rfl (by decide +kernel) (Nat.le_of_ble_eq_true rfl) ?_
  intro p e s m below meth c ls S hr hlk hnm hl hB
  have hx := S.1
  have hb := S.2.1
  have hl : lv_has ls 1 [(0, .int x)] := hl
  refine lv_bipush (v := 34) hx hb dX7_rule_0 (by decide) ?_
  refine lv_iconst (v := 4) hx hb dX7_rule_2 (by decide) ?_
  refine lv_iload_n hx hb dX7_rule_3 rfl (lv_at hl 0 rfl) ?_
  refine lv_imul hx hb dX7_rule_4 ?_
  refine lv_iadd hx hb dX7_rule_5 ?_
  exact re_si (v := (34 + (4 * x))) hx hb hr hlk rfl dX7_rule_6

set_option maxHeartbeats 4000000 in
set_option maxRecDepth 100000 in
theorem c_X7_held (l : Launch) (v : Int32)  : Met l yX7_held (wz yX7_held cX7_held 1 (some .int)) (rmk 1 0 0 21) (va_Pc [.int v] (fun _ => True)) (qSi (fun zz => zz = pHeld v)) 0 0 fr0 := by
  refine en_ofW RX7 rfl (by decide +kernel) (Nat.le_of_ble_eq_true rfl) ?_
  intro p e s m below meth c ls S hr hlk hnm hl hB
  have hx := S.1
  have hb := S.2.1
  have hl : lv_has ls 1 [(0, .int v)] := hl
  refine lv_iconst (v := 0) hx hb dX7_held_0 (by decide) ?_
  refine lv_sipush (v := 255) hx hb dX7_held_1 (by decide) ?_
  refine lv_iload_n hx hb dX7_held_4 rfl (lv_at hl 0 rfl) ?_
  refine cn_si (ck_S S lk_X7_91 (c_X7_min l 255 v) ⟨rfl, rfl⟩ ⟨Nat.le_of_ble_eq_true rfl, Nat.le_of_ble_eq_true rfl⟩ bl_T t_U rfl hl.1 (Nat.le_of_ble_eq_true rfl) ⟨Nat.le_refl _, Nat.le_refl _⟩ dX7_held_5 rfl) (fun r1 g2 => ?_)
  obtain rfl : r1 = rMin 255 v := g2
  refine cn_si (ck_S S lk_X7_188 (c_X7_max l 0 (rMin 255 v)) ⟨rfl, rfl⟩ ⟨Nat.le_of_ble_eq_true rfl, Nat.le_of_ble_eq_true rfl⟩ bl_T t_U rfl hl.1 (Nat.le_of_ble_eq_true rfl) ⟨Nat.le_refl _, Nat.le_refl _⟩ dX7_held_8 rfl) (fun r3 g4 => ?_)
  obtain rfl : r3 = rMax 0 (rMin 255 v) := g4
  exact re_si (v := (rMax 0 (rMin 255 v))) hx hb hr hlk rfl dX7_held_11

set_option maxHeartbeats 4000000 in
set_option maxRecDepth 100000 in
theorem c_X7_channel (l : Launch) (f g h c0 : Int32)  : Met l yX7_channel (wz yX7_channel cX7_channel 4 (some .int)) (rmk 2 0 0 41) (va_Pc [.int f, .int g, .int h, .int c0] (fun _ => True)) (qSi (fun zz => zz = rCh f g h c0)) 0 0 fr0 := by
  refine en_ofW RX7 rfl (by decide +kernel) (Nat.le_of_ble_eq_true rfl) ?_
  intro p e s m below meth c ls S hr hlk hnm hl hB
  have hx := S.1
  have hb := S.2.1
  have hl : lv_has ls 4 [(0, .int f), (1, .int g), (2, .int h), (3, .int c0)] := hl
  refine lv_iload_n hx hb dX7_channel_0 rfl (lv_at hl 0 rfl) ?_
  refine lv_iload_n hx hb dX7_channel_1 rfl (lv_at hl 3 rfl) ?_
  refine cn_si (ck_S S lk_X7_176 (c_X7_red l c0) ⟨rfl, rfl⟩ ⟨Nat.le_of_ble_eq_true rfl, Nat.le_of_ble_eq_true rfl⟩ bl_T t_U rfl hl.1 (Nat.le_of_ble_eq_true rfl) ⟨Nat.le_refl _, Nat.le_refl _⟩ dX7_channel_2 rfl) (fun r1 g2 => ?_)
  obtain rfl : r1 = pRed c0 := g2
  refine lv_imul hx hb dX7_channel_5 ?_
  refine lv_iload_n hx hb dX7_channel_6 rfl (lv_at hl 1 rfl) ?_
  refine lv_iload_n hx hb dX7_channel_7 rfl (lv_at hl 3 rfl) ?_
  refine cn_si (ck_S S lk_X7_179 (c_X7_green l c0) ⟨rfl, rfl⟩ ⟨Nat.le_of_ble_eq_true rfl, Nat.le_of_ble_eq_true rfl⟩ bl_T t_U rfl hl.1 (Nat.le_of_ble_eq_true rfl) ⟨Nat.le_refl _, Nat.le_refl _⟩ dX7_channel_8 rfl) (fun r3 g4 => ?_)
  obtain rfl : r3 = pGreen c0 := g4
  refine lv_imul hx hb dX7_channel_11 ?_
  refine lv_iadd hx hb dX7_channel_12 ?_
  refine lv_iload_n hx hb dX7_channel_13 rfl (lv_at hl 2 rfl) ?_
  refine lv_iload_n hx hb dX7_channel_14 rfl (lv_at hl 3 rfl) ?_
  refine cn_si (ck_S S lk_X7_182 (c_X7_blue l c0) ⟨rfl, rfl⟩ ⟨Nat.le_of_ble_eq_true rfl, Nat.le_of_ble_eq_true rfl⟩ bl_T t_U rfl hl.1 (Nat.le_of_ble_eq_true rfl) ⟨Nat.le_refl _, Nat.le_refl _⟩ dX7_channel_15 rfl) (fun r5 g6 => ?_)
  obtain rfl : r5 = pBlue c0 := g6
  refine lv_imul hx hb dX7_channel_18 ?_
  refine lv_iadd hx hb dX7_channel_19 ?_
  refine lv_sipush (v := 1000) hx hb dX7_channel_20 (by decide) ?_
  refine lv_idiv hx hb dX7_channel_23 (by decide) ?_
  refine cn_si (ck_S S lk_X7_191 (c_X7_held l ((((f * (pRed c0)) + (g * (pGreen c0))) + (h * (pBlue c0))) / 1000)) ⟨rfl, rfl⟩ ⟨Nat.le_of_ble_eq_true rfl, Nat.le_of_ble_eq_true rfl⟩ bl_T t_U rfl hl.1 (Nat.le_of_ble_eq_true rfl) ⟨Nat.le_refl _, Nat.le_refl _⟩ dX7_channel_24 rfl) (fun r7 g8 => ?_)
  obtain rfl : r7 = pHeld ((((f * (pRed c0)) + (g * (pGreen c0))) + (h * (pBlue c0))) / 1000) := g8
  exact re_si (v := (pHeld ((((f * (pRed c0)) + (g * (pGreen c0))) + (h * (pBlue c0))) / 1000))) hx hb hr hlk rfl dX7_channel_27

set_option maxHeartbeats 4000000 in
set_option maxRecDepth 100000 in
theorem c_X7_apart (l : Launch) (x y : Int32)  : Met l yX7_apart (wz yX7_apart cX7_apart 2 (some .int)) (rmk 0 0 0 0) (va_Pc [.int x, .int y] (fun _ => True)) (qSi (fun zz => zz = rApart x y)) 0 0 fr0 := by
  refine en_ofW RX7 rfl (by decide +kernel) (Nat.le_of_ble_eq_true rfl) ?_
  intro p e s m below meth c ls S hr hlk hnm hl hB
  have hx := S.1
  have hb := S.2.1
  have hl : lv_has ls 2 [(0, .int x), (1, .int y)] := hl
  refine lv_iload_n hx hb dX7_apart_0 rfl (lv_at hl 0 rfl) ?_
  refine lv_iload_n hx hb dX7_apart_1 rfl (lv_at hl 1 rfl) ?_
  refine lv_icmp_le (tgt := 11) hx hb dX7_apart_2 (by decide) (fun h2 => ?_) (fun h2 => ?_)
  · refine lv_iload_n hx hb dX7_apart_11 rfl (lv_at hl 1 rfl) ?_
    refine lv_iload_n hx hb dX7_apart_12 rfl (lv_at hl 0 rfl) ?_
    refine lv_isub hx hb dX7_apart_13 ?_
    exact re_si (v := (y - x)) hx hb hr hlk (by simp [rApart, h2, (n_lt h2)]) dX7_apart_14
  · refine lv_iload_n hx hb dX7_apart_5 rfl (lv_at hl 0 rfl) ?_
    refine lv_iload_n hx hb dX7_apart_6 rfl (lv_at hl 1 rfl) ?_
    refine lv_isub hx hb dX7_apart_7 ?_
    refine lv_goto (tgt := 14) hx hb dX7_apart_8 (by decide) ?_
    exact re_si (v := (x - y)) hx hb hr hlk (by simp [rApart, h2, (l_lt h2)]) dX7_apart_14

set_option maxHeartbeats 4000000 in
set_option maxRecDepth 100000 in
theorem c_X7_differenceOf (l : Launch) (x y : Int32)  : Met l yX7_differenceOf (wz yX7_differenceOf cX7_differenceOf 2 (some .int)) (rmk 1 0 0 21) (va_Pc [.int x, .int y] (fun _ => True)) (qSi (fun zz => zz = rDif x y)) 0 0 fr0 := by
  refine en_ofW RX7 rfl (by decide +kernel) (Nat.le_of_ble_eq_true rfl) ?_
  intro p e s m below meth c ls S hr hlk hnm hl hB
  have hx := S.1
  have hb := S.2.1
  have hl : lv_has ls 2 [(0, .int x), (1, .int y)] := hl
  refine lv_iconst (v := 3) hx hb dX7_differenceOf_0 (by decide) ?_
  refine lv_iload_n hx hb dX7_differenceOf_1 rfl (lv_at hl 0 rfl) ?_
  refine cn_si (ck_S S lk_X7_176 (c_X7_red l x) ⟨rfl, rfl⟩ ⟨Nat.le_of_ble_eq_true rfl, Nat.le_of_ble_eq_true rfl⟩ bl_T t_U rfl hl.1 (Nat.le_of_ble_eq_true rfl) ⟨Nat.le_refl _, Nat.le_refl _⟩ dX7_differenceOf_2 rfl) (fun r1 g2 => ?_)
  obtain rfl : r1 = pRed x := g2
  refine lv_iload_n hx hb dX7_differenceOf_5 rfl (lv_at hl 1 rfl) ?_
  refine cn_si (ck_S S lk_X7_176 (c_X7_red l y) ⟨rfl, rfl⟩ ⟨Nat.le_of_ble_eq_true rfl, Nat.le_of_ble_eq_true rfl⟩ bl_T t_U rfl hl.1 (Nat.le_of_ble_eq_true rfl) ⟨Nat.le_refl _, Nat.le_refl _⟩ dX7_differenceOf_6 rfl) (fun r3 g4 => ?_)
  obtain rfl : r3 = pRed y := g4
  refine cn_si (ck_S S lk_X7_198 (c_X7_apart l (pRed x) (pRed y)) ⟨rfl, rfl⟩ ⟨Nat.le_of_ble_eq_true rfl, Nat.le_of_ble_eq_true rfl⟩ bl_T t_U rfl hl.1 (Nat.le_of_ble_eq_true rfl) ⟨Nat.le_refl _, Nat.le_refl _⟩ dX7_differenceOf_9 rfl) (fun r5 g6 => ?_)
  obtain rfl : r5 = rApart (pRed x) (pRed y) := g6
  refine lv_imul hx hb dX7_differenceOf_12 ?_
  refine lv_iconst (v := 4) hx hb dX7_differenceOf_13 (by decide) ?_
  refine lv_iload_n hx hb dX7_differenceOf_14 rfl (lv_at hl 0 rfl) ?_
  refine cn_si (ck_S S lk_X7_179 (c_X7_green l x) ⟨rfl, rfl⟩ ⟨Nat.le_of_ble_eq_true rfl, Nat.le_of_ble_eq_true rfl⟩ bl_T t_U rfl hl.1 (Nat.le_of_ble_eq_true rfl) ⟨Nat.le_refl _, Nat.le_refl _⟩ dX7_differenceOf_15 rfl) (fun r7 g8 => ?_)
  obtain rfl : r7 = pGreen x := g8
  refine lv_iload_n hx hb dX7_differenceOf_18 rfl (lv_at hl 1 rfl) ?_
  refine cn_si (ck_S S lk_X7_179 (c_X7_green l y) ⟨rfl, rfl⟩ ⟨Nat.le_of_ble_eq_true rfl, Nat.le_of_ble_eq_true rfl⟩ bl_T t_U rfl hl.1 (Nat.le_of_ble_eq_true rfl) ⟨Nat.le_refl _, Nat.le_refl _⟩ dX7_differenceOf_19 rfl) (fun r9 g10 => ?_)
  obtain rfl : r9 = pGreen y := g10
  refine cn_si (ck_S S lk_X7_198 (c_X7_apart l (pGreen x) (pGreen y)) ⟨rfl, rfl⟩ ⟨Nat.le_of_ble_eq_true rfl, Nat.le_of_ble_eq_true rfl⟩ bl_T t_U rfl hl.1 (Nat.le_of_ble_eq_true rfl) ⟨Nat.le_refl _, Nat.le_refl _⟩ dX7_differenceOf_22 rfl) (fun r11 g12 => ?_)
  obtain rfl : r11 = rApart (pGreen x) (pGreen y) := g12
  refine lv_imul hx hb dX7_differenceOf_25 ?_
  refine lv_iadd hx hb dX7_differenceOf_26 ?_
  refine lv_iconst (v := 2) hx hb dX7_differenceOf_27 (by decide) ?_
  refine lv_iload_n hx hb dX7_differenceOf_28 rfl (lv_at hl 0 rfl) ?_
  refine cn_si (ck_S S lk_X7_182 (c_X7_blue l x) ⟨rfl, rfl⟩ ⟨Nat.le_of_ble_eq_true rfl, Nat.le_of_ble_eq_true rfl⟩ bl_T t_U rfl hl.1 (Nat.le_of_ble_eq_true rfl) ⟨Nat.le_refl _, Nat.le_refl _⟩ dX7_differenceOf_29 rfl) (fun r13 g14 => ?_)
  obtain rfl : r13 = pBlue x := g14
  refine lv_iload_n hx hb dX7_differenceOf_32 rfl (lv_at hl 1 rfl) ?_
  refine cn_si (ck_S S lk_X7_182 (c_X7_blue l y) ⟨rfl, rfl⟩ ⟨Nat.le_of_ble_eq_true rfl, Nat.le_of_ble_eq_true rfl⟩ bl_T t_U rfl hl.1 (Nat.le_of_ble_eq_true rfl) ⟨Nat.le_refl _, Nat.le_refl _⟩ dX7_differenceOf_33 rfl) (fun r15 g16 => ?_)
  obtain rfl : r15 = pBlue y := g16
  refine cn_si (ck_S S lk_X7_198 (c_X7_apart l (pBlue x) (pBlue y)) ⟨rfl, rfl⟩ ⟨Nat.le_of_ble_eq_true rfl, Nat.le_of_ble_eq_true rfl⟩ bl_T t_U rfl hl.1 (Nat.le_of_ble_eq_true rfl) ⟨Nat.le_refl _, Nat.le_refl _⟩ dX7_differenceOf_36 rfl) (fun r17 g18 => ?_)
  obtain rfl : r17 = rApart (pBlue x) (pBlue y) := g18
  refine lv_imul hx hb dX7_differenceOf_39 ?_
  refine lv_iadd hx hb dX7_differenceOf_40 ?_
  exact re_si (v := (((3 * (rApart (pRed x) (pRed y))) + (4 * (rApart (pGreen x) (pGreen y)))) + (2 * (rApart (pBlue x) (pBlue y))))) hx hb hr hlk rfl dX7_differenceOf_41

set_option maxHeartbeats 4000000 in
set_option maxRecDepth 100000 in
theorem c_X7_shifted (l : Launch) (x y : Int32)  : Met l yX7_shifted (wz yX7_shifted cX7_shifted 2 (some .int)) (rmk 2 0 0 41) (va_Pc [.int x, .int y] (fun _ => True)) (qSi (fun zz => zz = rShf x y)) 0 0 fr0 := by
  refine en_ofW RX7 rfl (by decide +kernel) (Nat.le_of_ble_eq_true rfl) ?_
  intro p e s m below meth c ls S hr hlk hnm hl hB
  have hx := S.1
  have hb := S.2.1
  have hl : lv_has ls 2 [(0, .int x), (1, .int y)] := hl
  refine lv_iload_n hx hb dX7_shifted_0 rfl (lv_at hl 0 rfl) ?_
  refine cn_si (ck_S S lk_X7_176 (c_X7_red l x) ⟨rfl, rfl⟩ ⟨Nat.le_of_ble_eq_true rfl, Nat.le_of_ble_eq_true rfl⟩ bl_T t_U rfl hl.1 (Nat.le_of_ble_eq_true rfl) ⟨Nat.le_refl _, Nat.le_refl _⟩ dX7_shifted_1 rfl) (fun r1 g2 => ?_)
  obtain rfl : r1 = pRed x := g2
  refine lv_iload_n hx hb dX7_shifted_4 rfl (lv_at hl 1 rfl) ?_
  refine lv_iadd hx hb dX7_shifted_5 ?_
  refine cn_si (ck_S S lk_X7_191 (c_X7_held l ((pRed x) + y)) ⟨rfl, rfl⟩ ⟨Nat.le_of_ble_eq_true rfl, Nat.le_of_ble_eq_true rfl⟩ bl_T t_U rfl hl.1 (Nat.le_of_ble_eq_true rfl) ⟨Nat.le_refl _, Nat.le_refl _⟩ dX7_shifted_6 rfl) (fun r3 g4 => ?_)
  obtain rfl : r3 = pHeld ((pRed x) + y) := g4
  refine lv_iload_n hx hb dX7_shifted_9 rfl (lv_at hl 0 rfl) ?_
  refine cn_si (ck_S S lk_X7_179 (c_X7_green l x) ⟨rfl, rfl⟩ ⟨Nat.le_of_ble_eq_true rfl, Nat.le_of_ble_eq_true rfl⟩ bl_T t_U rfl hl.1 (Nat.le_of_ble_eq_true rfl) ⟨Nat.le_refl _, Nat.le_refl _⟩ dX7_shifted_10 rfl) (fun r5 g6 => ?_)
  obtain rfl : r5 = pGreen x := g6
  refine lv_iload_n hx hb dX7_shifted_13 rfl (lv_at hl 1 rfl) ?_
  refine lv_iadd hx hb dX7_shifted_14 ?_
  refine cn_si (ck_S S lk_X7_191 (c_X7_held l ((pGreen x) + y)) ⟨rfl, rfl⟩ ⟨Nat.le_of_ble_eq_true rfl, Nat.le_of_ble_eq_true rfl⟩ bl_T t_U rfl hl.1 (Nat.le_of_ble_eq_true rfl) ⟨Nat.le_refl _, Nat.le_refl _⟩ dX7_shifted_15 rfl) (fun r7 g8 => ?_)
  obtain rfl : r7 = pHeld ((pGreen x) + y) := g8
  refine lv_iload_n hx hb dX7_shifted_18 rfl (lv_at hl 0 rfl) ?_
  refine cn_si (ck_S S lk_X7_182 (c_X7_blue l x) ⟨rfl, rfl⟩ ⟨Nat.le_of_ble_eq_true rfl, Nat.le_of_ble_eq_true rfl⟩ bl_T t_U rfl hl.1 (Nat.le_of_ble_eq_true rfl) ⟨Nat.le_refl _, Nat.le_refl _⟩ dX7_shifted_19 rfl) (fun r9 g10 => ?_)
  obtain rfl : r9 = pBlue x := g10
  refine lv_iload_n hx hb dX7_shifted_22 rfl (lv_at hl 1 rfl) ?_
  refine lv_iadd hx hb dX7_shifted_23 ?_
  refine cn_si (ck_S S lk_X7_191 (c_X7_held l ((pBlue x) + y)) ⟨rfl, rfl⟩ ⟨Nat.le_of_ble_eq_true rfl, Nat.le_of_ble_eq_true rfl⟩ bl_T t_U rfl hl.1 (Nat.le_of_ble_eq_true rfl) ⟨Nat.le_refl _, Nat.le_refl _⟩ dX7_shifted_24 rfl) (fun r11 g12 => ?_)
  obtain rfl : r11 = pHeld ((pBlue x) + y) := g12
  refine cn_si (ck_S S lk_X7_128 (c_X7_mixed l (pHeld ((pRed x) + y)) (pHeld ((pGreen x) + y)) (pHeld ((pBlue x) + y))) ⟨rfl, rfl⟩ ⟨Nat.le_of_ble_eq_true rfl, Nat.le_of_ble_eq_true rfl⟩ bl_T t_U rfl hl.1 (Nat.le_of_ble_eq_true rfl) ⟨Nat.le_refl _, Nat.le_refl _⟩ dX7_shifted_27 rfl) (fun r13 g14 => ?_)
  obtain rfl : r13 = pMix (pHeld ((pRed x) + y)) (pHeld ((pGreen x) + y)) (pHeld ((pBlue x) + y)) := g14
  exact re_si (v := (pMix (pHeld ((pRed x) + y)) (pHeld ((pGreen x) + y)) (pHeld ((pBlue x) + y)))) hx hb hr hlk rfl dX7_shifted_30

set_option maxHeartbeats 4000000 in
set_option maxRecDepth 100000 in
theorem c_X7_isDigit (l : Launch) (x : Int32)  : Met l yX7_isDigit (wz yX7_isDigit cX7_isDigit 1 (some .boolean)) (rmk 1 0 0 22) (va_Pc [.int x] (fun _ => True)) (qSi (fun zz => zz = rIn x 48 57)) 0 0 fr0 := by
  refine en_ofW RX7 rfl (by decide +kernel) (Nat.le_of_ble_eq_true rfl) ?_
  intro p e s m below meth c ls S hr hlk hnm hl hB
  have hx := S.1
  have hb := S.2.1
  have hl : lv_has ls 1 [(0, .int x)] := hl
  refine lv_iload_n hx hb dX7_isDigit_0 rfl (lv_at hl 0 rfl) ?_
  refine lv_bipush (v := 48) hx hb dX7_isDigit_1 (by decide) ?_
  refine lv_bipush (v := 57) hx hb dX7_isDigit_3 (by decide) ?_
  refine cn_si (ck_S S lk_X7_58 (c_X7_in l x 48 57) ⟨rfl, rfl⟩ ⟨Nat.le_of_ble_eq_true rfl, Nat.le_of_ble_eq_true rfl⟩ bl_T t_U rfl hl.1 (Nat.le_of_ble_eq_true rfl) ⟨Nat.le_refl _, Nat.le_refl _⟩ dX7_isDigit_5 rfl) (fun r1 g2 => ?_)
  obtain rfl : r1 = rIn x 48 57 := g2
  exact re_sz (v := (rIn x 48 57)) hx hb hr hlk (by unfold rIn; split; rfl; split <;> rfl) rfl dX7_isDigit_8

set_option maxHeartbeats 4000000 in
set_option maxRecDepth 100000 in
theorem c_X0_shifted (l : Launch) (E : En) (x y : Int32)  : Met l yX0_shifted (wz yX0_shifted cX0_shifted 2 (some .int)) (rmk 1 0 0 22) (va_Pc [.int x, .int y] (Bs E)) (qSi (fun zz => zz = cShf x y)) 0 0 fr0 := by
  refine en_ofW RX0 rfl (by decide +kernel) (Nat.le_of_ble_eq_true rfl) ?_
  intro p e s m below meth c ls S hr hlk hnm hl hB
  have hx := S.1
  have hb := S.2.1
  have hC : Stc E s s.heap := hB
  have hl : lv_has ls 2 [(0, .int x), (1, .int y)] := hl
  refine lv_iload_n hx hb dX0_shifted_0 rfl (lv_at hl 0 rfl) ?_
  refine cn_si (ck_S S lk_X0_10 (c_X0_red l x) ⟨rfl, rfl⟩ ⟨Nat.le_of_ble_eq_true rfl, Nat.le_of_ble_eq_true rfl⟩ bl_T t_U rfl hl.1 (Nat.le_of_ble_eq_true rfl) ⟨Nat.le_refl _, Nat.le_refl _⟩ dX0_shifted_1 rfl) (fun r1 g2 => ?_)
  obtain rfl : r1 = pRed x := g2
  refine lv_iload_n hx hb dX0_shifted_4 rfl (lv_at hl 1 rfl) ?_
  refine lv_iadd hx hb dX0_shifted_5 ?_
  refine lv_iconst (v := 0) hx hb dX0_shifted_6 (by decide) ?_
  refine lv_sipush (v := 255) hx hb dX0_shifted_7 (by decide) ?_
  refine cn_si (ck_N S ln_X6_limited hC.1.1.2.2.1 (c_X6_limited l ((pRed x) + y) 0 255) ⟨rfl, rfl⟩ ⟨Nat.le_of_ble_eq_true rfl, Nat.le_of_ble_eq_true rfl⟩ bl_T t_U rfl hl.1 (Nat.le_of_ble_eq_true rfl) ⟨Nat.le_refl _, Nat.le_refl _⟩ dX0_shifted_10 rfl) (fun r3 g4 => ?_)
  obtain rfl : r3 = pLim ((pRed x) + y) 0 255 := g4
  refine lv_iload_n hx hb dX0_shifted_13 rfl (lv_at hl 0 rfl) ?_
  refine cn_si (ck_S S lk_X0_16 (c_X0_green l x) ⟨rfl, rfl⟩ ⟨Nat.le_of_ble_eq_true rfl, Nat.le_of_ble_eq_true rfl⟩ bl_T t_U rfl hl.1 (Nat.le_of_ble_eq_true rfl) ⟨Nat.le_refl _, Nat.le_refl _⟩ dX0_shifted_14 rfl) (fun r5 g6 => ?_)
  obtain rfl : r5 = pGreen x := g6
  refine lv_iload_n hx hb dX0_shifted_17 rfl (lv_at hl 1 rfl) ?_
  refine lv_iadd hx hb dX0_shifted_18 ?_
  refine lv_iconst (v := 0) hx hb dX0_shifted_19 (by decide) ?_
  refine lv_sipush (v := 255) hx hb dX0_shifted_20 (by decide) ?_
  refine cn_si (ck_N S ln_X6_limited hC.1.1.2.2.1 (c_X6_limited l ((pGreen x) + y) 0 255) ⟨rfl, rfl⟩ ⟨Nat.le_of_ble_eq_true rfl, Nat.le_of_ble_eq_true rfl⟩ bl_T t_U rfl hl.1 (Nat.le_of_ble_eq_true rfl) ⟨Nat.le_refl _, Nat.le_refl _⟩ dX0_shifted_23 rfl) (fun r7 g8 => ?_)
  obtain rfl : r7 = pLim ((pGreen x) + y) 0 255 := g8
  refine lv_iload_n hx hb dX0_shifted_26 rfl (lv_at hl 0 rfl) ?_
  refine cn_si (ck_S S lk_X0_19 (c_X0_blue l x) ⟨rfl, rfl⟩ ⟨Nat.le_of_ble_eq_true rfl, Nat.le_of_ble_eq_true rfl⟩ bl_T t_U rfl hl.1 (Nat.le_of_ble_eq_true rfl) ⟨Nat.le_refl _, Nat.le_refl _⟩ dX0_shifted_27 rfl) (fun r9 g10 => ?_)
  obtain rfl : r9 = pBlue x := g10
  refine lv_iload_n hx hb dX0_shifted_30 rfl (lv_at hl 1 rfl) ?_
  refine lv_iadd hx hb dX0_shifted_31 ?_
  refine lv_iconst (v := 0) hx hb dX0_shifted_32 (by decide) ?_
  refine lv_sipush (v := 255) hx hb dX0_shifted_33 (by decide) ?_
  refine cn_si (ck_N S ln_X6_limited hC.1.1.2.2.1 (c_X6_limited l ((pBlue x) + y) 0 255) ⟨rfl, rfl⟩ ⟨Nat.le_of_ble_eq_true rfl, Nat.le_of_ble_eq_true rfl⟩ bl_T t_U rfl hl.1 (Nat.le_of_ble_eq_true rfl) ⟨Nat.le_refl _, Nat.le_refl _⟩ dX0_shifted_36 rfl) (fun r11 g12 => ?_)
  obtain rfl : r11 = pLim ((pBlue x) + y) 0 255 := g12
  refine cn_si (ck_S S lk_X0_37 (c_X0_joined l (pLim ((pRed x) + y) 0 255) (pLim ((pGreen x) + y) 0 255) (pLim ((pBlue x) + y) 0 255)) ⟨rfl, rfl⟩ ⟨Nat.le_of_ble_eq_true rfl, Nat.le_of_ble_eq_true rfl⟩ bl_T t_U rfl hl.1 (Nat.le_of_ble_eq_true rfl) ⟨Nat.le_refl _, Nat.le_refl _⟩ dX0_shifted_39 rfl) (fun r13 g14 => ?_)
  obtain rfl : r13 = pMix (pLim ((pRed x) + y) 0 255) (pLim ((pGreen x) + y) 0 255) (pLim ((pBlue x) + y) 0 255) := g14
  exact re_si (v := (pMix (pLim ((pRed x) + y) 0 255) (pLim ((pGreen x) + y) 0 255) (pLim ((pBlue x) + y) 0 255))) hx hb hr hlk rfl dX0_shifted_42

set_option maxHeartbeats 4000000 in
set_option maxRecDepth 100000 in
theorem c_X0_contrastOf (l : Launch) (x y : Int32)  : Met l yX0_contrastOf (wz yX0_contrastOf cX0_contrastOf 5 (some .int)) (rmk 2 0 0 43) (va_Pc [.int x, .int y] (fun _ => True)) (qSi (fun zz => zz = cCon x y)) 0 0 fr0 := by
  refine en_ofW RX0 rfl (by decide +kernel) (Nat.le_of_ble_eq_true rfl) ?_
  intro p e s m below meth c ls S hr hlk hnm hl hB
  have hx := S.1
  have hb := S.2.1
  have hl : lv_has ls 5 [(0, .int x), (1, .int y)] := hl
  refine lv_iload_n hx hb dX0_contrastOf_0 rfl (lv_at hl 0 rfl) ?_
  refine cn_si (ck_S S lk_X0_22 (c_X0_luminanceOf l x) ⟨rfl, rfl⟩ ⟨Nat.le_of_ble_eq_true rfl, Nat.le_of_ble_eq_true rfl⟩ bl_T t_U rfl hl.1 (Nat.le_of_ble_eq_true rfl) ⟨Nat.le_refl _, Nat.le_refl _⟩ dX0_contrastOf_1 rfl) (fun r1 g2 => ?_)
  obtain rfl : r1 = pBri x := g2
  refine lv_sipush (v := 3251) hx hb dX0_contrastOf_4 (by decide) ?_
  refine lv_iadd hx hb dX0_contrastOf_7 ?_
  refine lv_istore_n (lv' := [(2, .int ((pBri x) + 3251)), (0, .int x), (1, .int y)]) hx hb dX0_contrastOf_8 rfl hl (by decide) rfl (fun ls hl => ?_)
  refine lv_iload_n hx hb dX0_contrastOf_9 rfl (lv_at hl 2 rfl) ?_
  refine cn_si (ck_S S lk_X0_22 (c_X0_luminanceOf l y) ⟨rfl, rfl⟩ ⟨Nat.le_of_ble_eq_true rfl, Nat.le_of_ble_eq_true rfl⟩ bl_T t_U rfl hl.1 (Nat.le_of_ble_eq_true rfl) ⟨Nat.le_refl _, Nat.le_refl _⟩ dX0_contrastOf_10 rfl) (fun r3 g4 => ?_)
  obtain rfl : r3 = pBri y := g4
  refine lv_sipush (v := 3251) hx hb dX0_contrastOf_13 (by decide) ?_
  refine lv_iadd hx hb dX0_contrastOf_16 ?_
  refine lv_istore_n (lv' := [(3, .int ((pBri y) + 3251)), (2, .int ((pBri x) + 3251)), (0, .int x), (1, .int y)]) hx hb dX0_contrastOf_17 rfl hl (by decide) rfl (fun ls hl => ?_)
  refine lv_iload_n hx hb dX0_contrastOf_18 rfl (lv_at hl 1 rfl) ?_
  refine lv_iload_n hx hb dX0_contrastOf_19 rfl (lv_at hl 0 rfl) ?_
  refine va_mmin hx hb (S.2.2.1.trans hl.1.symm) S.2.2.2.1 (S.2.2.2.2 _ km_X0_25) (S.2.2.2.2 _ ms_min) (S.2.2.2.2 _ mi_Math) (S.2.2.2.2 _ mc_min) (Nat.le_of_ble_eq_true rfl) (Nat.le_of_ble_eq_true rfl) (Nat.zero_le _) (Nat.zero_le _) dX0_contrastOf_20 ?_
  refine W.eq (g2 := F0 m 23 ls [.int (iMin ((pBri x) + 3251) ((pBri y) + 3251))]) rfl ?_
  refine lv_istore (lv' := [(4, .int (iMin ((pBri x) + 3251) ((pBri y) + 3251))), (3, .int ((pBri y) + 3251)), (2, .int ((pBri x) + 3251)), (0, .int x), (1, .int y)]) hx hb dX0_contrastOf_23 hl (by decide) rfl (fun ls hl => ?_)
  refine lv_iload hx hb dX0_contrastOf_25 (lv_at hl 0 rfl) ?_
  refine lv_if_gt (tgt := 34) hx hb dX0_contrastOf_27 (by decide) (fun h27 => ?_) (fun h27 => ?_)
  · refine lv_bipush (v := 100) hx hb dX0_contrastOf_34 (by decide) ?_
    refine lv_iload_n hx hb dX0_contrastOf_36 rfl (lv_at hl 2 rfl) ?_
    refine lv_iload_n hx hb dX0_contrastOf_37 rfl (lv_at hl 1 rfl) ?_
    refine va_mmax hx hb (S.2.2.1.trans hl.1.symm) S.2.2.2.1 (S.2.2.2.2 _ km_X0_31) (S.2.2.2.2 _ ms_max) (S.2.2.2.2 _ mi_Math) (S.2.2.2.2 _ mc_max) (Nat.le_of_ble_eq_true rfl) (Nat.le_of_ble_eq_true rfl) (Nat.zero_le _) (Nat.zero_le _) dX0_contrastOf_38 ?_
    refine W.eq (g2 := F0 m 41 ls [.int (iMax ((pBri x) + 3251) ((pBri y) + 3251)), .int 100]) rfl ?_
    refine lv_imul hx hb dX0_contrastOf_41 ?_
    refine lv_iload hx hb dX0_contrastOf_42 (lv_at hl 0 rfl) ?_
    refine lv_idiv hx hb dX0_contrastOf_44 (fun q => by rw [q] at h27; exact absurd h27 (by decide)) ?_
    exact re_si (v := ((100 * (iMax ((pBri x) + 3251) ((pBri y) + 3251))) / (iMin ((pBri x) + 3251) ((pBri y) + 3251)))) hx hb hr hlk (by simp [cCon, h27, (n_le h27)]) dX0_contrastOf_45
  · refine lv_iconst (v := 0) hx hb dX0_contrastOf_30 (by decide) ?_
    refine lv_goto (tgt := 45) hx hb dX0_contrastOf_31 (by decide) ?_
    exact re_si (v := 0) hx hb hr hlk (by simp [cCon, h27, (l_le h27)]) dX0_contrastOf_45

set_option maxHeartbeats 4000000 in
set_option maxRecDepth 100000 in
theorem c_X1_choiceAmount (l : Launch) (k : Int32)  : Met l yX1_choiceAmount (wz yX1_choiceAmount cX1_choiceAmount 2 (some .int)) (rmk 0 0 0 0) (va_Pc [.int k] (fun _ => True)) (qSi (fun zz => zz = cAmt k)) 0 0 fr0 := by
  refine en_ofW RX1 rfl (by decide +kernel) (Nat.le_of_ble_eq_true rfl) ?_
  intro p e s m below meth c ls S hr hlk hnm hl hB
  have hx := S.1
  have hb := S.2.1
  have hl : lv_has ls 2 [(0, .int k)] := hl
  refine lv_iload_n hx hb dX1_choiceAmount_0 rfl (lv_at hl 0 rfl) ?_
  refine lv_iconst (v := 4) hx hb dX1_choiceAmount_1 (by decide) ?_
  refine lv_idiv hx hb dX1_choiceAmount_2 (by decide) ?_
  refine lv_iconst (v := 1) hx hb dX1_choiceAmount_3 (by decide) ?_
  refine lv_iadd hx hb dX1_choiceAmount_4 ?_
  refine lv_istore_n (lv' := [(1, .int ((k / 4) + 1)), (0, .int k)]) hx hb dX1_choiceAmount_5 rfl hl (by decide) rfl (fun ls hl => ?_)
  refine lv_iload_n hx hb dX1_choiceAmount_6 rfl (lv_at hl 1 rfl) ?_
  refine lv_iconst (v := 2) hx hb dX1_choiceAmount_7 (by decide) ?_
  refine lv_idiv hx hb dX1_choiceAmount_8 (by decide) ?_
  refine lv_iconst (v := 2) hx hb dX1_choiceAmount_9 (by decide) ?_
  refine lv_irem hx hb dX1_choiceAmount_10 (by decide) ?_
  refine lv_if_ne (tgt := 18) hx hb dX1_choiceAmount_11 (by decide) (fun h11 => ?_) (fun h11 => ?_)
  · refine lv_iload_n hx hb dX1_choiceAmount_18 rfl (lv_at hl 0 rfl) ?_
    refine lv_ineg hx hb dX1_choiceAmount_19 ?_
    exact re_si (v := (-((k / 4) + 1))) hx hb hr hlk (by simp [cAmt, h11]) dX1_choiceAmount_20
  · refine lv_iload_n hx hb dX1_choiceAmount_14 rfl (lv_at hl 0 rfl) ?_
    refine lv_goto (tgt := 20) hx hb dX1_choiceAmount_15 (by decide) ?_
    exact re_si (v := ((k / 4) + 1)) hx hb hr hlk (by simp [cAmt, h11]) dX1_choiceAmount_20

set_option maxHeartbeats 4000000 in
set_option maxRecDepth 100000 in
theorem c_X2_quotient (l : Launch) (x y : Int32)  : Met l yX2_quotient (wz yX2_quotient cX2_quotient 2 (some .int)) (rmk 0 0 0 0) (va_Pc [.int x, .int y] (fun _ => True)) (qSi (fun zz => zz = cQuo x y)) 0 0 fr0 := by
  refine en_ofW RX2 rfl (by decide +kernel) (Nat.le_of_ble_eq_true rfl) ?_
  intro p e s m below meth c ls S hr hlk hnm hl hB
  have hx := S.1
  have hb := S.2.1
  have hl : lv_has ls 2 [(0, .int x), (1, .int y)] := hl
  refine lv_iload_n hx hb dX2_quotient_0 rfl (lv_at hl 1 rfl) ?_
  refine lv_if_ne (tgt := 8) hx hb dX2_quotient_1 (by decide) (fun h1 => ?_) (fun h1 => ?_)
  · refine lv_iload_n hx hb dX2_quotient_8 rfl (lv_at hl 0 rfl) ?_
    refine lv_iload_n hx hb dX2_quotient_9 rfl (lv_at hl 1 rfl) ?_
    refine lv_idiv hx hb dX2_quotient_10 h1 ?_
    exact re_si (v := (x / y)) hx hb hr hlk (by simp [cQuo, h1]) dX2_quotient_11
  · refine lv_iconst (v := 0) hx hb dX2_quotient_4 (by decide) ?_
    refine lv_goto (tgt := 11) hx hb dX2_quotient_5 (by decide) ?_
    exact re_si (v := 0) hx hb hr hlk (by simp [cQuo, h1]) dX2_quotient_11
end
section
theorem tp_i {p : Program} {l : Launch} {e : Env} {R : Room} {s : State} {m : MethodId} {args : Array Value} {below : List Frame} {meth : Method} {c : Code} {H : Heap} {locs : List Loc} {cells slots : Nat} {Q : State → Prop} {pc : Nat} {ls : Array Slot} {rest : List Value} {x y : Int32} (h : x = y) (k : W p l e R s m args below meth c H locs cells slots Q (F0 m pc ls (.int y :: rest))) : W p l e R s m args below meth c H locs cells slots Q (F0 m pc ls (.int x :: rest)) := h ▸ k
theorem lc_le {x y : Int64} : lg_cmp x y ≤ 0 ↔ x ≤ y := by
  unfold lg_cmp
  by_cases h : x > y
  · rw [if_pos h]
    exact ⟨fun q => absurd q (by decide), fun q => absurd h (Int64.not_lt.mpr q)⟩
  · rw [if_neg h]
    refine ⟨fun _ => Int64.not_lt.mp h, fun _ => ?_⟩
    split <;> decide
theorem lc_eq {x y : Int64} : lg_cmp x y = 0 ↔ x = y := by
  unfold lg_cmp
  by_cases h : x > y
  · rw [if_pos h]
    refine ⟨fun q => absurd q (by decide), fun q => ?_⟩
    subst q
    exact absurd h (Int64.lt_irrefl)
  · rw [if_neg h]
    by_cases h2 : x = y
    · simp [h2]
    · rw [if_neg h2]
      exact ⟨fun q => absurd q (by decide), fun q => absurd q h2⟩
theorem lc_ne {x y : Int64} : ¬ lg_cmp x y = 0 ↔ ¬ x = y := not_congr lc_eq
theorem lc_ge {x y : Int64} : 0 ≤ lg_cmp x y ↔ y ≤ x := by
  unfold lg_cmp
  by_cases h : x > y
  · rw [if_pos h]
    exact ⟨fun _ => Int64.le_of_lt h, fun _ => by decide⟩
  · rw [if_neg h]
    by_cases h2 : x = y
    · subst h2
      simp
    · rw [if_neg h2]
      exact ⟨fun q => absurd q (by decide), fun q => absurd (Int64.le_antisymm (Int64.not_lt.mp h) q) h2⟩
theorem lc_gt {x y : Int64} : 0 < lg_cmp x y ↔ y < x := by
  rw [← Int32.not_le, lc_le, Int64.not_le]
theorem lc_lt {x y : Int64} : lg_cmp x y < 0 ↔ x < y := by
  rw [← Int32.not_le, lc_ge, Int64.not_le]
theorem m_lt {a b : Int64} (h : b ≤ a) : ¬ a < b := Int64.not_lt.mpr h
theorem m_le {a b : Int64} (h : ¬ b ≤ a) : a < b := Int64.not_le.mp h
def cCh (j : Nat) (x : Int32) : Int32 := pLim ((sfF j * pRed x + sfF (j + 1) * pGreen x + sfF (j + 2) * pBlue x) / 1000) 0 255
def cSeen (t : Nat) (x : Int32) : Int32 := pMix (cCh (9 * t) x) (cCh (9 * t + 3) x) (cCh (9 * t + 6) x)
def cDif (t : Nat) (a b : Int32) : Int32 := 3 * iAbs (cCh (9 * t) a - cCh (9 * t) b) + 4 * iAbs (cCh (9 * t + 3) a - cCh (9 * t + 3) b) + 2 * iAbs (cCh (9 * t + 6) a - cCh (9 * t + 6) b)
def lMin (x y : Int64) : Int64 := if y < x then y else x
def lMax (x y : Int64) : Int64 := if y < x then x else y
def cProd (x y : Int32) : Int32 := (lMax (-1000000) (lMin 1000000 (x.toInt64 * y.toInt64))).toInt32
theorem sw4 {x : Int32} (h1 : ¬ x = 1) (h2 : ¬ x = 2) (h3 : ¬ x = 3) (h4 : ¬ x = 4) : x.toInt < 1 ∨ 4 < x.toInt := by
  have e1 := lv_neT h1 (a := 1) (by decide)
  have e2 := lv_neT h2 (a := 2) (by decide)
  have e3 := lv_neT h3 (a := 3) (by decide)
  have e4 := lv_neT h4 (a := 4) (by decide)
  omega
set_option maxHeartbeats 4000000 in
set_option maxRecDepth 100000 in
theorem c_X0_seenChannel (l : Launch) (E : En) (x : Int32) (j : Nat) (hj : j < 43) : Met l yX0_seenChannel (wz yX0_seenChannel cX0_seenChannel 3 (some .int)) (rmk 1 0 0 22) (va_Pc [.int x, .int (nI j)] (Bs E)) (qSi (fun zz => zz = cCh j x)) 0 0 fr0 := by
  refine en_ofW RX0 rfl (by decide +kernel) (Nat.le_of_ble_eq_true rfl) ?_
  intro p e s m below meth c ls S hr hlk hnm hl hB
  have hx := S.1
  have hb := S.2.1
  have hC : Stc E s s.heap := hB
  have hl : lv_has ls 3 [(0, .int x), (1, .int (nI j))] := hl
  obtain ⟨t0, hZ, hT⟩ := hC.2.1
  refine va_getsN hx hb hZ (va_S.rf (A := eA E)) S.2.2.2.1 (va_Nw.use rfl hC.1.1.2.2.2.2) (fun _ h => h) dX0_seenChannel_0 ?_
  refine lv_iload_n hx hb dX0_seenChannel_3 rfl (lv_at hl 1 rfl) ?_
  refine va_ti hx hb hT (va_S.rf (A := eA E)) (v := .int (sfF j)) (vp_in_nI (by omega) (by decide)) (by rw [nI_clamp (by omega)]) dX0_seenChannel_4 ?_
  refine lv_iload_n hx hb dX0_seenChannel_5 rfl (lv_at hl 0 rfl) ?_
  refine cn_si (ck_S S lk_X0_10 (c_X0_red l x) ⟨rfl, rfl⟩ ⟨Nat.le_of_ble_eq_true rfl, Nat.le_of_ble_eq_true rfl⟩ bl_T t_U rfl hl.1 (Nat.le_of_ble_eq_true rfl) ⟨Nat.le_refl _, Nat.le_refl _⟩ dX0_seenChannel_6 rfl) (fun r1 g2 => ?_)
  obtain rfl : r1 = pRed x := g2
  refine lv_imul hx hb dX0_seenChannel_9 ?_
  refine va_getsN hx hb hZ (va_S.rf (A := eA E)) S.2.2.2.1 (va_Nw.use rfl hC.1.1.2.2.2.2) (fun _ h => h) dX0_seenChannel_10 ?_
  refine lv_iload_n hx hb dX0_seenChannel_13 rfl (lv_at hl 1 rfl) ?_
  refine lv_iconst (v := 1) hx hb dX0_seenChannel_14 (by decide) ?_
  refine lv_iadd hx hb dX0_seenChannel_15 ?_
  refine tp_i (y := nI (j + 1)) (nI_add j 1) ?_
  refine va_ti hx hb hT (va_S.rf (A := eA E)) (v := .int (sfF (j + 1))) (vp_in_nI (by omega) (by decide)) (by rw [nI_clamp (by omega)]) dX0_seenChannel_16 ?_
  refine lv_iload_n hx hb dX0_seenChannel_17 rfl (lv_at hl 0 rfl) ?_
  refine cn_si (ck_S S lk_X0_16 (c_X0_green l x) ⟨rfl, rfl⟩ ⟨Nat.le_of_ble_eq_true rfl, Nat.le_of_ble_eq_true rfl⟩ bl_T t_U rfl hl.1 (Nat.le_of_ble_eq_true rfl) ⟨Nat.le_refl _, Nat.le_refl _⟩ dX0_seenChannel_18 rfl) (fun r3 g4 => ?_)
  obtain rfl : r3 = pGreen x := g4
  refine lv_imul hx hb dX0_seenChannel_21 ?_
  refine lv_iadd hx hb dX0_seenChannel_22 ?_
  refine va_getsN hx hb hZ (va_S.rf (A := eA E)) S.2.2.2.1 (va_Nw.use rfl hC.1.1.2.2.2.2) (fun _ h => h) dX0_seenChannel_23 ?_
  refine lv_iload_n hx hb dX0_seenChannel_26 rfl (lv_at hl 1 rfl) ?_
  refine lv_iconst (v := 2) hx hb dX0_seenChannel_27 (by decide) ?_
  refine lv_iadd hx hb dX0_seenChannel_28 ?_
  refine tp_i (y := nI (j + 2)) (nI_add j 2) ?_
  refine va_ti hx hb hT (va_S.rf (A := eA E)) (v := .int (sfF (j + 2))) (vp_in_nI (by omega) (by decide)) (by rw [nI_clamp (by omega)]) dX0_seenChannel_29 ?_
  refine lv_iload_n hx hb dX0_seenChannel_30 rfl (lv_at hl 0 rfl) ?_
  refine cn_si (ck_S S lk_X0_19 (c_X0_blue l x) ⟨rfl, rfl⟩ ⟨Nat.le_of_ble_eq_true rfl, Nat.le_of_ble_eq_true rfl⟩ bl_T t_U rfl hl.1 (Nat.le_of_ble_eq_true rfl) ⟨Nat.le_refl _, Nat.le_refl _⟩ dX0_seenChannel_31 rfl) (fun r5 g6 => ?_)
  obtain rfl : r5 = pBlue x := g6
  refine lv_imul hx hb dX0_seenChannel_34 ?_
  refine lv_iadd hx hb dX0_seenChannel_35 ?_
  refine lv_istore_n (lv' := [(2, .int ((((sfF j) * (pRed x)) + ((sfF (j + 1)) * (pGreen x))) + ((sfF (j + 2)) * (pBlue x)))), (0, .int x), (1, .int (nI j))]) hx hb dX0_seenChannel_36 rfl hl (by decide) rfl (fun ls hl => ?_)
  refine lv_iload_n hx hb dX0_seenChannel_37 rfl (lv_at hl 0 rfl) ?_
  refine lv_sipush (v := 1000) hx hb dX0_seenChannel_38 (by decide) ?_
  refine lv_idiv hx hb dX0_seenChannel_41 (by decide) ?_
  refine lv_iconst (v := 0) hx hb dX0_seenChannel_42 (by decide) ?_
  refine lv_sipush (v := 255) hx hb dX0_seenChannel_43 (by decide) ?_
  refine cn_si (ck_N S ln_X6_limited hC.1.1.2.2.1 (c_X6_limited l (((((sfF j) * (pRed x)) + ((sfF (j + 1)) * (pGreen x))) + ((sfF (j + 2)) * (pBlue x))) / 1000) 0 255) ⟨rfl, rfl⟩ ⟨Nat.le_of_ble_eq_true rfl, Nat.le_of_ble_eq_true rfl⟩ bl_T t_U rfl hl.1 (Nat.le_of_ble_eq_true rfl) ⟨Nat.le_refl _, Nat.le_refl _⟩ dX0_seenChannel_46 rfl) (fun r7 g8 => ?_)
  obtain rfl : r7 = pLim (((((sfF j) * (pRed x)) + ((sfF (j + 1)) * (pGreen x))) + ((sfF (j + 2)) * (pBlue x))) / 1000) 0 255 := g8
  exact re_si (v := (pLim (((((sfF j) * (pRed x)) + ((sfF (j + 1)) * (pGreen x))) + ((sfF (j + 2)) * (pBlue x))) / 1000) 0 255)) hx hb hr hlk rfl dX0_seenChannel_49

set_option maxHeartbeats 4000000 in
set_option maxRecDepth 100000 in
theorem c_X0_seenWith (l : Launch) (E : En) (x : Int32) (t : Nat) (ht : t < 5) : Met l yX0_seenWith (wz yX0_seenWith cX0_seenWith 3 (some .int)) (rmk 2 0 0 44) (va_Pc [.int x, .int (nI t)] (Bs E)) (qSi (fun zz => zz = cSeen t x)) 0 0 fr0 := by
  refine en_ofW RX0 rfl (by decide +kernel) (Nat.le_of_ble_eq_true rfl) ?_
  intro p e s m below meth c ls S hr hlk hnm hl hB
  have hx := S.1
  have hb := S.2.1
  have hC : Stc E s s.heap := hB
  have hl : lv_has ls 3 [(0, .int x), (1, .int (nI t))] := hl
  refine lv_bipush (v := 9) hx hb dX0_seenWith_0 (by decide) ?_
  refine lv_iload_n hx hb dX0_seenWith_2 rfl (lv_at hl 1 rfl) ?_
  refine lv_imul hx hb dX0_seenWith_3 ?_
  refine tp_i (y := nI (9 * t)) (pk_mul 9 t) ?_
  refine lv_istore_n (lv' := [(2, .int (nI (9 * t))), (0, .int x), (1, .int (nI t))]) hx hb dX0_seenWith_4 rfl hl (by decide) rfl (fun ls hl => ?_)
  refine lv_iload_n hx hb dX0_seenWith_5 rfl (lv_at hl 1 rfl) ?_
  refine lv_iload_n hx hb dX0_seenWith_6 rfl (lv_at hl 0 rfl) ?_
  refine cn_si (ck_S S lk_X0_34 (c_X0_seenChannel l E x (9 * t) (by omega)) ⟨rfl, rfl⟩ ⟨Nat.le_of_ble_eq_true rfl, Nat.le_of_ble_eq_true rfl⟩ bl_s (bs_H hC) rfl hl.1 (Nat.le_of_ble_eq_true rfl) ⟨Nat.le_refl _, Nat.le_refl _⟩ dX0_seenWith_7 rfl) (fun r1 g2 => ?_)
  obtain rfl : r1 = cCh (9 * t) x := g2
  refine lv_iload_n hx hb dX0_seenWith_10 rfl (lv_at hl 1 rfl) ?_
  refine lv_iload_n hx hb dX0_seenWith_11 rfl (lv_at hl 0 rfl) ?_
  refine lv_iconst (v := 3) hx hb dX0_seenWith_12 (by decide) ?_
  refine lv_iadd hx hb dX0_seenWith_13 ?_
  refine tp_i (y := nI (9 * t + 3)) (nI_add (9 * t) 3) ?_
  refine cn_si (ck_S S lk_X0_34 (c_X0_seenChannel l E x (9 * t + 3) (by omega)) ⟨rfl, rfl⟩ ⟨Nat.le_of_ble_eq_true rfl, Nat.le_of_ble_eq_true rfl⟩ bl_s (bs_H hC) rfl hl.1 (Nat.le_of_ble_eq_true rfl) ⟨Nat.le_refl _, Nat.le_refl _⟩ dX0_seenWith_14 rfl) (fun r3 g4 => ?_)
  obtain rfl : r3 = cCh (9 * t + 3) x := g4
  refine lv_iload_n hx hb dX0_seenWith_17 rfl (lv_at hl 1 rfl) ?_
  refine lv_iload_n hx hb dX0_seenWith_18 rfl (lv_at hl 0 rfl) ?_
  refine lv_bipush (v := 6) hx hb dX0_seenWith_19 (by decide) ?_
  refine lv_iadd hx hb dX0_seenWith_21 ?_
  refine tp_i (y := nI (9 * t + 6)) (nI_add (9 * t) 6) ?_
  refine cn_si (ck_S S lk_X0_34 (c_X0_seenChannel l E x (9 * t + 6) (by omega)) ⟨rfl, rfl⟩ ⟨Nat.le_of_ble_eq_true rfl, Nat.le_of_ble_eq_true rfl⟩ bl_s (bs_H hC) rfl hl.1 (Nat.le_of_ble_eq_true rfl) ⟨Nat.le_refl _, Nat.le_refl _⟩ dX0_seenWith_22 rfl) (fun r5 g6 => ?_)
  obtain rfl : r5 = cCh (9 * t + 6) x := g6
  refine cn_si (ck_S S lk_X0_37 (c_X0_joined l (cCh (9 * t) x) (cCh (9 * t + 3) x) (cCh (9 * t + 6) x)) ⟨rfl, rfl⟩ ⟨Nat.le_of_ble_eq_true rfl, Nat.le_of_ble_eq_true rfl⟩ bl_T t_U rfl hl.1 (Nat.le_of_ble_eq_true rfl) ⟨Nat.le_refl _, Nat.le_refl _⟩ dX0_seenWith_25 rfl) (fun r7 g8 => ?_)
  obtain rfl : r7 = pMix (cCh (9 * t) x) (cCh (9 * t + 3) x) (cCh (9 * t + 6) x) := g8
  exact re_si (v := (pMix (cCh (9 * t) x) (cCh (9 * t + 3) x) (cCh (9 * t + 6) x))) hx hb hr hlk rfl dX0_seenWith_28

set_option maxHeartbeats 4000000 in
set_option maxRecDepth 100000 in
theorem c_X0_differenceOf (l : Launch) (E : En) (x y : Int32) (t : Nat) (ht : t < 5) : Met l yX0_differenceOf (wz yX0_differenceOf cX0_differenceOf 4 (some .int)) (rmk 2 0 0 44) (va_Pc [.int x, .int y, .int (nI t)] (Bs E)) (qSi (fun zz => zz = cDif t x y)) 0 0 fr0 := by
  refine en_ofW RX0 rfl (by decide +kernel) (Nat.le_of_ble_eq_true rfl) ?_
  intro p e s m below meth c ls S hr hlk hnm hl hB
  have hx := S.1
  have hb := S.2.1
  have hC : Stc E s s.heap := hB
  have hl : lv_has ls 4 [(0, .int x), (1, .int y), (2, .int (nI t))] := hl
  refine lv_bipush (v := 9) hx hb dX0_differenceOf_0 (by decide) ?_
  refine lv_iload_n hx hb dX0_differenceOf_2 rfl (lv_at hl 2 rfl) ?_
  refine lv_imul hx hb dX0_differenceOf_3 ?_
  refine tp_i (y := nI (9 * t)) (pk_mul 9 t) ?_
  refine lv_istore_n (lv' := [(3, .int (nI (9 * t))), (0, .int x), (1, .int y), (2, .int (nI t))]) hx hb dX0_differenceOf_4 rfl hl (by decide) rfl (fun ls hl => ?_)
  refine lv_iconst (v := 3) hx hb dX0_differenceOf_5 (by decide) ?_
  refine lv_iload_n hx hb dX0_differenceOf_6 rfl (lv_at hl 1 rfl) ?_
  refine lv_iload_n hx hb dX0_differenceOf_7 rfl (lv_at hl 0 rfl) ?_
  refine cn_si (ck_S S lk_X0_34 (c_X0_seenChannel l E x (9 * t) (by omega)) ⟨rfl, rfl⟩ ⟨Nat.le_of_ble_eq_true rfl, Nat.le_of_ble_eq_true rfl⟩ bl_s (bs_H hC) rfl hl.1 (Nat.le_of_ble_eq_true rfl) ⟨Nat.le_refl _, Nat.le_refl _⟩ dX0_differenceOf_8 rfl) (fun r1 g2 => ?_)
  obtain rfl : r1 = cCh (9 * t) x := g2
  refine lv_iload_n hx hb dX0_differenceOf_11 rfl (lv_at hl 2 rfl) ?_
  refine lv_iload_n hx hb dX0_differenceOf_12 rfl (lv_at hl 0 rfl) ?_
  refine cn_si (ck_S S lk_X0_34 (c_X0_seenChannel l E y (9 * t) (by omega)) ⟨rfl, rfl⟩ ⟨Nat.le_of_ble_eq_true rfl, Nat.le_of_ble_eq_true rfl⟩ bl_s (bs_H hC) rfl hl.1 (Nat.le_of_ble_eq_true rfl) ⟨Nat.le_refl _, Nat.le_refl _⟩ dX0_differenceOf_13 rfl) (fun r3 g4 => ?_)
  obtain rfl : r3 = cCh (9 * t) y := g4
  refine lv_isub hx hb dX0_differenceOf_16 ?_
  refine va_mabs hx hb (S.2.2.1.trans hl.1.symm) S.2.2.2.1 (S.2.2.2.2 _ km_X0_48) (S.2.2.2.2 _ ms_abs) (S.2.2.2.2 _ mi_Math) (S.2.2.2.2 _ mc_abs) (Nat.le_of_ble_eq_true rfl) (Nat.le_of_ble_eq_true rfl) (Nat.zero_le _) (Nat.zero_le _) dX0_differenceOf_17 ?_
  refine W.eq (g2 := F0 m 20 ls [.int (iAbs ((cCh (9 * t) x) - (cCh (9 * t) y))), .int 3]) rfl ?_
  refine lv_imul hx hb dX0_differenceOf_20 ?_
  refine lv_iconst (v := 4) hx hb dX0_differenceOf_21 (by decide) ?_
  refine lv_iload_n hx hb dX0_differenceOf_22 rfl (lv_at hl 1 rfl) ?_
  refine lv_iload_n hx hb dX0_differenceOf_23 rfl (lv_at hl 0 rfl) ?_
  refine lv_iconst (v := 3) hx hb dX0_differenceOf_24 (by decide) ?_
  refine lv_iadd hx hb dX0_differenceOf_25 ?_
  refine tp_i (y := nI (9 * t + 3)) (nI_add (9 * t) 3) ?_
  refine cn_si (ck_S S lk_X0_34 (c_X0_seenChannel l E x (9 * t + 3) (by omega)) ⟨rfl, rfl⟩ ⟨Nat.le_of_ble_eq_true rfl, Nat.le_of_ble_eq_true rfl⟩ bl_s (bs_H hC) rfl hl.1 (Nat.le_of_ble_eq_true rfl) ⟨Nat.le_refl _, Nat.le_refl _⟩ dX0_differenceOf_26 rfl) (fun r5 g6 => ?_)
  obtain rfl : r5 = cCh (9 * t + 3) x := g6
  refine lv_iload_n hx hb dX0_differenceOf_29 rfl (lv_at hl 2 rfl) ?_
  refine lv_iload_n hx hb dX0_differenceOf_30 rfl (lv_at hl 0 rfl) ?_
  refine lv_iconst (v := 3) hx hb dX0_differenceOf_31 (by decide) ?_
  refine lv_iadd hx hb dX0_differenceOf_32 ?_
  refine tp_i (y := nI (9 * t + 3)) (nI_add (9 * t) 3) ?_
  refine cn_si (ck_S S lk_X0_34 (c_X0_seenChannel l E y (9 * t + 3) (by omega)) ⟨rfl, rfl⟩ ⟨Nat.le_of_ble_eq_true rfl, Nat.le_of_ble_eq_true rfl⟩ bl_s (bs_H hC) rfl hl.1 (Nat.le_of_ble_eq_true rfl) ⟨Nat.le_refl _, Nat.le_refl _⟩ dX0_differenceOf_33 rfl) (fun r7 g8 => ?_)
  obtain rfl : r7 = cCh (9 * t + 3) y := g8
  refine lv_isub hx hb dX0_differenceOf_36 ?_
  refine va_mabs hx hb (S.2.2.1.trans hl.1.symm) S.2.2.2.1 (S.2.2.2.2 _ km_X0_48) (S.2.2.2.2 _ ms_abs) (S.2.2.2.2 _ mi_Math) (S.2.2.2.2 _ mc_abs) (Nat.le_of_ble_eq_true rfl) (Nat.le_of_ble_eq_true rfl) (Nat.zero_le _) (Nat.zero_le _) dX0_differenceOf_37 ?_
  refine W.eq (g2 := F0 m 40 ls [.int (iAbs ((cCh (9 * t + 3) x) - (cCh (9 * t + 3) y))), .int 4, .int (3 * (iAbs ((cCh (9 * t) x) - (cCh (9 * t) y))))]) rfl ?_
  refine lv_imul hx hb dX0_differenceOf_40 ?_
  refine lv_iadd hx hb dX0_differenceOf_41 ?_
  refine lv_iconst (v := 2) hx hb dX0_differenceOf_42 (by decide) ?_
  refine lv_iload_n hx hb dX0_differenceOf_43 rfl (lv_at hl 1 rfl) ?_
  refine lv_iload_n hx hb dX0_differenceOf_44 rfl (lv_at hl 0 rfl) ?_
  refine lv_bipush (v := 6) hx hb dX0_differenceOf_45 (by decide) ?_
  refine lv_iadd hx hb dX0_differenceOf_47 ?_
  refine tp_i (y := nI (9 * t + 6)) (nI_add (9 * t) 6) ?_
  refine cn_si (ck_S S lk_X0_34 (c_X0_seenChannel l E x (9 * t + 6) (by omega)) ⟨rfl, rfl⟩ ⟨Nat.le_of_ble_eq_true rfl, Nat.le_of_ble_eq_true rfl⟩ bl_s (bs_H hC) rfl hl.1 (Nat.le_of_ble_eq_true rfl) ⟨Nat.le_refl _, Nat.le_refl _⟩ dX0_differenceOf_48 rfl) (fun r9 g10 => ?_)
  obtain rfl : r9 = cCh (9 * t + 6) x := g10
  refine lv_iload_n hx hb dX0_differenceOf_51 rfl (lv_at hl 2 rfl) ?_
  refine lv_iload_n hx hb dX0_differenceOf_52 rfl (lv_at hl 0 rfl) ?_
  refine lv_bipush (v := 6) hx hb dX0_differenceOf_53 (by decide) ?_
  refine lv_iadd hx hb dX0_differenceOf_55 ?_
  refine tp_i (y := nI (9 * t + 6)) (nI_add (9 * t) 6) ?_
  refine cn_si (ck_S S lk_X0_34 (c_X0_seenChannel l E y (9 * t + 6) (by omega)) ⟨rfl, rfl⟩ ⟨Nat.le_of_ble_eq_true rfl, Nat.le_of_ble_eq_true rfl⟩ bl_s (bs_H hC) rfl hl.1 (Nat.le_of_ble_eq_true rfl) ⟨Nat.le_refl _, Nat.le_refl _⟩ dX0_differenceOf_56 rfl) (fun r11 g12 => ?_)
  obtain rfl : r11 = cCh (9 * t + 6) y := g12
  refine lv_isub hx hb dX0_differenceOf_59 ?_
  refine va_mabs hx hb (S.2.2.1.trans hl.1.symm) S.2.2.2.1 (S.2.2.2.2 _ km_X0_48) (S.2.2.2.2 _ ms_abs) (S.2.2.2.2 _ mi_Math) (S.2.2.2.2 _ mc_abs) (Nat.le_of_ble_eq_true rfl) (Nat.le_of_ble_eq_true rfl) (Nat.zero_le _) (Nat.zero_le _) dX0_differenceOf_60 ?_
  refine W.eq (g2 := F0 m 63 ls [.int (iAbs ((cCh (9 * t + 6) x) - (cCh (9 * t + 6) y))), .int 2, .int ((3 * (iAbs ((cCh (9 * t) x) - (cCh (9 * t) y)))) + (4 * (iAbs ((cCh (9 * t + 3) x) - (cCh (9 * t + 3) y)))))]) rfl ?_
  refine lv_imul hx hb dX0_differenceOf_63 ?_
  refine lv_iadd hx hb dX0_differenceOf_64 ?_
  exact re_si (v := (((3 * (iAbs ((cCh (9 * t) x) - (cCh (9 * t) y)))) + (4 * (iAbs ((cCh (9 * t + 3) x) - (cCh (9 * t + 3) y))))) + (2 * (iAbs ((cCh (9 * t + 6) x) - (cCh (9 * t + 6) y)))))) hx hb hr hlk rfl dX0_differenceOf_65

set_option maxHeartbeats 4000000 in
set_option maxRecDepth 100000 in
theorem c_X7_seenAs (l : Launch) (x s0 : Int32)  : Met l yX7_seenAs (wz yX7_seenAs cX7_seenAs 2 (some .int)) (rmk 3 0 0 64) (va_Pc [.int x, .int s0] (fun _ => True)) (qSi (fun zz => zz = rSeen x s0)) 0 0 fr0 := by
  refine en_ofW RX7 rfl (by decide +kernel) (Nat.le_of_ble_eq_true rfl) ?_
  intro p e s m below meth c ls S hr hlk hnm hl hB
  have hx := S.1
  have hb := S.2.1
  have hl : lv_has ls 2 [(0, .int x), (1, .int s0)] := hl
  refine lv_iload_n hx hb dX7_seenAs_0 rfl (lv_at hl 1 rfl) ?_
  by_cases e1 : s0 = 1
  · subst e1
    refine lv_tableIn (off := 31) (tgt := 32) hx hb dX7_seenAs_1 (by decide) (by decide) rfl (by decide) ?_
    refine lv_sipush (v := 152) hx hb dX7_seenAs_32 (by decide) ?_
    refine lv_sipush (v := 1053) hx hb dX7_seenAs_35 (by decide) ?_
    refine lv_sipush (v := (-205)) hx hb dX7_seenAs_38 (by decide) ?_
    refine lv_iload_n hx hb dX7_seenAs_41 rfl (lv_at hl 0 rfl) ?_
    refine cn_si (ck_S S lk_X7_194 (c_X7_channel l 152 1053 (-205) x) ⟨rfl, rfl⟩ ⟨Nat.le_of_ble_eq_true rfl, Nat.le_of_ble_eq_true rfl⟩ bl_T t_U rfl hl.1 (Nat.le_of_ble_eq_true rfl) ⟨Nat.le_refl _, Nat.le_refl _⟩ dX7_seenAs_42 rfl) (fun r1 g2 => ?_)
    obtain rfl : r1 = rCh 152 1053 (-205) x := g2
    refine lv_bipush (v := 115) hx hb dX7_seenAs_45 (by decide) ?_
    refine lv_sipush (v := 786) hx hb dX7_seenAs_47 (by decide) ?_
    refine lv_bipush (v := 99) hx hb dX7_seenAs_50 (by decide) ?_
    refine lv_iload_n hx hb dX7_seenAs_52 rfl (lv_at hl 0 rfl) ?_
    refine cn_si (ck_S S lk_X7_194 (c_X7_channel l 115 786 99 x) ⟨rfl, rfl⟩ ⟨Nat.le_of_ble_eq_true rfl, Nat.le_of_ble_eq_true rfl⟩ bl_T t_U rfl hl.1 (Nat.le_of_ble_eq_true rfl) ⟨Nat.le_refl _, Nat.le_refl _⟩ dX7_seenAs_53 rfl) (fun r3 g4 => ?_)
    obtain rfl : r3 = rCh 115 786 99 x := g4
    refine lv_bipush (v := (-4)) hx hb dX7_seenAs_56 (by decide) ?_
    refine lv_bipush (v := (-48)) hx hb dX7_seenAs_58 (by decide) ?_
    refine lv_sipush (v := 1052) hx hb dX7_seenAs_60 (by decide) ?_
    refine lv_iload_n hx hb dX7_seenAs_63 rfl (lv_at hl 0 rfl) ?_
    refine cn_si (ck_S S lk_X7_194 (c_X7_channel l (-4) (-48) 1052 x) ⟨rfl, rfl⟩ ⟨Nat.le_of_ble_eq_true rfl, Nat.le_of_ble_eq_true rfl⟩ bl_T t_U rfl hl.1 (Nat.le_of_ble_eq_true rfl) ⟨Nat.le_refl _, Nat.le_refl _⟩ dX7_seenAs_64 rfl) (fun r5 g6 => ?_)
    obtain rfl : r5 = rCh (-4) (-48) 1052 x := g6
    refine cn_si (ck_S S lk_X7_128 (c_X7_mixed l (rCh 152 1053 (-205) x) (rCh 115 786 99 x) (rCh (-4) (-48) 1052 x)) ⟨rfl, rfl⟩ ⟨Nat.le_of_ble_eq_true rfl, Nat.le_of_ble_eq_true rfl⟩ bl_T t_U rfl hl.1 (Nat.le_of_ble_eq_true rfl) ⟨Nat.le_refl _, Nat.le_refl _⟩ dX7_seenAs_67 rfl) (fun r7 g8 => ?_)
    obtain rfl : r7 = pMix (rCh 152 1053 (-205) x) (rCh 115 786 99 x) (rCh (-4) (-48) 1052 x) := g8
    exact re_si (v := (pMix (rCh 152 1053 (-205) x) (rCh 115 786 99 x) (rCh (-4) (-48) 1052 x))) hx hb hr hlk rfl dX7_seenAs_70
  by_cases e2 : s0 = 2
  · subst e2
    refine lv_tableIn (off := 70) (tgt := 71) hx hb dX7_seenAs_1 (by decide) (by decide) rfl (by decide) ?_
    refine lv_sipush (v := 367) hx hb dX7_seenAs_71 (by decide) ?_
    refine lv_sipush (v := 861) hx hb dX7_seenAs_74 (by decide) ?_
    refine lv_sipush (v := (-228)) hx hb dX7_seenAs_77 (by decide) ?_
    refine lv_iload_n hx hb dX7_seenAs_80 rfl (lv_at hl 0 rfl) ?_
    refine cn_si (ck_S S lk_X7_194 (c_X7_channel l 367 861 (-228) x) ⟨rfl, rfl⟩ ⟨Nat.le_of_ble_eq_true rfl, Nat.le_of_ble_eq_true rfl⟩ bl_T t_U rfl hl.1 (Nat.le_of_ble_eq_true rfl) ⟨Nat.le_refl _, Nat.le_refl _⟩ dX7_seenAs_81 rfl) (fun r9 g10 => ?_)
    obtain rfl : r9 = rCh 367 861 (-228) x := g10
    refine lv_sipush (v := 280) hx hb dX7_seenAs_84 (by decide) ?_
    refine lv_sipush (v := 673) hx hb dX7_seenAs_87 (by decide) ?_
    refine lv_bipush (v := 47) hx hb dX7_seenAs_90 (by decide) ?_
    refine lv_iload_n hx hb dX7_seenAs_92 rfl (lv_at hl 0 rfl) ?_
    refine cn_si (ck_S S lk_X7_194 (c_X7_channel l 280 673 47 x) ⟨rfl, rfl⟩ ⟨Nat.le_of_ble_eq_true rfl, Nat.le_of_ble_eq_true rfl⟩ bl_T t_U rfl hl.1 (Nat.le_of_ble_eq_true rfl) ⟨Nat.le_refl _, Nat.le_refl _⟩ dX7_seenAs_93 rfl) (fun r11 g12 => ?_)
    obtain rfl : r11 = rCh 280 673 47 x := g12
    refine lv_bipush (v := (-12)) hx hb dX7_seenAs_96 (by decide) ?_
    refine lv_bipush (v := 43) hx hb dX7_seenAs_98 (by decide) ?_
    refine lv_sipush (v := 969) hx hb dX7_seenAs_100 (by decide) ?_
    refine lv_iload_n hx hb dX7_seenAs_103 rfl (lv_at hl 0 rfl) ?_
    refine cn_si (ck_S S lk_X7_194 (c_X7_channel l (-12) 43 969 x) ⟨rfl, rfl⟩ ⟨Nat.le_of_ble_eq_true rfl, Nat.le_of_ble_eq_true rfl⟩ bl_T t_U rfl hl.1 (Nat.le_of_ble_eq_true rfl) ⟨Nat.le_refl _, Nat.le_refl _⟩ dX7_seenAs_104 rfl) (fun r13 g14 => ?_)
    obtain rfl : r13 = rCh (-12) 43 969 x := g14
    refine cn_si (ck_S S lk_X7_128 (c_X7_mixed l (rCh 367 861 (-228) x) (rCh 280 673 47 x) (rCh (-12) 43 969 x)) ⟨rfl, rfl⟩ ⟨Nat.le_of_ble_eq_true rfl, Nat.le_of_ble_eq_true rfl⟩ bl_T t_U rfl hl.1 (Nat.le_of_ble_eq_true rfl) ⟨Nat.le_refl _, Nat.le_refl _⟩ dX7_seenAs_107 rfl) (fun r15 g16 => ?_)
    obtain rfl : r15 = pMix (rCh 367 861 (-228) x) (rCh 280 673 47 x) (rCh (-12) 43 969 x) := g16
    exact re_si (v := (pMix (rCh 367 861 (-228) x) (rCh 280 673 47 x) (rCh (-12) 43 969 x))) hx hb hr hlk rfl dX7_seenAs_110
  by_cases e3 : s0 = 3
  · subst e3
    refine lv_tableIn (off := 110) (tgt := 111) hx hb dX7_seenAs_1 (by decide) (by decide) rfl (by decide) ?_
    refine lv_sipush (v := 1256) hx hb dX7_seenAs_111 (by decide) ?_
    refine lv_bipush (v := (-77)) hx hb dX7_seenAs_114 (by decide) ?_
    refine lv_sipush (v := (-179)) hx hb dX7_seenAs_116 (by decide) ?_
    refine lv_iload_n hx hb dX7_seenAs_119 rfl (lv_at hl 0 rfl) ?_
    refine cn_si (ck_S S lk_X7_194 (c_X7_channel l 1256 (-77) (-179) x) ⟨rfl, rfl⟩ ⟨Nat.le_of_ble_eq_true rfl, Nat.le_of_ble_eq_true rfl⟩ bl_T t_U rfl hl.1 (Nat.le_of_ble_eq_true rfl) ⟨Nat.le_refl _, Nat.le_refl _⟩ dX7_seenAs_120 rfl) (fun r17 g18 => ?_)
    obtain rfl : r17 = rCh 1256 (-77) (-179) x := g18
    refine lv_bipush (v := (-78)) hx hb dX7_seenAs_123 (by decide) ?_
    refine lv_sipush (v := 930) hx hb dX7_seenAs_125 (by decide) ?_
    refine lv_sipush (v := 148) hx hb dX7_seenAs_128 (by decide) ?_
    refine lv_iload_n hx hb dX7_seenAs_131 rfl (lv_at hl 0 rfl) ?_
    refine cn_si (ck_S S lk_X7_194 (c_X7_channel l (-78) 930 148 x) ⟨rfl, rfl⟩ ⟨Nat.le_of_ble_eq_true rfl, Nat.le_of_ble_eq_true rfl⟩ bl_T t_U rfl hl.1 (Nat.le_of_ble_eq_true rfl) ⟨Nat.le_refl _, Nat.le_refl _⟩ dX7_seenAs_132 rfl) (fun r19 g20 => ?_)
    obtain rfl : r19 = rCh (-78) 930 148 x := g20
    refine lv_iconst (v := 5) hx hb dX7_seenAs_135 (by decide) ?_
    refine lv_sipush (v := 691) hx hb dX7_seenAs_136 (by decide) ?_
    refine lv_sipush (v := 304) hx hb dX7_seenAs_139 (by decide) ?_
    refine lv_iload_n hx hb dX7_seenAs_142 rfl (lv_at hl 0 rfl) ?_
    refine cn_si (ck_S S lk_X7_194 (c_X7_channel l 5 691 304 x) ⟨rfl, rfl⟩ ⟨Nat.le_of_ble_eq_true rfl, Nat.le_of_ble_eq_true rfl⟩ bl_T t_U rfl hl.1 (Nat.le_of_ble_eq_true rfl) ⟨Nat.le_refl _, Nat.le_refl _⟩ dX7_seenAs_143 rfl) (fun r21 g22 => ?_)
    obtain rfl : r21 = rCh 5 691 304 x := g22
    refine cn_si (ck_S S lk_X7_128 (c_X7_mixed l (rCh 1256 (-77) (-179) x) (rCh (-78) 930 148 x) (rCh 5 691 304 x)) ⟨rfl, rfl⟩ ⟨Nat.le_of_ble_eq_true rfl, Nat.le_of_ble_eq_true rfl⟩ bl_T t_U rfl hl.1 (Nat.le_of_ble_eq_true rfl) ⟨Nat.le_refl _, Nat.le_refl _⟩ dX7_seenAs_146 rfl) (fun r23 g24 => ?_)
    obtain rfl : r23 = pMix (rCh 1256 (-77) (-179) x) (rCh (-78) 930 148 x) (rCh 5 691 304 x) := g24
    exact re_si (v := (pMix (rCh 1256 (-77) (-179) x) (rCh (-78) 930 148 x) (rCh 5 691 304 x))) hx hb hr hlk rfl dX7_seenAs_149
  by_cases e4 : s0 = 4
  · subst e4
    refine lv_tableIn (off := 149) (tgt := 150) hx hb dX7_seenAs_1 (by decide) (by decide) rfl (by decide) ?_
    refine lv_sipush (v := 299) hx hb dX7_seenAs_150 (by decide) ?_
    refine lv_sipush (v := 587) hx hb dX7_seenAs_153 (by decide) ?_
    refine lv_bipush (v := 114) hx hb dX7_seenAs_156 (by decide) ?_
    refine lv_iload_n hx hb dX7_seenAs_158 rfl (lv_at hl 0 rfl) ?_
    refine cn_si (ck_S S lk_X7_194 (c_X7_channel l 299 587 114 x) ⟨rfl, rfl⟩ ⟨Nat.le_of_ble_eq_true rfl, Nat.le_of_ble_eq_true rfl⟩ bl_T t_U rfl hl.1 (Nat.le_of_ble_eq_true rfl) ⟨Nat.le_refl _, Nat.le_refl _⟩ dX7_seenAs_159 rfl) (fun r25 g26 => ?_)
    obtain rfl : r25 = rCh 299 587 114 x := g26
    refine lv_sipush (v := 299) hx hb dX7_seenAs_162 (by decide) ?_
    refine lv_sipush (v := 587) hx hb dX7_seenAs_165 (by decide) ?_
    refine lv_bipush (v := 114) hx hb dX7_seenAs_168 (by decide) ?_
    refine lv_iload_n hx hb dX7_seenAs_170 rfl (lv_at hl 0 rfl) ?_
    refine cn_si (ck_S S lk_X7_194 (c_X7_channel l 299 587 114 x) ⟨rfl, rfl⟩ ⟨Nat.le_of_ble_eq_true rfl, Nat.le_of_ble_eq_true rfl⟩ bl_T t_U rfl hl.1 (Nat.le_of_ble_eq_true rfl) ⟨Nat.le_refl _, Nat.le_refl _⟩ dX7_seenAs_171 rfl) (fun r27 g28 => ?_)
    obtain rfl : r27 = rCh 299 587 114 x := g28
    refine lv_sipush (v := 299) hx hb dX7_seenAs_174 (by decide) ?_
    refine lv_sipush (v := 587) hx hb dX7_seenAs_177 (by decide) ?_
    refine lv_bipush (v := 114) hx hb dX7_seenAs_180 (by decide) ?_
    refine lv_iload_n hx hb dX7_seenAs_182 rfl (lv_at hl 0 rfl) ?_
    refine cn_si (ck_S S lk_X7_194 (c_X7_channel l 299 587 114 x) ⟨rfl, rfl⟩ ⟨Nat.le_of_ble_eq_true rfl, Nat.le_of_ble_eq_true rfl⟩ bl_T t_U rfl hl.1 (Nat.le_of_ble_eq_true rfl) ⟨Nat.le_refl _, Nat.le_refl _⟩ dX7_seenAs_183 rfl) (fun r29 g30 => ?_)
    obtain rfl : r29 = rCh 299 587 114 x := g30
    refine cn_si (ck_S S lk_X7_128 (c_X7_mixed l (rCh 299 587 114 x) (rCh 299 587 114 x) (rCh 299 587 114 x)) ⟨rfl, rfl⟩ ⟨Nat.le_of_ble_eq_true rfl, Nat.le_of_ble_eq_true rfl⟩ bl_T t_U rfl hl.1 (Nat.le_of_ble_eq_true rfl) ⟨Nat.le_refl _, Nat.le_refl _⟩ dX7_seenAs_186 rfl) (fun r31 g32 => ?_)
    obtain rfl : r31 = pMix (rCh 299 587 114 x) (rCh 299 587 114 x) (rCh 299 587 114 x) := g32
    exact re_si (v := (pMix (rCh 299 587 114 x) (rCh 299 587 114 x) (rCh 299 587 114 x))) hx hb hr hlk rfl dX7_seenAs_189
  refine lv_tableOut (tgt := 190) hx hb dX7_seenAs_1 (sw4 e1 e2 e3 e4) (by decide) ?_
  refine lv_iload_n hx hb dX7_seenAs_190 rfl (lv_at hl 0 rfl) ?_
  exact re_si (v := x) hx hb hr hlk (by simp [rSeen, e1, e2, e3, e4]) dX7_seenAs_191

set_option maxHeartbeats 4000000 in
set_option maxRecDepth 100000 in
theorem c_X7_limited (l : Launch) (v : Int64)  : Met l yX7_limited (wz yX7_limited cX7_limited 2 (some .long)) (rmk 0 0 0 0) (va_Pc [.long v] (fun _ => True)) (qSl (fun zz => zz = rLimL v)) 0 0 fr0 := by
  refine en_ofW RX7 rfl (by decide +kernel) (Nat.le_of_ble_eq_true rfl) ?_
  intro p e s m below meth c ls S hr hlk hnm hl hB
  have hx := S.1
  have hb := S.2.1
  have hl : lv_has ls 2 [(0, .long v)] := hl
  refine lv_lload_n hx hb dX7_limited_0 rfl (lv_at hl 0 rfl) ?_
  refine lv_ldc2 (v := 1000000) hx hb S.2.2.2.1 (S.2.2.2.2 _ kc_X7_201) dX7_limited_1 ?_
  refine W.lcmp hx hb dX7_limited_4 ?_
  refine lv_if_le (tgt := 14) hx hb dX7_limited_5 (by decide) (fun h5 => ?_) (fun h5 => ?_)
  · refine lv_lload_n hx hb dX7_limited_14 rfl (lv_at hl 0 rfl) ?_
    refine lv_ldc2 (v := (-1000000)) hx hb S.2.2.2.1 (S.2.2.2.2 _ kc_X7_203) dX7_limited_15 ?_
    refine W.lcmp hx hb dX7_limited_18 ?_
    refine lv_if_ge (tgt := 28) hx hb dX7_limited_19 (by decide) (fun h19 => ?_) (fun h19 => ?_)
    · refine lv_lload_n hx hb dX7_limited_28 rfl (lv_at hl 0 rfl) ?_
      exact re_sl (v := v) hx hb hr hlk (by simp [rLimL, (m_lt (lc_le.mp h5)), (m_lt (lc_ge.mp h19))]) dX7_limited_29
    · refine lv_ldc2 (v := (-1000000)) hx hb S.2.2.2.1 (S.2.2.2.2 _ kc_X7_203) dX7_limited_22 ?_
      refine lv_goto (tgt := 29) hx hb dX7_limited_25 (by decide) ?_
      exact re_sl (v := (-1000000)) hx hb hr hlk (by simp [rLimL, (m_lt (lc_le.mp h5)), (m_le (fun q => h19 (lc_ge.mpr q)))]) dX7_limited_29
  · refine lv_ldc2 (v := 1000000) hx hb S.2.2.2.1 (S.2.2.2.2 _ kc_X7_201) dX7_limited_8 ?_
    refine lv_goto (tgt := 29) hx hb dX7_limited_11 (by decide) ?_
    exact re_sl (v := 1000000) hx hb hr hlk (by simp [rLimL, (m_le (fun q => h5 (lc_le.mpr q)))]) dX7_limited_29

set_option maxHeartbeats 4000000 in
set_option maxRecDepth 100000 in
theorem c_X7_operate (l : Launch) (op : Int32) (x y : Int64)  : Met l yX7_operate (wz yX7_operate cX7_operate 5 (some .long)) (rmk 1 0 0 21) (va_Pc [.int op, .long x, .long y] (fun _ => True)) (qSl (fun zz => zz = rOp op x y)) 0 0 fr0 := by
  refine en_ofW RX7 rfl (by decide +kernel) (Nat.le_of_ble_eq_true rfl) ?_
  intro p e s m below meth c ls S hr hlk hnm hl hB
  have hx := S.1
  have hb := S.2.1
  have hl : lv_has ls 5 [(0, .int op), (1, .long x), (3, .long y)] := hl
  refine lv_iload_n hx hb dX7_operate_0 rfl (lv_at hl 0 rfl) ?_
  refine lv_iconst (v := 5) hx hb dX7_operate_1 (by decide) ?_
  refine lv_icmp_ne (tgt := 19) hx hb dX7_operate_2 (by decide) (fun h2 => ?_) (fun h2 => ?_)
  · refine lv_iload_n hx hb dX7_operate_19 rfl (lv_at hl 0 rfl) ?_
    refine lv_iconst (v := 2) hx hb dX7_operate_20 (by decide) ?_
    refine lv_icmp_ne (tgt := 30) hx hb dX7_operate_21 (by decide) (fun h21 => ?_) (fun h21 => ?_)
    · refine lv_iload_n hx hb dX7_operate_30 rfl (lv_at hl 0 rfl) ?_
      refine lv_iconst (v := 3) hx hb dX7_operate_31 (by decide) ?_
      refine lv_icmp_ne (tgt := 41) hx hb dX7_operate_32 (by decide) (fun h32 => ?_) (fun h32 => ?_)
      · refine lv_lload_n hx hb dX7_operate_41 rfl (lv_at hl 1 rfl) ?_
        refine lv_lload_n hx hb dX7_operate_42 rfl (lv_at hl 2 rfl) ?_
        refine lv_lmul hx hb dX7_operate_43 ?_
        refine cn_sl (ck_S S lk_X7_205 (c_X7_limited l (x * y)) ⟨rfl, rfl⟩ ⟨Nat.le_of_ble_eq_true rfl, Nat.le_of_ble_eq_true rfl⟩ bl_T t_U rfl hl.1 (Nat.le_of_ble_eq_true rfl) ⟨Nat.le_refl _, Nat.le_refl _⟩ dX7_operate_44 rfl) (fun r1 g2 => ?_)
        obtain rfl : r1 = rLimL (x * y) := g2
        exact re_sl (v := (rLimL (x * y))) hx hb hr hlk (by simp [rOp, h2, h21, h32]) dX7_operate_47
      · refine lv_lload_n hx hb dX7_operate_35 rfl (lv_at hl 1 rfl) ?_
        refine lv_lload_n hx hb dX7_operate_36 rfl (lv_at hl 2 rfl) ?_
        refine lv_lsub hx hb dX7_operate_37 ?_
        refine lv_goto (tgt := 44) hx hb dX7_operate_38 (by decide) ?_
        refine cn_sl (ck_S S lk_X7_205 (c_X7_limited l (x - y)) ⟨rfl, rfl⟩ ⟨Nat.le_of_ble_eq_true rfl, Nat.le_of_ble_eq_true rfl⟩ bl_T t_U rfl hl.1 (Nat.le_of_ble_eq_true rfl) ⟨Nat.le_refl _, Nat.le_refl _⟩ dX7_operate_44 rfl) (fun r3 g4 => ?_)
        obtain rfl : r3 = rLimL (x - y) := g4
        exact re_sl (v := (rLimL (x - y))) hx hb hr hlk (by simp [rOp, h2, h21, h32]) dX7_operate_47
    · refine lv_lload_n hx hb dX7_operate_24 rfl (lv_at hl 1 rfl) ?_
      refine lv_lload_n hx hb dX7_operate_25 rfl (lv_at hl 2 rfl) ?_
      refine lv_ladd hx hb dX7_operate_26 ?_
      refine lv_goto (tgt := 44) hx hb dX7_operate_27 (by decide) ?_
      refine cn_sl (ck_S S lk_X7_205 (c_X7_limited l (x + y)) ⟨rfl, rfl⟩ ⟨Nat.le_of_ble_eq_true rfl, Nat.le_of_ble_eq_true rfl⟩ bl_T t_U rfl hl.1 (Nat.le_of_ble_eq_true rfl) ⟨Nat.le_refl _, Nat.le_refl _⟩ dX7_operate_44 rfl) (fun r5 g6 => ?_)
      obtain rfl : r5 = rLimL (x + y) := g6
      exact re_sl (v := (rLimL (x + y))) hx hb hr hlk (by simp [rOp, h2, h21]) dX7_operate_47
  · refine lv_lload_n hx hb dX7_operate_5 rfl (lv_at hl 2 rfl) ?_
    refine lv_lconst (v := 0) hx hb dX7_operate_6 (by decide) ?_
    refine W.lcmp hx hb dX7_operate_7 ?_
    refine lv_if_ne (tgt := 15) hx hb dX7_operate_8 (by decide) (fun h8 => ?_) (fun h8 => ?_)
    · refine lv_lload_n hx hb dX7_operate_15 rfl (lv_at hl 1 rfl) ?_
      refine lv_lload_n hx hb dX7_operate_16 rfl (lv_at hl 2 rfl) ?_
      refine lv_ldiv hx hb dX7_operate_17 (lc_ne.mp h8) ?_
      exact re_sl (v := (x / y)) hx hb hr hlk (by simp [rOp, h2, (lc_ne.mp h8)]) dX7_operate_18
    · refine lv_lconst (v := 0) hx hb dX7_operate_11 (by decide) ?_
      refine lv_goto (tgt := 18) hx hb dX7_operate_12 (by decide) ?_
      exact re_sl (v := 0) hx hb hr hlk (by simp [rOp, h2, (lc_eq.mp h8)]) dX7_operate_18

set_option maxHeartbeats 4000000 in
set_option maxRecDepth 100000 in
theorem c_X2_product (l : Launch) (x y : Int32)  : Met l yX2_product (wz yX2_product cX2_product 4 (some .int)) (rmk 1 0 0 40) (va_Pc [.int x, .int y] (fun _ => True)) (qSi (fun zz => zz = cProd x y)) 0 0 fr0 := by
  refine en_ofW RX2 rfl (by decide +kernel) (Nat.le_of_ble_eq_true rfl) ?_
  intro p e s m below meth c ls S hr hlk hnm hl hB
  have hx := S.1
  have hb := S.2.1
  have hl : lv_has ls 4 [(0, .int x), (1, .int y)] := hl
  refine lv_iload_n hx hb dX2_product_0 rfl (lv_at hl 0 rfl) ?_
  refine lv_i2l hx hb dX2_product_1 rfl ?_
  refine lv_iload_n hx hb dX2_product_2 rfl (lv_at hl 1 rfl) ?_
  refine lv_i2l hx hb dX2_product_3 rfl ?_
  refine lv_lmul hx hb dX2_product_4 ?_
  refine lv_lstore_n (lv' := [(2, .long (x.toInt64 * y.toInt64)), (0, .int x), (1, .int y)]) hx hb dX2_product_5 rfl hl (by decide) rfl (fun ls hl => ?_)
  refine lv_ldc2 (v := (-1000000)) hx hb S.2.2.2.1 (S.2.2.2.2 _ kc_X2_88) dX2_product_6 ?_
  refine lv_ldc2 (v := 1000000) hx hb S.2.2.2.1 (S.2.2.2.2 _ kc_X2_90) dX2_product_9 ?_
  refine lv_lload_n hx hb dX2_product_12 rfl (lv_at hl 0 rfl) ?_
  refine va_mmin_long hx hb (S.2.2.1.trans hl.1.symm) S.2.2.2.1 (S.2.2.2.2 _ km_X2_92) (S.2.2.2.2 _ ms_min_long) (S.2.2.2.2 _ mi_Math) (S.2.2.2.2 _ mc_min_long) (Nat.le_of_ble_eq_true rfl) (Nat.le_of_ble_eq_true rfl) (Nat.zero_le _) (Nat.zero_le _) dX2_product_13 ?_
  refine W.eq (g2 := F0 m 16 ls [.long (lMin 1000000 (x.toInt64 * y.toInt64)), .long (-1000000)]) rfl ?_
  refine va_mmax_long hx hb (S.2.2.1.trans hl.1.symm) S.2.2.2.1 (S.2.2.2.2 _ km_X2_98) (S.2.2.2.2 _ ms_max_long) (S.2.2.2.2 _ mi_Math) (S.2.2.2.2 _ mc_max_long) (Nat.le_of_ble_eq_true rfl) (Nat.le_of_ble_eq_true rfl) (Nat.zero_le _) (Nat.zero_le _) dX2_product_16 ?_
  refine W.eq (g2 := F0 m 19 ls [.long (lMax (-1000000) (lMin 1000000 (x.toInt64 * y.toInt64)))]) rfl ?_
  refine lv_l2i hx hb dX2_product_19 rfl ?_
  exact re_si (v := (lMax (-1000000) (lMin 1000000 (x.toInt64 * y.toInt64))).toInt32) hx hb hr hlk rfl dX2_product_20
end
