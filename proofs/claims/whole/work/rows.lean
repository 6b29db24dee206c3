section
-- ===== PART A: goes FIRST, ahead of the names: the tables' words, and 'selects' of the private methods out of them =====
/-- a private method of a class that the tables say can be made, by its rows of tables_1 -/
def lw_okq (q : MethodName × Nat) : Prop := (q.1.cls ≠ "java/lang/invoke/MethodHandle" ∧ q.1.cls ≠ "java/lang/invoke/VarHandle") ∧ Cond.instantiable q.1.cls q.2 ∈ tables_1 ∧ Cond.privateMethod q.1 ∈ tables_1 ∧ Cond.instanceMethod q.1 ∈ tables_1
theorem lw_p0 : lw_okq (⟨"java/lang/Throwable", "fillInStackTrace", "(I)Ljava/lang/Throwable;"⟩, 6) := ⟨⟨by decide +kernel, by decide +kernel⟩, List.mem_of_getElem? (i := 392) (by decide +kernel), List.mem_of_getElem? (i := 390) (by decide +kernel), List.mem_of_getElem? (i := 391) (by decide +kernel)⟩
theorem lw_p1 : lw_okq (⟨"SoundPacker$Maker", "fillSideAndMiddle", "(II)V"⟩, 7) := ⟨⟨by decide +kernel, by decide +kernel⟩, List.mem_of_getElem? (i := 91) (by decide +kernel), List.mem_of_getElem? (i := 762) (by decide +kernel), List.mem_of_getElem? (i := 763) (by decide +kernel)⟩
theorem lw_p2 : lw_okq (⟨"SoundPacker$Chooser", "offerPredicted", "(LSoundPacker$Subframe;IILSoundPacker$Predictor;)V"⟩, 2) := ⟨⟨by decide +kernel, by decide +kernel⟩, List.mem_of_getElem? (i := 114) (by decide +kernel), List.mem_of_getElem? (i := 790) (by decide +kernel), List.mem_of_getElem? (i := 791) (by decide +kernel)⟩
theorem lw_p3 : lw_okq (⟨"SoundPacker$Residuals", "finestOrder", "()I"⟩, 8) := ⟨⟨by decide +kernel, by decide +kernel⟩, List.mem_of_getElem? (i := 122) (by decide +kernel), List.mem_of_getElem? (i := 811) (by decide +kernel), List.mem_of_getElem? (i := 812) (by decide +kernel)⟩
theorem lw_p4 : lw_okq (⟨"SoundPacker$Residuals", "addUp", "(I)V"⟩, 8) := ⟨⟨by decide +kernel, by decide +kernel⟩, List.mem_of_getElem? (i := 122) (by decide +kernel), List.mem_of_getElem? (i := 815) (by decide +kernel), List.mem_of_getElem? (i := 816) (by decide +kernel)⟩
theorem lw_p5 : lw_okq (⟨"SoundPacker$Residuals", "bitsInParts", "(I)J"⟩, 8) := ⟨⟨by decide +kernel, by decide +kernel⟩, List.mem_of_getElem? (i := 122) (by decide +kernel), List.mem_of_getElem? (i := 824) (by decide +kernel), List.mem_of_getElem? (i := 825) (by decide +kernel)⟩
theorem lw_p6 : lw_okq (⟨"SoundPacker$Residuals", "joinPairs", "(I)V"⟩, 8) := ⟨⟨by decide +kernel, by decide +kernel⟩, List.mem_of_getElem? (i := 122) (by decide +kernel), List.mem_of_getElem? (i := 831) (by decide +kernel), List.mem_of_getElem? (i := 832) (by decide +kernel)⟩
theorem lw_p7 : lw_okq (⟨"SoundPacker$Maker", "shortestAssignment", "()I"⟩, 7) := ⟨⟨by decide +kernel, by decide +kernel⟩, List.mem_of_getElem? (i := 91) (by decide +kernel), List.mem_of_getElem? (i := 835) (by decide +kernel), List.mem_of_getElem? (i := 836) (by decide +kernel)⟩
theorem lw_p8 : lw_okq (⟨"SoundPacker$Maker", "sizeOf", "(I)J"⟩, 7) := ⟨⟨by decide +kernel, by decide +kernel⟩, List.mem_of_getElem? (i := 91) (by decide +kernel), List.mem_of_getElem? (i := 839) (by decide +kernel), List.mem_of_getElem? (i := 840) (by decide +kernel)⟩
theorem lw_p9 : lw_okq (⟨"SoundPacker$Maker", "writeHeader", "(II)V"⟩, 7) := ⟨⟨by decide +kernel, by decide +kernel⟩, List.mem_of_getElem? (i := 91) (by decide +kernel), List.mem_of_getElem? (i := 850) (by decide +kernel), List.mem_of_getElem? (i := 851) (by decide +kernel)⟩
theorem lw_p10 : lw_okq (⟨"SoundPacker$Chooser", "writeResiduals", "(LSoundPacker$Subframe;LSoundPacker$Predictor;LSoundPacker$Pen;)V"⟩, 2) := ⟨⟨by decide +kernel, by decide +kernel⟩, List.mem_of_getElem? (i := 114) (by decide +kernel), List.mem_of_getElem? (i := 871) (by decide +kernel), List.mem_of_getElem? (i := 872) (by decide +kernel)⟩
theorem lw_p11 : lw_okq (⟨"SoundPacker$Maker", "keepWay", "(LSoundPacker$Subframe;I)V"⟩, 7) := ⟨⟨by decide +kernel, by decide +kernel⟩, List.mem_of_getElem? (i := 91) (by decide +kernel), List.mem_of_getElem? (i := 881) (by decide +kernel), List.mem_of_getElem? (i := 882) (by decide +kernel)⟩
theorem lw_p12 : lw_okq (⟨"SoundPacker$Reader", "openStream", "()V"⟩, 11) := ⟨⟨by decide +kernel, by decide +kernel⟩, List.mem_of_getElem? (i := 227) (by decide +kernel), List.mem_of_getElem? (i := 913) (by decide +kernel), List.mem_of_getElem? (i := 914) (by decide +kernel)⟩
theorem lw_p13 : lw_okq (⟨"SoundPacker$Reader", "expect", "(IJ)V"⟩, 11) := ⟨⟨by decide +kernel, by decide +kernel⟩, List.mem_of_getElem? (i := 227) (by decide +kernel), List.mem_of_getElem? (i := 918) (by decide +kernel), List.mem_of_getElem? (i := 919) (by decide +kernel)⟩
theorem lw_p14 : lw_okq (⟨"SoundPacker$Reader", "number", "(I)J"⟩, 11) := ⟨⟨by decide +kernel, by decide +kernel⟩, List.mem_of_getElem? (i := 227) (by decide +kernel), List.mem_of_getElem? (i := 922) (by decide +kernel), List.mem_of_getElem? (i := 923) (by decide +kernel)⟩
theorem lw_p15 : lw_okq (⟨"SoundPacker$Reader", "fail", "(II)V"⟩, 11) := ⟨⟨by decide +kernel, by decide +kernel⟩, List.mem_of_getElem? (i := 227) (by decide +kernel), List.mem_of_getElem? (i := 926) (by decide +kernel), List.mem_of_getElem? (i := 927) (by decide +kernel)⟩
def lw_privs_1 : List (MethodName × Nat) := [(⟨"java/lang/Throwable", "fillInStackTrace", "(I)Ljava/lang/Throwable;"⟩, 6), (⟨"SoundPacker$Maker", "fillSideAndMiddle", "(II)V"⟩, 7), (⟨"SoundPacker$Chooser", "offerPredicted", "(LSoundPacker$Subframe;IILSoundPacker$Predictor;)V"⟩, 2), (⟨"SoundPacker$Residuals", "finestOrder", "()I"⟩, 8), (⟨"SoundPacker$Residuals", "addUp", "(I)V"⟩, 8), (⟨"SoundPacker$Residuals", "bitsInParts", "(I)J"⟩, 8), (⟨"SoundPacker$Residuals", "joinPairs", "(I)V"⟩, 8), (⟨"SoundPacker$Maker", "shortestAssignment", "()I"⟩, 7), (⟨"SoundPacker$Maker", "sizeOf", "(I)J"⟩, 7), (⟨"SoundPacker$Maker", "writeHeader", "(II)V"⟩, 7), (⟨"SoundPacker$Chooser", "writeResiduals", "(LSoundPacker$Subframe;LSoundPacker$Predictor;LSoundPacker$Pen;)V"⟩, 2), (⟨"SoundPacker$Maker", "keepWay", "(LSoundPacker$Subframe;I)V"⟩, 7), (⟨"SoundPacker$Reader", "openStream", "()V"⟩, 11), (⟨"SoundPacker$Reader", "expect", "(IJ)V"⟩, 11), (⟨"SoundPacker$Reader", "number", "(I)J"⟩, 11), (⟨"SoundPacker$Reader", "fail", "(II)V"⟩, 11)]
theorem lw_r1 : ∀ q ∈ lw_privs_1, lw_okq q := List.forall_mem_cons.mpr ⟨lw_p0, List.forall_mem_cons.mpr ⟨lw_p1, List.forall_mem_cons.mpr ⟨lw_p2, List.forall_mem_cons.mpr ⟨lw_p3, List.forall_mem_cons.mpr ⟨lw_p4, List.forall_mem_cons.mpr ⟨lw_p5, List.forall_mem_cons.mpr ⟨lw_p6, List.forall_mem_cons.mpr ⟨lw_p7, List.forall_mem_cons.mpr ⟨lw_p8, List.forall_mem_cons.mpr ⟨lw_p9, List.forall_mem_cons.mpr ⟨lw_p10, List.forall_mem_cons.mpr ⟨lw_p11, List.forall_mem_cons.mpr ⟨lw_p12, List.forall_mem_cons.mpr ⟨lw_p13, List.forall_mem_cons.mpr ⟨lw_p14, List.forall_mem_cons.mpr ⟨lw_p15, fun _ h => absurd h List.not_mem_nil⟩⟩⟩⟩⟩⟩⟩⟩⟩⟩⟩⟩⟩⟩⟩⟩
theorem lw_p16 : lw_okq (⟨"SoundPacker$Reader", "readSettings", "()V"⟩, 11) := ⟨⟨by decide +kernel, by decide +kernel⟩, List.mem_of_getElem? (i := 227) (by decide +kernel), List.mem_of_getElem? (i := 933) (by decide +kernel), List.mem_of_getElem? (i := 934) (by decide +kernel)⟩
theorem lw_p17 : lw_okq (⟨"SoundPacker$Reader", "failUnless", "(ZI)V"⟩, 11) := ⟨⟨by decide +kernel, by decide +kernel⟩, List.mem_of_getElem? (i := 227) (by decide +kernel), List.mem_of_getElem? (i := 940) (by decide +kernel), List.mem_of_getElem? (i := 941) (by decide +kernel)⟩
theorem lw_p18 : lw_okq (⟨"SoundPacker$Reader", "pass", "(I)V"⟩, 11) := ⟨⟨by decide +kernel, by decide +kernel⟩, List.mem_of_getElem? (i := 227) (by decide +kernel), List.mem_of_getElem? (i := 944) (by decide +kernel), List.mem_of_getElem? (i := 945) (by decide +kernel)⟩
theorem lw_p19 : lw_okq (⟨"SoundPacker$Reader", "readFrame", "(II)V"⟩, 11) := ⟨⟨by decide +kernel, by decide +kernel⟩, List.mem_of_getElem? (i := 227) (by decide +kernel), List.mem_of_getElem? (i := 953) (by decide +kernel), List.mem_of_getElem? (i := 954) (by decide +kernel)⟩
theorem lw_p20 : lw_okq (⟨"SoundPacker$Reader", "readHeader", "(II)I"⟩, 11) := ⟨⟨by decide +kernel, by decide +kernel⟩, List.mem_of_getElem? (i := 227) (by decide +kernel), List.mem_of_getElem? (i := 957) (by decide +kernel), List.mem_of_getElem? (i := 958) (by decide +kernel)⟩
theorem lw_p21 : lw_okq (⟨"SoundPacker$Reader", "readFrameNumber", "(I)V"⟩, 11) := ⟨⟨by decide +kernel, by decide +kernel⟩, List.mem_of_getElem? (i := 227) (by decide +kernel), List.mem_of_getElem? (i := 965) (by decide +kernel), List.mem_of_getElem? (i := 966) (by decide +kernel)⟩
theorem lw_p22 : lw_okq (⟨"SoundPacker$Reader", "expectSum", "(III)V"⟩, 11) := ⟨⟨by decide +kernel, by decide +kernel⟩, List.mem_of_getElem? (i := 227) (by decide +kernel), List.mem_of_getElem? (i := 974) (by decide +kernel), List.mem_of_getElem? (i := 975) (by decide +kernel)⟩
theorem lw_p23 : lw_okq (⟨"SoundPacker$Reader", "readSubframe", "([III)V"⟩, 11) := ⟨⟨by decide +kernel, by decide +kernel⟩, List.mem_of_getElem? (i := 227) (by decide +kernel), List.mem_of_getElem? (i := 980) (by decide +kernel), List.mem_of_getElem? (i := 981) (by decide +kernel)⟩
theorem lw_p24 : lw_okq (⟨"SoundPacker$Reader", "zerosAndOne", "()I"⟩, 11) := ⟨⟨by decide +kernel, by decide +kernel⟩, List.mem_of_getElem? (i := 227) (by decide +kernel), List.mem_of_getElem? (i := 990) (by decide +kernel), List.mem_of_getElem? (i := 991) (by decide +kernel)⟩
theorem lw_p25 : lw_okq (⟨"SoundPacker$Reader", "readNumbers", "([III)V"⟩, 11) := ⟨⟨by decide +kernel, by decide +kernel⟩, List.mem_of_getElem? (i := 227) (by decide +kernel), List.mem_of_getElem? (i := 1000) (by decide +kernel), List.mem_of_getElem? (i := 1001) (by decide +kernel)⟩
theorem lw_p26 : lw_okq (⟨"SoundPacker$Reader", "readPredictor", "(II)V"⟩, 11) := ⟨⟨by decide +kernel, by decide +kernel⟩, List.mem_of_getElem? (i := 227) (by decide +kernel), List.mem_of_getElem? (i := 1004) (by decide +kernel), List.mem_of_getElem? (i := 1005) (by decide +kernel)⟩
theorem lw_p27 : lw_okq (⟨"SoundPacker$Reader", "readResiduals", "([III)V"⟩, 11) := ⟨⟨by decide +kernel, by decide +kernel⟩, List.mem_of_getElem? (i := 227) (by decide +kernel), List.mem_of_getElem? (i := 1011) (by decide +kernel), List.mem_of_getElem? (i := 1012) (by decide +kernel)⟩
theorem lw_p28 : lw_okq (⟨"SoundPacker$Reader", "readPart", "([IIIII)V"⟩, 11) := ⟨⟨by decide +kernel, by decide +kernel⟩, List.mem_of_getElem? (i := 227) (by decide +kernel), List.mem_of_getElem? (i := 1015) (by decide +kernel), List.mem_of_getElem? (i := 1016) (by decide +kernel)⟩
theorem lw_p29 : lw_okq (⟨"SoundPacker$Reader", "uniteRows", "(II)V"⟩, 11) := ⟨⟨by decide +kernel, by decide +kernel⟩, List.mem_of_getElem? (i := 227) (by decide +kernel), List.mem_of_getElem? (i := 1025) (by decide +kernel), List.mem_of_getElem? (i := 1026) (by decide +kernel)⟩
theorem lw_p30 : lw_okq (⟨"SoundPacker$Reader", "keepSamples", "(II)V"⟩, 11) := ⟨⟨by decide +kernel, by decide +kernel⟩, List.mem_of_getElem? (i := 227) (by decide +kernel), List.mem_of_getElem? (i := 1029) (by decide +kernel), List.mem_of_getElem? (i := 1030) (by decide +kernel)⟩
theorem lw_p31 : lw_okq (⟨"SoundPacker$Reader", "expectEnd", "()V"⟩, 11) := ⟨⟨by decide +kernel, by decide +kernel⟩, List.mem_of_getElem? (i := 227) (by decide +kernel), List.mem_of_getElem? (i := 1033) (by decide +kernel), List.mem_of_getElem? (i := 1034) (by decide +kernel)⟩
def lw_privs_2 : List (MethodName × Nat) := [(⟨"SoundPacker$Reader", "readSettings", "()V"⟩, 11), (⟨"SoundPacker$Reader", "failUnless", "(ZI)V"⟩, 11), (⟨"SoundPacker$Reader", "pass", "(I)V"⟩, 11), (⟨"SoundPacker$Reader", "readFrame", "(II)V"⟩, 11), (⟨"SoundPacker$Reader", "readHeader", "(II)I"⟩, 11), (⟨"SoundPacker$Reader", "readFrameNumber", "(I)V"⟩, 11), (⟨"SoundPacker$Reader", "expectSum", "(III)V"⟩, 11), (⟨"SoundPacker$Reader", "readSubframe", "([III)V"⟩, 11), (⟨"SoundPacker$Reader", "zerosAndOne", "()I"⟩, 11), (⟨"SoundPacker$Reader", "readNumbers", "([III)V"⟩, 11), (⟨"SoundPacker$Reader", "readPredictor", "(II)V"⟩, 11), (⟨"SoundPacker$Reader", "readResiduals", "([III)V"⟩, 11), (⟨"SoundPacker$Reader", "readPart", "([IIIII)V"⟩, 11), (⟨"SoundPacker$Reader", "uniteRows", "(II)V"⟩, 11), (⟨"SoundPacker$Reader", "keepSamples", "(II)V"⟩, 11), (⟨"SoundPacker$Reader", "expectEnd", "()V"⟩, 11)]
theorem lw_r2 : ∀ q ∈ lw_privs_2, lw_okq q := List.forall_mem_cons.mpr ⟨lw_p16, List.forall_mem_cons.mpr ⟨lw_p17, List.forall_mem_cons.mpr ⟨lw_p18, List.forall_mem_cons.mpr ⟨lw_p19, List.forall_mem_cons.mpr ⟨lw_p20, List.forall_mem_cons.mpr ⟨lw_p21, List.forall_mem_cons.mpr ⟨lw_p22, List.forall_mem_cons.mpr ⟨lw_p23, List.forall_mem_cons.mpr ⟨lw_p24, List.forall_mem_cons.mpr ⟨lw_p25, List.forall_mem_cons.mpr ⟨lw_p26, List.forall_mem_cons.mpr ⟨lw_p27, List.forall_mem_cons.mpr ⟨lw_p28, List.forall_mem_cons.mpr ⟨lw_p29, List.forall_mem_cons.mpr ⟨lw_p30, List.forall_mem_cons.mpr ⟨lw_p31, fun _ h => absurd h List.not_mem_nil⟩⟩⟩⟩⟩⟩⟩⟩⟩⟩⟩⟩⟩⟩⟩⟩
theorem lw_p32 : lw_okq (⟨"SoundPackerModel", "write", "(IJ)V"⟩, 44) := ⟨⟨by decide +kernel, by decide +kernel⟩, List.mem_of_getElem? (i := 1049) (by decide +kernel), List.mem_of_getElem? (i := 1229) (by decide +kernel), List.mem_of_getElem? (i := 1230) (by decide +kernel)⟩
theorem lw_p33 : lw_okq (⟨"SoundPackerModel", "writeFrame", "(II)V"⟩, 44) := ⟨⟨by decide +kernel, by decide +kernel⟩, List.mem_of_getElem? (i := 1049) (by decide +kernel), List.mem_of_getElem? (i := 1235) (by decide +kernel), List.mem_of_getElem? (i := 1236) (by decide +kernel)⟩
theorem lw_p34 : lw_okq (⟨"SoundPackerModel", "assignment", "(II)I"⟩, 44) := ⟨⟨by decide +kernel, by decide +kernel⟩, List.mem_of_getElem? (i := 1049) (by decide +kernel), List.mem_of_getElem? (i := 1239) (by decide +kernel), List.mem_of_getElem? (i := 1240) (by decide +kernel)⟩
theorem lw_p35 : lw_okq (⟨"SoundPackerModel", "measured", "(III)J"⟩, 44) := ⟨⟨by decide +kernel, by decide +kernel⟩, List.mem_of_getElem? (i := 1049) (by decide +kernel), List.mem_of_getElem? (i := 1243) (by decide +kernel), List.mem_of_getElem? (i := 1244) (by decide +kernel)⟩
theorem lw_p36 : lw_okq (⟨"SoundPackerModel", "load", "(III)V"⟩, 44) := ⟨⟨by decide +kernel, by decide +kernel⟩, List.mem_of_getElem? (i := 1049) (by decide +kernel), List.mem_of_getElem? (i := 1247) (by decide +kernel), List.mem_of_getElem? (i := 1248) (by decide +kernel)⟩
theorem lw_p37 : lw_okq (⟨"SoundPackerModel", "bitsOf", "(I)I"⟩, 44) := ⟨⟨by decide +kernel, by decide +kernel⟩, List.mem_of_getElem? (i := 1049) (by decide +kernel), List.mem_of_getElem? (i := 1251) (by decide +kernel), List.mem_of_getElem? (i := 1252) (by decide +kernel)⟩
theorem lw_p38 : lw_okq (⟨"SoundPackerModel", "measure", "(I)V"⟩, 44) := ⟨⟨by decide +kernel, by decide +kernel⟩, List.mem_of_getElem? (i := 1049) (by decide +kernel), List.mem_of_getElem? (i := 1255) (by decide +kernel), List.mem_of_getElem? (i := 1256) (by decide +kernel)⟩
theorem lw_p39 : lw_okq (⟨"SoundPackerModel", "takeWaste", "()I"⟩, 44) := ⟨⟨by decide +kernel, by decide +kernel⟩, List.mem_of_getElem? (i := 1049) (by decide +kernel), List.mem_of_getElem? (i := 1259) (by decide +kernel), List.mem_of_getElem? (i := 1260) (by decide +kernel)⟩
theorem lw_p40 : lw_okq (⟨"SoundPackerModel", "isConstant", "()Z"⟩, 44) := ⟨⟨by decide +kernel, by decide +kernel⟩, List.mem_of_getElem? (i := 1049) (by decide +kernel), List.mem_of_getElem? (i := 1264) (by decide +kernel), List.mem_of_getElem? (i := 1265) (by decide +kernel)⟩
theorem lw_p41 : lw_okq (⟨"SoundPackerModel", "offer", "(IIJ)V"⟩, 44) := ⟨⟨by decide +kernel, by decide +kernel⟩, List.mem_of_getElem? (i := 1049) (by decide +kernel), List.mem_of_getElem? (i := 1268) (by decide +kernel), List.mem_of_getElem? (i := 1269) (by decide +kernel)⟩
theorem lw_p42 : lw_okq (⟨"SoundPackerModel", "leave", "(I)Z"⟩, 44) := ⟨⟨by decide +kernel, by decide +kernel⟩, List.mem_of_getElem? (i := 1049) (by decide +kernel), List.mem_of_getElem? (i := 1275) (by decide +kernel), List.mem_of_getElem? (i := 1276) (by decide +kernel)⟩
theorem lw_p43 : lw_okq (⟨"SoundPackerModel", "summed", "(I)J"⟩, 44) := ⟨⟨by decide +kernel, by decide +kernel⟩, List.mem_of_getElem? (i := 1049) (by decide +kernel), List.mem_of_getElem? (i := 1279) (by decide +kernel), List.mem_of_getElem? (i := 1280) (by decide +kernel)⟩
theorem lw_p44 : lw_okq (⟨"SoundPackerModel", "fixed", "([JII)J"⟩, 44) := ⟨⟨by decide +kernel, by decide +kernel⟩, List.mem_of_getElem? (i := 1049) (by decide +kernel), List.mem_of_getElem? (i := 1283) (by decide +kernel), List.mem_of_getElem? (i := 1284) (by decide +kernel)⟩
theorem lw_p45 : lw_okq (⟨"SoundPackerModel", "leftCost", "(I)J"⟩, 44) := ⟨⟨by decide +kernel, by decide +kernel⟩, List.mem_of_getElem? (i := 1049) (by decide +kernel), List.mem_of_getElem? (i := 1292) (by decide +kernel), List.mem_of_getElem? (i := 1293) (by decide +kernel)⟩
theorem lw_p46 : lw_okq (⟨"SoundPackerModel", "partsCost", "(II)J"⟩, 44) := ⟨⟨by decide +kernel, by decide +kernel⟩, List.mem_of_getElem? (i := 1049) (by decide +kernel), List.mem_of_getElem? (i := 1296) (by decide +kernel), List.mem_of_getElem? (i := 1297) (by decide +kernel)⟩
theorem lw_p47 : lw_okq (⟨"SoundPackerModel", "bestK", "(II)I"⟩, 44) := ⟨⟨by decide +kernel, by decide +kernel⟩, List.mem_of_getElem? (i := 1049) (by decide +kernel), List.mem_of_getElem? (i := 1300) (by decide +kernel), List.mem_of_getElem? (i := 1301) (by decide +kernel)⟩
def lw_privs_3 : List (MethodName × Nat) := [(⟨"SoundPackerModel", "write", "(IJ)V"⟩, 44), (⟨"SoundPackerModel", "writeFrame", "(II)V"⟩, 44), (⟨"SoundPackerModel", "assignment", "(II)I"⟩, 44), (⟨"SoundPackerModel", "measured", "(III)J"⟩, 44), (⟨"SoundPackerModel", "load", "(III)V"⟩, 44), (⟨"SoundPackerModel", "bitsOf", "(I)I"⟩, 44), (⟨"SoundPackerModel", "measure", "(I)V"⟩, 44), (⟨"SoundPackerModel", "takeWaste", "()I"⟩, 44), (⟨"SoundPackerModel", "isConstant", "()Z"⟩, 44), (⟨"SoundPackerModel", "offer", "(IIJ)V"⟩, 44), (⟨"SoundPackerModel", "leave", "(I)Z"⟩, 44), (⟨"SoundPackerModel", "summed", "(I)J"⟩, 44), (⟨"SoundPackerModel", "fixed", "([JII)J"⟩, 44), (⟨"SoundPackerModel", "leftCost", "(I)J"⟩, 44), (⟨"SoundPackerModel", "partsCost", "(II)J"⟩, 44), (⟨"SoundPackerModel", "bestK", "(II)I"⟩, 44)]
theorem lw_r3 : ∀ q ∈ lw_privs_3, lw_okq q := List.forall_mem_cons.mpr ⟨lw_p32, List.forall_mem_cons.mpr ⟨lw_p33, List.forall_mem_cons.mpr ⟨lw_p34, List.forall_mem_cons.mpr ⟨lw_p35, List.forall_mem_cons.mpr ⟨lw_p36, List.forall_mem_cons.mpr ⟨lw_p37, List.forall_mem_cons.mpr ⟨lw_p38, List.forall_mem_cons.mpr ⟨lw_p39, List.forall_mem_cons.mpr ⟨lw_p40, List.forall_mem_cons.mpr ⟨lw_p41, List.forall_mem_cons.mpr ⟨lw_p42, List.forall_mem_cons.mpr ⟨lw_p43, List.forall_mem_cons.mpr ⟨lw_p44, List.forall_mem_cons.mpr ⟨lw_p45, List.forall_mem_cons.mpr ⟨lw_p46, List.forall_mem_cons.mpr ⟨lw_p47, fun _ h => absurd h List.not_mem_nil⟩⟩⟩⟩⟩⟩⟩⟩⟩⟩⟩⟩⟩⟩⟩⟩
theorem lw_p48 : lw_okq (⟨"SoundPackerModel", "costOf", "(III)J"⟩, 44) := ⟨⟨by decide +kernel, by decide +kernel⟩, List.mem_of_getElem? (i := 1049) (by decide +kernel), List.mem_of_getElem? (i := 1304) (by decide +kernel), List.mem_of_getElem? (i := 1305) (by decide +kernel)⟩
theorem lw_p49 : lw_okq (⟨"SoundPackerModel", "writeNumber", "(I)V"⟩, 44) := ⟨⟨by decide +kernel, by decide +kernel⟩, List.mem_of_getElem? (i := 1049) (by decide +kernel), List.mem_of_getElem? (i := 1315) (by decide +kernel), List.mem_of_getElem? (i := 1316) (by decide +kernel)⟩
theorem lw_p50 : lw_okq (⟨"SoundPackerModel", "writeRow", "(I)V"⟩, 44) := ⟨⟨by decide +kernel, by decide +kernel⟩, List.mem_of_getElem? (i := 1049) (by decide +kernel), List.mem_of_getElem? (i := 1330) (by decide +kernel), List.mem_of_getElem? (i := 1331) (by decide +kernel)⟩
theorem lw_p51 : lw_okq (⟨"SoundPackerModel", "writeLeft", "(I)V"⟩, 44) := ⟨⟨by decide +kernel, by decide +kernel⟩, List.mem_of_getElem? (i := 1049) (by decide +kernel), List.mem_of_getElem? (i := 1334) (by decide +kernel), List.mem_of_getElem? (i := 1335) (by decide +kernel)⟩
theorem lw_p52 : lw_okq (⟨"SoundPackerModel", "readSettings", "()V"⟩, 44) := ⟨⟨by decide +kernel, by decide +kernel⟩, List.mem_of_getElem? (i := 1049) (by decide +kernel), List.mem_of_getElem? (i := 1359) (by decide +kernel), List.mem_of_getElem? (i := 1360) (by decide +kernel)⟩
theorem lw_p53 : lw_okq (⟨"SoundPackerModel", "takeIn", "(IJJ)J"⟩, 44) := ⟨⟨by decide +kernel, by decide +kernel⟩, List.mem_of_getElem? (i := 1049) (by decide +kernel), List.mem_of_getElem? (i := 1363) (by decide +kernel), List.mem_of_getElem? (i := 1364) (by decide +kernel)⟩
theorem lw_p54 : lw_okq (⟨"SoundPackerModel", "take", "(I)J"⟩, 44) := ⟨⟨by decide +kernel, by decide +kernel⟩, List.mem_of_getElem? (i := 1049) (by decide +kernel), List.mem_of_getElem? (i := 1367) (by decide +kernel), List.mem_of_getElem? (i := 1368) (by decide +kernel)⟩
theorem lw_p55 : lw_okq (⟨"SoundPackerModel", "wrong", "(IJ)Z"⟩, 44) := ⟨⟨by decide +kernel, by decide +kernel⟩, List.mem_of_getElem? (i := 1049) (by decide +kernel), List.mem_of_getElem? (i := 1371) (by decide +kernel), List.mem_of_getElem? (i := 1372) (by decide +kernel)⟩
theorem lw_p56 : lw_okq (⟨"SoundPackerModel", "passOver", "(J)V"⟩, 44) := ⟨⟨by decide +kernel, by decide +kernel⟩, List.mem_of_getElem? (i := 1049) (by decide +kernel), List.mem_of_getElem? (i := 1378) (by decide +kernel), List.mem_of_getElem? (i := 1379) (by decide +kernel)⟩
theorem lw_p57 : lw_okq (⟨"SoundPackerModel", "readFrame", "(II)V"⟩, 44) := ⟨⟨by decide +kernel, by decide +kernel⟩, List.mem_of_getElem? (i := 1049) (by decide +kernel), List.mem_of_getElem? (i := 1383) (by decide +kernel), List.mem_of_getElem? (i := 1384) (by decide +kernel)⟩
theorem lw_p58 : lw_okq (⟨"SoundPackerModel", "readAssignment", "()I"⟩, 44) := ⟨⟨by decide +kernel, by decide +kernel⟩, List.mem_of_getElem? (i := 1049) (by decide +kernel), List.mem_of_getElem? (i := 1387) (by decide +kernel), List.mem_of_getElem? (i := 1388) (by decide +kernel)⟩
theorem lw_p59 : lw_okq (⟨"SoundPackerModel", "readNumber", "(I)V"⟩, 44) := ⟨⟨by decide +kernel, by decide +kernel⟩, List.mem_of_getElem? (i := 1049) (by decide +kernel), List.mem_of_getElem? (i := 1392) (by decide +kernel), List.mem_of_getElem? (i := 1393) (by decide +kernel)⟩
theorem lw_p60 : lw_okq (⟨"SoundPackerModel", "readByte", "(JZ)V"⟩, 44) := ⟨⟨by decide +kernel, by decide +kernel⟩, List.mem_of_getElem? (i := 1049) (by decide +kernel), List.mem_of_getElem? (i := 1396) (by decide +kernel), List.mem_of_getElem? (i := 1397) (by decide +kernel)⟩
theorem lw_p61 : lw_okq (⟨"SoundPackerModel", "readSum", "(JI)V"⟩, 44) := ⟨⟨by decide +kernel, by decide +kernel⟩, List.mem_of_getElem? (i := 1049) (by decide +kernel), List.mem_of_getElem? (i := 1404) (by decide +kernel), List.mem_of_getElem? (i := 1405) (by decide +kernel)⟩
theorem lw_p62 : lw_okq (⟨"SoundPackerModel", "readRow", "(III)V"⟩, 44) := ⟨⟨by decide +kernel, by decide +kernel⟩, List.mem_of_getElem? (i := 1049) (by decide +kernel), List.mem_of_getElem? (i := 1408) (by decide +kernel), List.mem_of_getElem? (i := 1409) (by decide +kernel)⟩
theorem lw_p63 : lw_okq (⟨"SoundPackerModel", "takeRow", "()J"⟩, 44) := ⟨⟨by decide +kernel, by decide +kernel⟩, List.mem_of_getElem? (i := 1049) (by decide +kernel), List.mem_of_getElem? (i := 1413) (by decide +kernel), List.mem_of_getElem? (i := 1414) (by decide +kernel)⟩
def lw_privs_4 : List (MethodName × Nat) := [(⟨"SoundPackerModel", "costOf", "(III)J"⟩, 44), (⟨"SoundPackerModel", "writeNumber", "(I)V"⟩, 44), (⟨"SoundPackerModel", "writeRow", "(I)V"⟩, 44), (⟨"SoundPackerModel", "writeLeft", "(I)V"⟩, 44), (⟨"SoundPackerModel", "readSettings", "()V"⟩, 44), (⟨"SoundPackerModel", "takeIn", "(IJJ)J"⟩, 44), (⟨"SoundPackerModel", "take", "(I)J"⟩, 44), (⟨"SoundPackerModel", "wrong", "(IJ)Z"⟩, 44), (⟨"SoundPackerModel", "passOver", "(J)V"⟩, 44), (⟨"SoundPackerModel", "readFrame", "(II)V"⟩, 44), (⟨"SoundPackerModel", "readAssignment", "()I"⟩, 44), (⟨"SoundPackerModel", "readNumber", "(I)V"⟩, 44), (⟨"SoundPackerModel", "readByte", "(JZ)V"⟩, 44), (⟨"SoundPackerModel", "readSum", "(JI)V"⟩, 44), (⟨"SoundPackerModel", "readRow", "(III)V"⟩, 44), (⟨"SoundPackerModel", "takeRow", "()J"⟩, 44)]
theorem lw_r4 : ∀ q ∈ lw_privs_4, lw_okq q := List.forall_mem_cons.mpr ⟨lw_p48, List.forall_mem_cons.mpr ⟨lw_p49, List.forall_mem_cons.mpr ⟨lw_p50, List.forall_mem_cons.mpr ⟨lw_p51, List.forall_mem_cons.mpr ⟨lw_p52, List.forall_mem_cons.mpr ⟨lw_p53, List.forall_mem_cons.mpr ⟨lw_p54, List.forall_mem_cons.mpr ⟨lw_p55, List.forall_mem_cons.mpr ⟨lw_p56, List.forall_mem_cons.mpr ⟨lw_p57, List.forall_mem_cons.mpr ⟨lw_p58, List.forall_mem_cons.mpr ⟨lw_p59, List.forall_mem_cons.mpr ⟨lw_p60, List.forall_mem_cons.mpr ⟨lw_p61, List.forall_mem_cons.mpr ⟨lw_p62, List.forall_mem_cons.mpr ⟨lw_p63, fun _ h => absurd h List.not_mem_nil⟩⟩⟩⟩⟩⟩⟩⟩⟩⟩⟩⟩⟩⟩⟩⟩
theorem lw_p64 : lw_okq (⟨"SoundPackerModel", "takeSigned", "(I)J"⟩, 44) := ⟨⟨by decide +kernel, by decide +kernel⟩, List.mem_of_getElem? (i := 1049) (by decide +kernel), List.mem_of_getElem? (i := 1417) (by decide +kernel), List.mem_of_getElem? (i := 1418) (by decide +kernel)⟩
theorem lw_p65 : lw_okq (⟨"SoundPackerModel", "readLeft", "(IIII)V"⟩, 44) := ⟨⟨by decide +kernel, by decide +kernel⟩, List.mem_of_getElem? (i := 1049) (by decide +kernel), List.mem_of_getElem? (i := 1421) (by decide +kernel), List.mem_of_getElem? (i := 1422) (by decide +kernel)⟩
theorem lw_p66 : lw_okq (⟨"SoundPackerModel", "readWeights", "(I)V"⟩, 44) := ⟨⟨by decide +kernel, by decide +kernel⟩, List.mem_of_getElem? (i := 1049) (by decide +kernel), List.mem_of_getElem? (i := 1425) (by decide +kernel), List.mem_of_getElem? (i := 1426) (by decide +kernel)⟩
theorem lw_p67 : lw_okq (⟨"SoundPackerModel", "unfolded", "(I)J"⟩, 44) := ⟨⟨by decide +kernel, by decide +kernel⟩, List.mem_of_getElem? (i := 1049) (by decide +kernel), List.mem_of_getElem? (i := 1429) (by decide +kernel), List.mem_of_getElem? (i := 1430) (by decide +kernel)⟩
theorem lw_p68 : lw_okq (⟨"SoundPackerModel", "foretold", "(III)J"⟩, 44) := ⟨⟨by decide +kernel, by decide +kernel⟩, List.mem_of_getElem? (i := 1049) (by decide +kernel), List.mem_of_getElem? (i := 1433) (by decide +kernel), List.mem_of_getElem? (i := 1434) (by decide +kernel)⟩
theorem lw_p69 : lw_okq (⟨"SoundPackerModel", "isKept", "(II)Z"⟩, 44) := ⟨⟨by decide +kernel, by decide +kernel⟩, List.mem_of_getElem? (i := 1049) (by decide +kernel), List.mem_of_getElem? (i := 1437) (by decide +kernel), List.mem_of_getElem? (i := 1438) (by decide +kernel)⟩
def lw_privs_5 : List (MethodName × Nat) := [(⟨"SoundPackerModel", "takeSigned", "(I)J"⟩, 44), (⟨"SoundPackerModel", "readLeft", "(IIII)V"⟩, 44), (⟨"SoundPackerModel", "readWeights", "(I)V"⟩, 44), (⟨"SoundPackerModel", "unfolded", "(I)J"⟩, 44), (⟨"SoundPackerModel", "foretold", "(III)J"⟩, 44), (⟨"SoundPackerModel", "isKept", "(II)Z"⟩, 44)]
theorem lw_r5 : ∀ q ∈ lw_privs_5, lw_okq q := List.forall_mem_cons.mpr ⟨lw_p64, List.forall_mem_cons.mpr ⟨lw_p65, List.forall_mem_cons.mpr ⟨lw_p66, List.forall_mem_cons.mpr ⟨lw_p67, List.forall_mem_cons.mpr ⟨lw_p68, List.forall_mem_cons.mpr ⟨lw_p69, fun _ h => absurd h List.not_mem_nil⟩⟩⟩⟩⟩⟩
def lw_privs : List (MethodName × Nat) := lw_privs_1 ++ (lw_privs_2 ++ (lw_privs_3 ++ (lw_privs_4 ++ (lw_privs_5))))
def lw_tbl : List Cond := k2_sels lw_privs ++ tables_1
theorem lw_privs_ok : ∀ q ∈ lw_privs, lw_okq q := by
  show ∀ q ∈ lw_privs_1 ++ (lw_privs_2 ++ (lw_privs_3 ++ (lw_privs_4 ++ (lw_privs_5)))), lw_okq q
  exact List.forall_mem_append.mpr ⟨lw_r1, List.forall_mem_append.mpr ⟨lw_r2, List.forall_mem_append.mpr ⟨lw_r3, List.forall_mem_append.mpr ⟨lw_r4, lw_r5⟩⟩⟩⟩
/-! ===== BEGIN words of one list among another's, by their places ===== -/
theorem goodIn_r {big : List Cond} (ws : List Cond) (ps : List Nat) (hp : ws = ps.filterMap (fun i => big[i]?)) (h : ws.all goodWord = true) : GoodIn big ws := by
  intro w hw
  have h1 := List.all_eq_true.mp h w hw
  rw [hp] at hw
  obtain ⟨i, -, hi⟩ := List.mem_filterMap.mp hw
  have hm : w ∈ big := by first | exact List.mem_of_getElem? hi | exact List.getElem?_mem hi
  exact ⟨hm, good_of_word h1⟩
theorem goodIn_app {big a b : List Cond} (ha : GoodIn big a) (hb : GoodIn big b) : GoodIn big (a ++ b) := fun w h => (List.mem_append.mp h).elim (ha w) (hb w)
theorem goodIn_ca {big a b : List Cond} {c : Cond} (ha : GoodIn big (c :: a)) (hb : GoodIn big b) : GoodIn big (c :: (a ++ b)) := fun w h => (List.mem_cons.mp h).elim (fun e => ha w (List.mem_cons.mpr (Or.inl e))) (fun h => (List.mem_append.mp h).elim (fun h => ha w (List.mem_cons.mpr (Or.inr h))) (hb w))
theorem goodIn_sub {big ws : List Cond} (hm : ∀ w ∈ ws, w ∈ big) (h : ws.all goodWord = true) : GoodIn big ws := fun w hw => ⟨hm w hw, good_of_word (List.all_eq_true.mp h w hw)⟩
/-! ===== END ===== -/


/-! ===== BEGIN exceptions that leave a method, and their catching by the caller (launches without stack traces) ===== -/
section VXA
/-! The laws vx_back, vx_callV, vx_callS, vx_callSW, vx_throw0, vx_throwS follow proofs of the library, with one case more: JvmDerived/Free/Laws.lean (Back.of_free), Shelf42/LK1.lean (callV, callS), Shelf/KitTraced.lean (throwNew0V, throwNewS). -/
/-- where a method has thrown q: the class by its name, the cell, what was written, the world -/
def vx_T (XC : String → State → State → Prop) (st : State) (q : Addr) (t : State) (mc ms : Nat) (free : Addr → Prop) : Prop :=
  ∃ (E : String) (ce : Cell) (L : List Loc), XC E st t ∧ t.heap[q]? = some ce ∧ ce.vm = .none ∧ st.vm.findClass E = some ce.cls ∧ st.WarmedH t.vm ∧ st.sameButNew ({ t with vm := st.vm } : State) L mc ms ∧ ∀ z ∈ L, free z.base
def vx_Q (Qc : Array Value → State → Outcome → State → Prop) (XC : String → State → State → Prop) (mc ms : Nat) (free : Addr → Prop) : Array Value → State → Outcome → State → Prop := fun a st o t =>
  (Qc a st o t ∧ ∃ L, FrameEnd st o t L mc ms ∧ ∀ q ∈ L, free q.base) ∨ ∃ q, o = .threw q ∧ vx_T XC st q t mc ms free
/-- a callee that returns or throws -/
def vx_Met (l : Launch) (y : MethodName) (ws : List Cond) (rm : Room) (Pc : Array Value → State → Prop) (Qc : Array Value → State → Outcome → State → Prop) (XC : String → State → State → Prop) (mc ms : Nat) (free : Addr → Prop) : Prop :=
  MetFree l y (headSpec ws rm) Pc (fun _ _ _ _ _ => True) (vx_Q Qc XC mc ms free)
def vx_Post (XC : String → State → State → Prop) (mc ms : Nat) (free : Addr → Prop) : Pt → Array Value → Addr → Pt → Prop := fun A a q B =>
  ∃ (g : JFrame) (mk : MethodId) (t : State) (L : List Loc) (E : String) (ce : Cell), B.U.heap = t.heap ∧ B.U.vm = t.vm ∧ XC E (A.U.calling g mk a) t ∧ t.heap[q]? = some ce ∧ ce.vm = .none ∧ A.U.vm.findClass E = some ce.cls ∧ B.locs = A.locs ++ L ∧ (∀ z ∈ L, free z.base) ∧ B.cells = A.cells + mc ∧ B.slots = A.slots + ms
def vx_Back (l : Launch) (R : Room) (p : Program) (e : Env) (below : List Frame) (s : State) (sargs : Array Value) (y : MethodName) (len W9 : Nat)
    (Pre : Pt → Array Value → Prop) (Post : Pt → Array Value → Option Value → Pt → Prop) (PostX : Pt → Array Value → Addr → Pt → Prop) : Prop :=
  ∀ (m : MethodId) (meth : Method) (c : Code) (A : Pt) (g : JFrame) (ig : Instr) (mk : MethodId) (a : Array Value),
    Stand p l e R s m sargs below meth c A.U A.locs A.cells A.slots → g.method = m → g.locals.size = c.maxLocals → decode c.code g.pc = .ok (ig, len) →
    2 * g.monitorRoom + (g.stack.map fun v => v.category).sum ≤ W9 → A.U.methodNamed? y = some mk → Pre A a →
    (∃ (v : Option Value) (B : Pt), Stand p l e R s m sargs below meth c B.U B.locs B.cells B.slots ∧ Post A a v B ∧
      Steps p.tables e below (doInvoke e (A.U.setTop g) [] mk a).1 (B.U.setTop { g with pc := g.pc + len, stack := v.toList ++ g.stack })) ∨
    (∃ (q : Addr) (B : Pt), Stand p l e R s m sargs below meth c B.U B.locs B.cells B.slots ∧ PostX A a q B ∧
      Steps p.tables e below (doInvoke e (A.U.setTop g) [] mk a).1 ((B.U.setTop g).pushFrame (.throwing q)))
section Payer
variable {l : Launch} {R : Room} {p : Program} {e : Env} {below : List Frame} {s : State} {sargs : Array Value} {y : MethodName} {len W9 : Nat}
theorem vx_back {ws : List Cond} {rm : Room} {Pc : Array Value → State → Prop} {Qc : Array Value → State → Outcome → State → Prop} {XC : String → State → State → Prop} {mc ms : Nat} {free : Addr → Prop} {bytes : ByteArray} {maxL : Nat} {ret : Option FieldType}
    (hM : vx_Met l y ws rm Pc Qc XC mc ms free) (hblind : FrameBlind Pc) (hrc : rm.cells = mc) (hrs : rm.slots = ms)
    (hframes : rm.frames + 1 ≤ R.frames) (hlocals : W9 + (maxL + 11) + rm.locals ≤ R.locals)
    (hws : ∀ w ∈ ws, ∀ a' U, s.WarmedH U.vm → w.before a' U = true) (hcode : Cond.code y bytes maxL ret ∈ ws) (hinit : ∀ a' U, s.WarmedH U.vm → (Cond.initialized y.cls).before a' U = true) :
    vx_Back l R p e below s sargs y len W9 (PreOf R mc ms Pc) (PostOf Qc mc ms free) (vx_Post XC mc ms free) := by
  intro m meth c A g ig mk a X hg hsize hdg hW hn hp
  have h1 : (headSpec ws rm).pre.before a A.U = true := atoms_intro fun w hw => hws w hw _ _ X.warmed
  have h2 : (Cond.code y bytes maxL ret).before a A.U = true := hws _ hcode _ _ X.warmed
  have h3 : (Cond.initialized y.cls).before a A.U = true := hinit _ _ X.warmed
  have h4 : A.cells + (headSpec ws rm).room.cells ≤ R.cells := by rw [show (headSpec ws rm).room.cells = mc from hrc]; exact hp.1
  have h5 : A.slots + (headSpec ws rm).room.slots ≤ R.slots := by rw [show (headSpec ws rm).room.slots = ms from hrs]; exact hp.2.1
  have hPc : Pc a (A.U.calling g mk a) := hblind _ _ _ _ hp.2.2
  obtain ⟨U, Ls, c0, s0⟩ := A
  dsimp only [Pt.U, Pt.locs, Pt.cells, Pt.slots] at h1 h2 h3 h4 h5 X hn hPc ⊢
  obtain ⟨methY, cY, hmY, hcY, -, hlY, -, -, -, -⟩ := Cond.code_spec hn h2
  obtain ⟨kY, hkY, -⟩ := className_of_methodNamed hn
  have hinitY : kY.init = .initialized := Cond.initialized_spec (findClass_of_methodNamed hn) hkY h3
  have h : At U g.method c below := by rw [hg]; exact X.here
  have hlocals9 : W9 + (maxL + 11) + (headSpec ws rm).room.locals ≤ R.locals := hlocals
  have happ : (headSpec ws rm).appliesLoose y e.platform (U.calling g mk a) = true :=
    Spec.appliesLoose_calling (g := g) h hdg hn hkY hinitY
      (X.room_calling (g := g) (R' := (headSpec ws rm).room) hsize hmY hcY hframes (by rw [hlY]; omega) h4 h5) h1
  obtain ⟨mid, hmid⟩ := h.above
  have hfr : (U.setTop g).frames = (.java g :: mid) ++ below := by rw [State.frames_setTop' g h.top, hmid]; rfl
  obtain ⟨o, s₂, hsteps, -, hend, hq⟩ := Steps.callFree hM p X.admits X.cas X.clock (acts := []) hfr happ hPc trivial
  have hq' : vx_Q Qc XC mc ms free a (U.calling g mk a) o s₂ := hq
  rw [State.frames_setTop' g h.top] at hend
  obtain ⟨g₀, hg0⟩ := Option.isSome_iff_exists.mp h.top
  obtain ⟨r, hr⟩ := State.topJava?_eq_some.mp hg0
  have hr' : (({ U with heap := s₂.heap, slotsUsed := s₂.slotsUsed } : State).setVm s₂.vm).frames = .java g₀ :: r := hr
  rcases hq' with ⟨hqc, L, hfe, hL⟩ | ⟨q, rfl, E, ce, L, hx, hce, hcv, hcl, hW₂, hsm, hL⟩
  · obtain ⟨⟨v, rfl⟩, hW₂, e2, q2, q3, q4, q5, q6⟩ := id hfe
    have e3 : s₂ = ({ (U.calling g mk a).setFrames s₂.frames with heap := s₂.heap, slotsUsed := s₂.slotsUsed } : State).setVm s₂.vm := by
      have : s₂ = ({ s₂ with vm := (U.calling g mk a).vm } : State).setVm s₂.vm := rfl
      rw [e2] at this
      exact this
    obtain ⟨c₂, i₂, len₂, hc₂, hd₂, hf₂⟩ := hend
    have hW' : U.WarmedH s₂.vm := hW₂
    have hcc : c₂ = c := by
      have h1 : s₂.code? g.method = U.code? g.method := by
        rw [State.code?_eq, State.code?_eq, hW'.alike.method?]
      exact Option.some.inj (hc₂.symm.trans (h1.trans h.code))
    subst hcc
    have hlen : len₂ = len := by rw [hdg] at hd₂; cases hd₂; rfl
    subst hlen
    have hs₂ : s₂ = (({ U with heap := s₂.heap, slotsUsed := s₂.slotsUsed } : State).setVm s₂.vm).setTop { g with pc := g.pc + len₂, stack := v.toList ++ g.stack } := by
      refine e3.trans ?_
      rw [hf₂, State.calling_eq h.top, State.setFrames_setFrames, State.setTop_of_frames _ hr', hr]
      rfl
    have hsame : U.sameButNew ({ U with heap := s₂.heap, slotsUsed := s₂.slotsUsed } : State) L mc ms := by
      refine ⟨?_, q2, q3, q4, q5, q6⟩
      obtain ⟨t, ht, -⟩ := State.frames_cons hr
      show ({ U with heap := s₂.heap, slotsUsed := s₂.slotsUsed } : State) = { U.setFrames U.frames with heap := s₂.heap, slotsUsed := s₂.slotsUsed }
      rw [State.setFrames_self ht]
    subst hg
    refine Or.inl ⟨v, ⟨(({ U with heap := s₂.heap, slotsUsed := s₂.slotsUsed } : State).setVm s₂.vm), Ls ++ L, c0 + mc, s0 + ms⟩,
      ⟨X.admits, X.cas, X.clock, X.frames, X.room, X.hears, X.method, X.code, (X.here.setHeapUsed s₂.heap s₂.slotsUsed).setVm hW'.alike, X.tail, State.WarmedH.trans X.warmed hW', X.limits, X.bytes, X.same.trans (hsame.setVm s.vm)⟩,
      ⟨g, mk, s₂, L, rfl, rfl, hqc, rfl, hL, rfl, rfl⟩, ?_⟩
    show Steps p.tables e below _ ((({ U with heap := s₂.heap, slotsUsed := s₂.slotsUsed } : State).setVm s₂.vm).setTop { g with pc := g.pc + len₂, stack := v.toList ++ g.stack })
    rw [← hs₂]
    exact hsteps
  · obtain ⟨e2, q2, q3, q4, q5, q6⟩ := id hsm
    have e3 : s₂ = ({ (U.calling g mk a).setFrames s₂.frames with heap := s₂.heap, slotsUsed := s₂.slotsUsed } : State).setVm s₂.vm := by
      have : s₂ = ({ s₂ with vm := (U.calling g mk a).vm } : State).setVm s₂.vm := rfl
      rw [e2] at this
      exact this
    have hf₂ : s₂.frames = .throwing q :: .java g :: U.frames.tail := hend
    have hW' : U.WarmedH s₂.vm := hW₂
    have hs₂ : s₂ = ((({ U with heap := s₂.heap, slotsUsed := s₂.slotsUsed } : State).setVm s₂.vm).setTop g).pushFrame (.throwing q) := by
      refine e3.trans ?_
      rw [hf₂, State.calling_eq h.top, State.setFrames_setFrames, State.pushFrame, State.frames_setTop _ hr', State.setTop_of_frames _ hr', State.setFrames_setFrames, hr]
      rfl
    have hsame : U.sameButNew ({ U with heap := s₂.heap, slotsUsed := s₂.slotsUsed } : State) L mc ms := by
      refine ⟨?_, q2, q3, q4, q5, q6⟩
      obtain ⟨t, ht, -⟩ := State.frames_cons hr
      show ({ U with heap := s₂.heap, slotsUsed := s₂.slotsUsed } : State) = { U.setFrames U.frames with heap := s₂.heap, slotsUsed := s₂.slotsUsed }
      rw [State.setFrames_self ht]
    subst hg
    refine Or.inr ⟨q, ⟨(({ U with heap := s₂.heap, slotsUsed := s₂.slotsUsed } : State).setVm s₂.vm), Ls ++ L, c0 + mc, s0 + ms⟩,
      ⟨X.admits, X.cas, X.clock, X.frames, X.room, X.hears, X.method, X.code, (X.here.setHeapUsed s₂.heap s₂.slotsUsed).setVm hW'.alike, X.tail, State.WarmedH.trans X.warmed hW', X.limits, X.bytes, X.same.trans (hsame.setVm s.vm)⟩,
      ⟨g, mk, s₂, L, E, ce, rfl, rfl, hx, hce, hcv, hcl, rfl, hL, rfl, rfl⟩, ?_⟩
    show Steps p.tables e below _ (((({ U with heap := s₂.heap, slotsUsed := s₂.slotsUsed } : State).setVm s₂.vm).setTop g).pushFrame (.throwing q))
    rw [← hs₂]
    exact hsteps
end Payer
section Calls
variable {p : Program} {l : Launch} {e : Env} {R : Room} {s : State} {m : MethodId} {args : Array Value} {below : List Frame} {meth : Method} {c : Code} {T : State} {locs : List Loc} {cells slots : Nat}
theorem vx_callV (X : Stand p l e R s m args below meth c T locs cells slots) (hexec : p.tables.exec = Jvm.exec) {own C : String} {index : Nat} {y : MethodName} {bytes : ByteArray} {maxL : Nat} {ret : Option FieldType}
    (hown : s.vm.findClass own = some m.cls) (hlink : (Cond.methodLink own index y).before args s = true) (hinst : (Cond.instanceMethod y).before args s = true) (hsel : (Cond.selects C y y).before args s = true)
    (hcode : (Cond.code y bytes maxL ret).before args s = true) (hy : y.cls ≠ "java/lang/invoke/MethodHandle" ∧ y.cls ≠ "java/lang/invoke/VarHandle")
    {W9 : Nat} {Pre : Pt → Array Value → Prop} {Post : Pt → Array Value → Option Value → Pt → Prop} {PostX : Pt → Array Value → Addr → Pt → Prop} (hK : vx_Back l R p e below s args y 3 W9 Pre Post PostX)
    {b : Addr} {cellB : Cell} (hcell : T.heap[b]? = some cellB) (hobj : cellB.vm.isStatics = false) (hcls : s.vm.findClass C = some cellB.cls)
    {g : JFrame} (hg : g.method = m) (hsize : g.locals.size = c.maxLocals) {argsL rest : List Value} (hlen : ∀ sig, parseMethodDescriptor y.desc = some sig → argsL.length = sig.parameters.length)
    (hstack : g.stack = argsL.reverse ++ .ref b :: rest) (hW : 2 * g.monitorRoom + (rest.map fun v => v.category).sum ≤ W9) (hdg : decode c.code g.pc = .ok (.invokevirtual index, 3))
    (hpre : ∀ vm₁, s.WarmedH vm₁ → Pre ⟨T.setVm vm₁, locs, cells, slots⟩ (Value.ref b :: argsL).toArray) :
    (∃ (v : Option Value) (vm₁ : Vm) (B : Pt), s.WarmedH vm₁ ∧ Stand p l e R s m args below meth c B.U B.locs B.cells B.slots ∧ Post ⟨T.setVm vm₁, locs, cells, slots⟩ (Value.ref b :: argsL).toArray v B ∧
      ∀ target, Steps p.tables e below (B.U.setTop { g with pc := g.pc + 3, stack := v.toList ++ rest }) target → Steps p.tables e below (T.setTop g) target) ∨
    (∃ (q : Addr) (vm₁ : Vm) (B : Pt), s.WarmedH vm₁ ∧ Stand p l e R s m args below meth c B.U B.locs B.cells B.slots ∧ PostX ⟨T.setVm vm₁, locs, cells, slots⟩ (Value.ref b :: argsL).toArray q B ∧
      Steps p.tables e below (T.setTop g) ((B.U.setTop { g with stack := rest }).pushFrame (.throwing q))) := by
  obtain ⟨mk, methM, hnamed, hmethM, hstM, habM⟩ := Cond.instanceMethod_spec hinst
  obtain ⟨methM', cM, hmethM', -, -, -, -, -, -, hsigM⟩ := Cond.code_spec hnamed hcode
  cases hmethM.symm.trans hmethM'
  obtain ⟨c2, r2, m2, q1, q2, q3, q4, kP, hkP, hkPi⟩ := Cond.selects_spec hsel
  cases hcls.symm.trans q1
  cases (State.methodFound?_of_named hnamed hy).symm.trans q2
  cases hnamed.symm.trans q3
  have hselP : selectMethod e.platform s.vm cellB.cls mk = .method mk := by rw [Launch.admits_selectMethod X.admits]; exact q4
  obtain ⟨vm₁, X₁, hstep₁⟩ := X.invokevirtual hexec hown hlink hnamed hmethM hstM hkP hkPi hy (a := b) (cell := cellB) hcell
    (fun z h => by rw [h] at hobj; cases hobj) hselP hmethM habM hkP hkPi (g := g) hg (argsL := argsL) (rest := rest) (hlen _ hsigM) hstack hdg
  rcases hK m meth c ⟨T.setVm vm₁, locs, cells, slots⟩ { g with stack := rest } (.invokevirtual index) mk (Value.ref b :: argsL).toArray X₁ hg hsize hdg hW (X₁.named hnamed) (hpre vm₁ X₁.warmed) with ⟨v, B, X', hpost, hsteps⟩ | ⟨q, B, X', hpost, hsteps⟩
  · exact Or.inl ⟨v, vm₁, B, X₁.warmed, X', hpost, fun target h => hstep₁ _ fun acts => by rw [doInvoke_state]; exact hsteps.trans h⟩
  · exact Or.inr ⟨q, vm₁, B, X₁.warmed, X', hpost, hstep₁ _ fun acts => by rw [doInvoke_state]; exact hsteps⟩
theorem vx_callS (X : Stand p l e R s m args below meth c T locs cells slots) (hexec : p.tables.exec = Jvm.exec) {own : String} {index : Nat} {y : MethodName} {bytes : ByteArray} {maxL : Nat} {ret : Option FieldType}
    (hown : s.vm.findClass own = some m.cls) (hlink : (Cond.methodLink own index y).before args s = true) (hstat : (Cond.static y).before args s = true) (hinit : (Cond.initialized y.cls).before args s = true)
    (hcode : (Cond.code y bytes maxL ret).before args s = true) (hy : y.cls ≠ "java/lang/invoke/MethodHandle" ∧ y.cls ≠ "java/lang/invoke/VarHandle")
    {W9 : Nat} {Pre : Pt → Array Value → Prop} {Post : Pt → Array Value → Option Value → Pt → Prop} {PostX : Pt → Array Value → Addr → Pt → Prop} (hK : vx_Back l R p e below s args y 3 W9 Pre Post PostX)
    {g : JFrame} (hg : g.method = m) (hsize : g.locals.size = c.maxLocals) {argsL rest : List Value} (hlen : ∀ sig, parseMethodDescriptor y.desc = some sig → argsL.length = sig.parameters.length)
    (hstack : g.stack = argsL.reverse ++ rest) (hW : 2 * g.monitorRoom + (rest.map fun v => v.category).sum ≤ W9) (hdg : decode c.code g.pc = .ok (.invokestatic index, 3))
    (hpre : ∀ vm₁, s.WarmedH vm₁ → Pre ⟨T.setVm vm₁, locs, cells, slots⟩ argsL.toArray) :
    (∃ (v : Option Value) (vm₁ : Vm) (B : Pt), s.WarmedH vm₁ ∧ Stand p l e R s m args below meth c B.U B.locs B.cells B.slots ∧ Post ⟨T.setVm vm₁, locs, cells, slots⟩ argsL.toArray v B ∧
      ∀ target, Steps p.tables e below (B.U.setTop { g with pc := g.pc + 3, stack := v.toList ++ rest }) target → Steps p.tables e below (T.setTop g) target) ∨
    (∃ (q : Addr) (vm₁ : Vm) (B : Pt), s.WarmedH vm₁ ∧ Stand p l e R s m args below meth c B.U B.locs B.cells B.slots ∧ PostX ⟨T.setVm vm₁, locs, cells, slots⟩ argsL.toArray q B ∧
      Steps p.tables e below (T.setTop g) ((B.U.setTop { g with stack := rest }).pushFrame (.throwing q))) := by
  obtain ⟨mk, hnamed⟩ := Cond.code_named hcode
  obtain ⟨methM, cM, hmethM, -, -, -, -, -, -, hsigM⟩ := Cond.code_spec hnamed hcode
  have hstatic : methM.isStatic = true := Cond.static_spec hnamed hmethM hstat
  obtain ⟨kP, hkP, -⟩ := className_of_methodNamed hnamed
  have hinitP : kP.init = .initialized := Cond.initialized_spec (findClass_of_methodNamed hnamed) hkP hinit
  obtain ⟨vm₁, X₁, hstep₁⟩ := X.invokestatic hexec hown hlink hnamed hmethM hstatic hkP hinitP hy (g := g) hg (argsL := argsL) (rest := rest) (hlen _ hsigM) hstack hdg
  rcases hK m meth c ⟨T.setVm vm₁, locs, cells, slots⟩ { g with stack := rest } (.invokestatic index) mk argsL.toArray X₁ hg hsize hdg hW (X₁.named hnamed) (hpre vm₁ X₁.warmed) with ⟨v, B, X', hpost, hsteps⟩ | ⟨q, B, X', hpost, hsteps⟩
  · exact Or.inl ⟨v, vm₁, B, X₁.warmed, X', hpost, fun target h => hstep₁ _ fun acts => by rw [doInvoke_state]; exact hsteps.trans h⟩
  · exact Or.inr ⟨q, vm₁, B, X₁.warmed, X', hpost, hstep₁ _ fun acts => by rw [doInvoke_state]; exact hsteps⟩
end Calls
theorem vx_cls {s : State} {T : State} {vm₁ : Vm} {E : String} {k : ClassId} (hW : s.WarmedH vm₁) (h : (T.setVm vm₁).vm.findClass E = some k) : s.vm.findClass E = some k := by
  have h1 : vm₁.findClass E = some k := h
  rw [hW.alike.findClass] at h1
  exact h1
/-- the method's frame g, with q thrown over it -/
def vx_W (p : Program) (l : Launch) (e : Env) (R : Room) (s : State) (m : MethodId) (args : Array Value) (below : List Frame) (meth : Method) (c : Code) (H : Heap) (locs : List Loc) (cells slots : Nat) (Q : State → Prop) (g : JFrame) (q : Addr) : Prop :=
  ∀ T : State, T.heap = H → Stand p l e R s m args below meth c T locs cells slots → ∃ t, Steps p.tables e below ((T.setTop g).pushFrame (.throwing q)) t ∧ Q t
def vx_Run (p : Program) (l : Launch) (e : Env) (R : Room) (s : State) (m : MethodId) (args : Array Value) (below : List Frame) (meth : Method) (c : Code) (H : Heap) (locs : List Loc) (cells slots mc ms : Nat) (g : JFrame) (rest : List Value) (Qa : State → Outcome → State → Prop) (XC : String → State → State → Prop) (free : Addr → Prop) : Prop :=
  ∀ T : State, T.heap = H → Stand p l e R s m args below meth c T locs cells slots →
    (∃ (v : Option Value) (st₀ t T' : State) (L : List Loc), st₀.heap = H ∧ Stand p l e R s m args below meth c T' (locs ++ L) (cells + mc) (slots + ms) ∧ (∀ q ∈ L, free q.base) ∧ T'.heap = t.heap ∧ T'.vm = t.vm ∧ Qa st₀ (.returned v) t ∧
      Goes p e below T g T' { g with pc := g.pc + 3, stack := v.toList ++ rest }) ∨
    (∃ (q : Addr) (st₀ t T' : State) (L : List Loc) (E : String) (ce : Cell), st₀.heap = H ∧ Stand p l e R s m args below meth c T' (locs ++ L) (cells + mc) (slots + ms) ∧ (∀ z ∈ L, free z.base) ∧ T'.heap = t.heap ∧ T'.vm = t.vm ∧ XC E st₀ t ∧ t.heap[q]? = some ce ∧ ce.vm = .none ∧ s.vm.findClass E = some ce.cls ∧
      Steps p.tables e below (T.setTop g) ((T'.setTop { g with stack := rest }).pushFrame (.throwing q)))
def vx_X {S : Type} (px : S → Prop) (B : String → S → State → Prop) (A : Nat → Prop) : String → State → State → Prop := fun E st t => ∃ u : S, px u ∧ B E u t ∧ va_F A st t
section Runs
variable {p : Program} {l : Launch} {e : Env} {R : Room} {s : State} {m : MethodId} {args : Array Value} {below : List Frame} {meth : Method} {c : Code} {H : Heap} {locs : List Loc} {cells slots : Nat}
variable {y : MethodName} {bytes cc : ByteArray} {maxL nL mc ms n index : Nat} {ret : Option FieldType} {ws : List Cond} {rm : Room} {Pc : Array Value → State → Prop} {Qc : Array Value → State → Outcome → State → Prop} {XC : String → State → State → Prop} {free : Addr → Prop} {Ts : List Cond} {own C : String} {b : Addr} {As rest : List Value} {g : JFrame}
theorem vx_callBack (cb : CallB R s args own index y bytes maxL ret ws rm mc ms n) (hM : vx_Met l y ws rm Pc Qc XC mc ms free) (hbl : FrameBlind Pc) : vx_Back l R p e below s args y 3 8 (PreOf R mc ms Pc) (PostOf Qc mc ms free) (vx_Post XC mc ms free) := by
  obtain ⟨hrc, hrs, hfr, hlo, hws, hcw, -, hini, -⟩ := cb
  exact vx_back (bytes := bytes) (maxL := maxL) (ret := ret) hM hbl hrc hrs hfr hlo hws hcw (fun a' U hW => word_at hW (Or.inl (by first | rfl | simp [Cond.onTables, Cond.keeps, Cond.steady])) hini)
theorem vx_runV (S : CallFix p m c cc nL s args Ts own) (hM : vx_Met l y ws rm Pc Qc XC mc ms free) (cw : CallW R s args own C index y bytes maxL ret ws rm mc ms n) (hp : PreV s H C b Pc As)
    (hg : g.method = m) (hn : As.length = n) (hsize : g.locals.size = nL) (hstack : g.stack = As.reverse ++ .ref b :: rest) (hW : 2 * g.monitorRoom + (rest.map fun v => v.category).sum ≤ 8) (hdg : decode cc g.pc = .ok (.invokevirtual index, 3)) (hf : cells + mc ≤ R.cells ∧ slots + ms ≤ R.slots) :
    vx_Run p l e R s m args below meth c H locs cells slots mc ms g rest (Qc (Value.ref b :: As).toArray) XC free := by
  have hK : vx_Back l R p e below s args y 3 8 (PreOf R mc ms Pc) (PostOf Qc mc ms free) (vx_Post XC mc ms free) := vx_callBack cw.1 hM hp.1
  obtain ⟨⟨-, -, -, -, -, -, hcode, -, hy, hlen, hl⟩, hin, hse⟩ := cw
  obtain ⟨hx, hb, hml, ho, -⟩ := S
  obtain ⟨-, ⟨cellB, hcB, hoB, hclB⟩, hPc⟩ := hp
  intro T hT X
  rcases vx_callV X hx (C := C) (bytes := bytes) (maxL := maxL) (ret := ret) ho hl hin hse hcode hy hK (by rw [hT]; exact hcB) hoB hclB hg (hsize.trans hml.symm) (argsL := As) (rest := rest) (fun sig h => hn.trans (hlen sig h)) hstack hW (by rw [hb]; exact hdg)
    (fun vm₁ hW₁ => ⟨hf.1, hf.2, hPc (T.setVm vm₁) hT hW₁⟩) with ⟨v, vm₁, ⟨U', l2, c2, s2⟩, hW₁, X', ⟨g', mk, t, L, e1, e2, hq, h1, hL, h2, h3⟩, st⟩ | ⟨q, vm₁, ⟨U', l2, c2, s2⟩, hW₁, X', ⟨g', mk, t, L, E, ce, e1, e2, hq, hce, hcv, hcl, h1, hL, h2, h3⟩, st⟩
  · dsimp only [Pt.U, Pt.locs, Pt.cells, Pt.slots] at X' e1 e2 h1 h2 h3 st
    subst h1; subst h2; subst h3
    exact Or.inl ⟨v, (T.setVm vm₁).calling g' mk (Value.ref b :: As).toArray, t, U', L, hT, X', hL, e1, e2, hq, st⟩
  · dsimp only [Pt.U, Pt.locs, Pt.cells, Pt.slots] at X' e1 e2 h1 h2 h3 st hcl
    subst h1; subst h2; subst h3
    exact Or.inr ⟨q, (T.setVm vm₁).calling g' mk (Value.ref b :: As).toArray, t, U', L, E, ce, hT, X', hL, e1, e2, hq, hce, hcv, vx_cls hW₁ hcl, st⟩
theorem vx_runS (S : CallFix p m c cc nL s args Ts own) (hM : vx_Met l y ws rm Pc Qc XC mc ms free) (cw : CallB R s args own index y bytes maxL ret ws rm mc ms n ∧ (Cond.static y).before args s = true) (hp : PreS s H Pc As)
    (hg : g.method = m) (hn : As.length = n) (hsize : g.locals.size = nL) (hstack : g.stack = As.reverse ++ rest) (hW : 2 * g.monitorRoom + (rest.map fun v => v.category).sum ≤ 8) (hdg : decode cc g.pc = .ok (.invokestatic index, 3)) (hf : cells + mc ≤ R.cells ∧ slots + ms ≤ R.slots) :
    vx_Run p l e R s m args below meth c H locs cells slots mc ms g rest (Qc As.toArray) XC free := by
  have hK : vx_Back l R p e below s args y 3 8 (PreOf R mc ms Pc) (PostOf Qc mc ms free) (vx_Post XC mc ms free) := vx_callBack cw.1 hM hp.1
  obtain ⟨⟨-, -, -, -, -, -, hcode, hini, hy, hlen, hl⟩, hstt⟩ := cw
  obtain ⟨hx, hb, hml, ho, -⟩ := S
  intro T hT X
  rcases vx_callS X hx (bytes := bytes) (maxL := maxL) (ret := ret) ho hl hstt hini hcode hy hK hg (hsize.trans hml.symm) (argsL := As) (rest := rest) (fun sig h => hn.trans (hlen sig h)) hstack hW (by rw [hb]; exact hdg)
    (fun vm₁ hW₁ => ⟨hf.1, hf.2, hp.2 (T.setVm vm₁) hT hW₁⟩) with ⟨v, vm₁, ⟨U', l2, c2, s2⟩, hW₁, X', ⟨g', mk, t, L, e1, e2, hq, h1, hL, h2, h3⟩, st⟩ | ⟨q, vm₁, ⟨U', l2, c2, s2⟩, hW₁, X', ⟨g', mk, t, L, E, ce, e1, e2, hq, hce, hcv, hcl, h1, hL, h2, h3⟩, st⟩
  · dsimp only [Pt.U, Pt.locs, Pt.cells, Pt.slots] at X' e1 e2 h1 h2 h3 st
    subst h1; subst h2; subst h3
    exact Or.inl ⟨v, (T.setVm vm₁).calling g' mk As.toArray, t, U', L, hT, X', hL, e1, e2, hq, st⟩
  · dsimp only [Pt.U, Pt.locs, Pt.cells, Pt.slots] at X' e1 e2 h1 h2 h3 st hcl
    subst h1; subst h2; subst h3
    exact Or.inr ⟨q, (T.setVm vm₁).calling g' mk As.toArray, t, U', L, E, ce, hT, X', hL, e1, e2, hq, hce, hcv, vx_cls hW₁ hcl, st⟩
end Runs
section Rows
variable {p : Program} {l : Launch} {e : Env} {R : Room} {s : State} {m : MethodId} {args : Array Value} {below : List Frame} {meth : Method} {c : Code} {H : Heap} {locs : List Loc} {cells slots : Nat} {Q : State → Prop}
variable {mc ms : Nat} {free : Addr → Prop} {A0 A1 : Nat → Prop} {H0 : Heap} {a : Array Value} {pc : Nat} {ls : Array Slot} {st0 rest : List Value}
theorem vx_keep {st₀ t T' : State} {L : List Loc} (h0 : st₀.heap = H) (e1 : T'.heap = t.heap) (hS : va_S A0 H0 H locs) (hA : ∀ q, q < H.size → A1 q → A0 q) (hf : ∀ q, free q → A0 q) (hL : ∀ q ∈ L, free q.base) (hF : va_F A1 st₀ t) :
    H.size ≤ T'.heap.size ∧ (∀ q : Nat, q < H.size → ¬ A1 q → T'.heap[q]? = H[q]?) ∧ va_S A0 H0 T'.heap (locs ++ L) := by
  obtain ⟨hz, hk⟩ := hF
  rw [h0] at hz hk
  exact ⟨by rw [e1]; exact hz, fun q h1 h2 => by rw [e1]; exact hk q h1 h2,
    ⟨Nat.le_trans hS.1 (by rw [e1]; exact hz), fun q h1 h2 => by rw [e1, hk q (Nat.lt_of_lt_of_le h1 hS.1) (fun z => h2 (hA q (Nat.lt_of_lt_of_le h1 hS.1) z))]; exact hS.2.1 q h1 h2, fun q hq => by
      rcases List.mem_append.mp hq with h | h
      · exact hS.2.2 q h
      · exact hf _ (hL q h)⟩⟩
theorem vx_calli {S SX : Type} {post : Int32 → S → Prop} {px : SX → Prop} {B : S → State → Prop} {BX : String → SX → State → Prop} {AX : Nat → Prop} (hr : vx_Run p l e R s m args below meth c H locs cells slots mc ms (F0 m pc ls st0) rest (va_Qi post B A1 a) (vx_X px BX AX) free) (hS : va_S A0 H0 H locs) (hA : ∀ q, q < H.size → A1 q → A0 q) (hf : ∀ q, free q → A0 q) (hAX : ∀ q, q < H.size → AX q → A0 q)
    (kx : ∀ (E : String) (ce : Cell) (q9 : Addr) (u : SX) (t : State) (H1 : Heap) (locs1 : List Loc), t.heap = H1 → s.vm.Alike t.vm → px u → BX E u t → H.size ≤ H1.size → (∀ q : Nat, q < H.size → ¬ AX q → H1[q]? = H[q]?) → va_S A0 H0 H1 locs1 → H1[q9]? = some ce → ce.vm = .none → s.vm.findClass E = some ce.cls → vx_W p l e R s m args below meth c H1 locs1 (cells + mc) (slots + ms) Q (F0 m pc ls rest) q9)
    (kk : ∀ (r : Int32) (u : S) (t : State) (H1 : Heap) (locs1 : List Loc), t.heap = H1 → s.vm.Alike t.vm → post r u → B u t → H.size ≤ H1.size → (∀ q : Nat, q < H.size → ¬ A1 q → H1[q]? = H[q]?) → va_S A0 H0 H1 locs1 → W p l e R s m args below meth c H1 locs1 (cells + mc) (slots + ms) Q (F0 m (pc + 3) ls (.int r :: rest))) : W p l e R s m args below meth c H locs cells slots Q (F0 m pc ls st0) := by
  intro T hT X
  rcases hr T hT X with ⟨v, st₀, t, T', L, h0, X', hL, e1, e2, ⟨⟨r, u, hv, hp, hb⟩, hF⟩, st⟩ | ⟨q, st₀, t, T', L, E, ce, h0, X', hL, e1, e2, ⟨u, hp, hb, hF⟩, hce, hcv, hcl, st⟩
  · cases hv
    obtain ⟨k1, k2, k3⟩ := vx_keep h0 e1 hS hA hf hL hF
    obtain ⟨t2, a1, b1⟩ := kk r u t T'.heap (locs ++ L) e1.symm (by rw [← e2]; exact X'.warmed.alike) hp hb k1 k2 k3 T' rfl X'
    exact ⟨t2, st t2 a1, b1⟩
  · obtain ⟨k1, k2, k3⟩ := vx_keep h0 e1 hS hAX hf hL hF
    obtain ⟨t2, a1, b1⟩ := kx E ce q u t T'.heap (locs ++ L) e1.symm (by rw [← e2]; exact X'.warmed.alike) hp hb k1 k2 k3 (by rw [e1]; exact hce) hcv hcl T' rfl X'
    exact ⟨t2, st.trans a1, b1⟩
theorem vx_calll {S SX : Type} {post : Int64 → S → Prop} {px : SX → Prop} {B : S → State → Prop} {BX : String → SX → State → Prop} {AX : Nat → Prop} (hr : vx_Run p l e R s m args below meth c H locs cells slots mc ms (F0 m pc ls st0) rest (va_Ql post B A1 a) (vx_X px BX AX) free) (hS : va_S A0 H0 H locs) (hA : ∀ q, q < H.size → A1 q → A0 q) (hf : ∀ q, free q → A0 q) (hAX : ∀ q, q < H.size → AX q → A0 q)
    (kx : ∀ (E : String) (ce : Cell) (q9 : Addr) (u : SX) (t : State) (H1 : Heap) (locs1 : List Loc), t.heap = H1 → s.vm.Alike t.vm → px u → BX E u t → H.size ≤ H1.size → (∀ q : Nat, q < H.size → ¬ AX q → H1[q]? = H[q]?) → va_S A0 H0 H1 locs1 → H1[q9]? = some ce → ce.vm = .none → s.vm.findClass E = some ce.cls → vx_W p l e R s m args below meth c H1 locs1 (cells + mc) (slots + ms) Q (F0 m pc ls rest) q9)
    (kk : ∀ (r : Int64) (u : S) (t : State) (H1 : Heap) (locs1 : List Loc), t.heap = H1 → s.vm.Alike t.vm → post r u → B u t → H.size ≤ H1.size → (∀ q : Nat, q < H.size → ¬ A1 q → H1[q]? = H[q]?) → va_S A0 H0 H1 locs1 → W p l e R s m args below meth c H1 locs1 (cells + mc) (slots + ms) Q (F0 m (pc + 3) ls (.long r :: rest))) : W p l e R s m args below meth c H locs cells slots Q (F0 m pc ls st0) := by
  intro T hT X
  rcases hr T hT X with ⟨v, st₀, t, T', L, h0, X', hL, e1, e2, ⟨⟨r, u, hv, hp, hb⟩, hF⟩, st⟩ | ⟨q, st₀, t, T', L, E, ce, h0, X', hL, e1, e2, ⟨u, hp, hb, hF⟩, hce, hcv, hcl, st⟩
  · cases hv
    obtain ⟨k1, k2, k3⟩ := vx_keep h0 e1 hS hA hf hL hF
    obtain ⟨t2, a1, b1⟩ := kk r u t T'.heap (locs ++ L) e1.symm (by rw [← e2]; exact X'.warmed.alike) hp hb k1 k2 k3 T' rfl X'
    exact ⟨t2, st t2 a1, b1⟩
  · obtain ⟨k1, k2, k3⟩ := vx_keep h0 e1 hS hAX hf hL hF
    obtain ⟨t2, a1, b1⟩ := kx E ce q u t T'.heap (locs ++ L) e1.symm (by rw [← e2]; exact X'.warmed.alike) hp hb k1 k2 k3 (by rw [e1]; exact hce) hcv hcl T' rfl X'
    exact ⟨t2, st.trans a1, b1⟩
theorem vx_callf {S SX : Type} {post : UInt32 → S → Prop} {px : SX → Prop} {B : S → State → Prop} {BX : String → SX → State → Prop} {AX : Nat → Prop} (hr : vx_Run p l e R s m args below meth c H locs cells slots mc ms (F0 m pc ls st0) rest (va_Qf post B A1 a) (vx_X px BX AX) free) (hS : va_S A0 H0 H locs) (hA : ∀ q, q < H.size → A1 q → A0 q) (hf : ∀ q, free q → A0 q) (hAX : ∀ q, q < H.size → AX q → A0 q)
    (kx : ∀ (E : String) (ce : Cell) (q9 : Addr) (u : SX) (t : State) (H1 : Heap) (locs1 : List Loc), t.heap = H1 → s.vm.Alike t.vm → px u → BX E u t → H.size ≤ H1.size → (∀ q : Nat, q < H.size → ¬ AX q → H1[q]? = H[q]?) → va_S A0 H0 H1 locs1 → H1[q9]? = some ce → ce.vm = .none → s.vm.findClass E = some ce.cls → vx_W p l e R s m args below meth c H1 locs1 (cells + mc) (slots + ms) Q (F0 m pc ls rest) q9)
    (kk : ∀ (r : UInt32) (u : S) (t : State) (H1 : Heap) (locs1 : List Loc), t.heap = H1 → s.vm.Alike t.vm → post r u → B u t → H.size ≤ H1.size → (∀ q : Nat, q < H.size → ¬ A1 q → H1[q]? = H[q]?) → va_S A0 H0 H1 locs1 → W p l e R s m args below meth c H1 locs1 (cells + mc) (slots + ms) Q (F0 m (pc + 3) ls (.float r :: rest))) : W p l e R s m args below meth c H locs cells slots Q (F0 m pc ls st0) := by
  intro T hT X
  rcases hr T hT X with ⟨v, st₀, t, T', L, h0, X', hL, e1, e2, ⟨⟨r, u, hv, hp, hb⟩, hF⟩, st⟩ | ⟨q, st₀, t, T', L, E, ce, h0, X', hL, e1, e2, ⟨u, hp, hb, hF⟩, hce, hcv, hcl, st⟩
  · cases hv
    obtain ⟨k1, k2, k3⟩ := vx_keep h0 e1 hS hA hf hL hF
    obtain ⟨t2, a1, b1⟩ := kk r u t T'.heap (locs ++ L) e1.symm (by rw [← e2]; exact X'.warmed.alike) hp hb k1 k2 k3 T' rfl X'
    exact ⟨t2, st t2 a1, b1⟩
  · obtain ⟨k1, k2, k3⟩ := vx_keep h0 e1 hS hAX hf hL hF
    obtain ⟨t2, a1, b1⟩ := kx E ce q u t T'.heap (locs ++ L) e1.symm (by rw [← e2]; exact X'.warmed.alike) hp hb k1 k2 k3 (by rw [e1]; exact hce) hcv hcl T' rfl X'
    exact ⟨t2, st.trans a1, b1⟩
theorem vx_calld {S SX : Type} {post : UInt64 → S → Prop} {px : SX → Prop} {B : S → State → Prop} {BX : String → SX → State → Prop} {AX : Nat → Prop} (hr : vx_Run p l e R s m args below meth c H locs cells slots mc ms (F0 m pc ls st0) rest (va_Qd post B A1 a) (vx_X px BX AX) free) (hS : va_S A0 H0 H locs) (hA : ∀ q, q < H.size → A1 q → A0 q) (hf : ∀ q, free q → A0 q) (hAX : ∀ q, q < H.size → AX q → A0 q)
    (kx : ∀ (E : String) (ce : Cell) (q9 : Addr) (u : SX) (t : State) (H1 : Heap) (locs1 : List Loc), t.heap = H1 → s.vm.Alike t.vm → px u → BX E u t → H.size ≤ H1.size → (∀ q : Nat, q < H.size → ¬ AX q → H1[q]? = H[q]?) → va_S A0 H0 H1 locs1 → H1[q9]? = some ce → ce.vm = .none → s.vm.findClass E = some ce.cls → vx_W p l e R s m args below meth c H1 locs1 (cells + mc) (slots + ms) Q (F0 m pc ls rest) q9)
    (kk : ∀ (r : UInt64) (u : S) (t : State) (H1 : Heap) (locs1 : List Loc), t.heap = H1 → s.vm.Alike t.vm → post r u → B u t → H.size ≤ H1.size → (∀ q : Nat, q < H.size → ¬ A1 q → H1[q]? = H[q]?) → va_S A0 H0 H1 locs1 → W p l e R s m args below meth c H1 locs1 (cells + mc) (slots + ms) Q (F0 m (pc + 3) ls (.double r :: rest))) : W p l e R s m args below meth c H locs cells slots Q (F0 m pc ls st0) := by
  intro T hT X
  rcases hr T hT X with ⟨v, st₀, t, T', L, h0, X', hL, e1, e2, ⟨⟨r, u, hv, hp, hb⟩, hF⟩, st⟩ | ⟨q, st₀, t, T', L, E, ce, h0, X', hL, e1, e2, ⟨u, hp, hb, hF⟩, hce, hcv, hcl, st⟩
  · cases hv
    obtain ⟨k1, k2, k3⟩ := vx_keep h0 e1 hS hA hf hL hF
    obtain ⟨t2, a1, b1⟩ := kk r u t T'.heap (locs ++ L) e1.symm (by rw [← e2]; exact X'.warmed.alike) hp hb k1 k2 k3 T' rfl X'
    exact ⟨t2, st t2 a1, b1⟩
  · obtain ⟨k1, k2, k3⟩ := vx_keep h0 e1 hS hAX hf hL hF
    obtain ⟨t2, a1, b1⟩ := kx E ce q u t T'.heap (locs ++ L) e1.symm (by rw [← e2]; exact X'.warmed.alike) hp hb k1 k2 k3 (by rw [e1]; exact hce) hcv hcl T' rfl X'
    exact ⟨t2, st.trans a1, b1⟩
theorem vx_callv {S SX : Type} {post : S → Prop} {px : SX → Prop} {B : S → State → Prop} {BX : String → SX → State → Prop} {AX : Nat → Prop} (hr : vx_Run p l e R s m args below meth c H locs cells slots mc ms (F0 m pc ls st0) rest (va_Qv post B A1 a) (vx_X px BX AX) free) (hS : va_S A0 H0 H locs) (hA : ∀ q, q < H.size → A1 q → A0 q) (hf : ∀ q, free q → A0 q) (hAX : ∀ q, q < H.size → AX q → A0 q)
    (kx : ∀ (E : String) (ce : Cell) (q9 : Addr) (u : SX) (t : State) (H1 : Heap) (locs1 : List Loc), t.heap = H1 → s.vm.Alike t.vm → px u → BX E u t → H.size ≤ H1.size → (∀ q : Nat, q < H.size → ¬ AX q → H1[q]? = H[q]?) → va_S A0 H0 H1 locs1 → H1[q9]? = some ce → ce.vm = .none → s.vm.findClass E = some ce.cls → vx_W p l e R s m args below meth c H1 locs1 (cells + mc) (slots + ms) Q (F0 m pc ls rest) q9)
    (kk : ∀ (u : S) (t : State) (H1 : Heap) (locs1 : List Loc), t.heap = H1 → s.vm.Alike t.vm → post u → B u t → H.size ≤ H1.size → (∀ q : Nat, q < H.size → ¬ A1 q → H1[q]? = H[q]?) → va_S A0 H0 H1 locs1 → W p l e R s m args below meth c H1 locs1 (cells + mc) (slots + ms) Q (F0 m (pc + 3) ls (rest))) : W p l e R s m args below meth c H locs cells slots Q (F0 m pc ls st0) := by
  intro T hT X
  rcases hr T hT X with ⟨v, st₀, t, T', L, h0, X', hL, e1, e2, ⟨⟨u, hv, hp, hb⟩, hF⟩, st⟩ | ⟨q, st₀, t, T', L, E, ce, h0, X', hL, e1, e2, ⟨u, hp, hb, hF⟩, hce, hcv, hcl, st⟩
  · cases hv
    obtain ⟨k1, k2, k3⟩ := vx_keep h0 e1 hS hA hf hL hF
    obtain ⟨t2, a1, b1⟩ := kk u t T'.heap (locs ++ L) e1.symm (by rw [← e2]; exact X'.warmed.alike) hp hb k1 k2 k3 T' rfl X'
    exact ⟨t2, st t2 a1, b1⟩
  · obtain ⟨k1, k2, k3⟩ := vx_keep h0 e1 hS hAX hf hL hF
    obtain ⟨t2, a1, b1⟩ := kx E ce q u t T'.heap (locs ++ L) e1.symm (by rw [← e2]; exact X'.warmed.alike) hp hb k1 k2 k3 (by rw [e1]; exact hce) hcv hcl T' rfl X'
    exact ⟨t2, st.trans a1, b1⟩
end Rows
section Ends
variable {p : Program} {l : Launch} {e : Env} {R : Room} {s : State} {m : MethodId} {args : Array Value} {below : List Frame} {meth : Method} {c : Code} {H : Heap} {locs : List Loc} {cells slots : Nat} {Q : State → Prop}
variable {mc ms : Nat} {free : Addr → Prop} {A0 A1 : Nat → Prop} {H0 : Heap} {a : Array Value} {ls : Array Slot} {st0 rest : List Value}
variable {Qc : Array Value → State → Outcome → State → Prop} {XC : String → State → State → Prop}
/-- what a body that may throw owes at its end -/
def vx_MQ (below : List Frame) (Qc : Array Value → State → Outcome → State → Prop) (XC : String → State → State → Prop) (a : Array Value) (s : State) (mc ms : Nat) (free : Addr → Prop) : State → Prop := fun t =>
  ∃ o, t.status = .running ∧ Ended t below o ∧ vx_Q Qc XC mc ms free a s o t
theorem vx_ret {g : JFrame} {mc ms : Nat} (k : W p l e R s m args below meth c H locs cells slots (MQ below Qc args s mc ms free) g) : W p l e R s m args below meth c H locs cells slots (vx_MQ below Qc XC args s mc ms free) g := by
  intro T hT X
  obtain ⟨t, a1, o, b1, b2, b3, b4⟩ := k T hT X
  exact ⟨t, a1, o, b1, b2, Or.inl ⟨b3, b4⟩⟩
/-- not caught here: it goes on to the caller -/
theorem vx_widen {g : JFrame} {q : Addr} {k n : Nat} (h1 : cells ≤ k) (h2 : slots ≤ n) (kk : vx_W p l e R s m args below meth c H locs k n Q g q) : vx_W p l e R s m args below meth c H locs cells slots Q g q := fun T hT X => kk T hT (stand_widen X h1 h2)
theorem vx_out {pc : Nat} {E : String} {ce : Cell} {q : Addr} {mc ms : Nat} (hout : ∀ x ∈ c.exceptionTable.toList, covers x pc = false) (hlocks : meth.locks = false) (hcell : H[q]? = some ce) (hv : ce.vm = .none) (hcl : s.vm.findClass E = some ce.cls)
    (hx : ∀ t : State, t.heap = H → s.vm.Alike t.vm → XC E s t) (hf : ∀ z ∈ locs, free z.base) (hc : cells ≤ mc) (hs : slots ≤ ms) :
    vx_W p l e R s m args below meth c H locs cells slots (vx_MQ below Qc XC args s mc ms free) (F0 m pc ls rest) q := by
  intro T hT X
  obtain ⟨st1, hrun, hend, hW, hsm⟩ := X.leaveThrown q (g := F0 m pc ls rest) rfl rfl rfl hout hlocks
  have hcell9 : (T.setFrames (.throwing q :: below)).heap[q]? = some ce := by
    show T.heap[q]? = some ce
    rw [hT]; exact hcell
  exact ⟨_, st1, .threw q, hrun, hend, Or.inr ⟨q, rfl, E, ce, locs, hx _ hT hW.alike, hcell9, hv, hcl, hW, hsm.mono hc hs, hf⟩⟩
theorem vx_frame {U : State} {k n : Nat} (h : s.sameButNew ({ U with vm := s.vm } : State) locs k n) : s.heap.size ≤ U.heap.size ∧ ∀ q : Nat, q < s.heap.size → (∀ z ∈ locs, z.base ≠ q) → U.heap[q]? = s.heap[q]? := by
  obtain ⟨-, h2, -, -, -, h6⟩ := h
  refine ⟨h2, fun q hq hz => ?_⟩
  obtain ⟨c9, e1, e2, e3, e4⟩ := h6 q _ (Array.getElem?_eq_getElem hq)
  have hs : c9.slots = (s.heap[q]).slots := Array.ext_getElem? fun i => e4 i fun hm => hz _ hm rfl
  have h9 : c9 = s.heap[q] := by
    rw [hs] at e2
    exact e2
  have e5 : U.heap[q]? = some c9 := e1
  rw [e5, h9, Array.getElem?_eq_getElem hq]
/-- the words of a throw but the four that speak of the heap -/
def vx_no (w : Cond) : Bool := decide (w ≠ .isRef (.static Bundle.tN "UNASSIGNED_STACK" Bundle.steD)) && decide (w ≠ .isRef (.static Bundle.tN "SUPPRESSED_SENTINEL" Bundle.listD)) && decide (w ≠ .laysStatic Bundle.tN "UNASSIGNED_STACK" Bundle.steD) && decide (w ≠ .laysStatic Bundle.tN "SUPPRESSED_SENTINEL" Bundle.listD)
def vx_at0 (own : String) (ic : Nat) (X : String) (names : List String) : List Cond := (Bundle.ownAtoms0 own ic X names).filter vx_no
def vx_atS (own : String) (ic : Nat) (X : String) (names : List String) : List Cond := (Bundle.ownAtoms own ic X names).filter vx_no
/-- a word that the tables alone decide, or a good one -/
def vx_ot (w : Cond) : Bool := w.onTables || goodWord w
theorem vx_ot_at {args a' : Array Value} {s U : State} {w : Cond} (hW : s.WarmedH U.vm) (hvm : s.vm = U.vm) (hg : vx_ot w = true) (h : w.before args s = true) : w.before a' U = true := by
  simp only [vx_ot, Bool.or_eq_true] at hg
  rcases hg with hg | hg
  · exact va_tabs hg hvm h
  · exact word_at hW (good_of_word hg) h
/-- a list's words: the good ones out of the method's own list, the others by premises of their own -/
theorem vx_hat {args : Array Value} {s : State} {L B : List Cond} (h1 : ∀ w ∈ L.filter goodWord, w.before args s = true) (h2 : ∀ w ∈ L.filter (fun w => !goodWord w), w ∈ B) (h3 : ∀ w ∈ B, w.before args s = true) : ∀ w ∈ L, w.before args s = true := by
  intro w hw
  by_cases g : goodWord w = true
  · exact h1 w (List.mem_filter.mpr ⟨hw, g⟩)
  · refine h3 w (h2 w (List.mem_filter.mpr ⟨hw, ?_⟩))
    show (!goodWord w) = true
    cases hgw : goodWord w
    · rfl
    · exact absurd hgw g
theorem vx_c {args : Array Value} {s : State} {w : Cond} {B : List Cond} (h : w.before args s = true) (t : ∀ w ∈ B, w.before args s = true) : ∀ w' ∈ w :: B, w'.before args s = true := fun w' h' => (List.mem_cons.mp h').elim (fun e => by rw [e]; exact h) (t w')
theorem vx_n {args : Array Value} {s : State} : ∀ w ∈ ([] : List Cond), w.before args s = true := fun _ h => nomatch h
theorem vx_own {args : Array Value} {s : State} {L : List Cond} (h1 : ∀ w ∈ L.filter vx_no, w.before args s = true)
    (hU : (Cond.isRef (.static Bundle.tN "UNASSIGNED_STACK" Bundle.steD)).before args s = true) (hN : (Cond.isRef (.static Bundle.tN "SUPPRESSED_SENTINEL" Bundle.listD)).before args s = true)
    (lU : (Cond.laysStatic Bundle.tN "UNASSIGNED_STACK" Bundle.steD).before args s = true) (lN : (Cond.laysStatic Bundle.tN "SUPPRESSED_SENTINEL" Bundle.listD).before args s = true) : ∀ w ∈ L, w.before args s = true := by
  intro w hw
  by_cases e1 : w = .isRef (.static Bundle.tN "UNASSIGNED_STACK" Bundle.steD)
  · rw [e1]; exact hU
  · by_cases e2 : w = .isRef (.static Bundle.tN "SUPPRESSED_SENTINEL" Bundle.listD)
    · rw [e2]; exact hN
    · by_cases e3 : w = .laysStatic Bundle.tN "UNASSIGNED_STACK" Bundle.steD
      · rw [e3]; exact lU
      · by_cases e4 : w = .laysStatic Bundle.tN "SUPPRESSED_SENTINEL" Bundle.listD
        · rw [e4]; exact lN
        · exact h1 w (List.mem_filter.mpr ⟨hw, by unfold vx_no; rw [decide_eq_true e1, decide_eq_true e2, decide_eq_true e3, decide_eq_true e4]; rfl⟩)
/-- where a static field lies, its class's statics cell in H -/
def vx_L (C n d : String) (A : Nat → Prop) (U : State) (H : Heap) : Prop := ∃ (c : ClassId) (k : Class) (i : Nat) (f : Field) (a : Nat) (cell : Cell), U.vm.findClass C = some c ∧ U.fieldFound? C n d = some (c, k, i, f) ∧ f.isStatic = true ∧ k.statics = some a ∧ H[a]? = some cell ∧ cell.vm.isStatics = true ∧ cell.cls = c ∧ f.slot < cell.slots.size ∧ k.staticTypes[f.slot]? = some f.type ∧ ¬ A a
theorem vx_L.moved {C n d : String} {A : Nat → Prop} {u U : State} {H : Heap} (hvm : u.vm.Alike U.vm) (h : vx_L C n d A u H) : vx_L C n d A U H := by
  obtain ⟨c, k, i, f, a, cell, h1, h2, h3, h4, h5, h6, h7, h8, h9, h10⟩ := h
  obtain ⟨k', hi', he⟩ := State.fieldFound?_setVm hvm h2
  exact ⟨c, k', i, f, a, cell, by rw [hvm.findClass]; exact h1, hi', h3, by rw [he]; exact h4, h5, h6, h7, h8, by rw [he]; exact h9, h10⟩
theorem vx_L.kept {C n d : String} {A : Nat → Prop} {U : State} {H H1 : Heap} (h : vx_L C n d A U H) (hq : ∀ a : Nat, a < H.size → ¬ A a → H1[a]? = H[a]?) : vx_L C n d A U H1 := by
  obtain ⟨c, k, i, f, a, cell, h1, h2, h3, h4, h5, h6, h7, h8, h9, h10⟩ := h
  exact ⟨c, k, i, f, a, cell, h1, h2, h3, h4, by rw [hq a (Array.getElem?_eq_some_iff.mp h5).1 h10]; exact h5, h6, h7, h8, h9, h10⟩
theorem vx_L.narrow {C n d : String} {A B : Nat → Prop} {U : State} {H : Heap} (h : vx_L C n d A U H) (hAB : ∀ q, B q → A q) : vx_L C n d B U H := by
  obtain ⟨c, k, i, f, a, cell, h1, h2, h3, h4, h5, h6, h7, h8, h9, h10⟩ := h
  exact ⟨c, k, i, f, a, cell, h1, h2, h3, h4, h5, h6, h7, h8, h9, fun z => h10 (hAB _ z)⟩
theorem vx_L.word {C n d : String} {A : Nat → Prop} {s : State} {args : Array Value} (h : vx_L C n d A s s.heap) : (Cond.laysStatic C n d).before args s = true := by
  obtain ⟨c, k, i, f, a, cell, h1, h2, h3, h4, h5, h6, h7, h8, h9, -⟩ := h
  show (Cond.laysStatic C n d).holds args s none s [] = true
  exact Cond.laysStatic_of h1 h2 h3 h4 h5 h6 h7 h8 h9
/-- .. and what it holds: null or some reference -/
def vx_Zq (C n d : String) (A : Nat → Prop) (U : State) (H : Heap) : Prop := va_Zq C n d A U H ∧ vx_L C n d A U H
theorem vx_Zq.moved {C n d : String} {A : Nat → Prop} {u U : State} {H : Heap} (hvm : u.vm.Alike U.vm) (h : vx_Zq C n d A u H) : vx_Zq C n d A U H := ⟨va_Zq.moved hvm h.1, vx_L.moved hvm h.2⟩
theorem vx_Zq.kept {C n d : String} {A : Nat → Prop} {U : State} {H H1 : Heap} (h : vx_Zq C n d A U H) (hq : ∀ a : Nat, a < H.size → ¬ A a → H1[a]? = H[a]?) : vx_Zq C n d A U H1 := ⟨va_Zq.kept h.1 hq, vx_L.kept h.2 hq⟩
theorem vx_Zq.narrow {C n d : String} {A B : Nat → Prop} {U : State} {H : Heap} (h : vx_Zq C n d A U H) (hAB : ∀ q, B q → A q) : vx_Zq C n d B U H := ⟨va_Zq.narrow h.1 hAB, vx_L.narrow h.2 hAB⟩
theorem vx_Zqof {args : Array Value} {s : State} {C n d : String} {A : Nat → Prop} (hl : (Cond.laysStatic C n d).before args s = true) (hini : (Cond.initialized C).before args s = true) (h : (Cond.isRef (.static C n d)).before args s = true) (hA : ∀ a : Nat, a < s.heap.size → ¬ A a) : vx_Zq C n d A s s.heap := by
  refine ⟨va_Zqof hl hini h hA, ?_⟩
  obtain ⟨c, k, i, f, a, cell, h1, h2, h3, h4, h5, h6, h7, h8, h9⟩ := Cond.laysStatic_spec hl
  exact ⟨c, k, i, f, a, cell, h1, h2, h3, h4, h5, h6, h7, h8, h9, hA a (Array.getElem?_eq_some_iff.mp h5).1⟩
theorem vx_isRef {C n d : String} {v : Value} {A : Nat → Prop} {s : State} {args : Array Value} (h : va_Z C n d v A s s.heap) (hv : v.isRef = true) : (Cond.isRef (.static C n d)).before args s = true := by
  obtain ⟨cf, kf, fi, f, a, cell, h1, h2, h3, h4, h5, h6, h7, -⟩ := h
  have he : (Term.static C n d).eval args s none [] s = some v := by
    simp [Term.eval, State.fieldNamed?, h1, h2, h4, h5, h6, h7]
  simp only [Cond.before, Cond.holds, Cond.value, he]
  cases v <;> simp_all [Value.isRef]
theorem vx_isRefq {C n d : String} {A : Nat → Prop} {s : State} {args : Array Value} (h : va_Zq C n d A s s.heap) : (Cond.isRef (.static C n d)).before args s = true := by
  rcases h with h | ⟨t, h⟩
  · exact vx_isRef h rfl
  · exact vx_isRef h rfl
/-- the same frame, seen from here: as if the method were called anew in this heap -/
theorem vx_rebase {T : State} (X : Stand p l e R s m args below meth c T locs cells slots) {R' : Room} (hf : R'.frames ≤ R.frames) (hl : R'.locals ≤ R.locals) (hc : cells + R'.cells ≤ R.cells) (hs : slots + R'.slots ≤ R.slots) :
    Stand p l e R' ((T.setVm s.vm).setFrames (.invoking m args :: below)) m args below meth c T [] 0 0 := by
  have htop : (T.setVm s.vm).topJava?.isSome := X.here.top
  have hF : ((T.setVm s.vm).setFrames (.invoking m args :: below)).frames = .invoking m args :: below := State.frames_setFrames _ (State.cur_lt_of_top htop)
  obtain ⟨g₀, hg0⟩ := Option.isSome_iff_exists.mp htop
  obtain ⟨r, hr⟩ := State.topJava?_eq_some.mp hg0
  have hl9 : e.platform.stackLimits (T.setVm s.vm).me = e.platform.stackLimits s.me := X.limits
  have hb9 : (T.setVm s.vm).me.stackBytes = s.me.stackBytes := X.bytes
  refine ⟨X.admits, X.cas, X.clock, hF, ?_, X.hears, X.method, X.code, X.here, X.tail, X.warmed, ?_, ?_, ?_⟩
  · have h := X.room
    have hU : ((T.setVm s.vm).setFrames (.invoking m args :: below)).localsInUse = s.localsInUse := by
      rw [State.localsInUse_invoking hF (meth := meth) (c := c) X.method X.code, State.localsInUse_invoking X.frames X.method X.code]
    simp only [State.hasRoom, Bool.and_eq_true, decide_eq_true_eq] at h ⊢
    obtain ⟨⟨⟨⟨h1, h2, h3, h4, h5, h6⟩, h7⟩, h8⟩, h9⟩ := h
    rw [X.frames, List.length_cons] at h2 h3
    have q1 := X.heapSize
    have q2 := X.used
    simp only [hF, hU, List.length_cons, State.stackLimits_setFrames, State.stackBytes_setFrames, hl9, hb9]
    refine ⟨⟨⟨⟨by omega, by omega, by omega, by omega, by omega, h6⟩, ?_⟩, ?_⟩, X.book⟩
    · show T.heap.size + R'.cells ≤ e.platform.maxCells
      omega
    · show T.slotsUsed + R'.slots ≤ e.platform.maxSlots
      omega
  · rw [State.stackLimits_setFrames]; rfl
  · rw [State.stackBytes_setFrames]; rfl
  · refine ⟨?_, Nat.le_refl _, Nat.le_refl _, ?_, ?_, fun a c9 h9 => ⟨c9, h9, rfl, rfl, fun _ _ => rfl⟩⟩
    · obtain ⟨t, ht, -⟩ := State.frames_cons hr
      show T.setVm s.vm = { ((T.setVm s.vm).setFrames (.invoking m args :: below)).setFrames (T.setVm s.vm).frames with heap := T.heap, slotsUsed := T.slotsUsed }
      rw [State.setFrames_setFrames, State.setFrames_self ht]
      rfl
    · show T.slotsUsed = T.slotsUsed + ((T.heap.toList.drop T.heap.size).map (·.slots.size)).sum
      rw [List.drop_eq_nil_of_le (Nat.le_of_eq Array.length_toList)]
      rfl
    · show ((T.heap.toList.drop T.heap.size).map (·.slots.size)).sum ≤ 0
      rw [List.drop_eq_nil_of_le (Nat.le_of_eq Array.length_toList)]
      exact Nat.le_refl _
/-- 'throw new E()': new; dup; invokespecial; athrow -/
theorem vx_throw0 {cc : ByteArray} {pc : Nat} (hexec : p.tables.exec = Jvm.exec) (hb : c.code = cc) (hl : l.stackTraces = false) {own cls : String} {names : List String} {ik ic mc ms : Nat} {A : Nat → Prop}
    (hown : s.vm.findClass own = some m.cls) (hcls : Bundle.fit cls = true) (hnames : ∀ n ∈ names, Bundle.fit n = true)
    (hk : (Cond.classLink own ik cls).before args s = true) (hini : (Cond.initialized cls).before args s = true) (hat : ∀ w ∈ vx_at0 own ic cls names, w.before args s = true)
    (hgood : ∀ w ∈ Cond.classLink own ik cls :: Cond.initialized cls :: vx_at0 own ic cls names, vx_ot w = true)
    (hU : vx_Zq Bundle.tN "UNASSIGNED_STACK" Bundle.steD A s s.heap) (hN : vx_Zq Bundle.tN "SUPPRESSED_SENTINEL" Bundle.listD A s s.heap) (hS : va_S A s.heap H locs) (hsize : ls.size = c.maxLocals)
    (d0 : decode cc pc = .ok (.new ik, 3)) (d3 : decode cc (pc + 3) = .ok (.dup, 1)) (d4 : decode cc (pc + 4) = .ok (.invokespecial ic, 3)) (d7 : decode cc (pc + 7) = .ok (.athrow, 1))
    (hout : ∀ x ∈ c.exceptionTable.toList, covers x (pc + 7) = false)
    (hRframes : names.length + 3 < R.frames) (hRlocals : (rest.map fun v => v.category).sum + (13 * (names.length + 1) + 42) ≤ R.locals) (hRcells : cells + 1 ≤ R.cells) (hRslots : slots + 6 ≤ R.slots) (hlocks : meth.locks = false)
    (hx : ∀ t : State, s.vm.Alike t.vm → H.size ≤ t.heap.size → (∀ q : Nat, q < H.size → t.heap[q]? = H[q]?) → XC cls s t)
    (hf : ∀ z ∈ locs, free z.base) (hc : cells + 1 ≤ mc) (hs : slots + 6 ≤ ms) :
    W p l e R s m args below meth c H locs cells slots (vx_MQ below Qc XC args s mc ms free) (F0 m pc ls rest) := by
  intro T hT X
  have htr : e.platform.stackTraces = false := (show e.platform.stackTraces = l.stackTraces by rw [X.admits.platform]).trans hl
  have Y := vx_rebase X (R' := { frames := R.frames, locals := R.locals, cells := 1, slots := 6 }) (Nat.le_refl _) (Nat.le_refl _) hRcells hRslots
  obtain ⟨s', hA⟩ : ∃ z, z = (T.setVm s.vm).setFrames (.invoking m args :: below) := ⟨_, rfl⟩
  rw [← hA] at Y
  have hvm : s'.vm = s.vm := by rw [hA]; rfl
  have hhp : s'.heap = H := by rw [hA]; exact hT
  have hW0 : s.WarmedH s'.vm := by rw [hvm]; exact State.WarmedH.refl s
  have hat' : ∀ w ∈ vx_at0 own ic cls names, w.before args s' = true := fun w hw => vx_ot_at hW0 hvm.symm (hgood w (List.mem_cons_of_mem _ (List.mem_cons_of_mem _ hw))) (hat w hw)
  have hk' : (Cond.classLink own ik cls).before args s' = true := vx_ot_at hW0 hvm.symm (hgood _ List.mem_cons_self) hk
  have hini' : (Cond.initialized cls).before args s' = true := vx_ot_at hW0 hvm.symm (hgood _ (List.mem_cons_of_mem _ List.mem_cons_self)) hini
  have hU' : vx_Zq Bundle.tN "UNASSIGNED_STACK" Bundle.steD A s' s'.heap := by rw [hhp]; exact vx_Zq.moved hW0.alike (hU.kept hS.2.1)
  have hN' : vx_Zq Bundle.tN "SUPPRESSED_SENTINEL" Bundle.listD A s' s'.heap := by rw [hhp]; exact vx_Zq.moved hW0.alike (hN.kept hS.2.1)
  have h : ∀ w ∈ Bundle.ownAtoms0 own ic cls names, w.before args s' = true := vx_own hat' (vx_isRefq hU'.1) (vx_isRefq hN'.1) hU'.2.word hN'.2.word
  have hown' : s'.vm.findClass own = some m.cls := by rw [hvm]; exact hown
  have hins : (Cond.instantiable cls 6).before args s' = true := h _ (by simp [Bundle.ownAtoms0])
  obtain ⟨vm₁, cX, kX, hfX, hkX, -, -, X₁, st1⟩ := Y.newCold hexec (own := own) (C := cls) (index := ik) (n := 6) hown' hk' hins hini'
    (g := F0 m pc ls rest) rfl (by rw [hb]; exact d0) (Nat.le_refl _) (Nat.le_refl _)
  generalize hT1 : (T.setVm vm₁).pushCell { cls := cX, slots := kX.instanceTypes.map defaultValue, vm := .none } = T1 at X₁ st1
  have hcat : (Value.ref T.heap.size).category = 1 := rfl
  have hcellA : T1.heap[T.heap.size]? = some (freshCell cX kX) := by rw [← hT1]; exact State.heap_pushCell_size _ _
  have d3' : decode c.code (pc + 3) = .ok (.dup, 1) := by rw [hb]; exact d3
  obtain ⟨U, hsteps, hrun, hend, hW, hsame, ce, hce, hO⟩ := X₁.ctorThrow0 hexec htr (own := own) (cls := cls) (names := names) (ic := ic) hown' hcls hnames h (fun x hx => nomatch hx) hfX hkX hcellA (by rw [hhp, hT]; exact Nat.le_refl _)
    (g := { method := m, pc := pc + 4, locals := ls, stack := .ref T.heap.size :: .ref T.heap.size :: rest, locked := none }) rfl hsize rfl rfl (rest := rest) rfl
    (by rw [hb]; exact d4) (by rw [hb]; exact d7) hout hRframes (by simp only [List.map_cons, List.sum_cons, hcat]; omega) hlocks
  obtain ⟨f1, f2⟩ := vx_frame hsame
  rw [hhp] at f1 f2
  have hWs : s.WarmedH U.vm := State.WarmedH.trans hW0 hW
  have hcl : s.vm.findClass cls = some ce.cls := by
    have h9 := hO.cls
    rw [hvm] at h9
    exact h9
  have hall : s.sameButNew ({ U with vm := s.vm } : State) locs mc ms := by
    subst hA
    obtain ⟨e1, e2⟩ := hsame
    rw [State.setFrames_setFrames] at e1
    have h2 : (T.setVm s.vm).sameButNew ({ U with vm := s.vm } : State) [] (0 + 1) (0 + 6) := ⟨e1, e2⟩
    have h3 := X.same.trans h2
    rw [List.append_nil] at h3
    exact h3.mono hc hs
  refine ⟨U, ?_, .threw T.heap.size, hrun, hend, Or.inr ⟨T.heap.size, rfl, cls, ce, locs, hx U hWs.alike f1 (fun q hq => f2 q hq (fun z hz => nomatch hz)), hce, hO.vm, hcl, hWs, hall, hf⟩⟩
  refine st1 _ ?_
  show Steps p.tables e below (T1.setTop { method := m, pc := pc + 3, locals := ls, stack := .ref T.heap.size :: rest, locked := none }) _
  jvm_step X₁.here [X₁.here.top, hexec, d3', Value.category]
  exact hsteps
/-- 'throw new E("text")': new; dup; ldc; invokespecial; athrow -/
theorem vx_throwS {cc : ByteArray} {pc : Nat} (hexec : p.tables.exec = Jvm.exec) (hb : c.code = cc) (hl : l.stackTraces = false) {own cls text : String} {names : List String} {ik is ic mc ms sa : Nat} {A : Nat → Prop}
    (hown : s.vm.findClass own = some m.cls) (hcls : Bundle.fit cls = true) (hnames : ∀ n ∈ names, Bundle.fit n = true)
    (hk : (Cond.classLink own ik cls).before args s = true) (hini : (Cond.initialized cls).before args s = true) (hstr : vk_R own is text sa s) (hat : ∀ w ∈ vx_atS own ic cls names, w.before args s = true)
    (hgood : ∀ w ∈ Cond.classLink own ik cls :: Cond.initialized cls :: vx_atS own ic cls names, vx_ot w = true)
    (hU : vx_Zq Bundle.tN "UNASSIGNED_STACK" Bundle.steD A s s.heap) (hN : vx_Zq Bundle.tN "SUPPRESSED_SENTINEL" Bundle.listD A s s.heap) (hS : va_S A s.heap H locs) (hsize : ls.size = c.maxLocals)
    (d0 : decode cc pc = .ok (.new ik, 3)) (d3 : decode cc (pc + 3) = .ok (.dup, 1)) (d4 : decode cc (pc + 4) = .ok (.ldc is, 2)) (d6 : decode cc (pc + 6) = .ok (.invokespecial ic, 3)) (d9 : decode cc (pc + 9) = .ok (.athrow, 1))
    (hout : ∀ x ∈ c.exceptionTable.toList, covers x (pc + 9) = false)
    (hRframes : names.length + 3 < R.frames) (hRlocals : (rest.map fun v => v.category).sum + (13 * (names.length + 1) + 43) ≤ R.locals) (hRcells : cells + 1 ≤ R.cells) (hRslots : slots + 6 ≤ R.slots) (hlocks : meth.locks = false)
    (hx : ∀ t : State, s.vm.Alike t.vm → H.size ≤ t.heap.size → (∀ q : Nat, q < H.size → t.heap[q]? = H[q]?) → XC cls s t)
    (hf : ∀ z ∈ locs, free z.base) (hc : cells + 1 ≤ mc) (hs : slots + 6 ≤ ms) :
    W p l e R s m args below meth c H locs cells slots (vx_MQ below Qc XC args s mc ms free) (F0 m pc ls rest) := by
  intro T hT X
  have htr : e.platform.stackTraces = false := (show e.platform.stackTraces = l.stackTraces by rw [X.admits.platform]).trans hl
  have Y := vx_rebase X (R' := { frames := R.frames, locals := R.locals, cells := 1, slots := 6 }) (Nat.le_refl _) (Nat.le_refl _) hRcells hRslots
  obtain ⟨s', hA⟩ : ∃ z, z = (T.setVm s.vm).setFrames (.invoking m args :: below) := ⟨_, rfl⟩
  rw [← hA] at Y
  have hvm : s'.vm = s.vm := by rw [hA]; rfl
  have hhp : s'.heap = H := by rw [hA]; exact hT
  have hW0 : s.WarmedH s'.vm := by rw [hvm]; exact State.WarmedH.refl s
  have hat' : ∀ w ∈ vx_atS own ic cls names, w.before args s' = true := fun w hw => vx_ot_at hW0 hvm.symm (hgood w (List.mem_cons_of_mem _ (List.mem_cons_of_mem _ hw))) (hat w hw)
  have hk' : (Cond.classLink own ik cls).before args s' = true := vx_ot_at hW0 hvm.symm (hgood _ List.mem_cons_self) hk
  have hini' : (Cond.initialized cls).before args s' = true := vx_ot_at hW0 hvm.symm (hgood _ (List.mem_cons_of_mem _ List.mem_cons_self)) hini
  have hU' : vx_Zq Bundle.tN "UNASSIGNED_STACK" Bundle.steD A s' s'.heap := by rw [hhp]; exact vx_Zq.moved hW0.alike (hU.kept hS.2.1)
  have hN' : vx_Zq Bundle.tN "SUPPRESSED_SENTINEL" Bundle.listD A s' s'.heap := by rw [hhp]; exact vx_Zq.moved hW0.alike (hN.kept hS.2.1)
  have h : ∀ w ∈ Bundle.ownAtoms own ic cls names, w.before args s' = true := vx_own hat' (vx_isRefq hU'.1) (vx_isRefq hN'.1) hU'.2.word hN'.2.word
  have hown' : s'.vm.findClass own = some m.cls := by rw [hvm]; exact hown
  have hins : (Cond.instantiable cls 6).before args s' = true := h _ (by simp [Bundle.ownAtoms])
  obtain ⟨vm₁, cX, kX, hfX, hkX, -, -, X₁, st1⟩ := Y.newCold hexec (own := own) (C := cls) (index := ik) (n := 6) hown' hk' hins hini'
    (g := F0 m pc ls rest) rfl (by rw [hb]; exact d0) (Nat.le_refl _) (Nat.le_refl _)
  generalize hT1 : (T.setVm vm₁).pushCell { cls := cX, slots := kX.instanceTypes.map defaultValue, vm := .none } = T1 at X₁ st1
  have hcat : (Value.ref T.heap.size).category = 1 := rfl
  have hcellA : T1.heap[T.heap.size]? = some (freshCell cX kX) := by rw [← hT1]; exact State.heap_pushCell_size _ _
  have d3' : decode c.code (pc + 3) = .ok (.dup, 1) := by rw [hb]; exact d3
  have d4' : decode c.code (pc + 4) = .ok (.ldc is, 2) := by rw [hb]; exact d4
  have hstr' : vk_R own is text sa s' := vk_R.warm hW0 hstr
  obtain ⟨U, hsteps, hrun, hend, hW, hsame, ce, hce, hO⟩ := X₁.ctorThrowS hexec htr (own := own) (cls := cls) (names := names) (ic := ic) hown' hcls hnames h (fun x hx => nomatch hx) hfX hkX hcellA (by rw [hhp, hT]; exact Nat.le_refl _) (msg := .ref sa) rfl
    (g := { method := m, pc := pc + 6, locals := ls, stack := .ref sa :: .ref T.heap.size :: .ref T.heap.size :: rest, locked := none }) rfl hsize rfl rfl (rest := rest) rfl
    (by rw [hb]; exact d6) (by rw [hb]; exact d9) hout hRframes (by simp only [List.map_cons, List.sum_cons, hcat]; omega) hlocks
  obtain ⟨f1, f2⟩ := vx_frame hsame
  rw [hhp] at f1 f2
  have hWs : s.WarmedH U.vm := State.WarmedH.trans hW0 hW
  have hcl : s.vm.findClass cls = some ce.cls := by
    have h9 := hO.cls
    rw [hvm] at h9
    exact h9
  have hall : s.sameButNew ({ U with vm := s.vm } : State) locs mc ms := by
    subst hA
    obtain ⟨e1, e2⟩ := hsame
    rw [State.setFrames_setFrames] at e1
    have h2 : (T.setVm s.vm).sameButNew ({ U with vm := s.vm } : State) [] (0 + 1) (0 + 6) := ⟨e1, e2⟩
    have h3 := X.same.trans h2
    rw [List.append_nil] at h3
    exact h3.mono hc hs
  refine ⟨U, ?_, .threw T.heap.size, hrun, hend, Or.inr ⟨T.heap.size, rfl, cls, ce, locs, hx U hWs.alike f1 (fun q hq => f2 q hq (fun z hz => nomatch hz)), hce, hO.vm, hcl, hWs, hall, hf⟩⟩
  refine st1 _ ?_
  show Steps p.tables e below (T1.setTop { method := m, pc := pc + 3, locals := ls, stack := .ref T.heap.size :: rest, locked := none }) _
  jvm_step X₁.here [X₁.here.top, hexec, d3', Value.category]
  exact X₁.ldcString hexec (own := own) (text := text) (index := is) (a := sa) hown' hstr'.1 hstr'.2
    (g := { method := m, pc := pc + 4, locals := ls, stack := .ref T.heap.size :: .ref T.heap.size :: rest, locked := none }) rfl d4' _ hsteps
/-- 'throw new E("text")', the text by a wide index -/
theorem vx_throwSW {cc : ByteArray} {pc : Nat} (hexec : p.tables.exec = Jvm.exec) (hb : c.code = cc) (hl : l.stackTraces = false) {own cls text : String} {names : List String} {ik is ic mc ms sa : Nat} {A : Nat → Prop}
    (hown : s.vm.findClass own = some m.cls) (hcls : Bundle.fit cls = true) (hnames : ∀ n ∈ names, Bundle.fit n = true)
    (hk : (Cond.classLink own ik cls).before args s = true) (hini : (Cond.initialized cls).before args s = true) (hstr : vk_R own is text sa s) (hat : ∀ w ∈ vx_atS own ic cls names, w.before args s = true)
    (hgood : ∀ w ∈ Cond.classLink own ik cls :: Cond.initialized cls :: vx_atS own ic cls names, vx_ot w = true)
    (hU : vx_Zq Bundle.tN "UNASSIGNED_STACK" Bundle.steD A s s.heap) (hN : vx_Zq Bundle.tN "SUPPRESSED_SENTINEL" Bundle.listD A s s.heap) (hS : va_S A s.heap H locs) (hsize : ls.size = c.maxLocals)
    (d0 : decode cc pc = .ok (.new ik, 3)) (d3 : decode cc (pc + 3) = .ok (.dup, 1)) (d4 : decode cc (pc + 4) = .ok (.ldc_w is, 3)) (d7 : decode cc (pc + 7) = .ok (.invokespecial ic, 3)) (d10 : decode cc (pc + 10) = .ok (.athrow, 1))
    (hout : ∀ x ∈ c.exceptionTable.toList, covers x (pc + 10) = false)
    (hRframes : names.length + 3 < R.frames) (hRlocals : (rest.map fun v => v.category).sum + (13 * (names.length + 1) + 43) ≤ R.locals) (hRcells : cells + 1 ≤ R.cells) (hRslots : slots + 6 ≤ R.slots) (hlocks : meth.locks = false)
    (hx : ∀ t : State, s.vm.Alike t.vm → H.size ≤ t.heap.size → (∀ q : Nat, q < H.size → t.heap[q]? = H[q]?) → XC cls s t)
    (hf : ∀ z ∈ locs, free z.base) (hc : cells + 1 ≤ mc) (hs : slots + 6 ≤ ms) :
    W p l e R s m args below meth c H locs cells slots (vx_MQ below Qc XC args s mc ms free) (F0 m pc ls rest) := by
  intro T hT X
  have htr : e.platform.stackTraces = false := (show e.platform.stackTraces = l.stackTraces by rw [X.admits.platform]).trans hl
  have Y := vx_rebase X (R' := { frames := R.frames, locals := R.locals, cells := 1, slots := 6 }) (Nat.le_refl _) (Nat.le_refl _) hRcells hRslots
  obtain ⟨s', hA⟩ : ∃ z, z = (T.setVm s.vm).setFrames (.invoking m args :: below) := ⟨_, rfl⟩
  rw [← hA] at Y
  have hvm : s'.vm = s.vm := by rw [hA]; rfl
  have hhp : s'.heap = H := by rw [hA]; exact hT
  have hW0 : s.WarmedH s'.vm := by rw [hvm]; exact State.WarmedH.refl s
  have hat' : ∀ w ∈ vx_atS own ic cls names, w.before args s' = true := fun w hw => vx_ot_at hW0 hvm.symm (hgood w (List.mem_cons_of_mem _ (List.mem_cons_of_mem _ hw))) (hat w hw)
  have hk' : (Cond.classLink own ik cls).before args s' = true := vx_ot_at hW0 hvm.symm (hgood _ List.mem_cons_self) hk
  have hini' : (Cond.initialized cls).before args s' = true := vx_ot_at hW0 hvm.symm (hgood _ (List.mem_cons_of_mem _ List.mem_cons_self)) hini
  have hU' : vx_Zq Bundle.tN "UNASSIGNED_STACK" Bundle.steD A s' s'.heap := by rw [hhp]; exact vx_Zq.moved hW0.alike (hU.kept hS.2.1)
  have hN' : vx_Zq Bundle.tN "SUPPRESSED_SENTINEL" Bundle.listD A s' s'.heap := by rw [hhp]; exact vx_Zq.moved hW0.alike (hN.kept hS.2.1)
  have h : ∀ w ∈ Bundle.ownAtoms own ic cls names, w.before args s' = true := vx_own hat' (vx_isRefq hU'.1) (vx_isRefq hN'.1) hU'.2.word hN'.2.word
  have hown' : s'.vm.findClass own = some m.cls := by rw [hvm]; exact hown
  have hins : (Cond.instantiable cls 6).before args s' = true := h _ (by simp [Bundle.ownAtoms])
  obtain ⟨vm₁, cX, kX, hfX, hkX, -, -, X₁, st1⟩ := Y.newCold hexec (own := own) (C := cls) (index := ik) (n := 6) hown' hk' hins hini'
    (g := F0 m pc ls rest) rfl (by rw [hb]; exact d0) (Nat.le_refl _) (Nat.le_refl _)
  generalize hT1 : (T.setVm vm₁).pushCell { cls := cX, slots := kX.instanceTypes.map defaultValue, vm := .none } = T1 at X₁ st1
  have hcat : (Value.ref T.heap.size).category = 1 := rfl
  have hcellA : T1.heap[T.heap.size]? = some (freshCell cX kX) := by rw [← hT1]; exact State.heap_pushCell_size _ _
  have d3' : decode c.code (pc + 3) = .ok (.dup, 1) := by rw [hb]; exact d3
  have d4' : decode c.code (pc + 4) = .ok (.ldc_w is, 3) := by rw [hb]; exact d4
  have hstr' : vk_R own is text sa s' := vk_R.warm hW0 hstr
  obtain ⟨U, hsteps, hrun, hend, hW, hsame, ce, hce, hO⟩ := X₁.ctorThrowS hexec htr (own := own) (cls := cls) (names := names) (ic := ic) hown' hcls hnames h (fun x hx => nomatch hx) hfX hkX hcellA (by rw [hhp, hT]; exact Nat.le_refl _) (msg := .ref sa) rfl
    (g := { method := m, pc := pc + 7, locals := ls, stack := .ref sa :: .ref T.heap.size :: .ref T.heap.size :: rest, locked := none }) rfl hsize rfl rfl (rest := rest) rfl
    (by rw [hb]; exact d7) (by rw [hb]; exact d10) hout hRframes (by simp only [List.map_cons, List.sum_cons, hcat]; omega) hlocks
  obtain ⟨f1, f2⟩ := vx_frame hsame
  rw [hhp] at f1 f2
  have hWs : s.WarmedH U.vm := State.WarmedH.trans hW0 hW
  have hcl : s.vm.findClass cls = some ce.cls := by
    have h9 := hO.cls
    rw [hvm] at h9
    exact h9
  have hall : s.sameButNew ({ U with vm := s.vm } : State) locs mc ms := by
    subst hA
    obtain ⟨e1, e2⟩ := hsame
    rw [State.setFrames_setFrames] at e1
    have h2 : (T.setVm s.vm).sameButNew ({ U with vm := s.vm } : State) [] (0 + 1) (0 + 6) := ⟨e1, e2⟩
    have h3 := X.same.trans h2
    rw [List.append_nil] at h3
    exact h3.mono hc hs
  refine ⟨U, ?_, .threw T.heap.size, hrun, hend, Or.inr ⟨T.heap.size, rfl, cls, ce, locs, hx U hWs.alike f1 (fun q hq => f2 q hq (fun z hz => nomatch hz)), hce, hO.vm, hcl, hWs, hall, hf⟩⟩
  refine st1 _ ?_
  show Steps p.tables e below (T1.setTop { method := m, pc := pc + 3, locals := ls, stack := .ref T.heap.size :: rest, locked := none }) _
  jvm_step X₁.here [X₁.here.top, hexec, d3', Value.category]
  exact X₁.ldcStringW hexec (own := own) (text := text) (index := is) (a := sa) hown' hstr'.1 hstr'.2
    (g := { method := m, pc := pc + 4, locals := ls, stack := .ref T.heap.size :: .ref T.heap.size :: rest, locked := none }) rfl d4' _ hsteps
end Ends
section Bodies
variable {l : Launch}
theorem vx_ofW {y : MethodName} {ws ws' : List Cond} {rm : Room} {Pc : Array Value → State → Prop} {Qc : Array Value → State → Outcome → State → Prop} {XC : String → State → State → Prop} {mc ms : Nat} {free : Addr → Prop} {cc : ByteArray} {maxL : Nat} {ret : Option FieldType}
    (hy : plainName y.cls = true) (hw : ws = Cond.code y cc maxL ret :: ws')
    (body : ∀ p e s m args below meth c s₁, BodyLoose p l y (headSpec ws rm) cc maxL ret e s m args below meth c s₁ → c.maxLocals = maxL → (∀ x ∈ c.exceptionTable.toList, False) → Pc args s →
      W p l e (headSpec ws rm).room s m args below meth c s.heap [] 0 0 (vx_MQ below Qc XC args s mc ms free) (entryFrame m args maxL)) : vx_Met l y ws rm Pc Qc XC mc ms free := by
  refine MetFree.of_bodyS (code := cc) (maxLocals := maxL) (ret := ret) hy ?_ ?_
  · intro args s m h hn
    obtain ⟨meth, c, h1, h2, h3, h4, h5, h6, -, -⟩ := Cond.code_spec hn (atoms_spec (ws := ws) h _ (by rw [hw]; exact List.mem_cons_self))
    exact ⟨meth, c, h1, h2, h3, h4, h5, h6⟩
  · intro p e s m args below meth c s₁ B hml hP _
    have hh0 : s₁.heap = s.heap := by rw [B.state]; rfl
    have ht : ∀ x ∈ c.exceptionTable.toList, False := by
      obtain ⟨meth9, c9, h1, h2, -, -, -, -, h7, -⟩ := Cond.code_spec B.named (atoms_spec (ws := ws) B.pre _ (by rw [hw]; exact List.mem_cons_self))
      cases Option.some.inj (h1.symm.trans B.method)
      cases Option.some.inj (h2.symm.trans (Stand.of_body B).code)
      intro x hx
      rw [Array.isEmpty_iff.mp h7] at hx
      cases hx
    obtain ⟨t, a1, o, b1, b2, b3⟩ := body p e s m args below meth c s₁ B hml ht hP s₁ hh0 (Stand.of_body B)
    exact ⟨t, o, a1, b1, b2, b3⟩
/-- the table of a body with handlers -/
theorem vx_table {p : Program} {x y : MethodName} {S : Spec} {cc bytes : ByteArray} {maxL maxL' : Nat} {ret ret' : Option FieldType} {e : Env} {s s₁ : State} {m : MethodId} {args : Array Value} {below : List Frame} {meth : Method} {c : Code} {hh : List (Nat × Nat × Nat × Nat)}
    (B : BodyLoose p l y S cc maxL ret e s m args below meth c s₁) (h : (Cond.codeWith y bytes maxL' ret' hh).before args s = true) : c.exceptionTable.toList = tableOf hh := by
  obtain ⟨m9, meth9, c9, hn9, h1, h2, -, -, h6, -⟩ := Cond.codeWith_spec h
  cases Option.some.inj (hn9.symm.trans B.named)
  cases Option.some.inj (h1.symm.trans B.method)
  cases Option.some.inj (h2.symm.trans (Stand.of_body B).code)
  rw [← h6, table_eq]
end Bodies
end VXA
/-! ===== END ===== -/
/-! ===== BEGIN a static call of a method with an exception table ===== -/
section VXS
variable {p : Program} {l : Launch} {e : Env} {R : Room} {s : State} {m : MethodId} {args : Array Value} {below : List Frame} {meth : Method} {c : Code} {T : State} {H : Heap} {locs : List Loc} {cells slots : Nat}
abbrev vx_CSW (R : Room) (s : State) (args : Array Value) (own : String) (index : Nat) (y : MethodName) (bytes : ByteArray) (maxL : Nat) (ret : Option FieldType) (hh : List (Nat × Nat × Nat × Nat)) (ws : List Cond) (rm : Room) (mc ms n : Nat) : Prop :=
  (rm.cells = mc ∧ rm.slots = ms ∧ rm.frames + 1 ≤ R.frames ∧ 8 + (maxL + 11) + rm.locals ≤ R.locals ∧ (∀ w ∈ ws, ∀ (a' : Array Value) (U : State), s.WarmedH U.vm → w.before a' U = true) ∧ Cond.codeWith y bytes maxL ret hh ∈ ws) ∧
  (Cond.codeWith y bytes maxL ret hh).before args s = true ∧ (Cond.initialized y.cls).before args s = true ∧ (y.cls ≠ "java/lang/invoke/MethodHandle" ∧ y.cls ≠ "java/lang/invoke/VarHandle") ∧
  (∀ sig, parseMethodDescriptor y.desc = some sig → n = sig.parameters.length) ∧ (Cond.methodLink own index y).before args s = true ∧ (Cond.static y).before args s = true
theorem vx_cwSW {own : String} {index maxL mc ms : Nat} {y : MethodName} {bytes : ByteArray} {ret : Option FieldType} {hh : List (Nat × Nat × Nat × Nat)} {Ts ws ws' : List Cond} {rm : Room} (n : Nat) (ht : ∀ w ∈ Ts, w.before args s = true) (hT : GoodIn Ts (va_wsS own index y ws)) (hw : ws = Cond.codeWith y bytes maxL ret hh :: ws') (hrc : rm.cells = mc) (hrs : rm.slots = ms)
    (hd : y.cls ≠ "java/lang/invoke/MethodHandle" ∧ y.cls ≠ "java/lang/invoke/VarHandle" ∧ (parseMethodDescriptor y.desc).map (fun d => d.parameters.length) = some n) (hR : rm.frames + 1 ≤ R.frames ∧ 8 + (maxL + 11) + rm.locals ≤ R.locals) :
    vx_CSW R s args own index y bytes maxL ret hh ws rm mc ms n := by
  have ok : ∀ w ∈ va_wsS own index y ws, w.before args s = true := fun w h => ht w (hT w h).1
  have hG : GoodIn Ts ws := fun w h => hT w (by unfold va_wsS; exact List.mem_append_right _ h)
  have hc : Cond.codeWith y bytes maxL ret hh ∈ ws := by rw [hw]; exact List.mem_cons_self
  refine ⟨⟨hrc, hrs, hR.1, hR.2, pay_in ht hG, hc⟩, ht _ (hG _ hc).1, ok _ (by simp [va_wsS]), ⟨hd.1, hd.2.1⟩, fun sig h => ?_, ok _ (by simp [va_wsS]), ok _ (by simp [va_wsS])⟩
  have h2 := hd.2.2
  rw [h] at h2
  exact (Option.some.inj h2).symm
theorem vx_callSW (X : Stand p l e R s m args below meth c T locs cells slots) (hexec : p.tables.exec = Jvm.exec) {own : String} {index : Nat} {y : MethodName} {bytes : ByteArray} {maxL : Nat} {ret : Option FieldType} {hh : List (Nat × Nat × Nat × Nat)}
    (hown : s.vm.findClass own = some m.cls) (hlink : (Cond.methodLink own index y).before args s = true) (hstat : (Cond.static y).before args s = true) (hinit : (Cond.initialized y.cls).before args s = true)
    (hcode : (Cond.codeWith y bytes maxL ret hh).before args s = true) (hy : y.cls ≠ "java/lang/invoke/MethodHandle" ∧ y.cls ≠ "java/lang/invoke/VarHandle")
    {W9 : Nat} {Pre : Pt → Array Value → Prop} {Post : Pt → Array Value → Option Value → Pt → Prop} (hK : Back l R p e below s args y 3 W9 Pre Post)
    {g : JFrame} (hg : g.method = m) (hsize : g.locals.size = c.maxLocals) {argsL rest : List Value} (hlen : ∀ sig, parseMethodDescriptor y.desc = some sig → argsL.length = sig.parameters.length)
    (hstack : g.stack = argsL.reverse ++ rest) (hW : 2 * g.monitorRoom + (rest.map fun v => v.category).sum ≤ W9) (hdg : decode c.code g.pc = .ok (.invokestatic index, 3))
    (hpre : ∀ vm₁, s.WarmedH vm₁ → Pre ⟨T.setVm vm₁, locs, cells, slots⟩ argsL.toArray) :
    ∃ (v : Option Value) (vm₁ : Vm) (B : Pt), s.WarmedH vm₁ ∧ Stand p l e R s m args below meth c B.U B.locs B.cells B.slots ∧ Post ⟨T.setVm vm₁, locs, cells, slots⟩ argsL.toArray v B ∧
      ∀ target, Steps p.tables e below (B.U.setTop { g with pc := g.pc + 3, stack := v.toList ++ rest }) target → Steps p.tables e below (T.setTop g) target := by
  obtain ⟨mk, methM, cM, hnamed, hmethM, -, -, -, -, -, -, hsigM⟩ := Cond.codeWith_spec hcode
  have hstatic : methM.isStatic = true := Cond.static_spec hnamed hmethM hstat
  obtain ⟨kP, hkP, -⟩ := className_of_methodNamed hnamed
  have hinitP : kP.init = .initialized := Cond.initialized_spec (findClass_of_methodNamed hnamed) hkP hinit
  obtain ⟨vm₁, X₁, hstep₁⟩ := X.invokestatic hexec hown hlink hnamed hmethM hstatic hkP hinitP hy (g := g) hg (argsL := argsL) (rest := rest) (hlen _ hsigM) hstack hdg
  obtain ⟨v, B, X', hpost, hsteps⟩ := hK m meth c ⟨T.setVm vm₁, locs, cells, slots⟩ { g with stack := rest } (.invokestatic index) mk argsL.toArray X₁ hg hsize hdg hW (X₁.named hnamed) (hpre vm₁ X₁.warmed)
  exact ⟨v, vm₁, B, X₁.warmed, X', hpost, fun target h => hstep₁ _ fun acts => by rw [doInvoke_state]; exact hsteps.trans h⟩
theorem vx_runSW {y : MethodName} {bytes cc : ByteArray} {maxL nL mc ms n index : Nat} {ret : Option FieldType} {hh : List (Nat × Nat × Nat × Nat)} {ws : List Cond} {rm : Room} {Pc : Array Value → State → Prop} {Qc : Array Value → State → Outcome → State → Prop} {free : Addr → Prop} {Ts : List Cond} {own : String} {As rest : List Value} {g : JFrame}
    (S : CallFix p m c cc nL s args Ts own) (hM : Met l y ws rm Pc Qc mc ms free) (cw : vx_CSW R s args own index y bytes maxL ret hh ws rm mc ms n) (hp : PreS s H Pc As)
    (hg : g.method = m) (hn : As.length = n) (hsize : g.locals.size = nL) (hstack : g.stack = As.reverse ++ rest) (hW : 2 * g.monitorRoom + (rest.map fun v => v.category).sum ≤ 8) (hdg : decode cc g.pc = .ok (.invokestatic index, 3)) (hf : cells + mc ≤ R.cells ∧ slots + ms ≤ R.slots) :
    va_Run p l e R s m args below meth c H locs cells slots mc ms g rest (Qc As.toArray) (free) := by
  obtain ⟨⟨hrc, hrs, hfr, hlo, hws, hcw⟩, hcode, hini, hy, hlen, hl, hstt⟩ := cw
  have hK : Back l R p e below s args y 3 8 (PreOf R mc ms Pc) (PostOf Qc mc ms free) := va_backW (hh := hh) (bytes := bytes) (maxL := maxL) (ret := ret) hM hp.1 hrc hrs hfr hlo hws hcw (fun a' U hW => word_at hW (Or.inl (by first | rfl | simp [Cond.onTables, Cond.keeps, Cond.steady])) hini)
  obtain ⟨hx, hb, hml, ho, -⟩ := S
  intro T hT X
  obtain ⟨v, vm₁, ⟨U', l2, c2, s2⟩, hW₁, X', ⟨g', mk, t, L, e1, e2, hq, h1, hL, h2, h3⟩, st⟩ := vx_callSW X hx (hh := hh) (bytes := bytes) (maxL := maxL) (ret := ret) ho hl hstt hini hcode hy hK hg (hsize.trans hml.symm) (argsL := As) (rest := rest) (fun sig h => hn.trans (hlen sig h)) hstack hW (by rw [hb]; exact hdg)
    (fun vm₁ hW₁ => ⟨hf.1, hf.2, hp.2 (T.setVm vm₁) hT hW₁⟩)
  dsimp only [Pt.U, Pt.locs, Pt.cells, Pt.slots] at X' e1 e2 h1 h2 h3 st
  subst h1; subst h2; subst h3
  exact ⟨v, (T.setVm vm₁).calling g' mk As.toArray, t, U', L, hT, X', hL, e1, e2, hq, st⟩
/-- a thing of a world lies in the heap -/
theorem vx_lt {D : va_G} {cl : List vw_C} {ws : va_W} {H1 : Heap} (h : va_P D cl ws H1) {k : Nat} {q : Nat × va_E} (hk : ws[k]? = some q) : q.1 < H1.size := (h k q hk).lt
end VXS
/-! ===== END ===== -/
/-! ===== BEGIN methods with a table of their own: called by a name, returning or throwing ===== -/
section VXH
/-! vx_backW, vx_callVX, vx_callSX, vx_callVW, vx_runVW, vx_runVX, vx_runSX, vx_ofWH follow the same proofs as their sisters above (Free/Laws.lean, Shelf42/LK1.lean); vx_outP calls Shelf42/NT130.lean (outThrough). -/
section
variable {l : Launch} {R : Room} {p : Program} {e : Env} {below : List Frame} {s : State} {sargs : Array Value} {y : MethodName} {len W9 : Nat}
theorem vx_backW {ws : List Cond} {rm : Room} {Pc : Array Value → State → Prop} {Qc : Array Value → State → Outcome → State → Prop} {XC : String → State → State → Prop} {mc ms : Nat} {free : Addr → Prop} {bytes : ByteArray} {maxL : Nat} {ret : Option FieldType} {hh : List (Nat × Nat × Nat × Nat)}
    (hM : vx_Met l y ws rm Pc Qc XC mc ms free) (hblind : FrameBlind Pc) (hrc : rm.cells = mc) (hrs : rm.slots = ms)
    (hframes : rm.frames + 1 ≤ R.frames) (hlocals : W9 + (maxL + 11) + rm.locals ≤ R.locals)
    (hws : ∀ w ∈ ws, ∀ a' U, s.WarmedH U.vm → w.before a' U = true) (hcode : Cond.codeWith y bytes maxL ret hh ∈ ws) (hinit : ∀ a' U, s.WarmedH U.vm → (Cond.initialized y.cls).before a' U = true) :
    vx_Back l R p e below s sargs y len W9 (PreOf R mc ms Pc) (PostOf Qc mc ms free) (vx_Post XC mc ms free) := by
  intro m meth c A g ig mk a X hg hsize hdg hW hn hp
  have h1 : (headSpec ws rm).pre.before a A.U = true := atoms_intro fun w hw => hws w hw _ _ X.warmed
  have h2 : (Cond.codeWith y bytes maxL ret hh).before a A.U = true := hws _ hcode _ _ X.warmed
  have h3 : (Cond.initialized y.cls).before a A.U = true := hinit _ _ X.warmed
  have h4 : A.cells + (headSpec ws rm).room.cells ≤ R.cells := by rw [show (headSpec ws rm).room.cells = mc from hrc]; exact hp.1
  have h5 : A.slots + (headSpec ws rm).room.slots ≤ R.slots := by rw [show (headSpec ws rm).room.slots = ms from hrs]; exact hp.2.1
  have hPc : Pc a (A.U.calling g mk a) := hblind _ _ _ _ hp.2.2
  obtain ⟨U, Ls, c0, s0⟩ := A
  dsimp only [Pt.U, Pt.locs, Pt.cells, Pt.slots] at h1 h2 h3 h4 h5 X hn hPc ⊢
  obtain ⟨m9, methY, cY, hn9, hmY, hcY, -, hlY, -⟩ := Cond.codeWith_spec h2
  cases Option.some.inj (hn9.symm.trans hn)
  obtain ⟨kY, hkY, -⟩ := className_of_methodNamed hn
  have hinitY : kY.init = .initialized := Cond.initialized_spec (findClass_of_methodNamed hn) hkY h3
  have h : At U g.method c below := by rw [hg]; exact X.here
  have hlocals9 : W9 + (maxL + 11) + (headSpec ws rm).room.locals ≤ R.locals := hlocals
  have happ : (headSpec ws rm).appliesLoose y e.platform (U.calling g mk a) = true :=
    Spec.appliesLoose_calling (g := g) h hdg hn hkY hinitY
      (X.room_calling (g := g) (R' := (headSpec ws rm).room) hsize hmY hcY hframes (by rw [hlY]; omega) h4 h5) h1
  obtain ⟨mid, hmid⟩ := h.above
  have hfr : (U.setTop g).frames = (.java g :: mid) ++ below := by rw [State.frames_setTop' g h.top, hmid]; rfl
  obtain ⟨o, s₂, hsteps, -, hend, hq⟩ := Steps.callFree hM p X.admits X.cas X.clock (acts := []) hfr happ hPc trivial
  have hq' : vx_Q Qc XC mc ms free a (U.calling g mk a) o s₂ := hq
  rw [State.frames_setTop' g h.top] at hend
  obtain ⟨g₀, hg0⟩ := Option.isSome_iff_exists.mp h.top
  obtain ⟨r, hr⟩ := State.topJava?_eq_some.mp hg0
  have hr' : (({ U with heap := s₂.heap, slotsUsed := s₂.slotsUsed } : State).setVm s₂.vm).frames = .java g₀ :: r := hr
  rcases hq' with ⟨hqc, L, hfe, hL⟩ | ⟨q, rfl, E, ce, L, hx, hce, hcv, hcl, hW₂, hsm, hL⟩
  · obtain ⟨⟨v, rfl⟩, hW₂, e2, q2, q3, q4, q5, q6⟩ := id hfe
    have e3 : s₂ = ({ (U.calling g mk a).setFrames s₂.frames with heap := s₂.heap, slotsUsed := s₂.slotsUsed } : State).setVm s₂.vm := by
      have : s₂ = ({ s₂ with vm := (U.calling g mk a).vm } : State).setVm s₂.vm := rfl
      rw [e2] at this
      exact this
    obtain ⟨c₂, i₂, len₂, hc₂, hd₂, hf₂⟩ := hend
    have hW' : U.WarmedH s₂.vm := hW₂
    have hcc : c₂ = c := by
      have h1 : s₂.code? g.method = U.code? g.method := by
        rw [State.code?_eq, State.code?_eq, hW'.alike.method?]
      exact Option.some.inj (hc₂.symm.trans (h1.trans h.code))
    subst hcc
    have hlen : len₂ = len := by rw [hdg] at hd₂; cases hd₂; rfl
    subst hlen
    have hs₂ : s₂ = (({ U with heap := s₂.heap, slotsUsed := s₂.slotsUsed } : State).setVm s₂.vm).setTop { g with pc := g.pc + len₂, stack := v.toList ++ g.stack } := by
      refine e3.trans ?_
      rw [hf₂, State.calling_eq h.top, State.setFrames_setFrames, State.setTop_of_frames _ hr', hr]
      rfl
    have hsame : U.sameButNew ({ U with heap := s₂.heap, slotsUsed := s₂.slotsUsed } : State) L mc ms := by
      refine ⟨?_, q2, q3, q4, q5, q6⟩
      obtain ⟨t, ht, -⟩ := State.frames_cons hr
      show ({ U with heap := s₂.heap, slotsUsed := s₂.slotsUsed } : State) = { U.setFrames U.frames with heap := s₂.heap, slotsUsed := s₂.slotsUsed }
      rw [State.setFrames_self ht]
    subst hg
    refine Or.inl ⟨v, ⟨(({ U with heap := s₂.heap, slotsUsed := s₂.slotsUsed } : State).setVm s₂.vm), Ls ++ L, c0 + mc, s0 + ms⟩,
      ⟨X.admits, X.cas, X.clock, X.frames, X.room, X.hears, X.method, X.code, (X.here.setHeapUsed s₂.heap s₂.slotsUsed).setVm hW'.alike, X.tail, State.WarmedH.trans X.warmed hW', X.limits, X.bytes, X.same.trans (hsame.setVm s.vm)⟩,
      ⟨g, mk, s₂, L, rfl, rfl, hqc, rfl, hL, rfl, rfl⟩, ?_⟩
    show Steps p.tables e below _ ((({ U with heap := s₂.heap, slotsUsed := s₂.slotsUsed } : State).setVm s₂.vm).setTop { g with pc := g.pc + len₂, stack := v.toList ++ g.stack })
    rw [← hs₂]
    exact hsteps
  · obtain ⟨e2, q2, q3, q4, q5, q6⟩ := id hsm
    have e3 : s₂ = ({ (U.calling g mk a).setFrames s₂.frames with heap := s₂.heap, slotsUsed := s₂.slotsUsed } : State).setVm s₂.vm := by
      have : s₂ = ({ s₂ with vm := (U.calling g mk a).vm } : State).setVm s₂.vm := rfl
      rw [e2] at this
      exact this
    have hf₂ : s₂.frames = .throwing q :: .java g :: U.frames.tail := hend
    have hW' : U.WarmedH s₂.vm := hW₂
    have hs₂ : s₂ = ((({ U with heap := s₂.heap, slotsUsed := s₂.slotsUsed } : State).setVm s₂.vm).setTop g).pushFrame (.throwing q) := by
      refine e3.trans ?_
      rw [hf₂, State.calling_eq h.top, State.setFrames_setFrames, State.pushFrame, State.frames_setTop _ hr', State.setTop_of_frames _ hr', State.setFrames_setFrames, hr]
      rfl
    have hsame : U.sameButNew ({ U with heap := s₂.heap, slotsUsed := s₂.slotsUsed } : State) L mc ms := by
      refine ⟨?_, q2, q3, q4, q5, q6⟩
      obtain ⟨t, ht, -⟩ := State.frames_cons hr
      show ({ U with heap := s₂.heap, slotsUsed := s₂.slotsUsed } : State) = { U.setFrames U.frames with heap := s₂.heap, slotsUsed := s₂.slotsUsed }
      rw [State.setFrames_self ht]
    subst hg
    refine Or.inr ⟨q, ⟨(({ U with heap := s₂.heap, slotsUsed := s₂.slotsUsed } : State).setVm s₂.vm), Ls ++ L, c0 + mc, s0 + ms⟩,
      ⟨X.admits, X.cas, X.clock, X.frames, X.room, X.hears, X.method, X.code, (X.here.setHeapUsed s₂.heap s₂.slotsUsed).setVm hW'.alike, X.tail, State.WarmedH.trans X.warmed hW', X.limits, X.bytes, X.same.trans (hsame.setVm s.vm)⟩,
      ⟨g, mk, s₂, L, E, ce, rfl, rfl, hx, hce, hcv, hcl, rfl, hL, rfl, rfl⟩, ?_⟩
    show Steps p.tables e below _ (((({ U with heap := s₂.heap, slotsUsed := s₂.slotsUsed } : State).setVm s₂.vm).setTop g).pushFrame (.throwing q))
    rw [← hs₂]
    exact hsteps
end
variable {p : Program} {l : Launch} {e : Env} {R : Room} {s : State} {m : MethodId} {args : Array Value} {below : List Frame} {meth : Method} {c : Code} {T : State} {H : Heap} {locs : List Loc} {cells slots : Nat}
theorem vx_callVX (X : Stand p l e R s m args below meth c T locs cells slots) (hexec : p.tables.exec = Jvm.exec) {own C : String} {index : Nat} {y : MethodName} {bytes : ByteArray} {maxL : Nat} {ret : Option FieldType} {hh : List (Nat × Nat × Nat × Nat)}
    (hown : s.vm.findClass own = some m.cls) (hlink : (Cond.methodLink own index y).before args s = true) (hinst : (Cond.instanceMethod y).before args s = true) (hsel : (Cond.selects C y y).before args s = true)
    (hcode : (Cond.codeWith y bytes maxL ret hh).before args s = true) (hy : y.cls ≠ "java/lang/invoke/MethodHandle" ∧ y.cls ≠ "java/lang/invoke/VarHandle")
    {W9 : Nat} {Pre : Pt → Array Value → Prop} {Post : Pt → Array Value → Option Value → Pt → Prop} {PostX : Pt → Array Value → Addr → Pt → Prop} (hK : vx_Back l R p e below s args y 3 W9 Pre Post PostX)
    {b : Addr} {cellB : Cell} (hcell : T.heap[b]? = some cellB) (hobj : cellB.vm.isStatics = false) (hcls : s.vm.findClass C = some cellB.cls)
    {g : JFrame} (hg : g.method = m) (hsize : g.locals.size = c.maxLocals) {argsL rest : List Value} (hlen : ∀ sig, parseMethodDescriptor y.desc = some sig → argsL.length = sig.parameters.length)
    (hstack : g.stack = argsL.reverse ++ .ref b :: rest) (hW : 2 * g.monitorRoom + (rest.map fun v => v.category).sum ≤ W9) (hdg : decode c.code g.pc = .ok (.invokevirtual index, 3))
    (hpre : ∀ vm₁, s.WarmedH vm₁ → Pre ⟨T.setVm vm₁, locs, cells, slots⟩ (Value.ref b :: argsL).toArray) :
    (∃ (v : Option Value) (vm₁ : Vm) (B : Pt), s.WarmedH vm₁ ∧ Stand p l e R s m args below meth c B.U B.locs B.cells B.slots ∧ Post ⟨T.setVm vm₁, locs, cells, slots⟩ (Value.ref b :: argsL).toArray v B ∧
      ∀ target, Steps p.tables e below (B.U.setTop { g with pc := g.pc + 3, stack := v.toList ++ rest }) target → Steps p.tables e below (T.setTop g) target) ∨
    (∃ (q : Addr) (vm₁ : Vm) (B : Pt), s.WarmedH vm₁ ∧ Stand p l e R s m args below meth c B.U B.locs B.cells B.slots ∧ PostX ⟨T.setVm vm₁, locs, cells, slots⟩ (Value.ref b :: argsL).toArray q B ∧
      Steps p.tables e below (T.setTop g) ((B.U.setTop { g with stack := rest }).pushFrame (.throwing q))) := by
  obtain ⟨mk, methM, hnamed, hmethM, hstM, habM⟩ := Cond.instanceMethod_spec hinst
  obtain ⟨m8, methM', cM, hn8, hmethM', -, -, -, -, -, -, hsigM⟩ := Cond.codeWith_spec hcode
  cases Option.some.inj (hn8.symm.trans hnamed)
  cases hmethM.symm.trans hmethM'
  obtain ⟨c2, r2, m2, q1, q2, q3, q4, kP, hkP, hkPi⟩ := Cond.selects_spec hsel
  cases hcls.symm.trans q1
  cases (State.methodFound?_of_named hnamed hy).symm.trans q2
  cases hnamed.symm.trans q3
  have hselP : selectMethod e.platform s.vm cellB.cls mk = .method mk := by rw [Launch.admits_selectMethod X.admits]; exact q4
  obtain ⟨vm₁, X₁, hstep₁⟩ := X.invokevirtual hexec hown hlink hnamed hmethM hstM hkP hkPi hy (a := b) (cell := cellB) hcell
    (fun z h => by rw [h] at hobj; cases hobj) hselP hmethM habM hkP hkPi (g := g) hg (argsL := argsL) (rest := rest) (hlen _ hsigM) hstack hdg
  rcases hK m meth c ⟨T.setVm vm₁, locs, cells, slots⟩ { g with stack := rest } (.invokevirtual index) mk (Value.ref b :: argsL).toArray X₁ hg hsize hdg hW (X₁.named hnamed) (hpre vm₁ X₁.warmed) with ⟨v, B, X', hpost, hsteps⟩ | ⟨q, B, X', hpost, hsteps⟩
  · exact Or.inl ⟨v, vm₁, B, X₁.warmed, X', hpost, fun target h => hstep₁ _ fun acts => by rw [doInvoke_state]; exact hsteps.trans h⟩
  · exact Or.inr ⟨q, vm₁, B, X₁.warmed, X', hpost, hstep₁ _ fun acts => by rw [doInvoke_state]; exact hsteps⟩
theorem vx_callSX (X : Stand p l e R s m args below meth c T locs cells slots) (hexec : p.tables.exec = Jvm.exec) {own : String} {index : Nat} {y : MethodName} {bytes : ByteArray} {maxL : Nat} {ret : Option FieldType} {hh : List (Nat × Nat × Nat × Nat)}
    (hown : s.vm.findClass own = some m.cls) (hlink : (Cond.methodLink own index y).before args s = true) (hstat : (Cond.static y).before args s = true) (hinit : (Cond.initialized y.cls).before args s = true)
    (hcode : (Cond.codeWith y bytes maxL ret hh).before args s = true) (hy : y.cls ≠ "java/lang/invoke/MethodHandle" ∧ y.cls ≠ "java/lang/invoke/VarHandle")
    {W9 : Nat} {Pre : Pt → Array Value → Prop} {Post : Pt → Array Value → Option Value → Pt → Prop} {PostX : Pt → Array Value → Addr → Pt → Prop} (hK : vx_Back l R p e below s args y 3 W9 Pre Post PostX)
    {g : JFrame} (hg : g.method = m) (hsize : g.locals.size = c.maxLocals) {argsL rest : List Value} (hlen : ∀ sig, parseMethodDescriptor y.desc = some sig → argsL.length = sig.parameters.length)
    (hstack : g.stack = argsL.reverse ++ rest) (hW : 2 * g.monitorRoom + (rest.map fun v => v.category).sum ≤ W9) (hdg : decode c.code g.pc = .ok (.invokestatic index, 3))
    (hpre : ∀ vm₁, s.WarmedH vm₁ → Pre ⟨T.setVm vm₁, locs, cells, slots⟩ argsL.toArray) :
    (∃ (v : Option Value) (vm₁ : Vm) (B : Pt), s.WarmedH vm₁ ∧ Stand p l e R s m args below meth c B.U B.locs B.cells B.slots ∧ Post ⟨T.setVm vm₁, locs, cells, slots⟩ argsL.toArray v B ∧
      ∀ target, Steps p.tables e below (B.U.setTop { g with pc := g.pc + 3, stack := v.toList ++ rest }) target → Steps p.tables e below (T.setTop g) target) ∨
    (∃ (q : Addr) (vm₁ : Vm) (B : Pt), s.WarmedH vm₁ ∧ Stand p l e R s m args below meth c B.U B.locs B.cells B.slots ∧ PostX ⟨T.setVm vm₁, locs, cells, slots⟩ argsL.toArray q B ∧
      Steps p.tables e below (T.setTop g) ((B.U.setTop { g with stack := rest }).pushFrame (.throwing q))) := by
  obtain ⟨mk, methM, cM, hnamed, hmethM, -, -, -, -, -, -, hsigM⟩ := Cond.codeWith_spec hcode
  have hstatic : methM.isStatic = true := Cond.static_spec hnamed hmethM hstat
  obtain ⟨kP, hkP, -⟩ := className_of_methodNamed hnamed
  have hinitP : kP.init = .initialized := Cond.initialized_spec (findClass_of_methodNamed hnamed) hkP hinit
  obtain ⟨vm₁, X₁, hstep₁⟩ := X.invokestatic hexec hown hlink hnamed hmethM hstatic hkP hinitP hy (g := g) hg (argsL := argsL) (rest := rest) (hlen _ hsigM) hstack hdg
  rcases hK m meth c ⟨T.setVm vm₁, locs, cells, slots⟩ { g with stack := rest } (.invokestatic index) mk argsL.toArray X₁ hg hsize hdg hW (X₁.named hnamed) (hpre vm₁ X₁.warmed) with ⟨v, B, X', hpost, hsteps⟩ | ⟨q, B, X', hpost, hsteps⟩
  · exact Or.inl ⟨v, vm₁, B, X₁.warmed, X', hpost, fun target h => hstep₁ _ fun acts => by rw [doInvoke_state]; exact hsteps.trans h⟩
  · exact Or.inr ⟨q, vm₁, B, X₁.warmed, X', hpost, hstep₁ _ fun acts => by rw [doInvoke_state]; exact hsteps⟩
theorem vx_callVW (X : Stand p l e R s m args below meth c T locs cells slots) (hexec : p.tables.exec = Jvm.exec) {own C : String} {index : Nat} {y : MethodName} {bytes : ByteArray} {maxL : Nat} {ret : Option FieldType} {hh : List (Nat × Nat × Nat × Nat)}
    (hown : s.vm.findClass own = some m.cls) (hlink : (Cond.methodLink own index y).before args s = true) (hinst : (Cond.instanceMethod y).before args s = true) (hsel : (Cond.selects C y y).before args s = true)
    (hcode : (Cond.codeWith y bytes maxL ret hh).before args s = true) (hy : y.cls ≠ "java/lang/invoke/MethodHandle" ∧ y.cls ≠ "java/lang/invoke/VarHandle")
    {W9 : Nat} {Pre : Pt → Array Value → Prop} {Post : Pt → Array Value → Option Value → Pt → Prop} (hK : Back l R p e below s args y 3 W9 Pre Post)
    {b : Addr} {cellB : Cell} (hcell : T.heap[b]? = some cellB) (hobj : cellB.vm.isStatics = false) (hcls : s.vm.findClass C = some cellB.cls)
    {g : JFrame} (hg : g.method = m) (hsize : g.locals.size = c.maxLocals) {argsL rest : List Value} (hlen : ∀ sig, parseMethodDescriptor y.desc = some sig → argsL.length = sig.parameters.length)
    (hstack : g.stack = argsL.reverse ++ .ref b :: rest) (hW : 2 * g.monitorRoom + (rest.map fun v => v.category).sum ≤ W9) (hdg : decode c.code g.pc = .ok (.invokevirtual index, 3))
    (hpre : ∀ vm₁, s.WarmedH vm₁ → Pre ⟨T.setVm vm₁, locs, cells, slots⟩ (Value.ref b :: argsL).toArray) :
    ∃ (v : Option Value) (vm₁ : Vm) (B : Pt), s.WarmedH vm₁ ∧ Stand p l e R s m args below meth c B.U B.locs B.cells B.slots ∧ Post ⟨T.setVm vm₁, locs, cells, slots⟩ (Value.ref b :: argsL).toArray v B ∧
      ∀ target, Steps p.tables e below (B.U.setTop { g with pc := g.pc + 3, stack := v.toList ++ rest }) target → Steps p.tables e below (T.setTop g) target := by
  obtain ⟨mk, methM, hnamed, hmethM, hstM, habM⟩ := Cond.instanceMethod_spec hinst
  obtain ⟨m8, methM', cM, hn8, hmethM', -, -, -, -, -, -, hsigM⟩ := Cond.codeWith_spec hcode
  cases Option.some.inj (hn8.symm.trans hnamed)
  cases hmethM.symm.trans hmethM'
  obtain ⟨c2, r2, m2, q1, q2, q3, q4, kP, hkP, hkPi⟩ := Cond.selects_spec hsel
  cases hcls.symm.trans q1
  cases (State.methodFound?_of_named hnamed hy).symm.trans q2
  cases hnamed.symm.trans q3
  have hselP : selectMethod e.platform s.vm cellB.cls mk = .method mk := by rw [Launch.admits_selectMethod X.admits]; exact q4
  obtain ⟨vm₁, X₁, hstep₁⟩ := X.invokevirtual hexec hown hlink hnamed hmethM hstM hkP hkPi hy (a := b) (cell := cellB) hcell
    (fun z h => by rw [h] at hobj; cases hobj) hselP hmethM habM hkP hkPi (g := g) hg (argsL := argsL) (rest := rest) (hlen _ hsigM) hstack hdg
  obtain ⟨v, B, X', hpost, hsteps⟩ := hK m meth c ⟨T.setVm vm₁, locs, cells, slots⟩ { g with stack := rest } (.invokevirtual index) mk (Value.ref b :: argsL).toArray X₁ hg hsize hdg hW (X₁.named hnamed) (hpre vm₁ X₁.warmed)
  exact ⟨v, vm₁, B, X₁.warmed, X', hpost, fun target h => hstep₁ _ fun acts => by rw [doInvoke_state]; exact hsteps.trans h⟩
abbrev vx_CVW (R : Room) (s : State) (args : Array Value) (own C : String) (index : Nat) (y : MethodName) (bytes : ByteArray) (maxL : Nat) (ret : Option FieldType) (hh : List (Nat × Nat × Nat × Nat)) (ws : List Cond) (rm : Room) (mc ms n : Nat) : Prop :=
  (rm.cells = mc ∧ rm.slots = ms ∧ rm.frames + 1 ≤ R.frames ∧ 8 + (maxL + 11) + rm.locals ≤ R.locals ∧ (∀ w ∈ ws, ∀ (a' : Array Value) (U : State), s.WarmedH U.vm → w.before a' U = true) ∧ Cond.codeWith y bytes maxL ret hh ∈ ws) ∧
  (Cond.codeWith y bytes maxL ret hh).before args s = true ∧ (Cond.initialized y.cls).before args s = true ∧ (y.cls ≠ "java/lang/invoke/MethodHandle" ∧ y.cls ≠ "java/lang/invoke/VarHandle") ∧
  (∀ sig, parseMethodDescriptor y.desc = some sig → n = sig.parameters.length) ∧ (Cond.methodLink own index y).before args s = true ∧ (Cond.instanceMethod y).before args s = true ∧ (Cond.selects C y y).before args s = true
theorem vx_cwVW {own C : String} {index maxL mc ms : Nat} {y : MethodName} {bytes : ByteArray} {ret : Option FieldType} {hh : List (Nat × Nat × Nat × Nat)} {Ts ws ws' : List Cond} {rm : Room} (n : Nat) (ht : ∀ w ∈ Ts, w.before args s = true) (hT : GoodIn Ts (wsV own index C y ws)) (hw : ws = Cond.codeWith y bytes maxL ret hh :: ws') (hrc : rm.cells = mc) (hrs : rm.slots = ms)
    (hd : y.cls = C ∧ y.cls ≠ "java/lang/invoke/MethodHandle" ∧ y.cls ≠ "java/lang/invoke/VarHandle" ∧ (parseMethodDescriptor y.desc).map (fun d => d.parameters.length) = some n) (hR : rm.frames + 1 ≤ R.frames ∧ 8 + (maxL + 11) + rm.locals ≤ R.locals) :
    vx_CVW R s args own C index y bytes maxL ret hh ws rm mc ms n := by
  obtain ⟨hC, hd⟩ := hd
  subst hC
  have ok : ∀ w ∈ wsV own index y.cls y ws, w.before args s = true := fun w h => ht w (hT w h).1
  have hG : GoodIn Ts ws := fun w h => hT w (by unfold wsV; exact List.mem_append_right _ h)
  have hc : Cond.codeWith y bytes maxL ret hh ∈ ws := by rw [hw]; exact List.mem_cons_self
  refine ⟨⟨hrc, hrs, hR.1, hR.2, pay_in ht hG, hc⟩, ht _ (hG _ hc).1, ok _ (by simp [wsV]), ⟨hd.1, hd.2.1⟩, fun sig h => ?_, ok _ (by simp [wsV]), ok _ (by simp [wsV]), ok _ (by simp [wsV])⟩
  have h2 := hd.2.2
  rw [h] at h2
  exact (Option.some.inj h2).symm
theorem vx_runVW {y : MethodName} {bytes cc : ByteArray} {maxL nL mc ms n index : Nat} {ret : Option FieldType} {hh : List (Nat × Nat × Nat × Nat)} {ws : List Cond} {rm : Room} {Pc : Array Value → State → Prop} {Qc : Array Value → State → Outcome → State → Prop} {free : Addr → Prop} {Ts : List Cond} {own C : String} {b : Addr} {As rest : List Value} {g : JFrame}
    (S : CallFix p m c cc nL s args Ts own) (hM : Met l y ws rm Pc Qc mc ms free) (cw : vx_CVW R s args own C index y bytes maxL ret hh ws rm mc ms n) (hp : PreV s H C b Pc As)
    (hg : g.method = m) (hn : As.length = n) (hsize : g.locals.size = nL) (hstack : g.stack = As.reverse ++ .ref b :: rest) (hW : 2 * g.monitorRoom + (rest.map fun v => v.category).sum ≤ 8) (hdg : decode cc g.pc = .ok (.invokevirtual index, 3)) (hf : cells + mc ≤ R.cells ∧ slots + ms ≤ R.slots) :
    va_Run p l e R s m args below meth c H locs cells slots mc ms g rest (Qc (Value.ref b :: As).toArray) free := by
  obtain ⟨⟨hrc, hrs, hfr, hlo, hws, hcw⟩, hcode, hini, hy, hlen, hl, hin, hse⟩ := cw
  have hK : Back l R p e below s args y 3 8 (PreOf R mc ms Pc) (PostOf Qc mc ms free) := va_backW (hh := hh) (bytes := bytes) (maxL := maxL) (ret := ret) hM hp.1 hrc hrs hfr hlo hws hcw (fun a' U hW => word_at hW (Or.inl (by first | rfl | simp [Cond.onTables, Cond.keeps, Cond.steady])) hini)
  obtain ⟨hx, hb, hml, ho, -⟩ := S
  obtain ⟨-, ⟨cellB, hcB, hoB, hclB⟩, hPc⟩ := hp
  intro T hT X
  obtain ⟨v, vm₁, ⟨U', l2, c2, s2⟩, hW₁, X', ⟨g', mk, t, L, e1, e2, hq, h1, hL, h2, h3⟩, st⟩ := vx_callVW X hx (C := C) (hh := hh) (bytes := bytes) (maxL := maxL) (ret := ret) ho hl hin hse hcode hy hK (by rw [hT]; exact hcB) hoB hclB hg (hsize.trans hml.symm) (argsL := As) (rest := rest) (fun sig h => hn.trans (hlen sig h)) hstack hW (by rw [hb]; exact hdg)
    (fun vm₁ hW₁ => ⟨hf.1, hf.2, hPc (T.setVm vm₁) hT hW₁⟩)
  dsimp only [Pt.U, Pt.locs, Pt.cells, Pt.slots] at X' e1 e2 h1 h2 h3 st
  subst h1; subst h2; subst h3
  exact ⟨v, (T.setVm vm₁).calling g' mk (Value.ref b :: As).toArray, t, U', L, hT, X', hL, e1, e2, hq, st⟩
section
variable {y : MethodName} {bytes cc : ByteArray} {maxL nL mc ms n index : Nat} {ret : Option FieldType} {ws : List Cond} {rm : Room} {Pc : Array Value → State → Prop} {Qc : Array Value → State → Outcome → State → Prop} {XC : String → State → State → Prop} {free : Addr → Prop} {Ts : List Cond} {own C : String} {b : Addr} {As rest : List Value} {g : JFrame}
theorem vx_runVX {hh : List (Nat × Nat × Nat × Nat)} (S : CallFix p m c cc nL s args Ts own) (hM : vx_Met l y ws rm Pc Qc XC mc ms free) (cw : vx_CVW R s args own C index y bytes maxL ret hh ws rm mc ms n) (hp : PreV s H C b Pc As)
    (hg : g.method = m) (hn : As.length = n) (hsize : g.locals.size = nL) (hstack : g.stack = As.reverse ++ .ref b :: rest) (hW : 2 * g.monitorRoom + (rest.map fun v => v.category).sum ≤ 8) (hdg : decode cc g.pc = .ok (.invokevirtual index, 3)) (hf : cells + mc ≤ R.cells ∧ slots + ms ≤ R.slots) :
    vx_Run p l e R s m args below meth c H locs cells slots mc ms g rest (Qc (Value.ref b :: As).toArray) XC free := by
  obtain ⟨⟨hrc, hrs, hfr, hlo, hws, hcw⟩, hcode, hini, hy, hlen, hl, hin, hse⟩ := cw
  have hK : vx_Back l R p e below s args y 3 8 (PreOf R mc ms Pc) (PostOf Qc mc ms free) (vx_Post XC mc ms free) := vx_backW (hh := hh) (bytes := bytes) (maxL := maxL) (ret := ret) hM hp.1 hrc hrs hfr hlo hws hcw (fun a' U hW => word_at hW (Or.inl (by first | rfl | simp [Cond.onTables, Cond.keeps, Cond.steady])) hini)
  obtain ⟨hx, hb, hml, ho, -⟩ := S
  obtain ⟨-, ⟨cellB, hcB, hoB, hclB⟩, hPc⟩ := hp
  intro T hT X
  rcases vx_callVX X hx (C := C) (hh := hh) (bytes := bytes) (maxL := maxL) (ret := ret) ho hl hin hse hcode hy hK (by rw [hT]; exact hcB) hoB hclB hg (hsize.trans hml.symm) (argsL := As) (rest := rest) (fun sig h => hn.trans (hlen sig h)) hstack hW (by rw [hb]; exact hdg)
    (fun vm₁ hW₁ => ⟨hf.1, hf.2, hPc (T.setVm vm₁) hT hW₁⟩) with ⟨v, vm₁, ⟨U', l2, c2, s2⟩, hW₁, X', ⟨g', mk, t, L, e1, e2, hq, h1, hL, h2, h3⟩, st⟩ | ⟨q, vm₁, ⟨U', l2, c2, s2⟩, hW₁, X', ⟨g', mk, t, L, E, ce, e1, e2, hq, hce, hcv, hcl, h1, hL, h2, h3⟩, st⟩
  · dsimp only [Pt.U, Pt.locs, Pt.cells, Pt.slots] at X' e1 e2 h1 h2 h3 st
    subst h1; subst h2; subst h3
    exact Or.inl ⟨v, (T.setVm vm₁).calling g' mk (Value.ref b :: As).toArray, t, U', L, hT, X', hL, e1, e2, hq, st⟩
  · dsimp only [Pt.U, Pt.locs, Pt.cells, Pt.slots] at X' e1 e2 h1 h2 h3 st hcl
    subst h1; subst h2; subst h3
    exact Or.inr ⟨q, (T.setVm vm₁).calling g' mk (Value.ref b :: As).toArray, t, U', L, E, ce, hT, X', hL, e1, e2, hq, hce, hcv, vx_cls hW₁ hcl, st⟩
theorem vx_runSX {hh : List (Nat × Nat × Nat × Nat)} (S : CallFix p m c cc nL s args Ts own) (hM : vx_Met l y ws rm Pc Qc XC mc ms free) (cw : vx_CSW R s args own index y bytes maxL ret hh ws rm mc ms n) (hp : PreS s H Pc As)
    (hg : g.method = m) (hn : As.length = n) (hsize : g.locals.size = nL) (hstack : g.stack = As.reverse ++ rest) (hW : 2 * g.monitorRoom + (rest.map fun v => v.category).sum ≤ 8) (hdg : decode cc g.pc = .ok (.invokestatic index, 3)) (hf : cells + mc ≤ R.cells ∧ slots + ms ≤ R.slots) :
    vx_Run p l e R s m args below meth c H locs cells slots mc ms g rest (Qc As.toArray) XC free := by
  obtain ⟨⟨hrc, hrs, hfr, hlo, hws, hcw⟩, hcode, hini, hy, hlen, hl, hstt⟩ := cw
  have hK : vx_Back l R p e below s args y 3 8 (PreOf R mc ms Pc) (PostOf Qc mc ms free) (vx_Post XC mc ms free) := vx_backW (hh := hh) (bytes := bytes) (maxL := maxL) (ret := ret) hM hp.1 hrc hrs hfr hlo hws hcw (fun a' U hW => word_at hW (Or.inl (by first | rfl | simp [Cond.onTables, Cond.keeps, Cond.steady])) hini)
  obtain ⟨hx, hb, hml, ho, -⟩ := S
  intro T hT X
  rcases vx_callSX X hx (hh := hh) (bytes := bytes) (maxL := maxL) (ret := ret) ho hl hstt hini hcode hy hK hg (hsize.trans hml.symm) (argsL := As) (rest := rest) (fun sig h => hn.trans (hlen sig h)) hstack hW (by rw [hb]; exact hdg)
    (fun vm₁ hW₁ => ⟨hf.1, hf.2, hp.2 (T.setVm vm₁) hT hW₁⟩) with ⟨v, vm₁, ⟨U', l2, c2, s2⟩, hW₁, X', ⟨g', mk, t, L, e1, e2, hq, h1, hL, h2, h3⟩, st⟩ | ⟨q, vm₁, ⟨U', l2, c2, s2⟩, hW₁, X', ⟨g', mk, t, L, E, ce, e1, e2, hq, hce, hcv, hcl, h1, hL, h2, h3⟩, st⟩
  · dsimp only [Pt.U, Pt.locs, Pt.cells, Pt.slots] at X' e1 e2 h1 h2 h3 st
    subst h1; subst h2; subst h3
    exact Or.inl ⟨v, (T.setVm vm₁).calling g' mk As.toArray, t, U', L, hT, X', hL, e1, e2, hq, st⟩
  · dsimp only [Pt.U, Pt.locs, Pt.cells, Pt.slots] at X' e1 e2 h1 h2 h3 st hcl
    subst h1; subst h2; subst h3
    exact Or.inr ⟨q, (T.setVm vm₁).calling g' mk As.toArray, t, U', L, E, ce, hT, X', hL, e1, e2, hq, hce, hcv, vx_cls hW₁ hcl, st⟩
end
end VXH
theorem vx_ofWH {l : Launch} {y : MethodName} {ws ws' : List Cond} {rm : Room} {Pc : Array Value → State → Prop} {Qc : Array Value → State → Outcome → State → Prop} {XC : String → State → State → Prop} {mc ms : Nat} {free : Addr → Prop} {cc : ByteArray} {maxL : Nat} {ret : Option FieldType} {hh : List (Nat × Nat × Nat × Nat)}
    (hy : plainName y.cls = true) (hw : ws = Cond.codeWith y cc maxL ret hh :: ws')
    (body : ∀ p e s m args below meth c s₁, BodyLoose p l y (headSpec ws rm) cc maxL ret e s m args below meth c s₁ → c.maxLocals = maxL → Pc args s →
      W p l e (headSpec ws rm).room s m args below meth c s.heap [] 0 0 (vx_MQ below Qc XC args s mc ms free) (entryFrame m args maxL)) : vx_Met l y ws rm Pc Qc XC mc ms free := by
  refine MetFree.of_bodyS (code := cc) (maxLocals := maxL) (ret := ret) hy ?_ ?_
  · intro args s m h hn
    obtain ⟨m9, meth, c, hn9, h1, h2, h3, h4, -, h5, h6, -⟩ := Cond.codeWith_spec (atoms_spec (ws := ws) h _ (by rw [hw]; exact List.mem_cons_self))
    cases hn.symm.trans hn9
    exact ⟨meth, c, h1, h2, h3, h4, h5, h6⟩
  · intro p e s m args below meth c s₁ B hml hP _
    have hh0 : s₁.heap = s.heap := by rw [B.state]; rfl
    obtain ⟨t, a1, o, b1, b2, b3⟩ := body p e s m args below meth c s₁ B hml hP s₁ hh0 (Stand.of_body B)
    exact ⟨t, o, a1, b1, b2, b3⟩
/-! ===== END ===== -/
end
section
def RX0 : String := "SoundPacker$Chooser"
def TX0 : u_T := fun k => match k with
  | 0 => ("SoundPacker$Chooser", "fixed", "LSoundPacker$Predictor;", true)
  | _ => ("SoundPacker$Chooser", "residuals", "LSoundPacker$Residuals;", true)
def tyX0 : Nat → FieldType := fun k => match k with
  | 0 => .object "SoundPacker$Predictor"
  | _ => .object "SoundPacker$Residuals"
theorem nmX0 : ∀ a, a < 2 → ∀ b, b < 2 → a ≠ b → (TX0 a).2.1 ≠ (TX0 b).2.1 := by decide +kernel
theorem tyX0_ok : ∀ k, k < 2 → parseFieldDescriptor (TX0 k).2.2.1 = some (tyX0 k) := by decide +kernel
abbrev cX0_init : ByteArray := prog_2_method_1_code
def yX0_init : MethodName := ⟨RX0, "<init>", "()V"⟩
abbrev cX0_choose : ByteArray := prog_2_method_2_code
def yX0_choose : MethodName := ⟨RX0, "choose", "(LSoundPacker$Subframe;LSoundPacker$Predictor;)V"⟩
abbrev cX0_offerPredicted : ByteArray := prog_2_method_3_code
def yX0_offerPredicted : MethodName := ⟨RX0, "offerPredicted", "(LSoundPacker$Subframe;IILSoundPacker$Predictor;)V"⟩
abbrev cX0_write : ByteArray := prog_2_method_4_code
def yX0_write : MethodName := ⟨RX0, "write", "(LSoundPacker$Subframe;LSoundPacker$Predictor;LSoundPacker$Pen;)V"⟩
abbrev cX0_writeNumbers : ByteArray := prog_2_method_5_code
def yX0_writeNumbers : MethodName := ⟨RX0, "writeNumbers", "(LSoundPacker$Subframe;ILSoundPacker$Pen;)V"⟩
abbrev cX0_writeCoefficients : ByteArray := prog_2_method_6_code
def yX0_writeCoefficients : MethodName := ⟨RX0, "writeCoefficients", "(LSoundPacker$Predictor;LSoundPacker$Pen;)V"⟩
abbrev cX0_writeResiduals : ByteArray := prog_2_method_7_code
def yX0_writeResiduals : MethodName := ⟨RX0, "writeResiduals", "(LSoundPacker$Subframe;LSoundPacker$Predictor;LSoundPacker$Pen;)V"⟩
def RX1 : String := "SoundPacker$Maker"
def TX1 : u_T := fun k => match k with
  | 0 => ("SoundPacker$Maker", "pen", "LSoundPacker$Pen;", true)
  | 1 => ("SoundPacker$Maker", "frames", "I", false)
  | 2 => ("SoundPacker$Maker", "channels", "I", false)
  | 3 => ("SoundPacker$Maker", "assignments", "[I", true)
  | 4 => ("SoundPacker$Maker", "ways", "[I", true)
  | 5 => ("SoundPacker$Maker", "chooser", "LSoundPacker$Chooser;", true)
  | _ => ("SoundPacker$Maker", "subframes", "[LSoundPacker$Subframe;", true)
def tyX1 : Nat → FieldType := fun k => match k with
  | 0 => .object "SoundPacker$Pen"
  | 1 => .int
  | 2 => .int
  | 3 => .array .int
  | 4 => .array .int
  | 5 => .object "SoundPacker$Chooser"
  | _ => .array (.object "SoundPacker$Subframe")
theorem nmX1 : ∀ a, a < 7 → ∀ b, b < 7 → a ≠ b → (TX1 a).2.1 ≠ (TX1 b).2.1 := by decide +kernel
theorem tyX1_ok : ∀ k, k < 7 → parseFieldDescriptor (TX1 k).2.2.1 = some (tyX1 k) := by decide +kernel
abbrev cX1_init : ByteArray := prog_3_method_1_code
def yX1_init : MethodName := ⟨RX1, "<init>", "()V"⟩
abbrev cX1_told : ByteArray := prog_3_method_2_code
def yX1_told : MethodName := ⟨RX1, "told", "(III)I"⟩
abbrev cX1_begin : ByteArray := prog_3_method_3_code
def yX1_begin : MethodName := ⟨RX1, "begin", "(LSoundPacker$Settings;I)V"⟩
abbrev cX1_addFrame : ByteArray := prog_3_method_4_code
def yX1_addFrame : MethodName := ⟨RX1, "addFrame", "([IIIILSoundPacker$Predictor;)V"⟩
abbrev cX1_fillSideAndMiddle : ByteArray := prog_3_method_5_code
def yX1_fillSideAndMiddle : MethodName := ⟨RX1, "fillSideAndMiddle", "(II)V"⟩
abbrev cX1_shortestAssignment : ByteArray := prog_3_method_6_code
def yX1_shortestAssignment : MethodName := ⟨RX1, "shortestAssignment", "()I"⟩
abbrev cX1_sizeOf : ByteArray := prog_3_method_7_code
def yX1_sizeOf : MethodName := ⟨RX1, "sizeOf", "(I)J"⟩
abbrev cX1_subframeOf : ByteArray := prog_3_method_8_code
def yX1_subframeOf : MethodName := ⟨RX1, "subframeOf", "(II)I"⟩
abbrev cX1_writeHeader : ByteArray := prog_3_method_9_code
def yX1_writeHeader : MethodName := ⟨RX1, "writeHeader", "(II)V"⟩
abbrev cX1_keepWay : ByteArray := prog_3_method_10_code
def yX1_keepWay : MethodName := ⟨RX1, "keepWay", "(LSoundPacker$Subframe;I)V"⟩
def RX2 : String := "SoundPacker$Pen"
def TX2 : u_T := fun k => match k with
  | 0 => ("SoundPacker$Pen", "bytes", "[B", true)
  | _ => ("SoundPacker$Pen", "at", "I", false)
def tyX2 : Nat → FieldType := fun k => match k with
  | 0 => .array .byte
  | _ => .int
theorem nmX2 : ∀ a, a < 2 → ∀ b, b < 2 → a ≠ b → (TX2 a).2.1 ≠ (TX2 b).2.1 := by decide +kernel
theorem tyX2_ok : ∀ k, k < 2 → parseFieldDescriptor (TX2 k).2.2.1 = some (tyX2 k) := by decide +kernel
abbrev cX2_init : ByteArray := prog_4_method_1_code
def yX2_init : MethodName := ⟨RX2, "<init>", "()V"⟩
abbrev cX2_size : ByteArray := prog_4_method_2_code
def yX2_size : MethodName := ⟨RX2, "size", "()I"⟩
abbrev cX2_clear : ByteArray := prog_4_method_3_code
def yX2_clear : MethodName := ⟨RX2, "clear", "()V"⟩
abbrev cX2_put : ByteArray := prog_4_method_4_code
def yX2_put : MethodName := ⟨RX2, "put", "(IJ)V"⟩
abbrev cX2_putZeros : ByteArray := prog_4_method_5_code
def yX2_putZeros : MethodName := ⟨RX2, "putZeros", "(I)V"⟩
abbrev cX2_fillByte : ByteArray := prog_4_method_6_code
def yX2_fillByte : MethodName := ⟨RX2, "fillByte", "()V"⟩
def RX3 : String := "SoundPacker$Predictor"
def TX3 : u_T := fun k => match k with
  | 0 => ("SoundPacker$Predictor", "coefficients", "[I", true)
  | 1 => ("SoundPacker$Predictor", "order", "I", false)
  | _ => ("SoundPacker$Predictor", "shift", "I", false)
def tyX3 : Nat → FieldType := fun k => match k with
  | 0 => .array .int
  | 1 => .int
  | _ => .int
theorem nmX3 : ∀ a, a < 3 → ∀ b, b < 3 → a ≠ b → (TX3 a).2.1 ≠ (TX3 b).2.1 := by decide +kernel
theorem tyX3_ok : ∀ k, k < 3 → parseFieldDescriptor (TX3 k).2.2.1 = some (tyX3 k) := by decide +kernel
abbrev cX3_init : ByteArray := prog_5_method_1_code
def yX3_init : MethodName := ⟨RX3, "<init>", "(I)V"⟩
abbrev cX3_begin : ByteArray := prog_5_method_2_code
def yX3_begin : MethodName := ⟨RX3, "begin", "(I)V"⟩
abbrev cX3_add : ByteArray := prog_5_method_3_code
def yX3_add : MethodName := ⟨RX3, "add", "(I)V"⟩
abbrev cX3_becomeFixed : ByteArray := prog_5_method_4_code
def yX3_becomeFixed : MethodName := ⟨RX3, "becomeFixed", "(I)V"⟩
abbrev cX3_foretell : ByteArray := prog_5_method_5_code
def yX3_foretell : MethodName := ⟨RX3, "foretell", "([II)J"⟩
def RX4 : String := "SoundPacker$Reader"
def TX4 : u_T := fun k => match k with
  | 0 => ("SoundPacker$Reader", "tape", "[B", true)
  | 1 => ("SoundPacker$Reader", "size", "I", false)
  | 2 => ("SoundPacker$Reader", "fault", "I", false)
  | 3 => ("SoundPacker$Reader", "place", "I", false)
  | 4 => ("SoundPacker$Reader", "found", "LSoundPacker$Settings;", true)
  | 5 => ("SoundPacker$Reader", "moments", "I", false)
  | 6 => ("SoundPacker$Reader", "samples", "[I", true)
  | 7 => ("SoundPacker$Reader", "at", "I", false)
  | 8 => ("SoundPacker$Reader", "item", "I", false)
  | 9 => ("SoundPacker$Reader", "rows", "[[I", true)
  | _ => ("SoundPacker$Reader", "predictor", "LSoundPacker$Predictor;", true)
def tyX4 : Nat → FieldType := fun k => match k with
  | 0 => .array .byte
  | 1 => .int
  | 2 => .int
  | 3 => .int
  | 4 => .object "SoundPacker$Settings"
  | 5 => .int
  | 6 => .array .int
  | 7 => .int
  | 8 => .int
  | 9 => .array (.array .int)
  | _ => .object "SoundPacker$Predictor"
theorem nmX4 : ∀ a, a < 11 → ∀ b, b < 11 → a ≠ b → (TX4 a).2.1 ≠ (TX4 b).2.1 := by decide +kernel
theorem tyX4_ok : ∀ k, k < 11 → parseFieldDescriptor (TX4 k).2.2.1 = some (tyX4 k) := by decide +kernel
abbrev cX4_init : ByteArray := prog_6_method_1_code
def yX4_init : MethodName := ⟨RX4, "<init>", "()V"⟩
abbrev cX4_append : ByteArray := prog_6_method_2_code
def yX4_append : MethodName := ⟨RX4, "append", "(JI)Z"⟩
abbrev cX4_load : ByteArray := prog_6_method_3_code
def yX4_load : MethodName := ⟨RX4, "load", "(LSoundPacker$Pen;)V"⟩
abbrev cX4_accepts : ByteArray := prog_6_method_4_code
def yX4_accepts : MethodName := ⟨RX4, "accepts", "()Z"⟩
abbrev cX4_fail : ByteArray := prog_6_method_5_code
def yX4_fail : MethodName := ⟨RX4, "fail", "(II)V"⟩
abbrev cX4_failUnless : ByteArray := prog_6_method_6_code
def yX4_failUnless : MethodName := ⟨RX4, "failUnless", "(ZI)V"⟩
abbrev cX4_number : ByteArray := prog_6_method_7_code
def yX4_number : MethodName := ⟨RX4, "number", "(I)J"⟩
abbrev cX4_zerosAndOne : ByteArray := prog_6_method_8_code
def yX4_zerosAndOne : MethodName := ⟨RX4, "zerosAndOne", "()I"⟩
abbrev cX4_pass : ByteArray := prog_6_method_9_code
def yX4_pass : MethodName := ⟨RX4, "pass", "(I)V"⟩
abbrev cX4_expect : ByteArray := prog_6_method_10_code
def yX4_expect : MethodName := ⟨RX4, "expect", "(IJ)V"⟩
abbrev cX4_signed : ByteArray := prog_6_method_11_code
def yX4_signed : MethodName := ⟨RX4, "signed", "(JI)I"⟩
abbrev cX4_unfolded : ByteArray := prog_6_method_12_code
def yX4_unfolded : MethodName := ⟨RX4, "unfolded", "(J)J"⟩
abbrev cX4_openStream : ByteArray := prog_6_method_13_code
def yX4_openStream : MethodName := ⟨RX4, "openStream", "()V"⟩
abbrev cX4_readSettings : ByteArray := prog_6_method_14_code
def yX4_readSettings : MethodName := ⟨RX4, "readSettings", "()V"⟩
abbrev cX4_expectEnd : ByteArray := prog_6_method_15_code
def yX4_expectEnd : MethodName := ⟨RX4, "expectEnd", "()V"⟩
abbrev cX4_readFrame : ByteArray := prog_6_method_16_code
def yX4_readFrame : MethodName := ⟨RX4, "readFrame", "(II)V"⟩
abbrev cX4_keepSamples : ByteArray := prog_6_method_17_code
def yX4_keepSamples : MethodName := ⟨RX4, "keepSamples", "(II)V"⟩
abbrev cX4_readHeader : ByteArray := prog_6_method_18_code
def yX4_readHeader : MethodName := ⟨RX4, "readHeader", "(II)I"⟩
abbrev cX4_readFrameNumber : ByteArray := prog_6_method_19_code
def yX4_readFrameNumber : MethodName := ⟨RX4, "readFrameNumber", "(I)V"⟩
abbrev cX4_expectSum : ByteArray := prog_6_method_20_code
def yX4_expectSum : MethodName := ⟨RX4, "expectSum", "(III)V"⟩
abbrev cX4_readSubframe : ByteArray := prog_6_method_21_code
def yX4_readSubframe : MethodName := ⟨RX4, "readSubframe", "([III)V"⟩
abbrev cX4_orderOf : ByteArray := prog_6_method_22_code
def yX4_orderOf : MethodName := ⟨RX4, "orderOf", "(I)I"⟩
abbrev cX4_readNumbers : ByteArray := prog_6_method_23_code
def yX4_readNumbers : MethodName := ⟨RX4, "readNumbers", "([III)V"⟩
abbrev cX4_readPredictor : ByteArray := prog_6_method_24_code
def yX4_readPredictor : MethodName := ⟨RX4, "readPredictor", "(II)V"⟩
abbrev cX4_readResiduals : ByteArray := prog_6_method_25_code
def yX4_readResiduals : MethodName := ⟨RX4, "readResiduals", "([III)V"⟩
abbrev cX4_readPart : ByteArray := prog_6_method_26_code
def yX4_readPart : MethodName := ⟨RX4, "readPart", "([IIIII)V"⟩
abbrev cX4_uniteRows : ByteArray := prog_6_method_27_code
def yX4_uniteRows : MethodName := ⟨RX4, "uniteRows", "(II)V"⟩
def RX5 : String := "SoundPacker$Residuals"
def TX5 : u_T := fun k => match k with
  | 0 => ("SoundPacker$Residuals", "folded", "[J", true)
  | 1 => ("SoundPacker$Residuals", "numbers", "I", false)
  | 2 => ("SoundPacker$Residuals", "first", "I", false)
  | 3 => ("SoundPacker$Residuals", "sums", "[J", true)
  | 4 => ("SoundPacker$Residuals", "keys", "[I", true)
  | 5 => ("SoundPacker$Residuals", "triedKeys", "[I", true)
  | 6 => ("SoundPacker$Residuals", "order", "I", false)
  | _ => ("SoundPacker$Residuals", "size", "J", false)
def tyX5 : Nat → FieldType := fun k => match k with
  | 0 => .array .long
  | 1 => .int
  | 2 => .int
  | 3 => .array .long
  | 4 => .array .int
  | 5 => .array .int
  | 6 => .int
  | _ => .long
theorem nmX5 : ∀ a, a < 8 → ∀ b, b < 8 → a ≠ b → (TX5 a).2.1 ≠ (TX5 b).2.1 := by decide +kernel
theorem tyX5_ok : ∀ k, k < 8 → parseFieldDescriptor (TX5 k).2.2.1 = some (tyX5 k) := by decide +kernel
abbrev cX5_init : ByteArray := prog_7_method_1_code
def yX5_init : MethodName := ⟨RX5, "<init>", "()V"⟩
abbrev cX5_take : ByteArray := prog_7_method_2_code
def yX5_take : MethodName := ⟨RX5, "take", "([IILSoundPacker$Predictor;)Z"⟩
abbrev cX5_measure : ByteArray := prog_7_method_3_code
def yX5_measure : MethodName := ⟨RX5, "measure", "()V"⟩
abbrev cX5_finestOrder : ByteArray := prog_7_method_4_code
def yX5_finestOrder : MethodName := ⟨RX5, "finestOrder", "()I"⟩
abbrev cX5_addUp : ByteArray := prog_7_method_5_code
def yX5_addUp : MethodName := ⟨RX5, "addUp", "(I)V"⟩
abbrev cX5_bitsInParts : ByteArray := prog_7_method_6_code
def yX5_bitsInParts : MethodName := ⟨RX5, "bitsInParts", "(I)J"⟩
abbrev cX5_joinPairs : ByteArray := prog_7_method_7_code
def yX5_joinPairs : MethodName := ⟨RX5, "joinPairs", "(I)V"⟩
abbrev cX5_write : ByteArray := prog_7_method_8_code
def yX5_write : MethodName := ⟨RX5, "write", "(LSoundPacker$Pen;)V"⟩
def RX6 : String := "SoundPacker$Settings"
def TX6 : u_T := fun k => match k with
  | 0 => ("SoundPacker$Settings", "channels", "I", false)
  | 1 => ("SoundPacker$Settings", "bits", "I", false)
  | 2 => ("SoundPacker$Settings", "block", "I", false)
  | _ => ("SoundPacker$Settings", "rate", "I", false)
def tyX6 : Nat → FieldType := fun k => match k with
  | 0 => .int
  | 1 => .int
  | 2 => .int
  | _ => .int
theorem nmX6 : ∀ a, a < 4 → ∀ b, b < 4 → a ≠ b → (TX6 a).2.1 ≠ (TX6 b).2.1 := by decide +kernel
theorem tyX6_ok : ∀ k, k < 4 → parseFieldDescriptor (TX6 k).2.2.1 = some (tyX6 k) := by decide +kernel
abbrev cX6_init : ByteArray := prog_8_method_1_code
def yX6_init : MethodName := ⟨RX6, "<init>", "()V"⟩
abbrev cX6_become : ByteArray := prog_8_method_2_code
def yX6_become : MethodName := ⟨RX6, "become", "(LSoundPacker$Settings;)V"⟩
def RX7 : String := "SoundPacker$Subframe"
def TX7 : u_T := fun k => match k with
  | 0 => ("SoundPacker$Subframe", "numbers", "[I", true)
  | 1 => ("SoundPacker$Subframe", "length", "I", false)
  | 2 => ("SoundPacker$Subframe", "bits", "I", false)
  | 3 => ("SoundPacker$Subframe", "wasted", "I", false)
  | 4 => ("SoundPacker$Subframe", "type", "I", false)
  | 5 => ("SoundPacker$Subframe", "order", "I", false)
  | _ => ("SoundPacker$Subframe", "size", "J", false)
def tyX7 : Nat → FieldType := fun k => match k with
  | 0 => .array .int
  | 1 => .int
  | 2 => .int
  | 3 => .int
  | 4 => .int
  | 5 => .int
  | _ => .long
theorem nmX7 : ∀ a, a < 7 → ∀ b, b < 7 → a ≠ b → (TX7 a).2.1 ≠ (TX7 b).2.1 := by decide +kernel
theorem tyX7_ok : ∀ k, k < 7 → parseFieldDescriptor (TX7 k).2.2.1 = some (tyX7 k) := by decide +kernel
abbrev cX7_init : ByteArray := prog_9_method_1_code
def yX7_init : MethodName := ⟨RX7, "<init>", "()V"⟩
abbrev cX7_begin : ByteArray := prog_9_method_2_code
def yX7_begin : MethodName := ⟨RX7, "begin", "(II)V"⟩
abbrev cX7_dropWasted : ByteArray := prog_9_method_3_code
def yX7_dropWasted : MethodName := ⟨RX7, "dropWasted", "()V"⟩
abbrev cX7_isOneNumber : ByteArray := prog_9_method_4_code
def yX7_isOneNumber : MethodName := ⟨RX7, "isOneNumber", "()Z"⟩
abbrev cX7_offer : ByteArray := prog_9_method_5_code
def yX7_offer : MethodName := ⟨RX7, "offer", "(IJI)V"⟩
def RX8 : String := "SoundPacker"
def TX8 : u_T := fun k => match k with
  | 0 => ("SoundPacker", "settings", "LSoundPacker$Settings;", true)
  | 1 => ("SoundPacker", "predictor", "LSoundPacker$Predictor;", true)
  | 2 => ("SoundPacker", "samples", "[I", true)
  | 3 => ("SoundPacker", "sampleCount", "I", false)
  | 4 => ("SoundPacker", "maker", "LSoundPacker$Maker;", true)
  | _ => ("SoundPacker", "reader", "LSoundPacker$Reader;", true)
def tyX8 : Nat → FieldType := fun k => match k with
  | 0 => .object "SoundPacker$Settings"
  | 1 => .object "SoundPacker$Predictor"
  | 2 => .array .int
  | 3 => .int
  | 4 => .object "SoundPacker$Maker"
  | _ => .object "SoundPacker$Reader"
theorem nmX8 : ∀ a, a < 6 → ∀ b, b < 6 → a ≠ b → (TX8 a).2.1 ≠ (TX8 b).2.1 := by decide +kernel
theorem tyX8_ok : ∀ k, k < 6 → parseFieldDescriptor (TX8 k).2.2.1 = some (tyX8 k) := by decide +kernel
abbrev cX8_init : ByteArray := prog_1_method_1_code
def yX8_init : MethodName := ⟨RX8, "<init>", "()V"⟩
abbrev cX8_shape : ByteArray := prog_1_method_2_code
def yX8_shape : MethodName := ⟨RX8, "shape", "(IIII)V"⟩
abbrev cX8_predict : ByteArray := prog_1_method_3_code
def yX8_predict : MethodName := ⟨RX8, "predict", "(I)V"⟩
abbrev cX8_coefficient : ByteArray := prog_1_method_4_code
def yX8_coefficient : MethodName := ⟨RX8, "coefficient", "(I)V"⟩
abbrev cX8_push : ByteArray := prog_1_method_5_code
def yX8_push : MethodName := ⟨RX8, "push", "(I)V"⟩
abbrev cX8_make : ByteArray := prog_1_method_6_code
def yX8_make : MethodName := ⟨RX8, "make", "()I"⟩
abbrev cX8_octet : ByteArray := prog_1_method_7_code
def yX8_octet : MethodName := ⟨RX8, "octet", "(I)I"⟩
abbrev cX8_way : ByteArray := prog_1_method_8_code
def yX8_way : MethodName := ⟨RX8, "way", "(III)I"⟩
abbrev cX8_feed : ByteArray := prog_1_method_9_code
def yX8_feed : MethodName := ⟨RX8, "feed", "(JI)Z"⟩
abbrev cX8_again : ByteArray := prog_1_method_10_code
def yX8_again : MethodName := ⟨RX8, "again", "()I"⟩
abbrev cX8_read : ByteArray := prog_1_method_11_code
def yX8_read : MethodName := ⟨RX8, "read", "()I"⟩
abbrev cX8_fault : ByteArray := prog_1_method_12_code
def yX8_fault : MethodName := ⟨RX8, "fault", "()I"⟩
abbrev cX8_place : ByteArray := prog_1_method_13_code
def yX8_place : MethodName := ⟨RX8, "place", "()I"⟩
abbrev cX8_sample : ByteArray := prog_1_method_14_code
def yX8_sample : MethodName := ⟨RX8, "sample", "(I)I"⟩
abbrev cX8_count : ByteArray := prog_1_method_15_code
def yX8_count : MethodName := ⟨RX8, "count", "(I)I"⟩
abbrev cX8_within : ByteArray := prog_1_method_16_code
def yX8_within : MethodName := ⟨RX8, "within", "(JJJ)Z"⟩
abbrev cX8_fits : ByteArray := prog_1_method_17_code
def yX8_fits : MethodName := ⟨RX8, "fits", "(JI)Z"⟩
abbrev cX8_isSide : ByteArray := prog_1_method_18_code
def yX8_isSide : MethodName := ⟨RX8, "isSide", "(II)Z"⟩
abbrev cX8_sumOf : ByteArray := prog_1_method_19_code
def yX8_sumOf : MethodName := ⟨RX8, "sumOf", "([BIIII)I"⟩
def RX9 : String := "SoundPackerModel"
def TX9 : u_T := fun k => match k with
  | 0 => ("SoundPackerModel", "code", "I", false)
  | 1 => ("SoundPackerModel", "channels", "I", false)
  | 2 => ("SoundPackerModel", "bits", "I", false)
  | 3 => ("SoundPackerModel", "block", "I", false)
  | 4 => ("SoundPackerModel", "rate", "I", false)
  | 5 => ("SoundPackerModel", "shift", "I", false)
  | 6 => ("SoundPackerModel", "coefficients", "I", false)
  | 7 => ("SoundPackerModel", "coefficient", "[I", true)
  | 8 => ("SoundPackerModel", "many", "I", false)
  | 9 => ("SoundPackerModel", "samples", "[I", true)
  | 10 => ("SoundPackerModel", "madeBytes", "I", false)
  | 11 => ("SoundPackerModel", "made", "[J", true)
  | 12 => ("SoundPackerModel", "bit", "J", false)
  | 13 => ("SoundPackerModel", "madeChannels", "I", false)
  | 14 => ("SoundPackerModel", "frames", "I", false)
  | 15 => ("SoundPackerModel", "types", "[I", true)
  | 16 => ("SoundPackerModel", "wastes", "[I", true)
  | 17 => ("SoundPackerModel", "orders", "[I", true)
  | 18 => ("SoundPackerModel", "sizes", "[I", true)
  | 19 => ("SoundPackerModel", "assigned", "[I", true)
  | 20 => ("SoundPackerModel", "taped", "I", false)
  | 21 => ("SoundPackerModel", "tape", "[J", true)
  | 22 => ("SoundPackerModel", "fault", "I", false)
  | 23 => ("SoundPackerModel", "place", "I", false)
  | 24 => ("SoundPackerModel", "length", "I", false)
  | 25 => ("SoundPackerModel", "row", "[J", true)
  | 26 => ("SoundPackerModel", "left", "[J", true)
  | 27 => ("SoundPackerModel", "waste", "I", false)
  | 28 => ("SoundPackerModel", "type", "I", false)
  | 29 => ("SoundPackerModel", "order", "I", false)
  | 30 => ("SoundPackerModel", "size", "J", false)
  | 31 => ("SoundPackerModel", "bestOrder", "I", false)
  | 32 => ("SoundPackerModel", "at", "J", false)
  | 33 => ("SoundPackerModel", "end", "J", false)
  | 34 => ("SoundPackerModel", "newBlock", "I", false)
  | 35 => ("SoundPackerModel", "newRate", "I", false)
  | 36 => ("SoundPackerModel", "newChannels", "I", false)
  | 37 => ("SoundPackerModel", "newBits", "I", false)
  | 38 => ("SoundPackerModel", "moments", "J", false)
  | 39 => ("SoundPackerModel", "got", "I", false)
  | 40 => ("SoundPackerModel", "fresh", "[I", true)
  | 41 => ("SoundPackerModel", "numbers", "[J", true)
  | 42 => ("SoundPackerModel", "weights", "[I", true)
  | _ => ("SoundPackerModel", "weightShift", "I", false)
def tyX9 : Nat → FieldType := fun k => match k with
  | 0 => .int
  | 1 => .int
  | 2 => .int
  | 3 => .int
  | 4 => .int
  | 5 => .int
  | 6 => .int
  | 7 => .array .int
  | 8 => .int
  | 9 => .array .int
  | 10 => .int
  | 11 => .array .long
  | 12 => .long
  | 13 => .int
  | 14 => .int
  | 15 => .array .int
  | 16 => .array .int
  | 17 => .array .int
  | 18 => .array .int
  | 19 => .array .int
  | 20 => .int
  | 21 => .array .long
  | 22 => .int
  | 23 => .int
  | 24 => .int
  | 25 => .array .long
  | 26 => .array .long
  | 27 => .int
  | 28 => .int
  | 29 => .int
  | 30 => .long
  | 31 => .int
  | 32 => .long
  | 33 => .long
  | 34 => .int
  | 35 => .int
  | 36 => .int
  | 37 => .int
  | 38 => .long
  | 39 => .int
  | 40 => .array .int
  | 41 => .array .long
  | 42 => .array .int
  | _ => .int
theorem nmX9 : ∀ a, a < 44 → ∀ b, b < 44 → a ≠ b → (TX9 a).2.1 ≠ (TX9 b).2.1 := by decide +kernel
theorem tyX9_ok : ∀ k, k < 44 → parseFieldDescriptor (TX9 k).2.2.1 = some (tyX9 k) := by decide +kernel
abbrev cX9_init : ByteArray := prog_11_method_1_code
def yX9_init : MethodName := ⟨RX9, "<init>", "()V"⟩
abbrev cX9_thrown : ByteArray := prog_11_method_2_code
def yX9_thrown : MethodName := ⟨RX9, "thrown", "()I"⟩
abbrev cX9_in : ByteArray := prog_11_method_3_code
def yX9_in : MethodName := ⟨RX9, "in", "(JJJ)Z"⟩
abbrev cX9_fits : ByteArray := prog_11_method_4_code
def yX9_fits : MethodName := ⟨RX9, "fits", "(JI)Z"⟩
abbrev cX9_shape : ByteArray := prog_11_method_5_code
def yX9_shape : MethodName := ⟨RX9, "shape", "(IIII)V"⟩
abbrev cX9_predict : ByteArray := prog_11_method_6_code
def yX9_predict : MethodName := ⟨RX9, "predict", "(I)V"⟩
abbrev cX9_coefficient : ByteArray := prog_11_method_7_code
def yX9_coefficient : MethodName := ⟨RX9, "coefficient", "(I)V"⟩
abbrev cX9_push : ByteArray := prog_11_method_8_code
def yX9_push : MethodName := ⟨RX9, "push", "(I)V"⟩
abbrev cX9_isConstant : ByteArray := prog_11_method_9_code
def yX9_isConstant : MethodName := ⟨RX9, "isConstant", "()Z"⟩
abbrev cX9_takeWaste : ByteArray := prog_11_method_10_code
def yX9_takeWaste : MethodName := ⟨RX9, "takeWaste", "()I"⟩
abbrev cX9_fixed : ByteArray := prog_11_method_11_code
def yX9_fixed : MethodName := ⟨RX9, "fixed", "([JII)J"⟩
abbrev cX9_summed : ByteArray := prog_11_method_12_code
def yX9_summed : MethodName := ⟨RX9, "summed", "(I)J"⟩
abbrev cX9_leave : ByteArray := prog_11_method_13_code
def yX9_leave : MethodName := ⟨RX9, "leave", "(I)Z"⟩
abbrev cX9_o : ByteArray := prog_11_method_14_code
def yX9_o : MethodName := ⟨RX9, "o", "(I)I"⟩
abbrev cX9_folded : ByteArray := prog_11_method_15_code
def yX9_folded : MethodName := ⟨RX9, "folded", "(J)J"⟩
abbrev cX9_costOf : ByteArray := prog_11_method_16_code
def yX9_costOf : MethodName := ⟨RX9, "costOf", "(III)J"⟩
abbrev cX9_bestK : ByteArray := prog_11_method_17_code
def yX9_bestK : MethodName := ⟨RX9, "bestK", "(II)I"⟩
abbrev cX9_partsCost : ByteArray := prog_11_method_18_code
def yX9_partsCost : MethodName := ⟨RX9, "partsCost", "(II)J"⟩
abbrev cX9_leftCost : ByteArray := prog_11_method_19_code
def yX9_leftCost : MethodName := ⟨RX9, "leftCost", "(I)J"⟩
abbrev cX9_offer : ByteArray := prog_11_method_20_code
def yX9_offer : MethodName := ⟨RX9, "offer", "(IIJ)V"⟩
abbrev cX9_measure : ByteArray := prog_11_method_21_code
def yX9_measure : MethodName := ⟨RX9, "measure", "(I)V"⟩
abbrev cX9_write : ByteArray := prog_11_method_22_code
def yX9_write : MethodName := ⟨RX9, "write", "(IJ)V"⟩
abbrev cX9_octetOf : ByteArray := prog_11_method_23_code
def yX9_octetOf : MethodName := ⟨RX9, "octetOf", "([JI)I"⟩
abbrev cX9_sumOf : ByteArray := prog_11_method_24_code
def yX9_sumOf : MethodName := ⟨RX9, "sumOf", "([JIIZ)I"⟩
abbrev cX9_load : ByteArray := prog_11_method_25_code
def yX9_load : MethodName := ⟨RX9, "load", "(III)V"⟩
abbrev cX9_bitsOf : ByteArray := prog_11_method_26_code
def yX9_bitsOf : MethodName := ⟨RX9, "bitsOf", "(I)I"⟩
abbrev cX9_measured : ByteArray := prog_11_method_27_code
def yX9_measured : MethodName := ⟨RX9, "measured", "(III)J"⟩
abbrev cX9_rowOf : ByteArray := prog_11_method_28_code
def yX9_rowOf : MethodName := ⟨RX9, "rowOf", "(II)I"⟩
abbrev cX9_assignment : ByteArray := prog_11_method_29_code
def yX9_assignment : MethodName := ⟨RX9, "assignment", "(II)I"⟩
abbrev cX9_writeNumber : ByteArray := prog_11_method_30_code
def yX9_writeNumber : MethodName := ⟨RX9, "writeNumber", "(I)V"⟩
abbrev cX9_writeLeft : ByteArray := prog_11_method_31_code
def yX9_writeLeft : MethodName := ⟨RX9, "writeLeft", "(I)V"⟩
abbrev cX9_writeRow : ByteArray := prog_11_method_32_code
def yX9_writeRow : MethodName := ⟨RX9, "writeRow", "(I)V"⟩
abbrev cX9_writeFrame : ByteArray := prog_11_method_33_code
def yX9_writeFrame : MethodName := ⟨RX9, "writeFrame", "(II)V"⟩
abbrev cX9_make : ByteArray := prog_11_method_34_code
def yX9_make : MethodName := ⟨RX9, "make", "()I"⟩
abbrev cX9_octet : ByteArray := prog_11_method_35_code
def yX9_octet : MethodName := ⟨RX9, "octet", "(I)I"⟩
abbrev cX9_way : ByteArray := prog_11_method_36_code
def yX9_way : MethodName := ⟨RX9, "way", "(III)I"⟩
abbrev cX9_feed : ByteArray := prog_11_method_37_code
def yX9_feed : MethodName := ⟨RX9, "feed", "(JI)Z"⟩
abbrev cX9_again : ByteArray := prog_11_method_38_code
def yX9_again : MethodName := ⟨RX9, "again", "()I"⟩
abbrev cX9_wrong : ByteArray := prog_11_method_39_code
def yX9_wrong : MethodName := ⟨RX9, "wrong", "(IJ)Z"⟩
abbrev cX9_take : ByteArray := prog_11_method_40_code
def yX9_take : MethodName := ⟨RX9, "take", "(I)J"⟩
abbrev cX9_takeSigned : ByteArray := prog_11_method_41_code
def yX9_takeSigned : MethodName := ⟨RX9, "takeSigned", "(I)J"⟩
abbrev cX9_takeIn : ByteArray := prog_11_method_42_code
def yX9_takeIn : MethodName := ⟨RX9, "takeIn", "(IJJ)J"⟩
abbrev cX9_takeRow : ByteArray := prog_11_method_43_code
def yX9_takeRow : MethodName := ⟨RX9, "takeRow", "()J"⟩
abbrev cX9_passOver : ByteArray := prog_11_method_44_code
def yX9_passOver : MethodName := ⟨RX9, "passOver", "(J)V"⟩
abbrev cX9_readSettings : ByteArray := prog_11_method_45_code
def yX9_readSettings : MethodName := ⟨RX9, "readSettings", "()V"⟩
abbrev cX9_readByte : ByteArray := prog_11_method_46_code
def yX9_readByte : MethodName := ⟨RX9, "readByte", "(JZ)V"⟩
abbrev cX9_readNumber : ByteArray := prog_11_method_47_code
def yX9_readNumber : MethodName := ⟨RX9, "readNumber", "(I)V"⟩
abbrev cX9_readAssignment : ByteArray := prog_11_method_48_code
def yX9_readAssignment : MethodName := ⟨RX9, "readAssignment", "()I"⟩
abbrev cX9_readFrame : ByteArray := prog_11_method_49_code
def yX9_readFrame : MethodName := ⟨RX9, "readFrame", "(II)V"⟩
abbrev cX9_readSum : ByteArray := prog_11_method_50_code
def yX9_readSum : MethodName := ⟨RX9, "readSum", "(JI)V"⟩
abbrev cX9_isKept : ByteArray := prog_11_method_51_code
def yX9_isKept : MethodName := ⟨RX9, "isKept", "(II)Z"⟩
abbrev cX9_readRow : ByteArray := prog_11_method_52_code
def yX9_readRow : MethodName := ⟨RX9, "readRow", "(III)V"⟩
abbrev cX9_readWeights : ByteArray := prog_11_method_53_code
def yX9_readWeights : MethodName := ⟨RX9, "readWeights", "(I)V"⟩
abbrev cX9_foretold : ByteArray := prog_11_method_54_code
def yX9_foretold : MethodName := ⟨RX9, "foretold", "(III)J"⟩
abbrev cX9_readLeft : ByteArray := prog_11_method_55_code
def yX9_readLeft : MethodName := ⟨RX9, "readLeft", "(IIII)V"⟩
abbrev cX9_unfolded : ByteArray := prog_11_method_56_code
def yX9_unfolded : MethodName := ⟨RX9, "unfolded", "(I)J"⟩
abbrev cX9_read : ByteArray := prog_11_method_57_code
def yX9_read : MethodName := ⟨RX9, "read", "()I"⟩
abbrev cX9_fault : ByteArray := prog_11_method_58_code
def yX9_fault : MethodName := ⟨RX9, "fault", "()I"⟩
abbrev cX9_place : ByteArray := prog_11_method_59_code
def yX9_place : MethodName := ⟨RX9, "place", "()I"⟩
abbrev cX9_sample : ByteArray := prog_11_method_60_code
def yX9_sample : MethodName := ⟨RX9, "sample", "(I)I"⟩
abbrev cX9_count : ByteArray := prog_11_method_61_code
def yX9_count : MethodName := ⟨RX9, "count", "(I)I"⟩
def RJ9 : String := "java/lang/Math"
abbrev cJ9_max_7cf53 : ByteArray := prog_18_method_65_code
def yJ9_max_7cf53 : MethodName := ⟨RJ9, "max", "(II)I"⟩
abbrev cJ9_min_7cf53 : ByteArray := prog_18_method_69_code
def yJ9_min_7cf53 : MethodName := ⟨RJ9, "min", "(II)I"⟩
def RJ7 : String := "java/util/Arrays"
abbrev cJ7_rangeCheck_23922 : ByteArray := prog_26_method_30_code
def yJ7_rangeCheck_23922 : MethodName := ⟨RJ7, "rangeCheck", "(III)V"⟩
abbrev cJ7_fill_d0a16 : ByteArray := prog_26_method_101_code
def yJ7_fill_d0a16 : MethodName := ⟨RJ7, "fill", "([JJ)V"⟩
abbrev cJ7_fill_fda19 : ByteArray := prog_26_method_104_code
def yJ7_fill_fda19 : MethodName := ⟨RJ7, "fill", "([IIII)V"⟩
abbrev cJ7_fill_eb02e : ByteArray := prog_26_method_110_code
def yJ7_fill_eb02e : MethodName := ⟨RJ7, "fill", "([BIIB)V"⟩
def RL : String := "SoundPackerLaw"
abbrev cL_shape : ByteArray := method_3_code
def yL_shape : MethodName := ⟨RL, "shape", "(LSoundPacker;IIII)I"⟩
abbrev cL_predict : ByteArray := method_4_code
def yL_predict : MethodName := ⟨RL, "predict", "(LSoundPacker;I)I"⟩
abbrev cL_coefficient : ByteArray := method_5_code
def yL_coefficient : MethodName := ⟨RL, "coefficient", "(LSoundPacker;I)I"⟩
abbrev cL_push : ByteArray := method_6_code
def yL_push : MethodName := ⟨RL, "push", "(LSoundPacker;I)I"⟩
abbrev cL_make : ByteArray := method_7_code
def yL_make : MethodName := ⟨RL, "make", "(LSoundPacker;[J)I"⟩
abbrev cL_way : ByteArray := method_8_code
def yL_way : MethodName := ⟨RL, "way", "(LSoundPacker;III[J)I"⟩
abbrev cL_read : ByteArray := method_9_code
def yL_read : MethodName := ⟨RL, "read", "(LSoundPacker;[J)I"⟩
abbrev cL_sample : ByteArray := method_10_code
def yL_sample : MethodName := ⟨RL, "sample", "(LSoundPacker;I[J)I"⟩
abbrev cL_law : ByteArray := code
def yL_law : MethodName := ⟨RL, "law", "([I)Z"⟩
end
section
theorem dX0_init_0 : decode cX0_init 0 = .ok (.aload_n 0, 1) := by decide +kernel
theorem dX0_init_1 : decode cX0_init 1 = .ok (.invokespecial 3, 3) := by decide +kernel
theorem dX0_init_4 : decode cX0_init 4 = .ok (.aload_n 0, 1) := by decide +kernel
theorem dX0_init_5 : decode cX0_init 5 = .ok (.new 9, 3) := by decide +kernel
theorem dX0_init_8 : decode cX0_init 8 = .ok (.dup, 1) := by decide +kernel
theorem dX0_init_9 : decode cX0_init 9 = .ok (.iconst 4, 1) := by decide +kernel
theorem dX0_init_10 : decode cX0_init 10 = .ok (.invokespecial 11, 3) := by decide +kernel
theorem dX0_init_13 : decode cX0_init 13 = .ok (.putfield 14, 3) := by decide +kernel
theorem dX0_init_16 : decode cX0_init 16 = .ok (.aload_n 0, 1) := by decide +kernel
theorem dX0_init_17 : decode cX0_init 17 = .ok (.new 20, 3) := by decide +kernel
theorem dX0_init_20 : decode cX0_init 20 = .ok (.dup, 1) := by decide +kernel
theorem dX0_init_21 : decode cX0_init 21 = .ok (.invokespecial 22, 3) := by decide +kernel
theorem dX0_init_24 : decode cX0_init 24 = .ok (.putfield 23, 3) := by decide +kernel
theorem dX0_init_27 : decode cX0_init 27 = .ok (.return_, 1) := by decide +kernel
theorem dX0_choose_0 : decode cX0_choose 0 = .ok (.aload_n 1, 1) := by decide +kernel
theorem dX0_choose_1 : decode cX0_choose 1 = .ok (.invokevirtual 27, 3) := by decide +kernel
theorem dX0_choose_4 : decode cX0_choose 4 = .ok (.bipush 8, 2) := by decide +kernel
theorem dX0_choose_6 : decode cX0_choose 6 = .ok (.aload_n 1, 1) := by decide +kernel
theorem dX0_choose_7 : decode cX0_choose 7 = .ok (.getfield 32, 3) := by decide +kernel
theorem dX0_choose_10 : decode cX0_choose 10 = .ok (.iadd, 1) := by decide +kernel
theorem dX0_choose_11 : decode cX0_choose 11 = .ok (.istore_n 3, 1) := by decide +kernel
theorem dX0_choose_12 : decode cX0_choose 12 = .ok (.aload_n 1, 1) := by decide +kernel
theorem dX0_choose_13 : decode cX0_choose 13 = .ok (.invokevirtual 36, 3) := by decide +kernel
theorem dX0_choose_16 : decode cX0_choose 16 = .ok (.ifCond .eq 16, 3) := by decide +kernel
theorem dX0_choose_19 : decode cX0_choose 19 = .ok (.aload_n 1, 1) := by decide +kernel
theorem dX0_choose_20 : decode cX0_choose 20 = .ok (.iconst 0, 1) := by decide +kernel
theorem dX0_choose_21 : decode cX0_choose 21 = .ok (.iload_n 3, 1) := by decide +kernel
theorem dX0_choose_22 : decode cX0_choose 22 = .ok (.aload_n 1, 1) := by decide +kernel
theorem dX0_choose_23 : decode cX0_choose 23 = .ok (.getfield 40, 3) := by decide +kernel
theorem dX0_choose_26 : decode cX0_choose 26 = .ok (.iadd, 1) := by decide +kernel
theorem dX0_choose_27 : decode cX0_choose 27 = .ok (.i2l, 1) := by decide +kernel
theorem dX0_choose_28 : decode cX0_choose 28 = .ok (.iconst (-1), 1) := by decide +kernel
theorem dX0_choose_29 : decode cX0_choose 29 = .ok (.invokevirtual 43, 3) := by decide +kernel
theorem dX0_choose_32 : decode cX0_choose 32 = .ok (.iconst 0, 1) := by decide +kernel
theorem dX0_choose_33 : decode cX0_choose 33 = .ok (.istore 4, 2) := by decide +kernel
theorem dX0_choose_35 : decode cX0_choose 35 = .ok (.iload 4, 2) := by decide +kernel
theorem dX0_choose_37 : decode cX0_choose 37 = .ok (.iconst 4, 1) := by decide +kernel
theorem dX0_choose_38 : decode cX0_choose 38 = .ok (.if_icmp .gt 42, 3) := by decide +kernel
theorem dX0_choose_41 : decode cX0_choose 41 = .ok (.iload 4, 2) := by decide +kernel
theorem dX0_choose_43 : decode cX0_choose 43 = .ok (.aload_n 1, 1) := by decide +kernel
theorem dX0_choose_44 : decode cX0_choose 44 = .ok (.getfield 47, 3) := by decide +kernel
theorem dX0_choose_47 : decode cX0_choose 47 = .ok (.if_icmp .gt 33, 3) := by decide +kernel
theorem dX0_choose_50 : decode cX0_choose 50 = .ok (.aload_n 0, 1) := by decide +kernel
theorem dX0_choose_51 : decode cX0_choose 51 = .ok (.getfield 14, 3) := by decide +kernel
theorem dX0_choose_54 : decode cX0_choose 54 = .ok (.iload 4, 2) := by decide +kernel
theorem dX0_choose_56 : decode cX0_choose 56 = .ok (.invokevirtual 50, 3) := by decide +kernel
theorem dX0_choose_59 : decode cX0_choose 59 = .ok (.aload_n 0, 1) := by decide +kernel
theorem dX0_choose_60 : decode cX0_choose 60 = .ok (.aload_n 1, 1) := by decide +kernel
theorem dX0_choose_61 : decode cX0_choose 61 = .ok (.bipush 8, 2) := by decide +kernel
theorem dX0_choose_63 : decode cX0_choose 63 = .ok (.iload 4, 2) := by decide +kernel
theorem dX0_choose_65 : decode cX0_choose 65 = .ok (.iadd, 1) := by decide +kernel
theorem dX0_choose_66 : decode cX0_choose 66 = .ok (.iload_n 3, 1) := by decide +kernel
theorem dX0_choose_67 : decode cX0_choose 67 = .ok (.aload_n 0, 1) := by decide +kernel
theorem dX0_choose_68 : decode cX0_choose 68 = .ok (.getfield 14, 3) := by decide +kernel
theorem dX0_choose_71 : decode cX0_choose 71 = .ok (.invokevirtual 53, 3) := by decide +kernel
theorem dX0_choose_74 : decode cX0_choose 74 = .ok (.iinc 4 1, 3) := by decide +kernel
theorem dX0_choose_77 : decode cX0_choose 77 = .ok (.goto (-42), 3) := by decide +kernel
theorem dX0_choose_80 : decode cX0_choose 80 = .ok (.aload_n 2, 1) := by decide +kernel
theorem dX0_choose_81 : decode cX0_choose 81 = .ok (.getfield 57, 3) := by decide +kernel
theorem dX0_choose_84 : decode cX0_choose 84 = .ok (.ifCond .le 39, 3) := by decide +kernel
theorem dX0_choose_87 : decode cX0_choose 87 = .ok (.aload_n 2, 1) := by decide +kernel
theorem dX0_choose_88 : decode cX0_choose 88 = .ok (.getfield 57, 3) := by decide +kernel
theorem dX0_choose_91 : decode cX0_choose 91 = .ok (.aload_n 1, 1) := by decide +kernel
theorem dX0_choose_92 : decode cX0_choose 92 = .ok (.getfield 47, 3) := by decide +kernel
theorem dX0_choose_95 : decode cX0_choose 95 = .ok (.if_icmp .gt 28, 3) := by decide +kernel
theorem dX0_choose_98 : decode cX0_choose 98 = .ok (.aload_n 0, 1) := by decide +kernel
theorem dX0_choose_99 : decode cX0_choose 99 = .ok (.aload_n 1, 1) := by decide +kernel
theorem dX0_choose_100 : decode cX0_choose 100 = .ok (.bipush 31, 2) := by decide +kernel
theorem dX0_choose_102 : decode cX0_choose 102 = .ok (.aload_n 2, 1) := by decide +kernel
theorem dX0_choose_103 : decode cX0_choose 103 = .ok (.getfield 57, 3) := by decide +kernel
theorem dX0_choose_106 : decode cX0_choose 106 = .ok (.iadd, 1) := by decide +kernel
theorem dX0_choose_107 : decode cX0_choose 107 = .ok (.iload_n 3, 1) := by decide +kernel
theorem dX0_choose_108 : decode cX0_choose 108 = .ok (.bipush 9, 2) := by decide +kernel
theorem dX0_choose_110 : decode cX0_choose 110 = .ok (.iadd, 1) := by decide +kernel
theorem dX0_choose_111 : decode cX0_choose 111 = .ok (.bipush 15, 2) := by decide +kernel
theorem dX0_choose_113 : decode cX0_choose 113 = .ok (.aload_n 2, 1) := by decide +kernel
theorem dX0_choose_114 : decode cX0_choose 114 = .ok (.getfield 57, 3) := by decide +kernel
theorem dX0_choose_117 : decode cX0_choose 117 = .ok (.imul, 1) := by decide +kernel
theorem dX0_choose_118 : decode cX0_choose 118 = .ok (.iadd, 1) := by decide +kernel
theorem dX0_choose_119 : decode cX0_choose 119 = .ok (.aload_n 2, 1) := by decide +kernel
theorem dX0_choose_120 : decode cX0_choose 120 = .ok (.invokevirtual 53, 3) := by decide +kernel
theorem dX0_choose_123 : decode cX0_choose 123 = .ok (.aload_n 1, 1) := by decide +kernel
theorem dX0_choose_124 : decode cX0_choose 124 = .ok (.iconst 1, 1) := by decide +kernel
theorem dX0_choose_125 : decode cX0_choose 125 = .ok (.iload_n 3, 1) := by decide +kernel
theorem dX0_choose_126 : decode cX0_choose 126 = .ok (.aload_n 1, 1) := by decide +kernel
theorem dX0_choose_127 : decode cX0_choose 127 = .ok (.getfield 47, 3) := by decide +kernel
theorem dX0_choose_130 : decode cX0_choose 130 = .ok (.aload_n 1, 1) := by decide +kernel
theorem dX0_choose_131 : decode cX0_choose 131 = .ok (.getfield 40, 3) := by decide +kernel
theorem dX0_choose_134 : decode cX0_choose 134 = .ok (.imul, 1) := by decide +kernel
theorem dX0_choose_135 : decode cX0_choose 135 = .ok (.iadd, 1) := by decide +kernel
theorem dX0_choose_136 : decode cX0_choose 136 = .ok (.i2l, 1) := by decide +kernel
theorem dX0_choose_137 : decode cX0_choose 137 = .ok (.iconst (-1), 1) := by decide +kernel
theorem dX0_choose_138 : decode cX0_choose 138 = .ok (.invokevirtual 43, 3) := by decide +kernel
theorem dX0_choose_141 : decode cX0_choose 141 = .ok (.return_, 1) := by decide +kernel
theorem dX0_offerPredicted_0 : decode cX0_offerPredicted 0 = .ok (.aload_n 0, 1) := by decide +kernel
theorem dX0_offerPredicted_1 : decode cX0_offerPredicted 1 = .ok (.getfield 23, 3) := by decide +kernel
theorem dX0_offerPredicted_4 : decode cX0_offerPredicted 4 = .ok (.aload_n 1, 1) := by decide +kernel
theorem dX0_offerPredicted_5 : decode cX0_offerPredicted 5 = .ok (.getfield 60, 3) := by decide +kernel
theorem dX0_offerPredicted_8 : decode cX0_offerPredicted 8 = .ok (.aload_n 1, 1) := by decide +kernel
theorem dX0_offerPredicted_9 : decode cX0_offerPredicted 9 = .ok (.getfield 47, 3) := by decide +kernel
theorem dX0_offerPredicted_12 : decode cX0_offerPredicted 12 = .ok (.aload 4, 2) := by decide +kernel
theorem dX0_offerPredicted_14 : decode cX0_offerPredicted 14 = .ok (.invokevirtual 64, 3) := by decide +kernel
theorem dX0_offerPredicted_17 : decode cX0_offerPredicted 17 = .ok (.ifCond .eq 43, 3) := by decide +kernel
theorem dX0_offerPredicted_20 : decode cX0_offerPredicted 20 = .ok (.aload_n 0, 1) := by decide +kernel
theorem dX0_offerPredicted_21 : decode cX0_offerPredicted 21 = .ok (.getfield 23, 3) := by decide +kernel
theorem dX0_offerPredicted_24 : decode cX0_offerPredicted 24 = .ok (.invokevirtual 68, 3) := by decide +kernel
theorem dX0_offerPredicted_27 : decode cX0_offerPredicted 27 = .ok (.aload_n 1, 1) := by decide +kernel
theorem dX0_offerPredicted_28 : decode cX0_offerPredicted 28 = .ok (.iload_n 2, 1) := by decide +kernel
theorem dX0_offerPredicted_29 : decode cX0_offerPredicted 29 = .ok (.iload_n 3, 1) := by decide +kernel
theorem dX0_offerPredicted_30 : decode cX0_offerPredicted 30 = .ok (.aload 4, 2) := by decide +kernel
theorem dX0_offerPredicted_32 : decode cX0_offerPredicted 32 = .ok (.getfield 57, 3) := by decide +kernel
theorem dX0_offerPredicted_35 : decode cX0_offerPredicted 35 = .ok (.aload_n 1, 1) := by decide +kernel
theorem dX0_offerPredicted_36 : decode cX0_offerPredicted 36 = .ok (.getfield 40, 3) := by decide +kernel
theorem dX0_offerPredicted_39 : decode cX0_offerPredicted 39 = .ok (.imul, 1) := by decide +kernel
theorem dX0_offerPredicted_40 : decode cX0_offerPredicted 40 = .ok (.iadd, 1) := by decide +kernel
theorem dX0_offerPredicted_41 : decode cX0_offerPredicted 41 = .ok (.i2l, 1) := by decide +kernel
theorem dX0_offerPredicted_42 : decode cX0_offerPredicted 42 = .ok (.aload_n 0, 1) := by decide +kernel
theorem dX0_offerPredicted_43 : decode cX0_offerPredicted 43 = .ok (.getfield 23, 3) := by decide +kernel
theorem dX0_offerPredicted_46 : decode cX0_offerPredicted 46 = .ok (.getfield 71, 3) := by decide +kernel
theorem dX0_offerPredicted_49 : decode cX0_offerPredicted 49 = .ok (.ladd, 1) := by decide +kernel
theorem dX0_offerPredicted_50 : decode cX0_offerPredicted 50 = .ok (.aload_n 0, 1) := by decide +kernel
theorem dX0_offerPredicted_51 : decode cX0_offerPredicted 51 = .ok (.getfield 23, 3) := by decide +kernel
theorem dX0_offerPredicted_54 : decode cX0_offerPredicted 54 = .ok (.getfield 75, 3) := by decide +kernel
theorem dX0_offerPredicted_57 : decode cX0_offerPredicted 57 = .ok (.invokevirtual 43, 3) := by decide +kernel
theorem dX0_offerPredicted_60 : decode cX0_offerPredicted 60 = .ok (.return_, 1) := by decide +kernel
theorem dX0_write_0 : decode cX0_write 0 = .ok (.aload_n 3, 1) := by decide +kernel
theorem dX0_write_1 : decode cX0_write 1 = .ok (.iconst 1, 1) := by decide +kernel
theorem dX0_write_2 : decode cX0_write 2 = .ok (.lconst 0, 1) := by decide +kernel
theorem dX0_write_3 : decode cX0_write 3 = .ok (.invokevirtual 76, 3) := by decide +kernel
theorem dX0_write_6 : decode cX0_write 6 = .ok (.aload_n 3, 1) := by decide +kernel
theorem dX0_write_7 : decode cX0_write 7 = .ok (.bipush 6, 2) := by decide +kernel
theorem dX0_write_9 : decode cX0_write 9 = .ok (.aload_n 1, 1) := by decide +kernel
theorem dX0_write_10 : decode cX0_write 10 = .ok (.getfield 82, 3) := by decide +kernel
theorem dX0_write_13 : decode cX0_write 13 = .ok (.i2l, 1) := by decide +kernel
theorem dX0_write_14 : decode cX0_write 14 = .ok (.invokevirtual 76, 3) := by decide +kernel
theorem dX0_write_17 : decode cX0_write 17 = .ok (.aload_n 3, 1) := by decide +kernel
theorem dX0_write_18 : decode cX0_write 18 = .ok (.iconst 1, 1) := by decide +kernel
theorem dX0_write_19 : decode cX0_write 19 = .ok (.aload_n 1, 1) := by decide +kernel
theorem dX0_write_20 : decode cX0_write 20 = .ok (.getfield 32, 3) := by decide +kernel
theorem dX0_write_23 : decode cX0_write 23 = .ok (.ifCond .le 7, 3) := by decide +kernel
theorem dX0_write_26 : decode cX0_write 26 = .ok (.lconst 1, 1) := by decide +kernel
theorem dX0_write_27 : decode cX0_write 27 = .ok (.goto 4, 3) := by decide +kernel
theorem dX0_write_30 : decode cX0_write 30 = .ok (.lconst 0, 1) := by decide +kernel
theorem dX0_write_31 : decode cX0_write 31 = .ok (.invokevirtual 76, 3) := by decide +kernel
theorem dX0_write_34 : decode cX0_write 34 = .ok (.aload_n 3, 1) := by decide +kernel
theorem dX0_write_35 : decode cX0_write 35 = .ok (.aload_n 1, 1) := by decide +kernel
theorem dX0_write_36 : decode cX0_write 36 = .ok (.getfield 32, 3) := by decide +kernel
theorem dX0_write_39 : decode cX0_write 39 = .ok (.lconst 1, 1) := by decide +kernel
theorem dX0_write_40 : decode cX0_write 40 = .ok (.invokevirtual 76, 3) := by decide +kernel
theorem dX0_write_43 : decode cX0_write 43 = .ok (.aload_n 1, 1) := by decide +kernel
theorem dX0_write_44 : decode cX0_write 44 = .ok (.getfield 82, 3) := by decide +kernel
theorem dX0_write_47 : decode cX0_write 47 = .ok (.ifCond .ne 12, 3) := by decide +kernel
theorem dX0_write_50 : decode cX0_write 50 = .ok (.aload_n 1, 1) := by decide +kernel
theorem dX0_write_51 : decode cX0_write 51 = .ok (.iconst 1, 1) := by decide +kernel
theorem dX0_write_52 : decode cX0_write 52 = .ok (.aload_n 3, 1) := by decide +kernel
theorem dX0_write_53 : decode cX0_write 53 = .ok (.invokestatic 85, 3) := by decide +kernel
theorem dX0_write_56 : decode cX0_write 56 = .ok (.goto 92, 3) := by decide +kernel
theorem dX0_write_59 : decode cX0_write 59 = .ok (.aload_n 1, 1) := by decide +kernel
theorem dX0_write_60 : decode cX0_write 60 = .ok (.getfield 82, 3) := by decide +kernel
theorem dX0_write_63 : decode cX0_write 63 = .ok (.iconst 1, 1) := by decide +kernel
theorem dX0_write_64 : decode cX0_write 64 = .ok (.if_icmp .ne 15, 3) := by decide +kernel
theorem dX0_write_67 : decode cX0_write 67 = .ok (.aload_n 1, 1) := by decide +kernel
theorem dX0_write_68 : decode cX0_write 68 = .ok (.aload_n 1, 1) := by decide +kernel
theorem dX0_write_69 : decode cX0_write 69 = .ok (.getfield 47, 3) := by decide +kernel
theorem dX0_write_72 : decode cX0_write 72 = .ok (.aload_n 3, 1) := by decide +kernel
theorem dX0_write_73 : decode cX0_write 73 = .ok (.invokestatic 85, 3) := by decide +kernel
theorem dX0_write_76 : decode cX0_write 76 = .ok (.goto 72, 3) := by decide +kernel
theorem dX0_write_79 : decode cX0_write 79 = .ok (.aload_n 1, 1) := by decide +kernel
theorem dX0_write_80 : decode cX0_write 80 = .ok (.getfield 82, 3) := by decide +kernel
theorem dX0_write_83 : decode cX0_write 83 = .ok (.bipush 31, 2) := by decide +kernel
theorem dX0_write_85 : decode cX0_write 85 = .ok (.if_icmp .le 27, 3) := by decide +kernel
theorem dX0_write_88 : decode cX0_write 88 = .ok (.aload_n 1, 1) := by decide +kernel
theorem dX0_write_89 : decode cX0_write 89 = .ok (.aload_n 2, 1) := by decide +kernel
theorem dX0_write_90 : decode cX0_write 90 = .ok (.getfield 57, 3) := by decide +kernel
theorem dX0_write_93 : decode cX0_write 93 = .ok (.aload_n 3, 1) := by decide +kernel
theorem dX0_write_94 : decode cX0_write 94 = .ok (.invokestatic 85, 3) := by decide +kernel
theorem dX0_write_97 : decode cX0_write 97 = .ok (.aload_n 2, 1) := by decide +kernel
theorem dX0_write_98 : decode cX0_write 98 = .ok (.aload_n 3, 1) := by decide +kernel
theorem dX0_write_99 : decode cX0_write 99 = .ok (.invokestatic 89, 3) := by decide +kernel
theorem dX0_write_102 : decode cX0_write 102 = .ok (.aload_n 0, 1) := by decide +kernel
theorem dX0_write_103 : decode cX0_write 103 = .ok (.aload_n 1, 1) := by decide +kernel
theorem dX0_write_104 : decode cX0_write 104 = .ok (.aload_n 2, 1) := by decide +kernel
theorem dX0_write_105 : decode cX0_write 105 = .ok (.aload_n 3, 1) := by decide +kernel
theorem dX0_write_106 : decode cX0_write 106 = .ok (.invokevirtual 93, 3) := by decide +kernel
theorem dX0_write_109 : decode cX0_write 109 = .ok (.goto 39, 3) := by decide +kernel
theorem dX0_write_112 : decode cX0_write 112 = .ok (.aload_n 0, 1) := by decide +kernel
theorem dX0_write_113 : decode cX0_write 113 = .ok (.getfield 14, 3) := by decide +kernel
theorem dX0_write_116 : decode cX0_write 116 = .ok (.aload_n 1, 1) := by decide +kernel
theorem dX0_write_117 : decode cX0_write 117 = .ok (.getfield 82, 3) := by decide +kernel
theorem dX0_write_120 : decode cX0_write 120 = .ok (.bipush 8, 2) := by decide +kernel
theorem dX0_write_122 : decode cX0_write 122 = .ok (.isub, 1) := by decide +kernel
theorem dX0_write_123 : decode cX0_write 123 = .ok (.invokevirtual 50, 3) := by decide +kernel
theorem dX0_write_126 : decode cX0_write 126 = .ok (.aload_n 1, 1) := by decide +kernel
theorem dX0_write_127 : decode cX0_write 127 = .ok (.aload_n 0, 1) := by decide +kernel
theorem dX0_write_128 : decode cX0_write 128 = .ok (.getfield 14, 3) := by decide +kernel
theorem dX0_write_131 : decode cX0_write 131 = .ok (.getfield 57, 3) := by decide +kernel
theorem dX0_write_134 : decode cX0_write 134 = .ok (.aload_n 3, 1) := by decide +kernel
theorem dX0_write_135 : decode cX0_write 135 = .ok (.invokestatic 85, 3) := by decide +kernel
theorem dX0_write_138 : decode cX0_write 138 = .ok (.aload_n 0, 1) := by decide +kernel
theorem dX0_write_139 : decode cX0_write 139 = .ok (.aload_n 1, 1) := by decide +kernel
theorem dX0_write_140 : decode cX0_write 140 = .ok (.aload_n 0, 1) := by decide +kernel
theorem dX0_write_141 : decode cX0_write 141 = .ok (.getfield 14, 3) := by decide +kernel
theorem dX0_write_144 : decode cX0_write 144 = .ok (.aload_n 3, 1) := by decide +kernel
theorem dX0_write_145 : decode cX0_write 145 = .ok (.invokevirtual 93, 3) := by decide +kernel
theorem dX0_write_148 : decode cX0_write 148 = .ok (.return_, 1) := by decide +kernel
theorem dX0_writeNumbers_0 : decode cX0_writeNumbers 0 = .ok (.iconst 0, 1) := by decide +kernel
theorem dX0_writeNumbers_1 : decode cX0_writeNumbers 1 = .ok (.istore_n 3, 1) := by decide +kernel
theorem dX0_writeNumbers_2 : decode cX0_writeNumbers 2 = .ok (.iload_n 3, 1) := by decide +kernel
theorem dX0_writeNumbers_3 : decode cX0_writeNumbers 3 = .ok (.iload_n 1, 1) := by decide +kernel
theorem dX0_writeNumbers_4 : decode cX0_writeNumbers 4 = .ok (.if_icmp .ge 24, 3) := by decide +kernel
theorem dX0_writeNumbers_7 : decode cX0_writeNumbers 7 = .ok (.aload_n 2, 1) := by decide +kernel
theorem dX0_writeNumbers_8 : decode cX0_writeNumbers 8 = .ok (.aload_n 0, 1) := by decide +kernel
theorem dX0_writeNumbers_9 : decode cX0_writeNumbers 9 = .ok (.getfield 40, 3) := by decide +kernel
theorem dX0_writeNumbers_12 : decode cX0_writeNumbers 12 = .ok (.aload_n 0, 1) := by decide +kernel
theorem dX0_writeNumbers_13 : decode cX0_writeNumbers 13 = .ok (.getfield 60, 3) := by decide +kernel
theorem dX0_writeNumbers_16 : decode cX0_writeNumbers 16 = .ok (.iload_n 3, 1) := by decide +kernel
theorem dX0_writeNumbers_17 : decode cX0_writeNumbers 17 = .ok (.iaload, 1) := by decide +kernel
theorem dX0_writeNumbers_18 : decode cX0_writeNumbers 18 = .ok (.i2l, 1) := by decide +kernel
theorem dX0_writeNumbers_19 : decode cX0_writeNumbers 19 = .ok (.invokevirtual 76, 3) := by decide +kernel
theorem dX0_writeNumbers_22 : decode cX0_writeNumbers 22 = .ok (.iinc 3 1, 3) := by decide +kernel
theorem dX0_writeNumbers_25 : decode cX0_writeNumbers 25 = .ok (.goto (-23), 3) := by decide +kernel
theorem dX0_writeNumbers_28 : decode cX0_writeNumbers 28 = .ok (.return_, 1) := by decide +kernel
theorem dX0_writeCoefficients_0 : decode cX0_writeCoefficients 0 = .ok (.aload_n 1, 1) := by decide +kernel
theorem dX0_writeCoefficients_1 : decode cX0_writeCoefficients 1 = .ok (.iconst 4, 1) := by decide +kernel
theorem dX0_writeCoefficients_2 : decode cX0_writeCoefficients 2 = .ok (.ldc2_w 97, 3) := by decide +kernel
theorem dX0_writeCoefficients_5 : decode cX0_writeCoefficients 5 = .ok (.invokevirtual 76, 3) := by decide +kernel
theorem dX0_writeCoefficients_8 : decode cX0_writeCoefficients 8 = .ok (.aload_n 1, 1) := by decide +kernel
theorem dX0_writeCoefficients_9 : decode cX0_writeCoefficients 9 = .ok (.iconst 5, 1) := by decide +kernel
theorem dX0_writeCoefficients_10 : decode cX0_writeCoefficients 10 = .ok (.aload_n 0, 1) := by decide +kernel
theorem dX0_writeCoefficients_11 : decode cX0_writeCoefficients 11 = .ok (.getfield 99, 3) := by decide +kernel
theorem dX0_writeCoefficients_14 : decode cX0_writeCoefficients 14 = .ok (.i2l, 1) := by decide +kernel
theorem dX0_writeCoefficients_15 : decode cX0_writeCoefficients 15 = .ok (.invokevirtual 76, 3) := by decide +kernel
theorem dX0_writeCoefficients_18 : decode cX0_writeCoefficients 18 = .ok (.iconst 0, 1) := by decide +kernel
theorem dX0_writeCoefficients_19 : decode cX0_writeCoefficients 19 = .ok (.istore_n 2, 1) := by decide +kernel
theorem dX0_writeCoefficients_20 : decode cX0_writeCoefficients 20 = .ok (.iload_n 2, 1) := by decide +kernel
theorem dX0_writeCoefficients_21 : decode cX0_writeCoefficients 21 = .ok (.aload_n 0, 1) := by decide +kernel
theorem dX0_writeCoefficients_22 : decode cX0_writeCoefficients 22 = .ok (.getfield 57, 3) := by decide +kernel
theorem dX0_writeCoefficients_25 : decode cX0_writeCoefficients 25 = .ok (.if_icmp .ge 22, 3) := by decide +kernel
theorem dX0_writeCoefficients_28 : decode cX0_writeCoefficients 28 = .ok (.aload_n 1, 1) := by decide +kernel
theorem dX0_writeCoefficients_29 : decode cX0_writeCoefficients 29 = .ok (.bipush 15, 2) := by decide +kernel
theorem dX0_writeCoefficients_31 : decode cX0_writeCoefficients 31 = .ok (.aload_n 0, 1) := by decide +kernel
theorem dX0_writeCoefficients_32 : decode cX0_writeCoefficients 32 = .ok (.getfield 102, 3) := by decide +kernel
theorem dX0_writeCoefficients_35 : decode cX0_writeCoefficients 35 = .ok (.iload_n 2, 1) := by decide +kernel
theorem dX0_writeCoefficients_36 : decode cX0_writeCoefficients 36 = .ok (.iaload, 1) := by decide +kernel
theorem dX0_writeCoefficients_37 : decode cX0_writeCoefficients 37 = .ok (.i2l, 1) := by decide +kernel
theorem dX0_writeCoefficients_38 : decode cX0_writeCoefficients 38 = .ok (.invokevirtual 76, 3) := by decide +kernel
theorem dX0_writeCoefficients_41 : decode cX0_writeCoefficients 41 = .ok (.iinc 2 1, 3) := by decide +kernel
theorem dX0_writeCoefficients_44 : decode cX0_writeCoefficients 44 = .ok (.goto (-24), 3) := by decide +kernel
theorem dX0_writeCoefficients_47 : decode cX0_writeCoefficients 47 = .ok (.return_, 1) := by decide +kernel
theorem dX0_writeResiduals_0 : decode cX0_writeResiduals 0 = .ok (.aload_n 0, 1) := by decide +kernel
theorem dX0_writeResiduals_1 : decode cX0_writeResiduals 1 = .ok (.getfield 23, 3) := by decide +kernel
theorem dX0_writeResiduals_4 : decode cX0_writeResiduals 4 = .ok (.aload_n 1, 1) := by decide +kernel
theorem dX0_writeResiduals_5 : decode cX0_writeResiduals 5 = .ok (.getfield 60, 3) := by decide +kernel
theorem dX0_writeResiduals_8 : decode cX0_writeResiduals 8 = .ok (.aload_n 1, 1) := by decide +kernel
theorem dX0_writeResiduals_9 : decode cX0_writeResiduals 9 = .ok (.getfield 47, 3) := by decide +kernel
theorem dX0_writeResiduals_12 : decode cX0_writeResiduals 12 = .ok (.aload_n 2, 1) := by decide +kernel
theorem dX0_writeResiduals_13 : decode cX0_writeResiduals 13 = .ok (.invokevirtual 64, 3) := by decide +kernel
theorem dX0_writeResiduals_16 : decode cX0_writeResiduals 16 = .ok (.ifCond .eq 18, 3) := by decide +kernel
theorem dX0_writeResiduals_19 : decode cX0_writeResiduals 19 = .ok (.aload_n 0, 1) := by decide +kernel
theorem dX0_writeResiduals_20 : decode cX0_writeResiduals 20 = .ok (.getfield 23, 3) := by decide +kernel
theorem dX0_writeResiduals_23 : decode cX0_writeResiduals 23 = .ok (.invokevirtual 68, 3) := by decide +kernel
theorem dX0_writeResiduals_26 : decode cX0_writeResiduals 26 = .ok (.aload_n 0, 1) := by decide +kernel
theorem dX0_writeResiduals_27 : decode cX0_writeResiduals 27 = .ok (.getfield 23, 3) := by decide +kernel
theorem dX0_writeResiduals_30 : decode cX0_writeResiduals 30 = .ok (.aload_n 3, 1) := by decide +kernel
theorem dX0_writeResiduals_31 : decode cX0_writeResiduals 31 = .ok (.invokevirtual 105, 3) := by decide +kernel
theorem dX0_writeResiduals_34 : decode cX0_writeResiduals 34 = .ok (.return_, 1) := by decide +kernel
theorem dX1_init_0 : decode cX1_init 0 = .ok (.aload_n 0, 1) := by decide +kernel
theorem dX1_init_1 : decode cX1_init 1 = .ok (.invokespecial 3, 3) := by decide +kernel
theorem dX1_init_4 : decode cX1_init 4 = .ok (.aload_n 0, 1) := by decide +kernel
theorem dX1_init_5 : decode cX1_init 5 = .ok (.new 9, 3) := by decide +kernel
theorem dX1_init_8 : decode cX1_init 8 = .ok (.dup, 1) := by decide +kernel
theorem dX1_init_9 : decode cX1_init 9 = .ok (.invokespecial 11, 3) := by decide +kernel
theorem dX1_init_12 : decode cX1_init 12 = .ok (.putfield 12, 3) := by decide +kernel
theorem dX1_init_15 : decode cX1_init 15 = .ok (.aload_n 0, 1) := by decide +kernel
theorem dX1_init_16 : decode cX1_init 16 = .ok (.iconst 0, 1) := by decide +kernel
theorem dX1_init_17 : decode cX1_init 17 = .ok (.putfield 18, 3) := by decide +kernel
theorem dX1_init_20 : decode cX1_init 20 = .ok (.aload_n 0, 1) := by decide +kernel
theorem dX1_init_21 : decode cX1_init 21 = .ok (.iconst 0, 1) := by decide +kernel
theorem dX1_init_22 : decode cX1_init 22 = .ok (.putfield 22, 3) := by decide +kernel
theorem dX1_init_25 : decode cX1_init 25 = .ok (.aload_n 0, 1) := by decide +kernel
theorem dX1_init_26 : decode cX1_init 26 = .ok (.sipush 256, 3) := by decide +kernel
theorem dX1_init_29 : decode cX1_init 29 = .ok (.newarray .int, 2) := by decide +kernel
theorem dX1_init_31 : decode cX1_init 31 = .ok (.putfield 25, 3) := by decide +kernel
theorem dX1_init_34 : decode cX1_init 34 = .ok (.aload_n 0, 1) := by decide +kernel
theorem dX1_init_35 : decode cX1_init 35 = .ok (.sipush 1056, 3) := by decide +kernel
theorem dX1_init_38 : decode cX1_init 38 = .ok (.newarray .int, 2) := by decide +kernel
theorem dX1_init_40 : decode cX1_init 40 = .ok (.putfield 29, 3) := by decide +kernel
theorem dX1_init_43 : decode cX1_init 43 = .ok (.aload_n 0, 1) := by decide +kernel
theorem dX1_init_44 : decode cX1_init 44 = .ok (.new 32, 3) := by decide +kernel
theorem dX1_init_47 : decode cX1_init 47 = .ok (.dup, 1) := by decide +kernel
theorem dX1_init_48 : decode cX1_init 48 = .ok (.invokespecial 34, 3) := by decide +kernel
theorem dX1_init_51 : decode cX1_init 51 = .ok (.putfield 35, 3) := by decide +kernel
theorem dX1_init_54 : decode cX1_init 54 = .ok (.aload_n 0, 1) := by decide +kernel
theorem dX1_init_55 : decode cX1_init 55 = .ok (.bipush 8, 2) := by decide +kernel
theorem dX1_init_57 : decode cX1_init 57 = .ok (.anewarray 39, 3) := by decide +kernel
theorem dX1_init_60 : decode cX1_init 60 = .ok (.putfield 41, 3) := by decide +kernel
theorem dX1_init_63 : decode cX1_init 63 = .ok (.iconst 0, 1) := by decide +kernel
theorem dX1_init_64 : decode cX1_init 64 = .ok (.istore_n 1, 1) := by decide +kernel
theorem dX1_init_65 : decode cX1_init 65 = .ok (.iload_n 1, 1) := by decide +kernel
theorem dX1_init_66 : decode cX1_init 66 = .ok (.bipush 8, 2) := by decide +kernel
theorem dX1_init_68 : decode cX1_init 68 = .ok (.if_icmp .ge 22, 3) := by decide +kernel
theorem dX1_init_71 : decode cX1_init 71 = .ok (.aload_n 0, 1) := by decide +kernel
theorem dX1_init_72 : decode cX1_init 72 = .ok (.getfield 41, 3) := by decide +kernel
theorem dX1_init_75 : decode cX1_init 75 = .ok (.iload_n 1, 1) := by decide +kernel
theorem dX1_init_76 : decode cX1_init 76 = .ok (.new 39, 3) := by decide +kernel
theorem dX1_init_79 : decode cX1_init 79 = .ok (.dup, 1) := by decide +kernel
theorem dX1_init_80 : decode cX1_init 80 = .ok (.invokespecial 45, 3) := by decide +kernel
theorem dX1_init_83 : decode cX1_init 83 = .ok (.aastore, 1) := by decide +kernel
theorem dX1_init_84 : decode cX1_init 84 = .ok (.iinc 1 1, 3) := by decide +kernel
theorem dX1_init_87 : decode cX1_init 87 = .ok (.goto (-22), 3) := by decide +kernel
theorem dX1_init_90 : decode cX1_init 90 = .ok (.return_, 1) := by decide +kernel
theorem dX1_told_0 : decode cX1_told 0 = .ok (.iload_n 3, 1) := by decide +kernel
theorem dX1_told_1 : decode cX1_told 1 = .ok (.iconst 4, 1) := by decide +kernel
theorem dX1_told_2 : decode cX1_told 2 = .ok (.if_icmp .ne 12, 3) := by decide +kernel
theorem dX1_told_5 : decode cX1_told 5 = .ok (.aload_n 0, 1) := by decide +kernel
theorem dX1_told_6 : decode cX1_told 6 = .ok (.getfield 25, 3) := by decide +kernel
theorem dX1_told_9 : decode cX1_told 9 = .ok (.iload_n 1, 1) := by decide +kernel
theorem dX1_told_10 : decode cX1_told 10 = .ok (.iaload, 1) := by decide +kernel
theorem dX1_told_11 : decode cX1_told 11 = .ok (.goto 20, 3) := by decide +kernel
theorem dX1_told_14 : decode cX1_told 14 = .ok (.aload_n 0, 1) := by decide +kernel
theorem dX1_told_15 : decode cX1_told 15 = .ok (.getfield 29, 3) := by decide +kernel
theorem dX1_told_18 : decode cX1_told 18 = .ok (.iload_n 1, 1) := by decide +kernel
theorem dX1_told_19 : decode cX1_told 19 = .ok (.aload_n 0, 1) := by decide +kernel
theorem dX1_told_20 : decode cX1_told 20 = .ok (.getfield 22, 3) := by decide +kernel
theorem dX1_told_23 : decode cX1_told 23 = .ok (.imul, 1) := by decide +kernel
theorem dX1_told_24 : decode cX1_told 24 = .ok (.iload_n 2, 1) := by decide +kernel
theorem dX1_told_25 : decode cX1_told 25 = .ok (.iadd, 1) := by decide +kernel
theorem dX1_told_26 : decode cX1_told 26 = .ok (.iconst 4, 1) := by decide +kernel
theorem dX1_told_27 : decode cX1_told 27 = .ok (.imul, 1) := by decide +kernel
theorem dX1_told_28 : decode cX1_told 28 = .ok (.iload_n 3, 1) := by decide +kernel
theorem dX1_told_29 : decode cX1_told 29 = .ok (.iadd, 1) := by decide +kernel
theorem dX1_told_30 : decode cX1_told 30 = .ok (.iaload, 1) := by decide +kernel
theorem dX1_told_31 : decode cX1_told 31 = .ok (.ireturn, 1) := by decide +kernel
theorem dX1_begin_0 : decode cX1_begin 0 = .ok (.aload_n 0, 1) := by decide +kernel
theorem dX1_begin_1 : decode cX1_begin 1 = .ok (.iconst 0, 1) := by decide +kernel
theorem dX1_begin_2 : decode cX1_begin 2 = .ok (.putfield 18, 3) := by decide +kernel
theorem dX1_begin_5 : decode cX1_begin 5 = .ok (.aload_n 0, 1) := by decide +kernel
theorem dX1_begin_6 : decode cX1_begin 6 = .ok (.aload_n 1, 1) := by decide +kernel
theorem dX1_begin_7 : decode cX1_begin 7 = .ok (.getfield 46, 3) := by decide +kernel
theorem dX1_begin_10 : decode cX1_begin 10 = .ok (.putfield 22, 3) := by decide +kernel
theorem dX1_begin_13 : decode cX1_begin 13 = .ok (.aload_n 0, 1) := by decide +kernel
theorem dX1_begin_14 : decode cX1_begin 14 = .ok (.getfield 12, 3) := by decide +kernel
theorem dX1_begin_17 : decode cX1_begin 17 = .ok (.invokevirtual 49, 3) := by decide +kernel
theorem dX1_begin_20 : decode cX1_begin 20 = .ok (.aload_n 0, 1) := by decide +kernel
theorem dX1_begin_21 : decode cX1_begin 21 = .ok (.getfield 12, 3) := by decide +kernel
theorem dX1_begin_24 : decode cX1_begin 24 = .ok (.bipush 32, 2) := by decide +kernel
theorem dX1_begin_26 : decode cX1_begin 26 = .ok (.ldc2_w 52, 3) := by decide +kernel
theorem dX1_begin_29 : decode cX1_begin 29 = .ok (.invokevirtual 54, 3) := by decide +kernel
theorem dX1_begin_32 : decode cX1_begin 32 = .ok (.aload_n 0, 1) := by decide +kernel
theorem dX1_begin_33 : decode cX1_begin 33 = .ok (.getfield 12, 3) := by decide +kernel
theorem dX1_begin_36 : decode cX1_begin 36 = .ok (.iconst 1, 1) := by decide +kernel
theorem dX1_begin_37 : decode cX1_begin 37 = .ok (.lconst 1, 1) := by decide +kernel
theorem dX1_begin_38 : decode cX1_begin 38 = .ok (.invokevirtual 54, 3) := by decide +kernel
theorem dX1_begin_41 : decode cX1_begin 41 = .ok (.aload_n 0, 1) := by decide +kernel
theorem dX1_begin_42 : decode cX1_begin 42 = .ok (.getfield 12, 3) := by decide +kernel
theorem dX1_begin_45 : decode cX1_begin 45 = .ok (.bipush 7, 2) := by decide +kernel
theorem dX1_begin_47 : decode cX1_begin 47 = .ok (.lconst 0, 1) := by decide +kernel
theorem dX1_begin_48 : decode cX1_begin 48 = .ok (.invokevirtual 54, 3) := by decide +kernel
theorem dX1_begin_51 : decode cX1_begin 51 = .ok (.aload_n 0, 1) := by decide +kernel
theorem dX1_begin_52 : decode cX1_begin 52 = .ok (.getfield 12, 3) := by decide +kernel
theorem dX1_begin_55 : decode cX1_begin 55 = .ok (.bipush 24, 2) := by decide +kernel
theorem dX1_begin_57 : decode cX1_begin 57 = .ok (.ldc2_w 58, 3) := by decide +kernel
theorem dX1_begin_60 : decode cX1_begin 60 = .ok (.invokevirtual 54, 3) := by decide +kernel
theorem dX1_begin_63 : decode cX1_begin 63 = .ok (.aload_n 0, 1) := by decide +kernel
theorem dX1_begin_64 : decode cX1_begin 64 = .ok (.getfield 12, 3) := by decide +kernel
theorem dX1_begin_67 : decode cX1_begin 67 = .ok (.bipush 16, 2) := by decide +kernel
theorem dX1_begin_69 : decode cX1_begin 69 = .ok (.aload_n 1, 1) := by decide +kernel
theorem dX1_begin_70 : decode cX1_begin 70 = .ok (.getfield 60, 3) := by decide +kernel
theorem dX1_begin_73 : decode cX1_begin 73 = .ok (.i2l, 1) := by decide +kernel
theorem dX1_begin_74 : decode cX1_begin 74 = .ok (.invokevirtual 54, 3) := by decide +kernel
theorem dX1_begin_77 : decode cX1_begin 77 = .ok (.aload_n 0, 1) := by decide +kernel
theorem dX1_begin_78 : decode cX1_begin 78 = .ok (.getfield 12, 3) := by decide +kernel
theorem dX1_begin_81 : decode cX1_begin 81 = .ok (.bipush 16, 2) := by decide +kernel
theorem dX1_begin_83 : decode cX1_begin 83 = .ok (.aload_n 1, 1) := by decide +kernel
theorem dX1_begin_84 : decode cX1_begin 84 = .ok (.getfield 60, 3) := by decide +kernel
theorem dX1_begin_87 : decode cX1_begin 87 = .ok (.i2l, 1) := by decide +kernel
theorem dX1_begin_88 : decode cX1_begin 88 = .ok (.invokevirtual 54, 3) := by decide +kernel
theorem dX1_begin_91 : decode cX1_begin 91 = .ok (.aload_n 0, 1) := by decide +kernel
theorem dX1_begin_92 : decode cX1_begin 92 = .ok (.getfield 12, 3) := by decide +kernel
theorem dX1_begin_95 : decode cX1_begin 95 = .ok (.bipush 48, 2) := by decide +kernel
theorem dX1_begin_97 : decode cX1_begin 97 = .ok (.invokevirtual 63, 3) := by decide +kernel
theorem dX1_begin_100 : decode cX1_begin 100 = .ok (.aload_n 0, 1) := by decide +kernel
theorem dX1_begin_101 : decode cX1_begin 101 = .ok (.getfield 12, 3) := by decide +kernel
theorem dX1_begin_104 : decode cX1_begin 104 = .ok (.bipush 20, 2) := by decide +kernel
theorem dX1_begin_106 : decode cX1_begin 106 = .ok (.aload_n 1, 1) := by decide +kernel
theorem dX1_begin_107 : decode cX1_begin 107 = .ok (.getfield 67, 3) := by decide +kernel
theorem dX1_begin_110 : decode cX1_begin 110 = .ok (.i2l, 1) := by decide +kernel
theorem dX1_begin_111 : decode cX1_begin 111 = .ok (.invokevirtual 54, 3) := by decide +kernel
theorem dX1_begin_114 : decode cX1_begin 114 = .ok (.aload_n 0, 1) := by decide +kernel
theorem dX1_begin_115 : decode cX1_begin 115 = .ok (.getfield 12, 3) := by decide +kernel
theorem dX1_begin_118 : decode cX1_begin 118 = .ok (.iconst 3, 1) := by decide +kernel
theorem dX1_begin_119 : decode cX1_begin 119 = .ok (.aload_n 0, 1) := by decide +kernel
theorem dX1_begin_120 : decode cX1_begin 120 = .ok (.getfield 22, 3) := by decide +kernel
theorem dX1_begin_123 : decode cX1_begin 123 = .ok (.iconst 1, 1) := by decide +kernel
theorem dX1_begin_124 : decode cX1_begin 124 = .ok (.isub, 1) := by decide +kernel
theorem dX1_begin_125 : decode cX1_begin 125 = .ok (.i2l, 1) := by decide +kernel
theorem dX1_begin_126 : decode cX1_begin 126 = .ok (.invokevirtual 54, 3) := by decide +kernel
theorem dX1_begin_129 : decode cX1_begin 129 = .ok (.aload_n 0, 1) := by decide +kernel
theorem dX1_begin_130 : decode cX1_begin 130 = .ok (.getfield 12, 3) := by decide +kernel
theorem dX1_begin_133 : decode cX1_begin 133 = .ok (.iconst 5, 1) := by decide +kernel
theorem dX1_begin_134 : decode cX1_begin 134 = .ok (.aload_n 1, 1) := by decide +kernel
theorem dX1_begin_135 : decode cX1_begin 135 = .ok (.getfield 70, 3) := by decide +kernel
theorem dX1_begin_138 : decode cX1_begin 138 = .ok (.iconst 1, 1) := by decide +kernel
theorem dX1_begin_139 : decode cX1_begin 139 = .ok (.isub, 1) := by decide +kernel
theorem dX1_begin_140 : decode cX1_begin 140 = .ok (.i2l, 1) := by decide +kernel
theorem dX1_begin_141 : decode cX1_begin 141 = .ok (.invokevirtual 54, 3) := by decide +kernel
theorem dX1_begin_144 : decode cX1_begin 144 = .ok (.aload_n 0, 1) := by decide +kernel
theorem dX1_begin_145 : decode cX1_begin 145 = .ok (.getfield 12, 3) := by decide +kernel
theorem dX1_begin_148 : decode cX1_begin 148 = .ok (.bipush 36, 2) := by decide +kernel
theorem dX1_begin_150 : decode cX1_begin 150 = .ok (.iload_n 2, 1) := by decide +kernel
theorem dX1_begin_151 : decode cX1_begin 151 = .ok (.i2l, 1) := by decide +kernel
theorem dX1_begin_152 : decode cX1_begin 152 = .ok (.invokevirtual 54, 3) := by decide +kernel
theorem dX1_begin_155 : decode cX1_begin 155 = .ok (.aload_n 0, 1) := by decide +kernel
theorem dX1_begin_156 : decode cX1_begin 156 = .ok (.getfield 12, 3) := by decide +kernel
theorem dX1_begin_159 : decode cX1_begin 159 = .ok (.sipush 128, 3) := by decide +kernel
theorem dX1_begin_162 : decode cX1_begin 162 = .ok (.invokevirtual 63, 3) := by decide +kernel
theorem dX1_begin_165 : decode cX1_begin 165 = .ok (.return_, 1) := by decide +kernel
theorem dX1_addFrame_0 : decode cX1_addFrame 0 = .ok (.iconst 0, 1) := by decide +kernel
theorem dX1_addFrame_1 : decode cX1_addFrame 1 = .ok (.istore 6, 2) := by decide +kernel
theorem dX1_addFrame_3 : decode cX1_addFrame 3 = .ok (.iload 6, 2) := by decide +kernel
theorem dX1_addFrame_5 : decode cX1_addFrame 5 = .ok (.aload_n 0, 1) := by decide +kernel
theorem dX1_addFrame_6 : decode cX1_addFrame 6 = .ok (.getfield 22, 3) := by decide +kernel
theorem dX1_addFrame_9 : decode cX1_addFrame 9 = .ok (.if_icmp .ge 64, 3) := by decide +kernel
theorem dX1_addFrame_12 : decode cX1_addFrame 12 = .ok (.aload_n 0, 1) := by decide +kernel
theorem dX1_addFrame_13 : decode cX1_addFrame 13 = .ok (.getfield 41, 3) := by decide +kernel
theorem dX1_addFrame_16 : decode cX1_addFrame 16 = .ok (.iload 6, 2) := by decide +kernel
theorem dX1_addFrame_18 : decode cX1_addFrame 18 = .ok (.aaload, 1) := by decide +kernel
theorem dX1_addFrame_19 : decode cX1_addFrame 19 = .ok (.iload_n 3, 1) := by decide +kernel
theorem dX1_addFrame_20 : decode cX1_addFrame 20 = .ok (.iload 4, 2) := by decide +kernel
theorem dX1_addFrame_22 : decode cX1_addFrame 22 = .ok (.invokevirtual 73, 3) := by decide +kernel
theorem dX1_addFrame_25 : decode cX1_addFrame 25 = .ok (.iconst 0, 1) := by decide +kernel
theorem dX1_addFrame_26 : decode cX1_addFrame 26 = .ok (.istore 7, 2) := by decide +kernel
theorem dX1_addFrame_28 : decode cX1_addFrame 28 = .ok (.iload 7, 2) := by decide +kernel
theorem dX1_addFrame_30 : decode cX1_addFrame 30 = .ok (.iload_n 3, 1) := by decide +kernel
theorem dX1_addFrame_31 : decode cX1_addFrame 31 = .ok (.if_icmp .ge 36, 3) := by decide +kernel
theorem dX1_addFrame_34 : decode cX1_addFrame 34 = .ok (.aload_n 0, 1) := by decide +kernel
theorem dX1_addFrame_35 : decode cX1_addFrame 35 = .ok (.getfield 41, 3) := by decide +kernel
theorem dX1_addFrame_38 : decode cX1_addFrame 38 = .ok (.iload 6, 2) := by decide +kernel
theorem dX1_addFrame_40 : decode cX1_addFrame 40 = .ok (.aaload, 1) := by decide +kernel
theorem dX1_addFrame_41 : decode cX1_addFrame 41 = .ok (.getfield 77, 3) := by decide +kernel
theorem dX1_addFrame_44 : decode cX1_addFrame 44 = .ok (.iload 7, 2) := by decide +kernel
theorem dX1_addFrame_46 : decode cX1_addFrame 46 = .ok (.aload_n 1, 1) := by decide +kernel
theorem dX1_addFrame_47 : decode cX1_addFrame 47 = .ok (.iload_n 2, 1) := by decide +kernel
theorem dX1_addFrame_48 : decode cX1_addFrame 48 = .ok (.iload 7, 2) := by decide +kernel
theorem dX1_addFrame_50 : decode cX1_addFrame 50 = .ok (.iadd, 1) := by decide +kernel
theorem dX1_addFrame_51 : decode cX1_addFrame 51 = .ok (.aload_n 0, 1) := by decide +kernel
theorem dX1_addFrame_52 : decode cX1_addFrame 52 = .ok (.getfield 22, 3) := by decide +kernel
theorem dX1_addFrame_55 : decode cX1_addFrame 55 = .ok (.imul, 1) := by decide +kernel
theorem dX1_addFrame_56 : decode cX1_addFrame 56 = .ok (.iload 6, 2) := by decide +kernel
theorem dX1_addFrame_58 : decode cX1_addFrame 58 = .ok (.iadd, 1) := by decide +kernel
theorem dX1_addFrame_59 : decode cX1_addFrame 59 = .ok (.iaload, 1) := by decide +kernel
theorem dX1_addFrame_60 : decode cX1_addFrame 60 = .ok (.iastore, 1) := by decide +kernel
theorem dX1_addFrame_61 : decode cX1_addFrame 61 = .ok (.iinc 7 1, 3) := by decide +kernel
theorem dX1_addFrame_64 : decode cX1_addFrame 64 = .ok (.goto (-36), 3) := by decide +kernel
theorem dX1_addFrame_67 : decode cX1_addFrame 67 = .ok (.iinc 6 1, 3) := by decide +kernel
theorem dX1_addFrame_70 : decode cX1_addFrame 70 = .ok (.goto (-67), 3) := by decide +kernel
theorem dX1_addFrame_73 : decode cX1_addFrame 73 = .ok (.aload_n 0, 1) := by decide +kernel
theorem dX1_addFrame_74 : decode cX1_addFrame 74 = .ok (.getfield 22, 3) := by decide +kernel
theorem dX1_addFrame_77 : decode cX1_addFrame 77 = .ok (.iconst 2, 1) := by decide +kernel
theorem dX1_addFrame_78 : decode cX1_addFrame 78 = .ok (.if_icmp .ne 10, 3) := by decide +kernel
theorem dX1_addFrame_81 : decode cX1_addFrame 81 = .ok (.aload_n 0, 1) := by decide +kernel
theorem dX1_addFrame_82 : decode cX1_addFrame 82 = .ok (.iload_n 3, 1) := by decide +kernel
theorem dX1_addFrame_83 : decode cX1_addFrame 83 = .ok (.iload 4, 2) := by decide +kernel
theorem dX1_addFrame_85 : decode cX1_addFrame 85 = .ok (.invokevirtual 80, 3) := by decide +kernel
theorem dX1_addFrame_88 : decode cX1_addFrame 88 = .ok (.iconst 0, 1) := by decide +kernel
theorem dX1_addFrame_89 : decode cX1_addFrame 89 = .ok (.istore 6, 2) := by decide +kernel
theorem dX1_addFrame_91 : decode cX1_addFrame 91 = .ok (.iload 6, 2) := by decide +kernel
theorem dX1_addFrame_93 : decode cX1_addFrame 93 = .ok (.aload_n 0, 1) := by decide +kernel
theorem dX1_addFrame_94 : decode cX1_addFrame 94 = .ok (.getfield 22, 3) := by decide +kernel
theorem dX1_addFrame_97 : decode cX1_addFrame 97 = .ok (.iconst 2, 1) := by decide +kernel
theorem dX1_addFrame_98 : decode cX1_addFrame 98 = .ok (.if_icmp .ne 7, 3) := by decide +kernel
theorem dX1_addFrame_101 : decode cX1_addFrame 101 = .ok (.iconst 4, 1) := by decide +kernel
theorem dX1_addFrame_102 : decode cX1_addFrame 102 = .ok (.goto 7, 3) := by decide +kernel
theorem dX1_addFrame_105 : decode cX1_addFrame 105 = .ok (.aload_n 0, 1) := by decide +kernel
theorem dX1_addFrame_106 : decode cX1_addFrame 106 = .ok (.getfield 22, 3) := by decide +kernel
theorem dX1_addFrame_109 : decode cX1_addFrame 109 = .ok (.if_icmp .ge 25, 3) := by decide +kernel
theorem dX1_addFrame_112 : decode cX1_addFrame 112 = .ok (.aload_n 0, 1) := by decide +kernel
theorem dX1_addFrame_113 : decode cX1_addFrame 113 = .ok (.getfield 35, 3) := by decide +kernel
theorem dX1_addFrame_116 : decode cX1_addFrame 116 = .ok (.aload_n 0, 1) := by decide +kernel
theorem dX1_addFrame_117 : decode cX1_addFrame 117 = .ok (.getfield 41, 3) := by decide +kernel
theorem dX1_addFrame_120 : decode cX1_addFrame 120 = .ok (.iload 6, 2) := by decide +kernel
theorem dX1_addFrame_122 : decode cX1_addFrame 122 = .ok (.aaload, 1) := by decide +kernel
theorem dX1_addFrame_123 : decode cX1_addFrame 123 = .ok (.aload 5, 2) := by decide +kernel
theorem dX1_addFrame_125 : decode cX1_addFrame 125 = .ok (.invokevirtual 83, 3) := by decide +kernel
theorem dX1_addFrame_128 : decode cX1_addFrame 128 = .ok (.iinc 6 1, 3) := by decide +kernel
theorem dX1_addFrame_131 : decode cX1_addFrame 131 = .ok (.goto (-40), 3) := by decide +kernel
theorem dX1_addFrame_134 : decode cX1_addFrame 134 = .ok (.aload_n 0, 1) := by decide +kernel
theorem dX1_addFrame_135 : decode cX1_addFrame 135 = .ok (.getfield 22, 3) := by decide +kernel
theorem dX1_addFrame_138 : decode cX1_addFrame 138 = .ok (.iconst 2, 1) := by decide +kernel
theorem dX1_addFrame_139 : decode cX1_addFrame 139 = .ok (.if_icmp .ne 10, 3) := by decide +kernel
theorem dX1_addFrame_142 : decode cX1_addFrame 142 = .ok (.aload_n 0, 1) := by decide +kernel
theorem dX1_addFrame_143 : decode cX1_addFrame 143 = .ok (.invokevirtual 87, 3) := by decide +kernel
theorem dX1_addFrame_146 : decode cX1_addFrame 146 = .ok (.goto 9, 3) := by decide +kernel
theorem dX1_addFrame_149 : decode cX1_addFrame 149 = .ok (.aload_n 0, 1) := by decide +kernel
theorem dX1_addFrame_150 : decode cX1_addFrame 150 = .ok (.getfield 22, 3) := by decide +kernel
theorem dX1_addFrame_153 : decode cX1_addFrame 153 = .ok (.iconst 1, 1) := by decide +kernel
theorem dX1_addFrame_154 : decode cX1_addFrame 154 = .ok (.isub, 1) := by decide +kernel
theorem dX1_addFrame_155 : decode cX1_addFrame 155 = .ok (.istore 6, 2) := by decide +kernel
theorem dX1_addFrame_157 : decode cX1_addFrame 157 = .ok (.aload_n 0, 1) := by decide +kernel
theorem dX1_addFrame_158 : decode cX1_addFrame 158 = .ok (.getfield 12, 3) := by decide +kernel
theorem dX1_addFrame_161 : decode cX1_addFrame 161 = .ok (.invokevirtual 91, 3) := by decide +kernel
theorem dX1_addFrame_164 : decode cX1_addFrame 164 = .ok (.istore 7, 2) := by decide +kernel
theorem dX1_addFrame_166 : decode cX1_addFrame 166 = .ok (.aload_n 0, 1) := by decide +kernel
theorem dX1_addFrame_167 : decode cX1_addFrame 167 = .ok (.iload 6, 2) := by decide +kernel
theorem dX1_addFrame_169 : decode cX1_addFrame 169 = .ok (.iload_n 3, 1) := by decide +kernel
theorem dX1_addFrame_170 : decode cX1_addFrame 170 = .ok (.invokevirtual 94, 3) := by decide +kernel
theorem dX1_addFrame_173 : decode cX1_addFrame 173 = .ok (.aload_n 0, 1) := by decide +kernel
theorem dX1_addFrame_174 : decode cX1_addFrame 174 = .ok (.getfield 12, 3) := by decide +kernel
theorem dX1_addFrame_177 : decode cX1_addFrame 177 = .ok (.bipush 8, 2) := by decide +kernel
theorem dX1_addFrame_179 : decode cX1_addFrame 179 = .ok (.aload_n 0, 1) := by decide +kernel
theorem dX1_addFrame_180 : decode cX1_addFrame 180 = .ok (.getfield 12, 3) := by decide +kernel
theorem dX1_addFrame_183 : decode cX1_addFrame 183 = .ok (.getfield 97, 3) := by decide +kernel
theorem dX1_addFrame_186 : decode cX1_addFrame 186 = .ok (.iload 7, 2) := by decide +kernel
theorem dX1_addFrame_188 : decode cX1_addFrame 188 = .ok (.aload_n 0, 1) := by decide +kernel
theorem dX1_addFrame_189 : decode cX1_addFrame 189 = .ok (.getfield 12, 3) := by decide +kernel
theorem dX1_addFrame_192 : decode cX1_addFrame 192 = .ok (.invokevirtual 91, 3) := by decide +kernel
theorem dX1_addFrame_195 : decode cX1_addFrame 195 = .ok (.bipush 8, 2) := by decide +kernel
theorem dX1_addFrame_197 : decode cX1_addFrame 197 = .ok (.bipush 7, 2) := by decide +kernel
theorem dX1_addFrame_199 : decode cX1_addFrame 199 = .ok (.invokestatic 101, 3) := by decide +kernel
theorem dX1_addFrame_202 : decode cX1_addFrame 202 = .ok (.i2l, 1) := by decide +kernel
theorem dX1_addFrame_203 : decode cX1_addFrame 203 = .ok (.invokevirtual 54, 3) := by decide +kernel
theorem dX1_addFrame_206 : decode cX1_addFrame 206 = .ok (.iconst 0, 1) := by decide +kernel
theorem dX1_addFrame_207 : decode cX1_addFrame 207 = .ok (.istore 8, 2) := by decide +kernel
theorem dX1_addFrame_209 : decode cX1_addFrame 209 = .ok (.iload 8, 2) := by decide +kernel
theorem dX1_addFrame_211 : decode cX1_addFrame 211 = .ok (.aload_n 0, 1) := by decide +kernel
theorem dX1_addFrame_212 : decode cX1_addFrame 212 = .ok (.getfield 22, 3) := by decide +kernel
theorem dX1_addFrame_215 : decode cX1_addFrame 215 = .ok (.if_icmp .ge 46, 3) := by decide +kernel
theorem dX1_addFrame_218 : decode cX1_addFrame 218 = .ok (.aload_n 0, 1) := by decide +kernel
theorem dX1_addFrame_219 : decode cX1_addFrame 219 = .ok (.getfield 41, 3) := by decide +kernel
theorem dX1_addFrame_222 : decode cX1_addFrame 222 = .ok (.iload 6, 2) := by decide +kernel
theorem dX1_addFrame_224 : decode cX1_addFrame 224 = .ok (.iload 8, 2) := by decide +kernel
theorem dX1_addFrame_226 : decode cX1_addFrame 226 = .ok (.invokestatic 105, 3) := by decide +kernel
theorem dX1_addFrame_229 : decode cX1_addFrame 229 = .ok (.aaload, 1) := by decide +kernel
theorem dX1_addFrame_230 : decode cX1_addFrame 230 = .ok (.astore 9, 2) := by decide +kernel
theorem dX1_addFrame_232 : decode cX1_addFrame 232 = .ok (.aload_n 0, 1) := by decide +kernel
theorem dX1_addFrame_233 : decode cX1_addFrame 233 = .ok (.getfield 35, 3) := by decide +kernel
theorem dX1_addFrame_236 : decode cX1_addFrame 236 = .ok (.aload 9, 2) := by decide +kernel
theorem dX1_addFrame_238 : decode cX1_addFrame 238 = .ok (.aload 5, 2) := by decide +kernel
theorem dX1_addFrame_240 : decode cX1_addFrame 240 = .ok (.aload_n 0, 1) := by decide +kernel
theorem dX1_addFrame_241 : decode cX1_addFrame 241 = .ok (.getfield 12, 3) := by decide +kernel
theorem dX1_addFrame_244 : decode cX1_addFrame 244 = .ok (.invokevirtual 109, 3) := by decide +kernel
theorem dX1_addFrame_247 : decode cX1_addFrame 247 = .ok (.aload_n 0, 1) := by decide +kernel
theorem dX1_addFrame_248 : decode cX1_addFrame 248 = .ok (.aload 9, 2) := by decide +kernel
theorem dX1_addFrame_250 : decode cX1_addFrame 250 = .ok (.iload 8, 2) := by decide +kernel
theorem dX1_addFrame_252 : decode cX1_addFrame 252 = .ok (.invokevirtual 113, 3) := by decide +kernel
theorem dX1_addFrame_255 : decode cX1_addFrame 255 = .ok (.iinc 8 1, 3) := by decide +kernel
theorem dX1_addFrame_258 : decode cX1_addFrame 258 = .ok (.goto (-49), 3) := by decide +kernel
theorem dX1_addFrame_261 : decode cX1_addFrame 261 = .ok (.aload_n 0, 1) := by decide +kernel
theorem dX1_addFrame_262 : decode cX1_addFrame 262 = .ok (.getfield 12, 3) := by decide +kernel
theorem dX1_addFrame_265 : decode cX1_addFrame 265 = .ok (.invokevirtual 117, 3) := by decide +kernel
theorem dX1_addFrame_268 : decode cX1_addFrame 268 = .ok (.aload_n 0, 1) := by decide +kernel
theorem dX1_addFrame_269 : decode cX1_addFrame 269 = .ok (.getfield 12, 3) := by decide +kernel
theorem dX1_addFrame_272 : decode cX1_addFrame 272 = .ok (.bipush 16, 2) := by decide +kernel
theorem dX1_addFrame_274 : decode cX1_addFrame 274 = .ok (.aload_n 0, 1) := by decide +kernel
theorem dX1_addFrame_275 : decode cX1_addFrame 275 = .ok (.getfield 12, 3) := by decide +kernel
theorem dX1_addFrame_278 : decode cX1_addFrame 278 = .ok (.getfield 97, 3) := by decide +kernel
theorem dX1_addFrame_281 : decode cX1_addFrame 281 = .ok (.iload 7, 2) := by decide +kernel
theorem dX1_addFrame_283 : decode cX1_addFrame 283 = .ok (.aload_n 0, 1) := by decide +kernel
theorem dX1_addFrame_284 : decode cX1_addFrame 284 = .ok (.getfield 12, 3) := by decide +kernel
theorem dX1_addFrame_287 : decode cX1_addFrame 287 = .ok (.invokevirtual 91, 3) := by decide +kernel
theorem dX1_addFrame_290 : decode cX1_addFrame 290 = .ok (.bipush 16, 2) := by decide +kernel
theorem dX1_addFrame_292 : decode cX1_addFrame 292 = .ok (.ldc 120, 2) := by decide +kernel
theorem dX1_addFrame_294 : decode cX1_addFrame 294 = .ok (.invokestatic 101, 3) := by decide +kernel
theorem dX1_addFrame_297 : decode cX1_addFrame 297 = .ok (.i2l, 1) := by decide +kernel
theorem dX1_addFrame_298 : decode cX1_addFrame 298 = .ok (.invokevirtual 54, 3) := by decide +kernel
theorem dX1_addFrame_301 : decode cX1_addFrame 301 = .ok (.aload_n 0, 1) := by decide +kernel
theorem dX1_addFrame_302 : decode cX1_addFrame 302 = .ok (.getfield 25, 3) := by decide +kernel
theorem dX1_addFrame_305 : decode cX1_addFrame 305 = .ok (.aload_n 0, 1) := by decide +kernel
theorem dX1_addFrame_306 : decode cX1_addFrame 306 = .ok (.getfield 18, 3) := by decide +kernel
theorem dX1_addFrame_309 : decode cX1_addFrame 309 = .ok (.iload 6, 2) := by decide +kernel
theorem dX1_addFrame_311 : decode cX1_addFrame 311 = .ok (.iastore, 1) := by decide +kernel
theorem dX1_addFrame_312 : decode cX1_addFrame 312 = .ok (.aload_n 0, 1) := by decide +kernel
theorem dX1_addFrame_313 : decode cX1_addFrame 313 = .ok (.dup, 1) := by decide +kernel
theorem dX1_addFrame_314 : decode cX1_addFrame 314 = .ok (.getfield 18, 3) := by decide +kernel
theorem dX1_addFrame_317 : decode cX1_addFrame 317 = .ok (.iconst 1, 1) := by decide +kernel
theorem dX1_addFrame_318 : decode cX1_addFrame 318 = .ok (.iadd, 1) := by decide +kernel
theorem dX1_addFrame_319 : decode cX1_addFrame 319 = .ok (.putfield 18, 3) := by decide +kernel
theorem dX1_addFrame_322 : decode cX1_addFrame 322 = .ok (.return_, 1) := by decide +kernel
theorem dX1_fillSideAndMiddle_0 : decode cX1_fillSideAndMiddle 0 = .ok (.aload_n 0, 1) := by decide +kernel
theorem dX1_fillSideAndMiddle_1 : decode cX1_fillSideAndMiddle 1 = .ok (.getfield 41, 3) := by decide +kernel
theorem dX1_fillSideAndMiddle_4 : decode cX1_fillSideAndMiddle 4 = .ok (.iconst 2, 1) := by decide +kernel
theorem dX1_fillSideAndMiddle_5 : decode cX1_fillSideAndMiddle 5 = .ok (.aaload, 1) := by decide +kernel
theorem dX1_fillSideAndMiddle_6 : decode cX1_fillSideAndMiddle 6 = .ok (.iload_n 1, 1) := by decide +kernel
theorem dX1_fillSideAndMiddle_7 : decode cX1_fillSideAndMiddle 7 = .ok (.iload_n 2, 1) := by decide +kernel
theorem dX1_fillSideAndMiddle_8 : decode cX1_fillSideAndMiddle 8 = .ok (.iconst 1, 1) := by decide +kernel
theorem dX1_fillSideAndMiddle_9 : decode cX1_fillSideAndMiddle 9 = .ok (.iadd, 1) := by decide +kernel
theorem dX1_fillSideAndMiddle_10 : decode cX1_fillSideAndMiddle 10 = .ok (.invokevirtual 73, 3) := by decide +kernel
theorem dX1_fillSideAndMiddle_13 : decode cX1_fillSideAndMiddle 13 = .ok (.aload_n 0, 1) := by decide +kernel
theorem dX1_fillSideAndMiddle_14 : decode cX1_fillSideAndMiddle 14 = .ok (.getfield 41, 3) := by decide +kernel
theorem dX1_fillSideAndMiddle_17 : decode cX1_fillSideAndMiddle 17 = .ok (.iconst 3, 1) := by decide +kernel
theorem dX1_fillSideAndMiddle_18 : decode cX1_fillSideAndMiddle 18 = .ok (.aaload, 1) := by decide +kernel
theorem dX1_fillSideAndMiddle_19 : decode cX1_fillSideAndMiddle 19 = .ok (.iload_n 1, 1) := by decide +kernel
theorem dX1_fillSideAndMiddle_20 : decode cX1_fillSideAndMiddle 20 = .ok (.iload_n 2, 1) := by decide +kernel
theorem dX1_fillSideAndMiddle_21 : decode cX1_fillSideAndMiddle 21 = .ok (.invokevirtual 73, 3) := by decide +kernel
theorem dX1_fillSideAndMiddle_24 : decode cX1_fillSideAndMiddle 24 = .ok (.iconst 0, 1) := by decide +kernel
theorem dX1_fillSideAndMiddle_25 : decode cX1_fillSideAndMiddle 25 = .ok (.istore_n 3, 1) := by decide +kernel
theorem dX1_fillSideAndMiddle_26 : decode cX1_fillSideAndMiddle 26 = .ok (.iload_n 3, 1) := by decide +kernel
theorem dX1_fillSideAndMiddle_27 : decode cX1_fillSideAndMiddle 27 = .ok (.iload_n 1, 1) := by decide +kernel
theorem dX1_fillSideAndMiddle_28 : decode cX1_fillSideAndMiddle 28 = .ok (.if_icmp .ge 69, 3) := by decide +kernel
theorem dX1_fillSideAndMiddle_31 : decode cX1_fillSideAndMiddle 31 = .ok (.aload_n 0, 1) := by decide +kernel
theorem dX1_fillSideAndMiddle_32 : decode cX1_fillSideAndMiddle 32 = .ok (.getfield 41, 3) := by decide +kernel
theorem dX1_fillSideAndMiddle_35 : decode cX1_fillSideAndMiddle 35 = .ok (.iconst 0, 1) := by decide +kernel
theorem dX1_fillSideAndMiddle_36 : decode cX1_fillSideAndMiddle 36 = .ok (.aaload, 1) := by decide +kernel
theorem dX1_fillSideAndMiddle_37 : decode cX1_fillSideAndMiddle 37 = .ok (.getfield 77, 3) := by decide +kernel
theorem dX1_fillSideAndMiddle_40 : decode cX1_fillSideAndMiddle 40 = .ok (.iload_n 3, 1) := by decide +kernel
theorem dX1_fillSideAndMiddle_41 : decode cX1_fillSideAndMiddle 41 = .ok (.iaload, 1) := by decide +kernel
theorem dX1_fillSideAndMiddle_42 : decode cX1_fillSideAndMiddle 42 = .ok (.istore 4, 2) := by decide +kernel
theorem dX1_fillSideAndMiddle_44 : decode cX1_fillSideAndMiddle 44 = .ok (.aload_n 0, 1) := by decide +kernel
theorem dX1_fillSideAndMiddle_45 : decode cX1_fillSideAndMiddle 45 = .ok (.getfield 41, 3) := by decide +kernel
theorem dX1_fillSideAndMiddle_48 : decode cX1_fillSideAndMiddle 48 = .ok (.iconst 1, 1) := by decide +kernel
theorem dX1_fillSideAndMiddle_49 : decode cX1_fillSideAndMiddle 49 = .ok (.aaload, 1) := by decide +kernel
theorem dX1_fillSideAndMiddle_50 : decode cX1_fillSideAndMiddle 50 = .ok (.getfield 77, 3) := by decide +kernel
theorem dX1_fillSideAndMiddle_53 : decode cX1_fillSideAndMiddle 53 = .ok (.iload_n 3, 1) := by decide +kernel
theorem dX1_fillSideAndMiddle_54 : decode cX1_fillSideAndMiddle 54 = .ok (.iaload, 1) := by decide +kernel
theorem dX1_fillSideAndMiddle_55 : decode cX1_fillSideAndMiddle 55 = .ok (.istore 5, 2) := by decide +kernel
theorem dX1_fillSideAndMiddle_57 : decode cX1_fillSideAndMiddle 57 = .ok (.aload_n 0, 1) := by decide +kernel
theorem dX1_fillSideAndMiddle_58 : decode cX1_fillSideAndMiddle 58 = .ok (.getfield 41, 3) := by decide +kernel
theorem dX1_fillSideAndMiddle_61 : decode cX1_fillSideAndMiddle 61 = .ok (.iconst 2, 1) := by decide +kernel
theorem dX1_fillSideAndMiddle_62 : decode cX1_fillSideAndMiddle 62 = .ok (.aaload, 1) := by decide +kernel
theorem dX1_fillSideAndMiddle_63 : decode cX1_fillSideAndMiddle 63 = .ok (.getfield 77, 3) := by decide +kernel
theorem dX1_fillSideAndMiddle_66 : decode cX1_fillSideAndMiddle 66 = .ok (.iload_n 3, 1) := by decide +kernel
theorem dX1_fillSideAndMiddle_67 : decode cX1_fillSideAndMiddle 67 = .ok (.iload 4, 2) := by decide +kernel
theorem dX1_fillSideAndMiddle_69 : decode cX1_fillSideAndMiddle 69 = .ok (.iload 5, 2) := by decide +kernel
theorem dX1_fillSideAndMiddle_71 : decode cX1_fillSideAndMiddle 71 = .ok (.isub, 1) := by decide +kernel
theorem dX1_fillSideAndMiddle_72 : decode cX1_fillSideAndMiddle 72 = .ok (.iastore, 1) := by decide +kernel
theorem dX1_fillSideAndMiddle_73 : decode cX1_fillSideAndMiddle 73 = .ok (.aload_n 0, 1) := by decide +kernel
theorem dX1_fillSideAndMiddle_74 : decode cX1_fillSideAndMiddle 74 = .ok (.getfield 41, 3) := by decide +kernel
theorem dX1_fillSideAndMiddle_77 : decode cX1_fillSideAndMiddle 77 = .ok (.iconst 3, 1) := by decide +kernel
theorem dX1_fillSideAndMiddle_78 : decode cX1_fillSideAndMiddle 78 = .ok (.aaload, 1) := by decide +kernel
theorem dX1_fillSideAndMiddle_79 : decode cX1_fillSideAndMiddle 79 = .ok (.getfield 77, 3) := by decide +kernel
theorem dX1_fillSideAndMiddle_82 : decode cX1_fillSideAndMiddle 82 = .ok (.iload_n 3, 1) := by decide +kernel
theorem dX1_fillSideAndMiddle_83 : decode cX1_fillSideAndMiddle 83 = .ok (.iload 4, 2) := by decide +kernel
theorem dX1_fillSideAndMiddle_85 : decode cX1_fillSideAndMiddle 85 = .ok (.iload 5, 2) := by decide +kernel
theorem dX1_fillSideAndMiddle_87 : decode cX1_fillSideAndMiddle 87 = .ok (.iadd, 1) := by decide +kernel
theorem dX1_fillSideAndMiddle_88 : decode cX1_fillSideAndMiddle 88 = .ok (.iconst 1, 1) := by decide +kernel
theorem dX1_fillSideAndMiddle_89 : decode cX1_fillSideAndMiddle 89 = .ok (.ishr, 1) := by decide +kernel
theorem dX1_fillSideAndMiddle_90 : decode cX1_fillSideAndMiddle 90 = .ok (.iastore, 1) := by decide +kernel
theorem dX1_fillSideAndMiddle_91 : decode cX1_fillSideAndMiddle 91 = .ok (.iinc 3 1, 3) := by decide +kernel
theorem dX1_fillSideAndMiddle_94 : decode cX1_fillSideAndMiddle 94 = .ok (.goto (-68), 3) := by decide +kernel
theorem dX1_fillSideAndMiddle_97 : decode cX1_fillSideAndMiddle 97 = .ok (.return_, 1) := by decide +kernel
theorem dX1_shortestAssignment_0 : decode cX1_shortestAssignment 0 = .ok (.iconst 1, 1) := by decide +kernel
theorem dX1_shortestAssignment_1 : decode cX1_shortestAssignment 1 = .ok (.istore_n 1, 1) := by decide +kernel
theorem dX1_shortestAssignment_2 : decode cX1_shortestAssignment 2 = .ok (.bipush 8, 2) := by decide +kernel
theorem dX1_shortestAssignment_4 : decode cX1_shortestAssignment 4 = .ok (.istore_n 2, 1) := by decide +kernel
theorem dX1_shortestAssignment_5 : decode cX1_shortestAssignment 5 = .ok (.iload_n 2, 1) := by decide +kernel
theorem dX1_shortestAssignment_6 : decode cX1_shortestAssignment 6 = .ok (.bipush 10, 2) := by decide +kernel
theorem dX1_shortestAssignment_8 : decode cX1_shortestAssignment 8 = .ok (.if_icmp .gt 25, 3) := by decide +kernel
theorem dX1_shortestAssignment_11 : decode cX1_shortestAssignment 11 = .ok (.aload_n 0, 1) := by decide +kernel
theorem dX1_shortestAssignment_12 : decode cX1_shortestAssignment 12 = .ok (.iload_n 2, 1) := by decide +kernel
theorem dX1_shortestAssignment_13 : decode cX1_shortestAssignment 13 = .ok (.invokevirtual 121, 3) := by decide +kernel
theorem dX1_shortestAssignment_16 : decode cX1_shortestAssignment 16 = .ok (.aload_n 0, 1) := by decide +kernel
theorem dX1_shortestAssignment_17 : decode cX1_shortestAssignment 17 = .ok (.iload_n 1, 1) := by decide +kernel
theorem dX1_shortestAssignment_18 : decode cX1_shortestAssignment 18 = .ok (.invokevirtual 121, 3) := by decide +kernel
theorem dX1_shortestAssignment_21 : decode cX1_shortestAssignment 21 = .ok (.lcmp, 1) := by decide +kernel
theorem dX1_shortestAssignment_22 : decode cX1_shortestAssignment 22 = .ok (.ifCond .ge 5, 3) := by decide +kernel
theorem dX1_shortestAssignment_25 : decode cX1_shortestAssignment 25 = .ok (.iload_n 2, 1) := by decide +kernel
theorem dX1_shortestAssignment_26 : decode cX1_shortestAssignment 26 = .ok (.istore_n 1, 1) := by decide +kernel
theorem dX1_shortestAssignment_27 : decode cX1_shortestAssignment 27 = .ok (.iinc 2 1, 3) := by decide +kernel
theorem dX1_shortestAssignment_30 : decode cX1_shortestAssignment 30 = .ok (.goto (-25), 3) := by decide +kernel
theorem dX1_shortestAssignment_33 : decode cX1_shortestAssignment 33 = .ok (.iload_n 1, 1) := by decide +kernel
theorem dX1_shortestAssignment_34 : decode cX1_shortestAssignment 34 = .ok (.ireturn, 1) := by decide +kernel
theorem dX1_sizeOf_0 : decode cX1_sizeOf 0 = .ok (.aload_n 0, 1) := by decide +kernel
theorem dX1_sizeOf_1 : decode cX1_sizeOf 1 = .ok (.getfield 41, 3) := by decide +kernel
theorem dX1_sizeOf_4 : decode cX1_sizeOf 4 = .ok (.iload_n 1, 1) := by decide +kernel
theorem dX1_sizeOf_5 : decode cX1_sizeOf 5 = .ok (.iconst 0, 1) := by decide +kernel
theorem dX1_sizeOf_6 : decode cX1_sizeOf 6 = .ok (.invokestatic 105, 3) := by decide +kernel
theorem dX1_sizeOf_9 : decode cX1_sizeOf 9 = .ok (.aaload, 1) := by decide +kernel
theorem dX1_sizeOf_10 : decode cX1_sizeOf 10 = .ok (.getfield 125, 3) := by decide +kernel
theorem dX1_sizeOf_13 : decode cX1_sizeOf 13 = .ok (.aload_n 0, 1) := by decide +kernel
theorem dX1_sizeOf_14 : decode cX1_sizeOf 14 = .ok (.getfield 41, 3) := by decide +kernel
theorem dX1_sizeOf_17 : decode cX1_sizeOf 17 = .ok (.iload_n 1, 1) := by decide +kernel
theorem dX1_sizeOf_18 : decode cX1_sizeOf 18 = .ok (.iconst 1, 1) := by decide +kernel
theorem dX1_sizeOf_19 : decode cX1_sizeOf 19 = .ok (.invokestatic 105, 3) := by decide +kernel
theorem dX1_sizeOf_22 : decode cX1_sizeOf 22 = .ok (.aaload, 1) := by decide +kernel
theorem dX1_sizeOf_23 : decode cX1_sizeOf 23 = .ok (.getfield 125, 3) := by decide +kernel
theorem dX1_sizeOf_26 : decode cX1_sizeOf 26 = .ok (.ladd, 1) := by decide +kernel
theorem dX1_sizeOf_27 : decode cX1_sizeOf 27 = .ok (.lreturn, 1) := by decide +kernel
theorem dX1_subframeOf_0 : decode cX1_subframeOf 0 = .ok (.iload_n 0, 1) := by decide +kernel
theorem dX1_subframeOf_1 : decode cX1_subframeOf 1 = .ok (.iload_n 1, 1) := by decide +kernel
theorem dX1_subframeOf_2 : decode cX1_subframeOf 2 = .ok (.invokestatic 128, 3) := by decide +kernel
theorem dX1_subframeOf_5 : decode cX1_subframeOf 5 = .ok (.ifCond .eq 5, 3) := by decide +kernel
theorem dX1_subframeOf_8 : decode cX1_subframeOf 8 = .ok (.iconst 2, 1) := by decide +kernel
theorem dX1_subframeOf_9 : decode cX1_subframeOf 9 = .ok (.ireturn, 1) := by decide +kernel
theorem dX1_subframeOf_10 : decode cX1_subframeOf 10 = .ok (.iload_n 0, 1) := by decide +kernel
theorem dX1_subframeOf_11 : decode cX1_subframeOf 11 = .ok (.bipush 10, 2) := by decide +kernel
theorem dX1_subframeOf_13 : decode cX1_subframeOf 13 = .ok (.if_icmp .ne 7, 3) := by decide +kernel
theorem dX1_subframeOf_16 : decode cX1_subframeOf 16 = .ok (.iconst 3, 1) := by decide +kernel
theorem dX1_subframeOf_17 : decode cX1_subframeOf 17 = .ok (.goto 4, 3) := by decide +kernel
theorem dX1_subframeOf_20 : decode cX1_subframeOf 20 = .ok (.iload_n 1, 1) := by decide +kernel
theorem dX1_subframeOf_21 : decode cX1_subframeOf 21 = .ok (.ireturn, 1) := by decide +kernel
theorem dX1_writeHeader_0 : decode cX1_writeHeader 0 = .ok (.aload_n 0, 1) := by decide +kernel
theorem dX1_writeHeader_1 : decode cX1_writeHeader 1 = .ok (.getfield 12, 3) := by decide +kernel
theorem dX1_writeHeader_4 : decode cX1_writeHeader 4 = .ok (.bipush 14, 2) := by decide +kernel
theorem dX1_writeHeader_6 : decode cX1_writeHeader 6 = .ok (.ldc2_w 132, 3) := by decide +kernel
theorem dX1_writeHeader_9 : decode cX1_writeHeader 9 = .ok (.invokevirtual 54, 3) := by decide +kernel
theorem dX1_writeHeader_12 : decode cX1_writeHeader 12 = .ok (.aload_n 0, 1) := by decide +kernel
theorem dX1_writeHeader_13 : decode cX1_writeHeader 13 = .ok (.getfield 12, 3) := by decide +kernel
theorem dX1_writeHeader_16 : decode cX1_writeHeader 16 = .ok (.iconst 2, 1) := by decide +kernel
theorem dX1_writeHeader_17 : decode cX1_writeHeader 17 = .ok (.lconst 0, 1) := by decide +kernel
theorem dX1_writeHeader_18 : decode cX1_writeHeader 18 = .ok (.invokevirtual 54, 3) := by decide +kernel
theorem dX1_writeHeader_21 : decode cX1_writeHeader 21 = .ok (.aload_n 0, 1) := by decide +kernel
theorem dX1_writeHeader_22 : decode cX1_writeHeader 22 = .ok (.getfield 12, 3) := by decide +kernel
theorem dX1_writeHeader_25 : decode cX1_writeHeader 25 = .ok (.iconst 4, 1) := by decide +kernel
theorem dX1_writeHeader_26 : decode cX1_writeHeader 26 = .ok (.ldc2_w 134, 3) := by decide +kernel
theorem dX1_writeHeader_29 : decode cX1_writeHeader 29 = .ok (.invokevirtual 54, 3) := by decide +kernel
theorem dX1_writeHeader_32 : decode cX1_writeHeader 32 = .ok (.aload_n 0, 1) := by decide +kernel
theorem dX1_writeHeader_33 : decode cX1_writeHeader 33 = .ok (.getfield 12, 3) := by decide +kernel
theorem dX1_writeHeader_36 : decode cX1_writeHeader 36 = .ok (.iconst 4, 1) := by decide +kernel
theorem dX1_writeHeader_37 : decode cX1_writeHeader 37 = .ok (.lconst 0, 1) := by decide +kernel
theorem dX1_writeHeader_38 : decode cX1_writeHeader 38 = .ok (.invokevirtual 54, 3) := by decide +kernel
theorem dX1_writeHeader_41 : decode cX1_writeHeader 41 = .ok (.aload_n 0, 1) := by decide +kernel
theorem dX1_writeHeader_42 : decode cX1_writeHeader 42 = .ok (.getfield 12, 3) := by decide +kernel
theorem dX1_writeHeader_45 : decode cX1_writeHeader 45 = .ok (.iconst 4, 1) := by decide +kernel
theorem dX1_writeHeader_46 : decode cX1_writeHeader 46 = .ok (.iload_n 1, 1) := by decide +kernel
theorem dX1_writeHeader_47 : decode cX1_writeHeader 47 = .ok (.i2l, 1) := by decide +kernel
theorem dX1_writeHeader_48 : decode cX1_writeHeader 48 = .ok (.invokevirtual 54, 3) := by decide +kernel
theorem dX1_writeHeader_51 : decode cX1_writeHeader 51 = .ok (.aload_n 0, 1) := by decide +kernel
theorem dX1_writeHeader_52 : decode cX1_writeHeader 52 = .ok (.getfield 12, 3) := by decide +kernel
theorem dX1_writeHeader_55 : decode cX1_writeHeader 55 = .ok (.iconst 4, 1) := by decide +kernel
theorem dX1_writeHeader_56 : decode cX1_writeHeader 56 = .ok (.lconst 0, 1) := by decide +kernel
theorem dX1_writeHeader_57 : decode cX1_writeHeader 57 = .ok (.invokevirtual 54, 3) := by decide +kernel
theorem dX1_writeHeader_60 : decode cX1_writeHeader 60 = .ok (.aload_n 0, 1) := by decide +kernel
theorem dX1_writeHeader_61 : decode cX1_writeHeader 61 = .ok (.getfield 18, 3) := by decide +kernel
theorem dX1_writeHeader_64 : decode cX1_writeHeader 64 = .ok (.sipush 128, 3) := by decide +kernel
theorem dX1_writeHeader_67 : decode cX1_writeHeader 67 = .ok (.if_icmp .ge 20, 3) := by decide +kernel
theorem dX1_writeHeader_70 : decode cX1_writeHeader 70 = .ok (.aload_n 0, 1) := by decide +kernel
theorem dX1_writeHeader_71 : decode cX1_writeHeader 71 = .ok (.getfield 12, 3) := by decide +kernel
theorem dX1_writeHeader_74 : decode cX1_writeHeader 74 = .ok (.bipush 8, 2) := by decide +kernel
theorem dX1_writeHeader_76 : decode cX1_writeHeader 76 = .ok (.aload_n 0, 1) := by decide +kernel
theorem dX1_writeHeader_77 : decode cX1_writeHeader 77 = .ok (.getfield 18, 3) := by decide +kernel
theorem dX1_writeHeader_80 : decode cX1_writeHeader 80 = .ok (.i2l, 1) := by decide +kernel
theorem dX1_writeHeader_81 : decode cX1_writeHeader 81 = .ok (.invokevirtual 54, 3) := by decide +kernel
theorem dX1_writeHeader_84 : decode cX1_writeHeader 84 = .ok (.goto 45, 3) := by decide +kernel
theorem dX1_writeHeader_87 : decode cX1_writeHeader 87 = .ok (.aload_n 0, 1) := by decide +kernel
theorem dX1_writeHeader_88 : decode cX1_writeHeader 88 = .ok (.getfield 12, 3) := by decide +kernel
theorem dX1_writeHeader_91 : decode cX1_writeHeader 91 = .ok (.bipush 8, 2) := by decide +kernel
theorem dX1_writeHeader_93 : decode cX1_writeHeader 93 = .ok (.sipush 192, 3) := by decide +kernel
theorem dX1_writeHeader_96 : decode cX1_writeHeader 96 = .ok (.aload_n 0, 1) := by decide +kernel
theorem dX1_writeHeader_97 : decode cX1_writeHeader 97 = .ok (.getfield 18, 3) := by decide +kernel
theorem dX1_writeHeader_100 : decode cX1_writeHeader 100 = .ok (.bipush 6, 2) := by decide +kernel
theorem dX1_writeHeader_102 : decode cX1_writeHeader 102 = .ok (.ishr, 1) := by decide +kernel
theorem dX1_writeHeader_103 : decode cX1_writeHeader 103 = .ok (.iadd, 1) := by decide +kernel
theorem dX1_writeHeader_104 : decode cX1_writeHeader 104 = .ok (.i2l, 1) := by decide +kernel
theorem dX1_writeHeader_105 : decode cX1_writeHeader 105 = .ok (.invokevirtual 54, 3) := by decide +kernel
theorem dX1_writeHeader_108 : decode cX1_writeHeader 108 = .ok (.aload_n 0, 1) := by decide +kernel
theorem dX1_writeHeader_109 : decode cX1_writeHeader 109 = .ok (.getfield 12, 3) := by decide +kernel
theorem dX1_writeHeader_112 : decode cX1_writeHeader 112 = .ok (.bipush 8, 2) := by decide +kernel
theorem dX1_writeHeader_114 : decode cX1_writeHeader 114 = .ok (.sipush 128, 3) := by decide +kernel
theorem dX1_writeHeader_117 : decode cX1_writeHeader 117 = .ok (.aload_n 0, 1) := by decide +kernel
theorem dX1_writeHeader_118 : decode cX1_writeHeader 118 = .ok (.getfield 18, 3) := by decide +kernel
theorem dX1_writeHeader_121 : decode cX1_writeHeader 121 = .ok (.bipush 63, 2) := by decide +kernel
theorem dX1_writeHeader_123 : decode cX1_writeHeader 123 = .ok (.iand, 1) := by decide +kernel
theorem dX1_writeHeader_124 : decode cX1_writeHeader 124 = .ok (.iadd, 1) := by decide +kernel
theorem dX1_writeHeader_125 : decode cX1_writeHeader 125 = .ok (.i2l, 1) := by decide +kernel
theorem dX1_writeHeader_126 : decode cX1_writeHeader 126 = .ok (.invokevirtual 54, 3) := by decide +kernel
theorem dX1_writeHeader_129 : decode cX1_writeHeader 129 = .ok (.aload_n 0, 1) := by decide +kernel
theorem dX1_writeHeader_130 : decode cX1_writeHeader 130 = .ok (.getfield 12, 3) := by decide +kernel
theorem dX1_writeHeader_133 : decode cX1_writeHeader 133 = .ok (.bipush 8, 2) := by decide +kernel
theorem dX1_writeHeader_135 : decode cX1_writeHeader 135 = .ok (.iload_n 2, 1) := by decide +kernel
theorem dX1_writeHeader_136 : decode cX1_writeHeader 136 = .ok (.iconst 1, 1) := by decide +kernel
theorem dX1_writeHeader_137 : decode cX1_writeHeader 137 = .ok (.isub, 1) := by decide +kernel
theorem dX1_writeHeader_138 : decode cX1_writeHeader 138 = .ok (.i2l, 1) := by decide +kernel
theorem dX1_writeHeader_139 : decode cX1_writeHeader 139 = .ok (.invokevirtual 54, 3) := by decide +kernel
theorem dX1_writeHeader_142 : decode cX1_writeHeader 142 = .ok (.return_, 1) := by decide +kernel
theorem dX1_keepWay_0 : decode cX1_keepWay 0 = .ok (.aload_n 0, 1) := by decide +kernel
theorem dX1_keepWay_1 : decode cX1_keepWay 1 = .ok (.getfield 18, 3) := by decide +kernel
theorem dX1_keepWay_4 : decode cX1_keepWay 4 = .ok (.aload_n 0, 1) := by decide +kernel
theorem dX1_keepWay_5 : decode cX1_keepWay 5 = .ok (.getfield 22, 3) := by decide +kernel
theorem dX1_keepWay_8 : decode cX1_keepWay 8 = .ok (.imul, 1) := by decide +kernel
theorem dX1_keepWay_9 : decode cX1_keepWay 9 = .ok (.iload_n 2, 1) := by decide +kernel
theorem dX1_keepWay_10 : decode cX1_keepWay 10 = .ok (.iadd, 1) := by decide +kernel
theorem dX1_keepWay_11 : decode cX1_keepWay 11 = .ok (.iconst 4, 1) := by decide +kernel
theorem dX1_keepWay_12 : decode cX1_keepWay 12 = .ok (.imul, 1) := by decide +kernel
theorem dX1_keepWay_13 : decode cX1_keepWay 13 = .ok (.istore_n 3, 1) := by decide +kernel
theorem dX1_keepWay_14 : decode cX1_keepWay 14 = .ok (.aload_n 0, 1) := by decide +kernel
theorem dX1_keepWay_15 : decode cX1_keepWay 15 = .ok (.getfield 29, 3) := by decide +kernel
theorem dX1_keepWay_18 : decode cX1_keepWay 18 = .ok (.iload_n 3, 1) := by decide +kernel
theorem dX1_keepWay_19 : decode cX1_keepWay 19 = .ok (.aload_n 1, 1) := by decide +kernel
theorem dX1_keepWay_20 : decode cX1_keepWay 20 = .ok (.getfield 136, 3) := by decide +kernel
theorem dX1_keepWay_23 : decode cX1_keepWay 23 = .ok (.iastore, 1) := by decide +kernel
theorem dX1_keepWay_24 : decode cX1_keepWay 24 = .ok (.aload_n 0, 1) := by decide +kernel
theorem dX1_keepWay_25 : decode cX1_keepWay 25 = .ok (.getfield 29, 3) := by decide +kernel
theorem dX1_keepWay_28 : decode cX1_keepWay 28 = .ok (.iload_n 3, 1) := by decide +kernel
theorem dX1_keepWay_29 : decode cX1_keepWay 29 = .ok (.iconst 1, 1) := by decide +kernel
theorem dX1_keepWay_30 : decode cX1_keepWay 30 = .ok (.iadd, 1) := by decide +kernel
theorem dX1_keepWay_31 : decode cX1_keepWay 31 = .ok (.aload_n 1, 1) := by decide +kernel
theorem dX1_keepWay_32 : decode cX1_keepWay 32 = .ok (.getfield 139, 3) := by decide +kernel
theorem dX1_keepWay_35 : decode cX1_keepWay 35 = .ok (.iastore, 1) := by decide +kernel
theorem dX1_keepWay_36 : decode cX1_keepWay 36 = .ok (.aload_n 0, 1) := by decide +kernel
theorem dX1_keepWay_37 : decode cX1_keepWay 37 = .ok (.getfield 29, 3) := by decide +kernel
theorem dX1_keepWay_40 : decode cX1_keepWay 40 = .ok (.iload_n 3, 1) := by decide +kernel
theorem dX1_keepWay_41 : decode cX1_keepWay 41 = .ok (.iconst 2, 1) := by decide +kernel
theorem dX1_keepWay_42 : decode cX1_keepWay 42 = .ok (.iadd, 1) := by decide +kernel
theorem dX1_keepWay_43 : decode cX1_keepWay 43 = .ok (.aload_n 1, 1) := by decide +kernel
theorem dX1_keepWay_44 : decode cX1_keepWay 44 = .ok (.getfield 142, 3) := by decide +kernel
theorem dX1_keepWay_47 : decode cX1_keepWay 47 = .ok (.iastore, 1) := by decide +kernel
theorem dX1_keepWay_48 : decode cX1_keepWay 48 = .ok (.aload_n 0, 1) := by decide +kernel
theorem dX1_keepWay_49 : decode cX1_keepWay 49 = .ok (.getfield 29, 3) := by decide +kernel
theorem dX1_keepWay_52 : decode cX1_keepWay 52 = .ok (.iload_n 3, 1) := by decide +kernel
theorem dX1_keepWay_53 : decode cX1_keepWay 53 = .ok (.iconst 3, 1) := by decide +kernel
theorem dX1_keepWay_54 : decode cX1_keepWay 54 = .ok (.iadd, 1) := by decide +kernel
theorem dX1_keepWay_55 : decode cX1_keepWay 55 = .ok (.aload_n 1, 1) := by decide +kernel
theorem dX1_keepWay_56 : decode cX1_keepWay 56 = .ok (.getfield 125, 3) := by decide +kernel
theorem dX1_keepWay_59 : decode cX1_keepWay 59 = .ok (.l2i, 1) := by decide +kernel
theorem dX1_keepWay_60 : decode cX1_keepWay 60 = .ok (.iastore, 1) := by decide +kernel
theorem dX1_keepWay_61 : decode cX1_keepWay 61 = .ok (.return_, 1) := by decide +kernel
theorem dX2_init_0 : decode cX2_init 0 = .ok (.aload_n 0, 1) := by decide +kernel
theorem dX2_init_1 : decode cX2_init 1 = .ok (.invokespecial 3, 3) := by decide +kernel
theorem dX2_init_4 : decode cX2_init 4 = .ok (.aload_n 0, 1) := by decide +kernel
theorem dX2_init_5 : decode cX2_init 5 = .ok (.sipush 20000, 3) := by decide +kernel
theorem dX2_init_8 : decode cX2_init 8 = .ok (.newarray .byte, 2) := by decide +kernel
theorem dX2_init_10 : decode cX2_init 10 = .ok (.putfield 9, 3) := by decide +kernel
theorem dX2_init_13 : decode cX2_init 13 = .ok (.aload_n 0, 1) := by decide +kernel
theorem dX2_init_14 : decode cX2_init 14 = .ok (.iconst 0, 1) := by decide +kernel
theorem dX2_init_15 : decode cX2_init 15 = .ok (.putfield 15, 3) := by decide +kernel
theorem dX2_init_18 : decode cX2_init 18 = .ok (.return_, 1) := by decide +kernel
theorem dX2_size_0 : decode cX2_size 0 = .ok (.aload_n 0, 1) := by decide +kernel
theorem dX2_size_1 : decode cX2_size 1 = .ok (.getfield 15, 3) := by decide +kernel
theorem dX2_size_4 : decode cX2_size 4 = .ok (.bipush 7, 2) := by decide +kernel
theorem dX2_size_6 : decode cX2_size 6 = .ok (.iadd, 1) := by decide +kernel
theorem dX2_size_7 : decode cX2_size 7 = .ok (.iconst 3, 1) := by decide +kernel
theorem dX2_size_8 : decode cX2_size 8 = .ok (.ishr, 1) := by decide +kernel
theorem dX2_size_9 : decode cX2_size 9 = .ok (.ireturn, 1) := by decide +kernel
theorem dX2_clear_0 : decode cX2_clear 0 = .ok (.aload_n 0, 1) := by decide +kernel
theorem dX2_clear_1 : decode cX2_clear 1 = .ok (.getfield 9, 3) := by decide +kernel
theorem dX2_clear_4 : decode cX2_clear 4 = .ok (.iconst 0, 1) := by decide +kernel
theorem dX2_clear_5 : decode cX2_clear 5 = .ok (.aload_n 0, 1) := by decide +kernel
theorem dX2_clear_6 : decode cX2_clear 6 = .ok (.invokevirtual 19, 3) := by decide +kernel
theorem dX2_clear_9 : decode cX2_clear 9 = .ok (.iconst 0, 1) := by decide +kernel
theorem dX2_clear_10 : decode cX2_clear 10 = .ok (.invokestatic 23, 3) := by decide +kernel
theorem dX2_clear_13 : decode cX2_clear 13 = .ok (.aload_n 0, 1) := by decide +kernel
theorem dX2_clear_14 : decode cX2_clear 14 = .ok (.iconst 0, 1) := by decide +kernel
theorem dX2_clear_15 : decode cX2_clear 15 = .ok (.putfield 15, 3) := by decide +kernel
theorem dX2_clear_18 : decode cX2_clear 18 = .ok (.return_, 1) := by decide +kernel
theorem dX2_put_0 : decode cX2_put 0 = .ok (.iload_n 1, 1) := by decide +kernel
theorem dX2_put_1 : decode cX2_put 1 = .ok (.istore 4, 2) := by decide +kernel
theorem dX2_put_3 : decode cX2_put 3 = .ok (.iload 4, 2) := by decide +kernel
theorem dX2_put_5 : decode cX2_put 5 = .ok (.ifCond .le 92, 3) := by decide +kernel
theorem dX2_put_8 : decode cX2_put 8 = .ok (.aload_n 0, 1) := by decide +kernel
theorem dX2_put_9 : decode cX2_put 9 = .ok (.getfield 15, 3) := by decide +kernel
theorem dX2_put_12 : decode cX2_put 12 = .ok (.ldc 29, 2) := by decide +kernel
theorem dX2_put_14 : decode cX2_put 14 = .ok (.if_icmp .ge 83, 3) := by decide +kernel
theorem dX2_put_17 : decode cX2_put 17 = .ok (.bipush 8, 2) := by decide +kernel
theorem dX2_put_19 : decode cX2_put 19 = .ok (.aload_n 0, 1) := by decide +kernel
theorem dX2_put_20 : decode cX2_put 20 = .ok (.getfield 15, 3) := by decide +kernel
theorem dX2_put_23 : decode cX2_put 23 = .ok (.bipush 7, 2) := by decide +kernel
theorem dX2_put_25 : decode cX2_put 25 = .ok (.iand, 1) := by decide +kernel
theorem dX2_put_26 : decode cX2_put 26 = .ok (.isub, 1) := by decide +kernel
theorem dX2_put_27 : decode cX2_put 27 = .ok (.istore 5, 2) := by decide +kernel
theorem dX2_put_29 : decode cX2_put 29 = .ok (.iload 5, 2) := by decide +kernel
theorem dX2_put_31 : decode cX2_put 31 = .ok (.iload 4, 2) := by decide +kernel
theorem dX2_put_33 : decode cX2_put 33 = .ok (.invokestatic 30, 3) := by decide +kernel
theorem dX2_put_36 : decode cX2_put 36 = .ok (.istore 6, 2) := by decide +kernel
theorem dX2_put_38 : decode cX2_put 38 = .ok (.iload 4, 2) := by decide +kernel
theorem dX2_put_40 : decode cX2_put 40 = .ok (.iload 6, 2) := by decide +kernel
theorem dX2_put_42 : decode cX2_put 42 = .ok (.isub, 1) := by decide +kernel
theorem dX2_put_43 : decode cX2_put 43 = .ok (.istore 4, 2) := by decide +kernel
theorem dX2_put_45 : decode cX2_put 45 = .ok (.lload_n 2, 1) := by decide +kernel
theorem dX2_put_46 : decode cX2_put 46 = .ok (.iload 4, 2) := by decide +kernel
theorem dX2_put_48 : decode cX2_put 48 = .ok (.lshr, 1) := by decide +kernel
theorem dX2_put_49 : decode cX2_put 49 = .ok (.l2i, 1) := by decide +kernel
theorem dX2_put_50 : decode cX2_put 50 = .ok (.iconst 1, 1) := by decide +kernel
theorem dX2_put_51 : decode cX2_put 51 = .ok (.iload 6, 2) := by decide +kernel
theorem dX2_put_53 : decode cX2_put 53 = .ok (.ishl, 1) := by decide +kernel
theorem dX2_put_54 : decode cX2_put 54 = .ok (.iconst 1, 1) := by decide +kernel
theorem dX2_put_55 : decode cX2_put 55 = .ok (.isub, 1) := by decide +kernel
theorem dX2_put_56 : decode cX2_put 56 = .ok (.iand, 1) := by decide +kernel
theorem dX2_put_57 : decode cX2_put 57 = .ok (.istore 7, 2) := by decide +kernel
theorem dX2_put_59 : decode cX2_put 59 = .ok (.aload_n 0, 1) := by decide +kernel
theorem dX2_put_60 : decode cX2_put 60 = .ok (.getfield 9, 3) := by decide +kernel
theorem dX2_put_63 : decode cX2_put 63 = .ok (.aload_n 0, 1) := by decide +kernel
theorem dX2_put_64 : decode cX2_put 64 = .ok (.getfield 15, 3) := by decide +kernel
theorem dX2_put_67 : decode cX2_put 67 = .ok (.iconst 3, 1) := by decide +kernel
theorem dX2_put_68 : decode cX2_put 68 = .ok (.ishr, 1) := by decide +kernel
theorem dX2_put_69 : decode cX2_put 69 = .ok (.dup2, 1) := by decide +kernel
theorem dX2_put_70 : decode cX2_put 70 = .ok (.baload, 1) := by decide +kernel
theorem dX2_put_71 : decode cX2_put 71 = .ok (.iload 7, 2) := by decide +kernel
theorem dX2_put_73 : decode cX2_put 73 = .ok (.iload 5, 2) := by decide +kernel
theorem dX2_put_75 : decode cX2_put 75 = .ok (.iload 6, 2) := by decide +kernel
theorem dX2_put_77 : decode cX2_put 77 = .ok (.isub, 1) := by decide +kernel
theorem dX2_put_78 : decode cX2_put 78 = .ok (.ishl, 1) := by decide +kernel
theorem dX2_put_79 : decode cX2_put 79 = .ok (.i2b, 1) := by decide +kernel
theorem dX2_put_80 : decode cX2_put 80 = .ok (.ior, 1) := by decide +kernel
theorem dX2_put_81 : decode cX2_put 81 = .ok (.i2b, 1) := by decide +kernel
theorem dX2_put_82 : decode cX2_put 82 = .ok (.bastore, 1) := by decide +kernel
theorem dX2_put_83 : decode cX2_put 83 = .ok (.aload_n 0, 1) := by decide +kernel
theorem dX2_put_84 : decode cX2_put 84 = .ok (.dup, 1) := by decide +kernel
theorem dX2_put_85 : decode cX2_put 85 = .ok (.getfield 15, 3) := by decide +kernel
theorem dX2_put_88 : decode cX2_put 88 = .ok (.iload 6, 2) := by decide +kernel
theorem dX2_put_90 : decode cX2_put 90 = .ok (.iadd, 1) := by decide +kernel
theorem dX2_put_91 : decode cX2_put 91 = .ok (.putfield 15, 3) := by decide +kernel
theorem dX2_put_94 : decode cX2_put 94 = .ok (.goto (-91), 3) := by decide +kernel
theorem dX2_put_97 : decode cX2_put 97 = .ok (.return_, 1) := by decide +kernel
theorem dX2_putZeros_0 : decode cX2_putZeros 0 = .ok (.aload_n 0, 1) := by decide +kernel
theorem dX2_putZeros_1 : decode cX2_putZeros 1 = .ok (.aload_n 0, 1) := by decide +kernel
theorem dX2_putZeros_2 : decode cX2_putZeros 2 = .ok (.getfield 15, 3) := by decide +kernel
theorem dX2_putZeros_5 : decode cX2_putZeros 5 = .ok (.iload_n 1, 1) := by decide +kernel
theorem dX2_putZeros_6 : decode cX2_putZeros 6 = .ok (.iadd, 1) := by decide +kernel
theorem dX2_putZeros_7 : decode cX2_putZeros 7 = .ok (.ldc 29, 2) := by decide +kernel
theorem dX2_putZeros_9 : decode cX2_putZeros 9 = .ok (.invokestatic 30, 3) := by decide +kernel
theorem dX2_putZeros_12 : decode cX2_putZeros 12 = .ok (.putfield 15, 3) := by decide +kernel
theorem dX2_putZeros_15 : decode cX2_putZeros 15 = .ok (.return_, 1) := by decide +kernel
theorem dX2_fillByte_0 : decode cX2_fillByte 0 = .ok (.aload_n 0, 1) := by decide +kernel
theorem dX2_fillByte_1 : decode cX2_fillByte 1 = .ok (.bipush 8, 2) := by decide +kernel
theorem dX2_fillByte_3 : decode cX2_fillByte 3 = .ok (.aload_n 0, 1) := by decide +kernel
theorem dX2_fillByte_4 : decode cX2_fillByte 4 = .ok (.invokevirtual 19, 3) := by decide +kernel
theorem dX2_fillByte_7 : decode cX2_fillByte 7 = .ok (.imul, 1) := by decide +kernel
theorem dX2_fillByte_8 : decode cX2_fillByte 8 = .ok (.putfield 15, 3) := by decide +kernel
theorem dX2_fillByte_11 : decode cX2_fillByte 11 = .ok (.return_, 1) := by decide +kernel
theorem dX3_init_0 : decode cX3_init 0 = .ok (.aload_n 0, 1) := by decide +kernel
theorem dX3_init_1 : decode cX3_init 1 = .ok (.invokespecial 1, 3) := by decide +kernel
theorem dX3_init_4 : decode cX3_init 4 = .ok (.aload_n 0, 1) := by decide +kernel
theorem dX3_init_5 : decode cX3_init 5 = .ok (.iload_n 1, 1) := by decide +kernel
theorem dX3_init_6 : decode cX3_init 6 = .ok (.newarray .int, 2) := by decide +kernel
theorem dX3_init_8 : decode cX3_init 8 = .ok (.putfield 7, 3) := by decide +kernel
theorem dX3_init_11 : decode cX3_init 11 = .ok (.aload_n 0, 1) := by decide +kernel
theorem dX3_init_12 : decode cX3_init 12 = .ok (.iconst 0, 1) := by decide +kernel
theorem dX3_init_13 : decode cX3_init 13 = .ok (.putfield 13, 3) := by decide +kernel
theorem dX3_init_16 : decode cX3_init 16 = .ok (.aload_n 0, 1) := by decide +kernel
theorem dX3_init_17 : decode cX3_init 17 = .ok (.iconst 0, 1) := by decide +kernel
theorem dX3_init_18 : decode cX3_init 18 = .ok (.putfield 17, 3) := by decide +kernel
theorem dX3_init_21 : decode cX3_init 21 = .ok (.return_, 1) := by decide +kernel
theorem dX3_begin_0 : decode cX3_begin 0 = .ok (.aload_n 0, 1) := by decide +kernel
theorem dX3_begin_1 : decode cX3_begin 1 = .ok (.iconst 0, 1) := by decide +kernel
theorem dX3_begin_2 : decode cX3_begin 2 = .ok (.putfield 13, 3) := by decide +kernel
theorem dX3_begin_5 : decode cX3_begin 5 = .ok (.aload_n 0, 1) := by decide +kernel
theorem dX3_begin_6 : decode cX3_begin 6 = .ok (.iload_n 1, 1) := by decide +kernel
theorem dX3_begin_7 : decode cX3_begin 7 = .ok (.putfield 17, 3) := by decide +kernel
theorem dX3_begin_10 : decode cX3_begin 10 = .ok (.return_, 1) := by decide +kernel
theorem dX3_add_0 : decode cX3_add 0 = .ok (.aload_n 0, 1) := by decide +kernel
theorem dX3_add_1 : decode cX3_add 1 = .ok (.getfield 13, 3) := by decide +kernel
theorem dX3_add_4 : decode cX3_add 4 = .ok (.aload_n 0, 1) := by decide +kernel
theorem dX3_add_5 : decode cX3_add 5 = .ok (.getfield 7, 3) := by decide +kernel
theorem dX3_add_8 : decode cX3_add 8 = .ok (.arraylength, 1) := by decide +kernel
theorem dX3_add_9 : decode cX3_add 9 = .ok (.if_icmp .ge 23, 3) := by decide +kernel
theorem dX3_add_12 : decode cX3_add 12 = .ok (.aload_n 0, 1) := by decide +kernel
theorem dX3_add_13 : decode cX3_add 13 = .ok (.getfield 7, 3) := by decide +kernel
theorem dX3_add_16 : decode cX3_add 16 = .ok (.aload_n 0, 1) := by decide +kernel
theorem dX3_add_17 : decode cX3_add 17 = .ok (.getfield 13, 3) := by decide +kernel
theorem dX3_add_20 : decode cX3_add 20 = .ok (.iload_n 1, 1) := by decide +kernel
theorem dX3_add_21 : decode cX3_add 21 = .ok (.iastore, 1) := by decide +kernel
theorem dX3_add_22 : decode cX3_add 22 = .ok (.aload_n 0, 1) := by decide +kernel
theorem dX3_add_23 : decode cX3_add 23 = .ok (.dup, 1) := by decide +kernel
theorem dX3_add_24 : decode cX3_add 24 = .ok (.getfield 13, 3) := by decide +kernel
theorem dX3_add_27 : decode cX3_add 27 = .ok (.iconst 1, 1) := by decide +kernel
theorem dX3_add_28 : decode cX3_add 28 = .ok (.iadd, 1) := by decide +kernel
theorem dX3_add_29 : decode cX3_add 29 = .ok (.putfield 13, 3) := by decide +kernel
theorem dX3_add_32 : decode cX3_add 32 = .ok (.return_, 1) := by decide +kernel
theorem dX3_becomeFixed_0 : decode cX3_becomeFixed 0 = .ok (.aload_n 0, 1) := by decide +kernel
theorem dX3_becomeFixed_1 : decode cX3_becomeFixed 1 = .ok (.iconst 0, 1) := by decide +kernel
theorem dX3_becomeFixed_2 : decode cX3_becomeFixed 2 = .ok (.invokevirtual 20, 3) := by decide +kernel
theorem dX3_becomeFixed_5 : decode cX3_becomeFixed 5 = .ok (.iload_n 1, 1) := by decide +kernel
theorem dX3_becomeFixed_6 : decode cX3_becomeFixed 6 = .ok (.iload_n 1, 1) := by decide +kernel
theorem dX3_becomeFixed_7 : decode cX3_becomeFixed 7 = .ok (.iconst 1, 1) := by decide +kernel
theorem dX3_becomeFixed_8 : decode cX3_becomeFixed 8 = .ok (.isub, 1) := by decide +kernel
theorem dX3_becomeFixed_9 : decode cX3_becomeFixed 9 = .ok (.imul, 1) := by decide +kernel
theorem dX3_becomeFixed_10 : decode cX3_becomeFixed 10 = .ok (.iconst 2, 1) := by decide +kernel
theorem dX3_becomeFixed_11 : decode cX3_becomeFixed 11 = .ok (.idiv, 1) := by decide +kernel
theorem dX3_becomeFixed_12 : decode cX3_becomeFixed 12 = .ok (.istore_n 2, 1) := by decide +kernel
theorem dX3_becomeFixed_13 : decode cX3_becomeFixed 13 = .ok (.iconst 0, 1) := by decide +kernel
theorem dX3_becomeFixed_14 : decode cX3_becomeFixed 14 = .ok (.istore_n 3, 1) := by decide +kernel
theorem dX3_becomeFixed_15 : decode cX3_becomeFixed 15 = .ok (.iload_n 3, 1) := by decide +kernel
theorem dX3_becomeFixed_16 : decode cX3_becomeFixed 16 = .ok (.iload_n 1, 1) := by decide +kernel
theorem dX3_becomeFixed_17 : decode cX3_becomeFixed 17 = .ok (.if_icmp .ge 20, 3) := by decide +kernel
theorem dX3_becomeFixed_20 : decode cX3_becomeFixed 20 = .ok (.aload_n 0, 1) := by decide +kernel
theorem dX3_becomeFixed_21 : decode cX3_becomeFixed 21 = .ok (.getstatic 24, 3) := by decide +kernel
theorem dX3_becomeFixed_24 : decode cX3_becomeFixed 24 = .ok (.iload_n 2, 1) := by decide +kernel
theorem dX3_becomeFixed_25 : decode cX3_becomeFixed 25 = .ok (.iload_n 3, 1) := by decide +kernel
theorem dX3_becomeFixed_26 : decode cX3_becomeFixed 26 = .ok (.iadd, 1) := by decide +kernel
theorem dX3_becomeFixed_27 : decode cX3_becomeFixed 27 = .ok (.iaload, 1) := by decide +kernel
theorem dX3_becomeFixed_28 : decode cX3_becomeFixed 28 = .ok (.invokevirtual 27, 3) := by decide +kernel
theorem dX3_becomeFixed_31 : decode cX3_becomeFixed 31 = .ok (.iinc 3 1, 3) := by decide +kernel
theorem dX3_becomeFixed_34 : decode cX3_becomeFixed 34 = .ok (.goto (-19), 3) := by decide +kernel
theorem dX3_becomeFixed_37 : decode cX3_becomeFixed 37 = .ok (.return_, 1) := by decide +kernel
theorem dX3_foretell_0 : decode cX3_foretell 0 = .ok (.lconst 0, 1) := by decide +kernel
theorem dX3_foretell_1 : decode cX3_foretell 1 = .ok (.lstore_n 3, 1) := by decide +kernel
theorem dX3_foretell_2 : decode cX3_foretell 2 = .ok (.iconst 0, 1) := by decide +kernel
theorem dX3_foretell_3 : decode cX3_foretell 3 = .ok (.istore 5, 2) := by decide +kernel
theorem dX3_foretell_5 : decode cX3_foretell 5 = .ok (.iload 5, 2) := by decide +kernel
theorem dX3_foretell_7 : decode cX3_foretell 7 = .ok (.aload_n 0, 1) := by decide +kernel
theorem dX3_foretell_8 : decode cX3_foretell 8 = .ok (.getfield 13, 3) := by decide +kernel
theorem dX3_foretell_11 : decode cX3_foretell 11 = .ok (.if_icmp .ge 30, 3) := by decide +kernel
theorem dX3_foretell_14 : decode cX3_foretell 14 = .ok (.lload_n 3, 1) := by decide +kernel
theorem dX3_foretell_15 : decode cX3_foretell 15 = .ok (.aload_n 0, 1) := by decide +kernel
theorem dX3_foretell_16 : decode cX3_foretell 16 = .ok (.getfield 7, 3) := by decide +kernel
theorem dX3_foretell_19 : decode cX3_foretell 19 = .ok (.iload 5, 2) := by decide +kernel
theorem dX3_foretell_21 : decode cX3_foretell 21 = .ok (.iaload, 1) := by decide +kernel
theorem dX3_foretell_22 : decode cX3_foretell 22 = .ok (.i2l, 1) := by decide +kernel
theorem dX3_foretell_23 : decode cX3_foretell 23 = .ok (.aload_n 1, 1) := by decide +kernel
theorem dX3_foretell_24 : decode cX3_foretell 24 = .ok (.iload_n 2, 1) := by decide +kernel
theorem dX3_foretell_25 : decode cX3_foretell 25 = .ok (.iconst 1, 1) := by decide +kernel
theorem dX3_foretell_26 : decode cX3_foretell 26 = .ok (.isub, 1) := by decide +kernel
theorem dX3_foretell_27 : decode cX3_foretell 27 = .ok (.iload 5, 2) := by decide +kernel
theorem dX3_foretell_29 : decode cX3_foretell 29 = .ok (.isub, 1) := by decide +kernel
theorem dX3_foretell_30 : decode cX3_foretell 30 = .ok (.iaload, 1) := by decide +kernel
theorem dX3_foretell_31 : decode cX3_foretell 31 = .ok (.i2l, 1) := by decide +kernel
theorem dX3_foretell_32 : decode cX3_foretell 32 = .ok (.lmul, 1) := by decide +kernel
theorem dX3_foretell_33 : decode cX3_foretell 33 = .ok (.ladd, 1) := by decide +kernel
theorem dX3_foretell_34 : decode cX3_foretell 34 = .ok (.lstore_n 3, 1) := by decide +kernel
theorem dX3_foretell_35 : decode cX3_foretell 35 = .ok (.iinc 5 1, 3) := by decide +kernel
theorem dX3_foretell_38 : decode cX3_foretell 38 = .ok (.goto (-33), 3) := by decide +kernel
theorem dX3_foretell_41 : decode cX3_foretell 41 = .ok (.lload_n 3, 1) := by decide +kernel
theorem dX3_foretell_42 : decode cX3_foretell 42 = .ok (.aload_n 0, 1) := by decide +kernel
theorem dX3_foretell_43 : decode cX3_foretell 43 = .ok (.getfield 17, 3) := by decide +kernel
theorem dX3_foretell_46 : decode cX3_foretell 46 = .ok (.lshr, 1) := by decide +kernel
theorem dX3_foretell_47 : decode cX3_foretell 47 = .ok (.lreturn, 1) := by decide +kernel
theorem dX4_init_0 : decode cX4_init 0 = .ok (.aload_n 0, 1) := by decide +kernel
theorem dX4_init_1 : decode cX4_init 1 = .ok (.invokespecial 3, 3) := by decide +kernel
theorem dX4_init_4 : decode cX4_init 4 = .ok (.aload_n 0, 1) := by decide +kernel
theorem dX4_init_5 : decode cX4_init 5 = .ok (.sipush 20000, 3) := by decide +kernel
theorem dX4_init_8 : decode cX4_init 8 = .ok (.newarray .byte, 2) := by decide +kernel
theorem dX4_init_10 : decode cX4_init 10 = .ok (.putfield 9, 3) := by decide +kernel
theorem dX4_init_13 : decode cX4_init 13 = .ok (.aload_n 0, 1) := by decide +kernel
theorem dX4_init_14 : decode cX4_init 14 = .ok (.iconst 0, 1) := by decide +kernel
theorem dX4_init_15 : decode cX4_init 15 = .ok (.putfield 15, 3) := by decide +kernel
theorem dX4_init_18 : decode cX4_init 18 = .ok (.aload_n 0, 1) := by decide +kernel
theorem dX4_init_19 : decode cX4_init 19 = .ok (.iconst 0, 1) := by decide +kernel
theorem dX4_init_20 : decode cX4_init 20 = .ok (.putfield 19, 3) := by decide +kernel
theorem dX4_init_23 : decode cX4_init 23 = .ok (.aload_n 0, 1) := by decide +kernel
theorem dX4_init_24 : decode cX4_init 24 = .ok (.iconst (-1), 1) := by decide +kernel
theorem dX4_init_25 : decode cX4_init 25 = .ok (.putfield 22, 3) := by decide +kernel
theorem dX4_init_28 : decode cX4_init 28 = .ok (.aload_n 0, 1) := by decide +kernel
theorem dX4_init_29 : decode cX4_init 29 = .ok (.new 25, 3) := by decide +kernel
theorem dX4_init_32 : decode cX4_init 32 = .ok (.dup, 1) := by decide +kernel
theorem dX4_init_33 : decode cX4_init 33 = .ok (.invokespecial 27, 3) := by decide +kernel
theorem dX4_init_36 : decode cX4_init 36 = .ok (.putfield 28, 3) := by decide +kernel
theorem dX4_init_39 : decode cX4_init 39 = .ok (.aload_n 0, 1) := by decide +kernel
theorem dX4_init_40 : decode cX4_init 40 = .ok (.sipush 4096, 3) := by decide +kernel
theorem dX4_init_43 : decode cX4_init 43 = .ok (.newarray .int, 2) := by decide +kernel
theorem dX4_init_45 : decode cX4_init 45 = .ok (.putfield 32, 3) := by decide +kernel
theorem dX4_init_48 : decode cX4_init 48 = .ok (.aload_n 0, 1) := by decide +kernel
theorem dX4_init_49 : decode cX4_init 49 = .ok (.bipush 8, 2) := by decide +kernel
theorem dX4_init_51 : decode cX4_init 51 = .ok (.sipush 256, 3) := by decide +kernel
theorem dX4_init_54 : decode cX4_init 54 = .ok (.multianewarray 36 2, 4) := by decide +kernel
theorem dX4_init_58 : decode cX4_init 58 = .ok (.putfield 38, 3) := by decide +kernel
theorem dX4_init_61 : decode cX4_init 61 = .ok (.aload_n 0, 1) := by decide +kernel
theorem dX4_init_62 : decode cX4_init 62 = .ok (.new 41, 3) := by decide +kernel
theorem dX4_init_65 : decode cX4_init 65 = .ok (.dup, 1) := by decide +kernel
theorem dX4_init_66 : decode cX4_init 66 = .ok (.bipush 32, 2) := by decide +kernel
theorem dX4_init_68 : decode cX4_init 68 = .ok (.invokespecial 43, 3) := by decide +kernel
theorem dX4_init_71 : decode cX4_init 71 = .ok (.putfield 46, 3) := by decide +kernel
theorem dX4_init_74 : decode cX4_init 74 = .ok (.return_, 1) := by decide +kernel
theorem dX4_append_0 : decode cX4_append 0 = .ok (.aload_n 0, 1) := by decide +kernel
theorem dX4_append_1 : decode cX4_append 1 = .ok (.getfield 15, 3) := by decide +kernel
theorem dX4_append_4 : decode cX4_append 4 = .ok (.iload_n 3, 1) := by decide +kernel
theorem dX4_append_5 : decode cX4_append 5 = .ok (.iadd, 1) := by decide +kernel
theorem dX4_append_6 : decode cX4_append 6 = .ok (.sipush 20000, 3) := by decide +kernel
theorem dX4_append_9 : decode cX4_append 9 = .ok (.if_icmp .le 5, 3) := by decide +kernel
theorem dX4_append_12 : decode cX4_append 12 = .ok (.iconst 0, 1) := by decide +kernel
theorem dX4_append_13 : decode cX4_append 13 = .ok (.ireturn, 1) := by decide +kernel
theorem dX4_append_14 : decode cX4_append 14 = .ok (.iconst 0, 1) := by decide +kernel
theorem dX4_append_15 : decode cX4_append 15 = .ok (.istore 4, 2) := by decide +kernel
theorem dX4_append_17 : decode cX4_append 17 = .ok (.iload 4, 2) := by decide +kernel
theorem dX4_append_19 : decode cX4_append 19 = .ok (.iload_n 3, 1) := by decide +kernel
theorem dX4_append_20 : decode cX4_append 20 = .ok (.if_icmp .ge 33, 3) := by decide +kernel
theorem dX4_append_23 : decode cX4_append 23 = .ok (.aload_n 0, 1) := by decide +kernel
theorem dX4_append_24 : decode cX4_append 24 = .ok (.getfield 9, 3) := by decide +kernel
theorem dX4_append_27 : decode cX4_append 27 = .ok (.aload_n 0, 1) := by decide +kernel
theorem dX4_append_28 : decode cX4_append 28 = .ok (.getfield 15, 3) := by decide +kernel
theorem dX4_append_31 : decode cX4_append 31 = .ok (.iload 4, 2) := by decide +kernel
theorem dX4_append_33 : decode cX4_append 33 = .ok (.iadd, 1) := by decide +kernel
theorem dX4_append_34 : decode cX4_append 34 = .ok (.lload_n 1, 1) := by decide +kernel
theorem dX4_append_35 : decode cX4_append 35 = .ok (.bipush 56, 2) := by decide +kernel
theorem dX4_append_37 : decode cX4_append 37 = .ok (.bipush 8, 2) := by decide +kernel
theorem dX4_append_39 : decode cX4_append 39 = .ok (.iload 4, 2) := by decide +kernel
theorem dX4_append_41 : decode cX4_append 41 = .ok (.imul, 1) := by decide +kernel
theorem dX4_append_42 : decode cX4_append 42 = .ok (.isub, 1) := by decide +kernel
theorem dX4_append_43 : decode cX4_append 43 = .ok (.lshr, 1) := by decide +kernel
theorem dX4_append_44 : decode cX4_append 44 = .ok (.l2i, 1) := by decide +kernel
theorem dX4_append_45 : decode cX4_append 45 = .ok (.i2b, 1) := by decide +kernel
theorem dX4_append_46 : decode cX4_append 46 = .ok (.bastore, 1) := by decide +kernel
theorem dX4_append_47 : decode cX4_append 47 = .ok (.iinc 4 1, 3) := by decide +kernel
theorem dX4_append_50 : decode cX4_append 50 = .ok (.goto (-33), 3) := by decide +kernel
theorem dX4_append_53 : decode cX4_append 53 = .ok (.aload_n 0, 1) := by decide +kernel
theorem dX4_append_54 : decode cX4_append 54 = .ok (.dup, 1) := by decide +kernel
theorem dX4_append_55 : decode cX4_append 55 = .ok (.getfield 15, 3) := by decide +kernel
theorem dX4_append_58 : decode cX4_append 58 = .ok (.iload_n 3, 1) := by decide +kernel
theorem dX4_append_59 : decode cX4_append 59 = .ok (.iadd, 1) := by decide +kernel
theorem dX4_append_60 : decode cX4_append 60 = .ok (.putfield 15, 3) := by decide +kernel
theorem dX4_append_63 : decode cX4_append 63 = .ok (.iconst 1, 1) := by decide +kernel
theorem dX4_append_64 : decode cX4_append 64 = .ok (.ireturn, 1) := by decide +kernel
theorem dX4_load_0 : decode cX4_load 0 = .ok (.aload_n 0, 1) := by decide +kernel
theorem dX4_load_1 : decode cX4_load 1 = .ok (.aload_n 1, 1) := by decide +kernel
theorem dX4_load_2 : decode cX4_load 2 = .ok (.invokevirtual 50, 3) := by decide +kernel
theorem dX4_load_5 : decode cX4_load 5 = .ok (.putfield 15, 3) := by decide +kernel
theorem dX4_load_8 : decode cX4_load 8 = .ok (.aload_n 1, 1) := by decide +kernel
theorem dX4_load_9 : decode cX4_load 9 = .ok (.getfield 55, 3) := by decide +kernel
theorem dX4_load_12 : decode cX4_load 12 = .ok (.iconst 0, 1) := by decide +kernel
theorem dX4_load_13 : decode cX4_load 13 = .ok (.aload_n 0, 1) := by decide +kernel
theorem dX4_load_14 : decode cX4_load 14 = .ok (.getfield 9, 3) := by decide +kernel
theorem dX4_load_17 : decode cX4_load 17 = .ok (.iconst 0, 1) := by decide +kernel
theorem dX4_load_18 : decode cX4_load 18 = .ok (.aload_n 0, 1) := by decide +kernel
theorem dX4_load_19 : decode cX4_load 19 = .ok (.getfield 15, 3) := by decide +kernel
theorem dX4_load_22 : decode cX4_load 22 = .ok (.invokestatic 58, 3) := by decide +kernel
theorem dX4_load_25 : decode cX4_load 25 = .ok (.return_, 1) := by decide +kernel
theorem dX4_accepts_0 : decode cX4_accepts 0 = .ok (.aload_n 0, 1) := by decide +kernel
theorem dX4_accepts_1 : decode cX4_accepts 1 = .ok (.iconst 0, 1) := by decide +kernel
theorem dX4_accepts_2 : decode cX4_accepts 2 = .ok (.putfield 19, 3) := by decide +kernel
theorem dX4_accepts_5 : decode cX4_accepts 5 = .ok (.aload_n 0, 1) := by decide +kernel
theorem dX4_accepts_6 : decode cX4_accepts 6 = .ok (.iconst (-1), 1) := by decide +kernel
theorem dX4_accepts_7 : decode cX4_accepts 7 = .ok (.putfield 22, 3) := by decide +kernel
theorem dX4_accepts_10 : decode cX4_accepts 10 = .ok (.aload_n 0, 1) := by decide +kernel
theorem dX4_accepts_11 : decode cX4_accepts 11 = .ok (.iconst 0, 1) := by decide +kernel
theorem dX4_accepts_12 : decode cX4_accepts 12 = .ok (.putfield 64, 3) := by decide +kernel
theorem dX4_accepts_15 : decode cX4_accepts 15 = .ok (.iconst 1, 1) := by decide +kernel
theorem dX4_accepts_16 : decode cX4_accepts 16 = .ok (.istore_n 1, 1) := by decide +kernel
theorem dX4_accepts_17 : decode cX4_accepts 17 = .ok (.aload_n 0, 1) := by decide +kernel
theorem dX4_accepts_18 : decode cX4_accepts 18 = .ok (.invokevirtual 67, 3) := by decide +kernel
theorem dX4_accepts_21 : decode cX4_accepts 21 = .ok (.iconst 0, 1) := by decide +kernel
theorem dX4_accepts_22 : decode cX4_accepts 22 = .ok (.istore_n 2, 1) := by decide +kernel
theorem dX4_accepts_23 : decode cX4_accepts 23 = .ok (.iload_n 2, 1) := by decide +kernel
theorem dX4_accepts_24 : decode cX4_accepts 24 = .ok (.sipush 256, 3) := by decide +kernel
theorem dX4_accepts_27 : decode cX4_accepts 27 = .ok (.if_icmp .ge 54, 3) := by decide +kernel
theorem dX4_accepts_30 : decode cX4_accepts 30 = .ok (.iload_n 2, 1) := by decide +kernel
theorem dX4_accepts_31 : decode cX4_accepts 31 = .ok (.aload_n 0, 1) := by decide +kernel
theorem dX4_accepts_32 : decode cX4_accepts 32 = .ok (.getfield 28, 3) := by decide +kernel
theorem dX4_accepts_35 : decode cX4_accepts 35 = .ok (.getfield 70, 3) := by decide +kernel
theorem dX4_accepts_38 : decode cX4_accepts 38 = .ok (.imul, 1) := by decide +kernel
theorem dX4_accepts_39 : decode cX4_accepts 39 = .ok (.aload_n 0, 1) := by decide +kernel
theorem dX4_accepts_40 : decode cX4_accepts 40 = .ok (.getfield 73, 3) := by decide +kernel
theorem dX4_accepts_43 : decode cX4_accepts 43 = .ok (.if_icmp .ge 38, 3) := by decide +kernel
theorem dX4_accepts_46 : decode cX4_accepts 46 = .ok (.aload_n 0, 1) := by decide +kernel
theorem dX4_accepts_47 : decode cX4_accepts 47 = .ok (.iload_n 2, 1) := by decide +kernel
theorem dX4_accepts_48 : decode cX4_accepts 48 = .ok (.aload_n 0, 1) := by decide +kernel
theorem dX4_accepts_49 : decode cX4_accepts 49 = .ok (.getfield 28, 3) := by decide +kernel
theorem dX4_accepts_52 : decode cX4_accepts 52 = .ok (.getfield 70, 3) := by decide +kernel
theorem dX4_accepts_55 : decode cX4_accepts 55 = .ok (.aload_n 0, 1) := by decide +kernel
theorem dX4_accepts_56 : decode cX4_accepts 56 = .ok (.getfield 73, 3) := by decide +kernel
theorem dX4_accepts_59 : decode cX4_accepts 59 = .ok (.iload_n 2, 1) := by decide +kernel
theorem dX4_accepts_60 : decode cX4_accepts 60 = .ok (.aload_n 0, 1) := by decide +kernel
theorem dX4_accepts_61 : decode cX4_accepts 61 = .ok (.getfield 28, 3) := by decide +kernel
theorem dX4_accepts_64 : decode cX4_accepts 64 = .ok (.getfield 70, 3) := by decide +kernel
theorem dX4_accepts_67 : decode cX4_accepts 67 = .ok (.imul, 1) := by decide +kernel
theorem dX4_accepts_68 : decode cX4_accepts 68 = .ok (.isub, 1) := by decide +kernel
theorem dX4_accepts_69 : decode cX4_accepts 69 = .ok (.invokestatic 76, 3) := by decide +kernel
theorem dX4_accepts_72 : decode cX4_accepts 72 = .ok (.invokevirtual 82, 3) := by decide +kernel
theorem dX4_accepts_75 : decode cX4_accepts 75 = .ok (.iinc 2 1, 3) := by decide +kernel
theorem dX4_accepts_78 : decode cX4_accepts 78 = .ok (.goto (-55), 3) := by decide +kernel
theorem dX4_accepts_81 : decode cX4_accepts 81 = .ok (.aload_n 0, 1) := by decide +kernel
theorem dX4_accepts_82 : decode cX4_accepts 82 = .ok (.invokevirtual 86, 3) := by decide +kernel
theorem dX4_accepts_85 : decode cX4_accepts 85 = .ok (.goto 6, 3) := by decide +kernel
theorem dX4_accepts_88 : decode cX4_accepts 88 = .ok (.astore_n 2, 1) := by decide +kernel
theorem dX4_accepts_89 : decode cX4_accepts 89 = .ok (.iconst 0, 1) := by decide +kernel
theorem dX4_accepts_90 : decode cX4_accepts 90 = .ok (.istore_n 1, 1) := by decide +kernel
theorem dX4_accepts_91 : decode cX4_accepts 91 = .ok (.aload_n 0, 1) := by decide +kernel
theorem dX4_accepts_92 : decode cX4_accepts 92 = .ok (.iconst 0, 1) := by decide +kernel
theorem dX4_accepts_93 : decode cX4_accepts 93 = .ok (.putfield 15, 3) := by decide +kernel
theorem dX4_accepts_96 : decode cX4_accepts 96 = .ok (.iload_n 1, 1) := by decide +kernel
theorem dX4_accepts_97 : decode cX4_accepts 97 = .ok (.ireturn, 1) := by decide +kernel
theorem dX4_fail_0 : decode cX4_fail 0 = .ok (.aload_n 0, 1) := by decide +kernel
theorem dX4_fail_1 : decode cX4_fail 1 = .ok (.iload_n 1, 1) := by decide +kernel
theorem dX4_fail_2 : decode cX4_fail 2 = .ok (.putfield 19, 3) := by decide +kernel
theorem dX4_fail_5 : decode cX4_fail 5 = .ok (.aload_n 0, 1) := by decide +kernel
theorem dX4_fail_6 : decode cX4_fail 6 = .ok (.iload_n 2, 1) := by decide +kernel
theorem dX4_fail_7 : decode cX4_fail 7 = .ok (.putfield 22, 3) := by decide +kernel
theorem dX4_fail_10 : decode cX4_fail 10 = .ok (.new 89, 3) := by decide +kernel
theorem dX4_fail_13 : decode cX4_fail 13 = .ok (.dup, 1) := by decide +kernel
theorem dX4_fail_14 : decode cX4_fail 14 = .ok (.invokespecial 91, 3) := by decide +kernel
theorem dX4_fail_17 : decode cX4_fail 17 = .ok (.athrow, 1) := by decide +kernel
theorem dX4_failUnless_0 : decode cX4_failUnless 0 = .ok (.iload_n 1, 1) := by decide +kernel
theorem dX4_failUnless_1 : decode cX4_failUnless 1 = .ok (.ifCond .ne 12, 3) := by decide +kernel
theorem dX4_failUnless_4 : decode cX4_failUnless 4 = .ok (.aload_n 0, 1) := by decide +kernel
theorem dX4_failUnless_5 : decode cX4_failUnless 5 = .ok (.iload_n 2, 1) := by decide +kernel
theorem dX4_failUnless_6 : decode cX4_failUnless 6 = .ok (.aload_n 0, 1) := by decide +kernel
theorem dX4_failUnless_7 : decode cX4_failUnless 7 = .ok (.getfield 92, 3) := by decide +kernel
theorem dX4_failUnless_10 : decode cX4_failUnless 10 = .ok (.invokevirtual 95, 3) := by decide +kernel
theorem dX4_failUnless_13 : decode cX4_failUnless 13 = .ok (.return_, 1) := by decide +kernel
theorem dX4_number_0 : decode cX4_number 0 = .ok (.aload_n 0, 1) := by decide +kernel
theorem dX4_number_1 : decode cX4_number 1 = .ok (.aload_n 0, 1) := by decide +kernel
theorem dX4_number_2 : decode cX4_number 2 = .ok (.getfield 64, 3) := by decide +kernel
theorem dX4_number_5 : decode cX4_number 5 = .ok (.putfield 92, 3) := by decide +kernel
theorem dX4_number_8 : decode cX4_number 8 = .ok (.iload_n 1, 1) := by decide +kernel
theorem dX4_number_9 : decode cX4_number 9 = .ok (.bipush 8, 2) := by decide +kernel
theorem dX4_number_11 : decode cX4_number 11 = .ok (.aload_n 0, 1) := by decide +kernel
theorem dX4_number_12 : decode cX4_number 12 = .ok (.getfield 15, 3) := by decide +kernel
theorem dX4_number_15 : decode cX4_number 15 = .ok (.imul, 1) := by decide +kernel
theorem dX4_number_16 : decode cX4_number 16 = .ok (.aload_n 0, 1) := by decide +kernel
theorem dX4_number_17 : decode cX4_number 17 = .ok (.getfield 64, 3) := by decide +kernel
theorem dX4_number_20 : decode cX4_number 20 = .ok (.isub, 1) := by decide +kernel
theorem dX4_number_21 : decode cX4_number 21 = .ok (.if_icmp .le 12, 3) := by decide +kernel
theorem dX4_number_24 : decode cX4_number 24 = .ok (.aload_n 0, 1) := by decide +kernel
theorem dX4_number_25 : decode cX4_number 25 = .ok (.iconst 1, 1) := by decide +kernel
theorem dX4_number_26 : decode cX4_number 26 = .ok (.aload_n 0, 1) := by decide +kernel
theorem dX4_number_27 : decode cX4_number 27 = .ok (.getfield 64, 3) := by decide +kernel
theorem dX4_number_30 : decode cX4_number 30 = .ok (.invokevirtual 95, 3) := by decide +kernel
theorem dX4_number_33 : decode cX4_number 33 = .ok (.lconst 0, 1) := by decide +kernel
theorem dX4_number_34 : decode cX4_number 34 = .ok (.lstore_n 2, 1) := by decide +kernel
theorem dX4_number_35 : decode cX4_number 35 = .ok (.iload_n 1, 1) := by decide +kernel
theorem dX4_number_36 : decode cX4_number 36 = .ok (.istore 4, 2) := by decide +kernel
theorem dX4_number_38 : decode cX4_number 38 = .ok (.iload 4, 2) := by decide +kernel
theorem dX4_number_40 : decode cX4_number 40 = .ok (.ifCond .le 84, 3) := by decide +kernel
theorem dX4_number_43 : decode cX4_number 43 = .ok (.bipush 8, 2) := by decide +kernel
theorem dX4_number_45 : decode cX4_number 45 = .ok (.aload_n 0, 1) := by decide +kernel
theorem dX4_number_46 : decode cX4_number 46 = .ok (.getfield 64, 3) := by decide +kernel
theorem dX4_number_49 : decode cX4_number 49 = .ok (.bipush 7, 2) := by decide +kernel
theorem dX4_number_51 : decode cX4_number 51 = .ok (.iand, 1) := by decide +kernel
theorem dX4_number_52 : decode cX4_number 52 = .ok (.isub, 1) := by decide +kernel
theorem dX4_number_53 : decode cX4_number 53 = .ok (.istore 5, 2) := by decide +kernel
theorem dX4_number_55 : decode cX4_number 55 = .ok (.iload 5, 2) := by decide +kernel
theorem dX4_number_57 : decode cX4_number 57 = .ok (.iload 4, 2) := by decide +kernel
theorem dX4_number_59 : decode cX4_number 59 = .ok (.invokestatic 76, 3) := by decide +kernel
theorem dX4_number_62 : decode cX4_number 62 = .ok (.istore 6, 2) := by decide +kernel
theorem dX4_number_64 : decode cX4_number 64 = .ok (.aload_n 0, 1) := by decide +kernel
theorem dX4_number_65 : decode cX4_number 65 = .ok (.getfield 9, 3) := by decide +kernel
theorem dX4_number_68 : decode cX4_number 68 = .ok (.aload_n 0, 1) := by decide +kernel
theorem dX4_number_69 : decode cX4_number 69 = .ok (.getfield 64, 3) := by decide +kernel
theorem dX4_number_72 : decode cX4_number 72 = .ok (.iconst 3, 1) := by decide +kernel
theorem dX4_number_73 : decode cX4_number 73 = .ok (.ishr, 1) := by decide +kernel
theorem dX4_number_74 : decode cX4_number 74 = .ok (.baload, 1) := by decide +kernel
theorem dX4_number_75 : decode cX4_number 75 = .ok (.sipush 255, 3) := by decide +kernel
theorem dX4_number_78 : decode cX4_number 78 = .ok (.iand, 1) := by decide +kernel
theorem dX4_number_79 : decode cX4_number 79 = .ok (.iload 5, 2) := by decide +kernel
theorem dX4_number_81 : decode cX4_number 81 = .ok (.iload 6, 2) := by decide +kernel
theorem dX4_number_83 : decode cX4_number 83 = .ok (.isub, 1) := by decide +kernel
theorem dX4_number_84 : decode cX4_number 84 = .ok (.ishr, 1) := by decide +kernel
theorem dX4_number_85 : decode cX4_number 85 = .ok (.istore 7, 2) := by decide +kernel
theorem dX4_number_87 : decode cX4_number 87 = .ok (.lload_n 2, 1) := by decide +kernel
theorem dX4_number_88 : decode cX4_number 88 = .ok (.iload 6, 2) := by decide +kernel
theorem dX4_number_90 : decode cX4_number 90 = .ok (.lshl, 1) := by decide +kernel
theorem dX4_number_91 : decode cX4_number 91 = .ok (.iload 7, 2) := by decide +kernel
theorem dX4_number_93 : decode cX4_number 93 = .ok (.iconst 1, 1) := by decide +kernel
theorem dX4_number_94 : decode cX4_number 94 = .ok (.iload 6, 2) := by decide +kernel
theorem dX4_number_96 : decode cX4_number 96 = .ok (.ishl, 1) := by decide +kernel
theorem dX4_number_97 : decode cX4_number 97 = .ok (.iconst 1, 1) := by decide +kernel
theorem dX4_number_98 : decode cX4_number 98 = .ok (.isub, 1) := by decide +kernel
theorem dX4_number_99 : decode cX4_number 99 = .ok (.iand, 1) := by decide +kernel
theorem dX4_number_100 : decode cX4_number 100 = .ok (.i2l, 1) := by decide +kernel
theorem dX4_number_101 : decode cX4_number 101 = .ok (.lor, 1) := by decide +kernel
theorem dX4_number_102 : decode cX4_number 102 = .ok (.lstore_n 2, 1) := by decide +kernel
theorem dX4_number_103 : decode cX4_number 103 = .ok (.iload 4, 2) := by decide +kernel
theorem dX4_number_105 : decode cX4_number 105 = .ok (.iload 6, 2) := by decide +kernel
theorem dX4_number_107 : decode cX4_number 107 = .ok (.isub, 1) := by decide +kernel
theorem dX4_number_108 : decode cX4_number 108 = .ok (.istore 4, 2) := by decide +kernel
theorem dX4_number_110 : decode cX4_number 110 = .ok (.aload_n 0, 1) := by decide +kernel
theorem dX4_number_111 : decode cX4_number 111 = .ok (.dup, 1) := by decide +kernel
theorem dX4_number_112 : decode cX4_number 112 = .ok (.getfield 64, 3) := by decide +kernel
theorem dX4_number_115 : decode cX4_number 115 = .ok (.iload 6, 2) := by decide +kernel
theorem dX4_number_117 : decode cX4_number 117 = .ok (.iadd, 1) := by decide +kernel
theorem dX4_number_118 : decode cX4_number 118 = .ok (.putfield 64, 3) := by decide +kernel
theorem dX4_number_121 : decode cX4_number 121 = .ok (.goto (-83), 3) := by decide +kernel
theorem dX4_number_124 : decode cX4_number 124 = .ok (.lload_n 2, 1) := by decide +kernel
theorem dX4_number_125 : decode cX4_number 125 = .ok (.lreturn, 1) := by decide +kernel
theorem dX4_zerosAndOne_0 : decode cX4_zerosAndOne 0 = .ok (.aload_n 0, 1) := by decide +kernel
theorem dX4_zerosAndOne_1 : decode cX4_zerosAndOne 1 = .ok (.aload_n 0, 1) := by decide +kernel
theorem dX4_zerosAndOne_2 : decode cX4_zerosAndOne 2 = .ok (.getfield 64, 3) := by decide +kernel
theorem dX4_zerosAndOne_5 : decode cX4_zerosAndOne 5 = .ok (.putfield 92, 3) := by decide +kernel
theorem dX4_zerosAndOne_8 : decode cX4_zerosAndOne 8 = .ok (.bipush 8, 2) := by decide +kernel
theorem dX4_zerosAndOne_10 : decode cX4_zerosAndOne 10 = .ok (.aload_n 0, 1) := by decide +kernel
theorem dX4_zerosAndOne_11 : decode cX4_zerosAndOne 11 = .ok (.getfield 15, 3) := by decide +kernel
theorem dX4_zerosAndOne_14 : decode cX4_zerosAndOne 14 = .ok (.imul, 1) := by decide +kernel
theorem dX4_zerosAndOne_15 : decode cX4_zerosAndOne 15 = .ok (.istore_n 1, 1) := by decide +kernel
theorem dX4_zerosAndOne_16 : decode cX4_zerosAndOne 16 = .ok (.aload_n 0, 1) := by decide +kernel
theorem dX4_zerosAndOne_17 : decode cX4_zerosAndOne 17 = .ok (.getfield 64, 3) := by decide +kernel
theorem dX4_zerosAndOne_20 : decode cX4_zerosAndOne 20 = .ok (.iload_n 1, 1) := by decide +kernel
theorem dX4_zerosAndOne_21 : decode cX4_zerosAndOne 21 = .ok (.if_icmp .ge 72, 3) := by decide +kernel
theorem dX4_zerosAndOne_24 : decode cX4_zerosAndOne 24 = .ok (.aload_n 0, 1) := by decide +kernel
theorem dX4_zerosAndOne_25 : decode cX4_zerosAndOne 25 = .ok (.getfield 9, 3) := by decide +kernel
theorem dX4_zerosAndOne_28 : decode cX4_zerosAndOne 28 = .ok (.aload_n 0, 1) := by decide +kernel
theorem dX4_zerosAndOne_29 : decode cX4_zerosAndOne 29 = .ok (.getfield 64, 3) := by decide +kernel
theorem dX4_zerosAndOne_32 : decode cX4_zerosAndOne 32 = .ok (.iconst 3, 1) := by decide +kernel
theorem dX4_zerosAndOne_33 : decode cX4_zerosAndOne 33 = .ok (.ishr, 1) := by decide +kernel
theorem dX4_zerosAndOne_34 : decode cX4_zerosAndOne 34 = .ok (.baload, 1) := by decide +kernel
theorem dX4_zerosAndOne_35 : decode cX4_zerosAndOne 35 = .ok (.bipush 7, 2) := by decide +kernel
theorem dX4_zerosAndOne_37 : decode cX4_zerosAndOne 37 = .ok (.aload_n 0, 1) := by decide +kernel
theorem dX4_zerosAndOne_38 : decode cX4_zerosAndOne 38 = .ok (.getfield 64, 3) := by decide +kernel
theorem dX4_zerosAndOne_41 : decode cX4_zerosAndOne 41 = .ok (.bipush 7, 2) := by decide +kernel
theorem dX4_zerosAndOne_43 : decode cX4_zerosAndOne 43 = .ok (.iand, 1) := by decide +kernel
theorem dX4_zerosAndOne_44 : decode cX4_zerosAndOne 44 = .ok (.isub, 1) := by decide +kernel
theorem dX4_zerosAndOne_45 : decode cX4_zerosAndOne 45 = .ok (.ishr, 1) := by decide +kernel
theorem dX4_zerosAndOne_46 : decode cX4_zerosAndOne 46 = .ok (.iconst 1, 1) := by decide +kernel
theorem dX4_zerosAndOne_47 : decode cX4_zerosAndOne 47 = .ok (.iand, 1) := by decide +kernel
theorem dX4_zerosAndOne_48 : decode cX4_zerosAndOne 48 = .ok (.ifCond .ne 45, 3) := by decide +kernel
theorem dX4_zerosAndOne_51 : decode cX4_zerosAndOne 51 = .ok (.aload_n 0, 1) := by decide +kernel
theorem dX4_zerosAndOne_52 : decode cX4_zerosAndOne 52 = .ok (.dup, 1) := by decide +kernel
theorem dX4_zerosAndOne_53 : decode cX4_zerosAndOne 53 = .ok (.getfield 64, 3) := by decide +kernel
theorem dX4_zerosAndOne_56 : decode cX4_zerosAndOne 56 = .ok (.aload_n 0, 1) := by decide +kernel
theorem dX4_zerosAndOne_57 : decode cX4_zerosAndOne 57 = .ok (.getfield 64, 3) := by decide +kernel
theorem dX4_zerosAndOne_60 : decode cX4_zerosAndOne 60 = .ok (.bipush 7, 2) := by decide +kernel
theorem dX4_zerosAndOne_62 : decode cX4_zerosAndOne 62 = .ok (.iand, 1) := by decide +kernel
theorem dX4_zerosAndOne_63 : decode cX4_zerosAndOne 63 = .ok (.ifCond .ne 22, 3) := by decide +kernel
theorem dX4_zerosAndOne_66 : decode cX4_zerosAndOne 66 = .ok (.aload_n 0, 1) := by decide +kernel
theorem dX4_zerosAndOne_67 : decode cX4_zerosAndOne 67 = .ok (.getfield 9, 3) := by decide +kernel
theorem dX4_zerosAndOne_70 : decode cX4_zerosAndOne 70 = .ok (.aload_n 0, 1) := by decide +kernel
theorem dX4_zerosAndOne_71 : decode cX4_zerosAndOne 71 = .ok (.getfield 64, 3) := by decide +kernel
theorem dX4_zerosAndOne_74 : decode cX4_zerosAndOne 74 = .ok (.iconst 3, 1) := by decide +kernel
theorem dX4_zerosAndOne_75 : decode cX4_zerosAndOne 75 = .ok (.ishr, 1) := by decide +kernel
theorem dX4_zerosAndOne_76 : decode cX4_zerosAndOne 76 = .ok (.baload, 1) := by decide +kernel
theorem dX4_zerosAndOne_77 : decode cX4_zerosAndOne 77 = .ok (.ifCond .ne 8, 3) := by decide +kernel
theorem dX4_zerosAndOne_80 : decode cX4_zerosAndOne 80 = .ok (.bipush 8, 2) := by decide +kernel
theorem dX4_zerosAndOne_82 : decode cX4_zerosAndOne 82 = .ok (.goto 4, 3) := by decide +kernel
theorem dX4_zerosAndOne_85 : decode cX4_zerosAndOne 85 = .ok (.iconst 1, 1) := by decide +kernel
theorem dX4_zerosAndOne_86 : decode cX4_zerosAndOne 86 = .ok (.iadd, 1) := by decide +kernel
theorem dX4_zerosAndOne_87 : decode cX4_zerosAndOne 87 = .ok (.putfield 64, 3) := by decide +kernel
theorem dX4_zerosAndOne_90 : decode cX4_zerosAndOne 90 = .ok (.goto (-74), 3) := by decide +kernel
theorem dX4_zerosAndOne_93 : decode cX4_zerosAndOne 93 = .ok (.aload_n 0, 1) := by decide +kernel
theorem dX4_zerosAndOne_94 : decode cX4_zerosAndOne 94 = .ok (.getfield 64, 3) := by decide +kernel
theorem dX4_zerosAndOne_97 : decode cX4_zerosAndOne 97 = .ok (.iload_n 1, 1) := by decide +kernel
theorem dX4_zerosAndOne_98 : decode cX4_zerosAndOne 98 = .ok (.if_icmp .lt 12, 3) := by decide +kernel
theorem dX4_zerosAndOne_101 : decode cX4_zerosAndOne 101 = .ok (.aload_n 0, 1) := by decide +kernel
theorem dX4_zerosAndOne_102 : decode cX4_zerosAndOne 102 = .ok (.iconst 1, 1) := by decide +kernel
theorem dX4_zerosAndOne_103 : decode cX4_zerosAndOne 103 = .ok (.aload_n 0, 1) := by decide +kernel
theorem dX4_zerosAndOne_104 : decode cX4_zerosAndOne 104 = .ok (.getfield 92, 3) := by decide +kernel
theorem dX4_zerosAndOne_107 : decode cX4_zerosAndOne 107 = .ok (.invokevirtual 95, 3) := by decide +kernel
theorem dX4_zerosAndOne_110 : decode cX4_zerosAndOne 110 = .ok (.aload_n 0, 1) := by decide +kernel
theorem dX4_zerosAndOne_111 : decode cX4_zerosAndOne 111 = .ok (.dup, 1) := by decide +kernel
theorem dX4_zerosAndOne_112 : decode cX4_zerosAndOne 112 = .ok (.getfield 64, 3) := by decide +kernel
theorem dX4_zerosAndOne_115 : decode cX4_zerosAndOne 115 = .ok (.iconst 1, 1) := by decide +kernel
theorem dX4_zerosAndOne_116 : decode cX4_zerosAndOne 116 = .ok (.iadd, 1) := by decide +kernel
theorem dX4_zerosAndOne_117 : decode cX4_zerosAndOne 117 = .ok (.putfield 64, 3) := by decide +kernel
theorem dX4_zerosAndOne_120 : decode cX4_zerosAndOne 120 = .ok (.aload_n 0, 1) := by decide +kernel
theorem dX4_zerosAndOne_121 : decode cX4_zerosAndOne 121 = .ok (.getfield 64, 3) := by decide +kernel
theorem dX4_zerosAndOne_124 : decode cX4_zerosAndOne 124 = .ok (.iconst 1, 1) := by decide +kernel
theorem dX4_zerosAndOne_125 : decode cX4_zerosAndOne 125 = .ok (.isub, 1) := by decide +kernel
theorem dX4_zerosAndOne_126 : decode cX4_zerosAndOne 126 = .ok (.aload_n 0, 1) := by decide +kernel
theorem dX4_zerosAndOne_127 : decode cX4_zerosAndOne 127 = .ok (.getfield 92, 3) := by decide +kernel
theorem dX4_zerosAndOne_130 : decode cX4_zerosAndOne 130 = .ok (.isub, 1) := by decide +kernel
theorem dX4_zerosAndOne_131 : decode cX4_zerosAndOne 131 = .ok (.ireturn, 1) := by decide +kernel
theorem dX4_pass_0 : decode cX4_pass 0 = .ok (.iload_n 1, 1) := by decide +kernel
theorem dX4_pass_1 : decode cX4_pass 1 = .ok (.bipush 8, 2) := by decide +kernel
theorem dX4_pass_3 : decode cX4_pass 3 = .ok (.aload_n 0, 1) := by decide +kernel
theorem dX4_pass_4 : decode cX4_pass 4 = .ok (.getfield 15, 3) := by decide +kernel
theorem dX4_pass_7 : decode cX4_pass 7 = .ok (.imul, 1) := by decide +kernel
theorem dX4_pass_8 : decode cX4_pass 8 = .ok (.aload_n 0, 1) := by decide +kernel
theorem dX4_pass_9 : decode cX4_pass 9 = .ok (.getfield 64, 3) := by decide +kernel
theorem dX4_pass_12 : decode cX4_pass 12 = .ok (.isub, 1) := by decide +kernel
theorem dX4_pass_13 : decode cX4_pass 13 = .ok (.if_icmp .le 12, 3) := by decide +kernel
theorem dX4_pass_16 : decode cX4_pass 16 = .ok (.aload_n 0, 1) := by decide +kernel
theorem dX4_pass_17 : decode cX4_pass 17 = .ok (.iconst 1, 1) := by decide +kernel
theorem dX4_pass_18 : decode cX4_pass 18 = .ok (.aload_n 0, 1) := by decide +kernel
theorem dX4_pass_19 : decode cX4_pass 19 = .ok (.getfield 64, 3) := by decide +kernel
theorem dX4_pass_22 : decode cX4_pass 22 = .ok (.invokevirtual 95, 3) := by decide +kernel
theorem dX4_pass_25 : decode cX4_pass 25 = .ok (.aload_n 0, 1) := by decide +kernel
theorem dX4_pass_26 : decode cX4_pass 26 = .ok (.dup, 1) := by decide +kernel
theorem dX4_pass_27 : decode cX4_pass 27 = .ok (.getfield 64, 3) := by decide +kernel
theorem dX4_pass_30 : decode cX4_pass 30 = .ok (.iload_n 1, 1) := by decide +kernel
theorem dX4_pass_31 : decode cX4_pass 31 = .ok (.iadd, 1) := by decide +kernel
theorem dX4_pass_32 : decode cX4_pass 32 = .ok (.putfield 64, 3) := by decide +kernel
theorem dX4_pass_35 : decode cX4_pass 35 = .ok (.return_, 1) := by decide +kernel
theorem dX4_expect_0 : decode cX4_expect 0 = .ok (.aload_n 0, 1) := by decide +kernel
theorem dX4_expect_1 : decode cX4_expect 1 = .ok (.iload_n 1, 1) := by decide +kernel
theorem dX4_expect_2 : decode cX4_expect 2 = .ok (.invokevirtual 98, 3) := by decide +kernel
theorem dX4_expect_5 : decode cX4_expect 5 = .ok (.lload_n 2, 1) := by decide +kernel
theorem dX4_expect_6 : decode cX4_expect 6 = .ok (.lcmp, 1) := by decide +kernel
theorem dX4_expect_7 : decode cX4_expect 7 = .ok (.ifCond .eq 12, 3) := by decide +kernel
theorem dX4_expect_10 : decode cX4_expect 10 = .ok (.aload_n 0, 1) := by decide +kernel
theorem dX4_expect_11 : decode cX4_expect 11 = .ok (.iconst 2, 1) := by decide +kernel
theorem dX4_expect_12 : decode cX4_expect 12 = .ok (.aload_n 0, 1) := by decide +kernel
theorem dX4_expect_13 : decode cX4_expect 13 = .ok (.getfield 92, 3) := by decide +kernel
theorem dX4_expect_16 : decode cX4_expect 16 = .ok (.invokevirtual 95, 3) := by decide +kernel
theorem dX4_expect_19 : decode cX4_expect 19 = .ok (.return_, 1) := by decide +kernel
theorem dX4_signed_0 : decode cX4_signed 0 = .ok (.iload_n 2, 1) := by decide +kernel
theorem dX4_signed_1 : decode cX4_signed 1 = .ok (.ifCond .le 24, 3) := by decide +kernel
theorem dX4_signed_4 : decode cX4_signed 4 = .ok (.lload_n 0, 1) := by decide +kernel
theorem dX4_signed_5 : decode cX4_signed 5 = .ok (.iload_n 2, 1) := by decide +kernel
theorem dX4_signed_6 : decode cX4_signed 6 = .ok (.iconst 1, 1) := by decide +kernel
theorem dX4_signed_7 : decode cX4_signed 7 = .ok (.isub, 1) := by decide +kernel
theorem dX4_signed_8 : decode cX4_signed 8 = .ok (.lshr, 1) := by decide +kernel
theorem dX4_signed_9 : decode cX4_signed 9 = .ok (.lconst 1, 1) := by decide +kernel
theorem dX4_signed_10 : decode cX4_signed 10 = .ok (.land, 1) := by decide +kernel
theorem dX4_signed_11 : decode cX4_signed 11 = .ok (.lconst 1, 1) := by decide +kernel
theorem dX4_signed_12 : decode cX4_signed 12 = .ok (.lcmp, 1) := by decide +kernel
theorem dX4_signed_13 : decode cX4_signed 13 = .ok (.ifCond .ne 12, 3) := by decide +kernel
theorem dX4_signed_16 : decode cX4_signed 16 = .ok (.lload_n 0, 1) := by decide +kernel
theorem dX4_signed_17 : decode cX4_signed 17 = .ok (.lconst 1, 1) := by decide +kernel
theorem dX4_signed_18 : decode cX4_signed 18 = .ok (.iload_n 2, 1) := by decide +kernel
theorem dX4_signed_19 : decode cX4_signed 19 = .ok (.lshl, 1) := by decide +kernel
theorem dX4_signed_20 : decode cX4_signed 20 = .ok (.lsub, 1) := by decide +kernel
theorem dX4_signed_21 : decode cX4_signed 21 = .ok (.l2i, 1) := by decide +kernel
theorem dX4_signed_22 : decode cX4_signed 22 = .ok (.goto 5, 3) := by decide +kernel
theorem dX4_signed_25 : decode cX4_signed 25 = .ok (.lload_n 0, 1) := by decide +kernel
theorem dX4_signed_26 : decode cX4_signed 26 = .ok (.l2i, 1) := by decide +kernel
theorem dX4_signed_27 : decode cX4_signed 27 = .ok (.ireturn, 1) := by decide +kernel
theorem dX4_unfolded_0 : decode cX4_unfolded 0 = .ok (.lload_n 0, 1) := by decide +kernel
theorem dX4_unfolded_1 : decode cX4_unfolded 1 = .ok (.lconst 1, 1) := by decide +kernel
theorem dX4_unfolded_2 : decode cX4_unfolded 2 = .ok (.land, 1) := by decide +kernel
theorem dX4_unfolded_3 : decode cX4_unfolded 3 = .ok (.lconst 0, 1) := by decide +kernel
theorem dX4_unfolded_4 : decode cX4_unfolded 4 = .ok (.lcmp, 1) := by decide +kernel
theorem dX4_unfolded_5 : decode cX4_unfolded 5 = .ok (.ifCond .ne 9, 3) := by decide +kernel
theorem dX4_unfolded_8 : decode cX4_unfolded 8 = .ok (.lload_n 0, 1) := by decide +kernel
theorem dX4_unfolded_9 : decode cX4_unfolded 9 = .ok (.iconst 1, 1) := by decide +kernel
theorem dX4_unfolded_10 : decode cX4_unfolded 10 = .ok (.lshr, 1) := by decide +kernel
theorem dX4_unfolded_11 : decode cX4_unfolded 11 = .ok (.goto 9, 3) := by decide +kernel
theorem dX4_unfolded_14 : decode cX4_unfolded 14 = .ok (.lload_n 0, 1) := by decide +kernel
theorem dX4_unfolded_15 : decode cX4_unfolded 15 = .ok (.iconst 1, 1) := by decide +kernel
theorem dX4_unfolded_16 : decode cX4_unfolded 16 = .ok (.lshr, 1) := by decide +kernel
theorem dX4_unfolded_17 : decode cX4_unfolded 17 = .ok (.lneg, 1) := by decide +kernel
theorem dX4_unfolded_18 : decode cX4_unfolded 18 = .ok (.lconst 1, 1) := by decide +kernel
theorem dX4_unfolded_19 : decode cX4_unfolded 19 = .ok (.lsub, 1) := by decide +kernel
theorem dX4_unfolded_20 : decode cX4_unfolded 20 = .ok (.lreturn, 1) := by decide +kernel
theorem dX4_openStream_0 : decode cX4_openStream 0 = .ok (.aload_n 0, 1) := by decide +kernel
theorem dX4_openStream_1 : decode cX4_openStream 1 = .ok (.bipush 32, 2) := by decide +kernel
theorem dX4_openStream_3 : decode cX4_openStream 3 = .ok (.ldc2_w 102, 3) := by decide +kernel
theorem dX4_openStream_6 : decode cX4_openStream 6 = .ok (.invokevirtual 104, 3) := by decide +kernel
theorem dX4_openStream_9 : decode cX4_openStream 9 = .ok (.aload_n 0, 1) := by decide +kernel
theorem dX4_openStream_10 : decode cX4_openStream 10 = .ok (.iconst 1, 1) := by decide +kernel
theorem dX4_openStream_11 : decode cX4_openStream 11 = .ok (.invokevirtual 98, 3) := by decide +kernel
theorem dX4_openStream_14 : decode cX4_openStream 14 = .ok (.lconst 1, 1) := by decide +kernel
theorem dX4_openStream_15 : decode cX4_openStream 15 = .ok (.lcmp, 1) := by decide +kernel
theorem dX4_openStream_16 : decode cX4_openStream 16 = .ok (.ifCond .ne 7, 3) := by decide +kernel
theorem dX4_openStream_19 : decode cX4_openStream 19 = .ok (.iconst 1, 1) := by decide +kernel
theorem dX4_openStream_20 : decode cX4_openStream 20 = .ok (.goto 4, 3) := by decide +kernel
theorem dX4_openStream_23 : decode cX4_openStream 23 = .ok (.iconst 0, 1) := by decide +kernel
theorem dX4_openStream_24 : decode cX4_openStream 24 = .ok (.istore_n 1, 1) := by decide +kernel
theorem dX4_openStream_25 : decode cX4_openStream 25 = .ok (.aload_n 0, 1) := by decide +kernel
theorem dX4_openStream_26 : decode cX4_openStream 26 = .ok (.bipush 7, 2) := by decide +kernel
theorem dX4_openStream_28 : decode cX4_openStream 28 = .ok (.lconst 0, 1) := by decide +kernel
theorem dX4_openStream_29 : decode cX4_openStream 29 = .ok (.invokevirtual 104, 3) := by decide +kernel
theorem dX4_openStream_32 : decode cX4_openStream 32 = .ok (.aload_n 0, 1) := by decide +kernel
theorem dX4_openStream_33 : decode cX4_openStream 33 = .ok (.bipush 24, 2) := by decide +kernel
theorem dX4_openStream_35 : decode cX4_openStream 35 = .ok (.ldc2_w 108, 3) := by decide +kernel
theorem dX4_openStream_38 : decode cX4_openStream 38 = .ok (.invokevirtual 104, 3) := by decide +kernel
theorem dX4_openStream_41 : decode cX4_openStream 41 = .ok (.aload_n 0, 1) := by decide +kernel
theorem dX4_openStream_42 : decode cX4_openStream 42 = .ok (.invokevirtual 110, 3) := by decide +kernel
theorem dX4_openStream_45 : decode cX4_openStream 45 = .ok (.iconst 0, 1) := by decide +kernel
theorem dX4_openStream_46 : decode cX4_openStream 46 = .ok (.istore_n 2, 1) := by decide +kernel
theorem dX4_openStream_47 : decode cX4_openStream 47 = .ok (.iload_n 1, 1) := by decide +kernel
theorem dX4_openStream_48 : decode cX4_openStream 48 = .ok (.ifCond .ne 64, 3) := by decide +kernel
theorem dX4_openStream_51 : decode cX4_openStream 51 = .ok (.iload_n 2, 1) := by decide +kernel
theorem dX4_openStream_52 : decode cX4_openStream 52 = .ok (.sipush 5000, 3) := by decide +kernel
theorem dX4_openStream_55 : decode cX4_openStream 55 = .ok (.if_icmp .ge 57, 3) := by decide +kernel
theorem dX4_openStream_58 : decode cX4_openStream 58 = .ok (.aload_n 0, 1) := by decide +kernel
theorem dX4_openStream_59 : decode cX4_openStream 59 = .ok (.iconst 1, 1) := by decide +kernel
theorem dX4_openStream_60 : decode cX4_openStream 60 = .ok (.invokevirtual 98, 3) := by decide +kernel
theorem dX4_openStream_63 : decode cX4_openStream 63 = .ok (.lconst 1, 1) := by decide +kernel
theorem dX4_openStream_64 : decode cX4_openStream 64 = .ok (.lcmp, 1) := by decide +kernel
theorem dX4_openStream_65 : decode cX4_openStream 65 = .ok (.ifCond .ne 7, 3) := by decide +kernel
theorem dX4_openStream_68 : decode cX4_openStream 68 = .ok (.iconst 1, 1) := by decide +kernel
theorem dX4_openStream_69 : decode cX4_openStream 69 = .ok (.goto 4, 3) := by decide +kernel
theorem dX4_openStream_72 : decode cX4_openStream 72 = .ok (.iconst 0, 1) := by decide +kernel
theorem dX4_openStream_73 : decode cX4_openStream 73 = .ok (.istore_n 1, 1) := by decide +kernel
theorem dX4_openStream_74 : decode cX4_openStream 74 = .ok (.aload_n 0, 1) := by decide +kernel
theorem dX4_openStream_75 : decode cX4_openStream 75 = .ok (.aload_n 0, 1) := by decide +kernel
theorem dX4_openStream_76 : decode cX4_openStream 76 = .ok (.bipush 7, 2) := by decide +kernel
theorem dX4_openStream_78 : decode cX4_openStream 78 = .ok (.invokevirtual 98, 3) := by decide +kernel
theorem dX4_openStream_81 : decode cX4_openStream 81 = .ok (.lconst 1, 1) := by decide +kernel
theorem dX4_openStream_82 : decode cX4_openStream 82 = .ok (.ldc2_w 113, 3) := by decide +kernel
theorem dX4_openStream_85 : decode cX4_openStream 85 = .ok (.invokestatic 115, 3) := by decide +kernel
theorem dX4_openStream_88 : decode cX4_openStream 88 = .ok (.iconst 2, 1) := by decide +kernel
theorem dX4_openStream_89 : decode cX4_openStream 89 = .ok (.invokevirtual 119, 3) := by decide +kernel
theorem dX4_openStream_92 : decode cX4_openStream 92 = .ok (.aload_n 0, 1) := by decide +kernel
theorem dX4_openStream_93 : decode cX4_openStream 93 = .ok (.bipush 8, 2) := by decide +kernel
theorem dX4_openStream_95 : decode cX4_openStream 95 = .ok (.aload_n 0, 1) := by decide +kernel
theorem dX4_openStream_96 : decode cX4_openStream 96 = .ok (.bipush 24, 2) := by decide +kernel
theorem dX4_openStream_98 : decode cX4_openStream 98 = .ok (.invokevirtual 98, 3) := by decide +kernel
theorem dX4_openStream_101 : decode cX4_openStream 101 = .ok (.l2i, 1) := by decide +kernel
theorem dX4_openStream_102 : decode cX4_openStream 102 = .ok (.imul, 1) := by decide +kernel
theorem dX4_openStream_103 : decode cX4_openStream 103 = .ok (.invokevirtual 123, 3) := by decide +kernel
theorem dX4_openStream_106 : decode cX4_openStream 106 = .ok (.iinc 2 1, 3) := by decide +kernel
theorem dX4_openStream_109 : decode cX4_openStream 109 = .ok (.goto (-62), 3) := by decide +kernel
theorem dX4_openStream_112 : decode cX4_openStream 112 = .ok (.return_, 1) := by decide +kernel
theorem dX4_readSettings_0 : decode cX4_readSettings 0 = .ok (.aload_n 0, 1) := by decide +kernel
theorem dX4_readSettings_1 : decode cX4_readSettings 1 = .ok (.getfield 28, 3) := by decide +kernel
theorem dX4_readSettings_4 : decode cX4_readSettings 4 = .ok (.aload_n 0, 1) := by decide +kernel
theorem dX4_readSettings_5 : decode cX4_readSettings 5 = .ok (.bipush 16, 2) := by decide +kernel
theorem dX4_readSettings_7 : decode cX4_readSettings 7 = .ok (.invokevirtual 98, 3) := by decide +kernel
theorem dX4_readSettings_10 : decode cX4_readSettings 10 = .ok (.l2i, 1) := by decide +kernel
theorem dX4_readSettings_11 : decode cX4_readSettings 11 = .ok (.putfield 70, 3) := by decide +kernel
theorem dX4_readSettings_14 : decode cX4_readSettings 14 = .ok (.aload_n 0, 1) := by decide +kernel
theorem dX4_readSettings_15 : decode cX4_readSettings 15 = .ok (.aload_n 0, 1) := by decide +kernel
theorem dX4_readSettings_16 : decode cX4_readSettings 16 = .ok (.getfield 28, 3) := by decide +kernel
theorem dX4_readSettings_19 : decode cX4_readSettings 19 = .ok (.getfield 70, 3) := by decide +kernel
theorem dX4_readSettings_22 : decode cX4_readSettings 22 = .ok (.i2l, 1) := by decide +kernel
theorem dX4_readSettings_23 : decode cX4_readSettings 23 = .ok (.ldc2_w 126, 3) := by decide +kernel
theorem dX4_readSettings_26 : decode cX4_readSettings 26 = .ok (.ldc2_w 128, 3) := by decide +kernel
theorem dX4_readSettings_29 : decode cX4_readSettings 29 = .ok (.invokestatic 115, 3) := by decide +kernel
theorem dX4_readSettings_32 : decode cX4_readSettings 32 = .ok (.iconst 2, 1) := by decide +kernel
theorem dX4_readSettings_33 : decode cX4_readSettings 33 = .ok (.invokevirtual 119, 3) := by decide +kernel
theorem dX4_readSettings_36 : decode cX4_readSettings 36 = .ok (.aload_n 0, 1) := by decide +kernel
theorem dX4_readSettings_37 : decode cX4_readSettings 37 = .ok (.bipush 16, 2) := by decide +kernel
theorem dX4_readSettings_39 : decode cX4_readSettings 39 = .ok (.aload_n 0, 1) := by decide +kernel
theorem dX4_readSettings_40 : decode cX4_readSettings 40 = .ok (.getfield 28, 3) := by decide +kernel
theorem dX4_readSettings_43 : decode cX4_readSettings 43 = .ok (.getfield 70, 3) := by decide +kernel
theorem dX4_readSettings_46 : decode cX4_readSettings 46 = .ok (.i2l, 1) := by decide +kernel
theorem dX4_readSettings_47 : decode cX4_readSettings 47 = .ok (.invokevirtual 104, 3) := by decide +kernel
theorem dX4_readSettings_50 : decode cX4_readSettings 50 = .ok (.aload_n 0, 1) := by decide +kernel
theorem dX4_readSettings_51 : decode cX4_readSettings 51 = .ok (.bipush 24, 2) := by decide +kernel
theorem dX4_readSettings_53 : decode cX4_readSettings 53 = .ok (.invokevirtual 123, 3) := by decide +kernel
theorem dX4_readSettings_56 : decode cX4_readSettings 56 = .ok (.aload_n 0, 1) := by decide +kernel
theorem dX4_readSettings_57 : decode cX4_readSettings 57 = .ok (.bipush 24, 2) := by decide +kernel
theorem dX4_readSettings_59 : decode cX4_readSettings 59 = .ok (.invokevirtual 123, 3) := by decide +kernel
theorem dX4_readSettings_62 : decode cX4_readSettings 62 = .ok (.aload_n 0, 1) := by decide +kernel
theorem dX4_readSettings_63 : decode cX4_readSettings 63 = .ok (.getfield 28, 3) := by decide +kernel
theorem dX4_readSettings_66 : decode cX4_readSettings 66 = .ok (.aload_n 0, 1) := by decide +kernel
theorem dX4_readSettings_67 : decode cX4_readSettings 67 = .ok (.bipush 20, 2) := by decide +kernel
theorem dX4_readSettings_69 : decode cX4_readSettings 69 = .ok (.invokevirtual 98, 3) := by decide +kernel
theorem dX4_readSettings_72 : decode cX4_readSettings 72 = .ok (.l2i, 1) := by decide +kernel
theorem dX4_readSettings_73 : decode cX4_readSettings 73 = .ok (.putfield 130, 3) := by decide +kernel
theorem dX4_readSettings_76 : decode cX4_readSettings 76 = .ok (.aload_n 0, 1) := by decide +kernel
theorem dX4_readSettings_77 : decode cX4_readSettings 77 = .ok (.aload_n 0, 1) := by decide +kernel
theorem dX4_readSettings_78 : decode cX4_readSettings 78 = .ok (.getfield 28, 3) := by decide +kernel
theorem dX4_readSettings_81 : decode cX4_readSettings 81 = .ok (.getfield 130, 3) := by decide +kernel
theorem dX4_readSettings_84 : decode cX4_readSettings 84 = .ok (.i2l, 1) := by decide +kernel
theorem dX4_readSettings_85 : decode cX4_readSettings 85 = .ok (.lconst 1, 1) := by decide +kernel
theorem dX4_readSettings_86 : decode cX4_readSettings 86 = .ok (.ldc2_w 133, 3) := by decide +kernel
theorem dX4_readSettings_89 : decode cX4_readSettings 89 = .ok (.invokestatic 115, 3) := by decide +kernel
theorem dX4_readSettings_92 : decode cX4_readSettings 92 = .ok (.iconst 2, 1) := by decide +kernel
theorem dX4_readSettings_93 : decode cX4_readSettings 93 = .ok (.invokevirtual 119, 3) := by decide +kernel
theorem dX4_readSettings_96 : decode cX4_readSettings 96 = .ok (.aload_n 0, 1) := by decide +kernel
theorem dX4_readSettings_97 : decode cX4_readSettings 97 = .ok (.getfield 28, 3) := by decide +kernel
theorem dX4_readSettings_100 : decode cX4_readSettings 100 = .ok (.aload_n 0, 1) := by decide +kernel
theorem dX4_readSettings_101 : decode cX4_readSettings 101 = .ok (.iconst 3, 1) := by decide +kernel
theorem dX4_readSettings_102 : decode cX4_readSettings 102 = .ok (.invokevirtual 98, 3) := by decide +kernel
theorem dX4_readSettings_105 : decode cX4_readSettings 105 = .ok (.l2i, 1) := by decide +kernel
theorem dX4_readSettings_106 : decode cX4_readSettings 106 = .ok (.iconst 1, 1) := by decide +kernel
theorem dX4_readSettings_107 : decode cX4_readSettings 107 = .ok (.iadd, 1) := by decide +kernel
theorem dX4_readSettings_108 : decode cX4_readSettings 108 = .ok (.putfield 135, 3) := by decide +kernel
theorem dX4_readSettings_111 : decode cX4_readSettings 111 = .ok (.aload_n 0, 1) := by decide +kernel
theorem dX4_readSettings_112 : decode cX4_readSettings 112 = .ok (.getfield 28, 3) := by decide +kernel
theorem dX4_readSettings_115 : decode cX4_readSettings 115 = .ok (.aload_n 0, 1) := by decide +kernel
theorem dX4_readSettings_116 : decode cX4_readSettings 116 = .ok (.iconst 5, 1) := by decide +kernel
theorem dX4_readSettings_117 : decode cX4_readSettings 117 = .ok (.invokevirtual 98, 3) := by decide +kernel
theorem dX4_readSettings_120 : decode cX4_readSettings 120 = .ok (.l2i, 1) := by decide +kernel
theorem dX4_readSettings_121 : decode cX4_readSettings 121 = .ok (.iconst 1, 1) := by decide +kernel
theorem dX4_readSettings_122 : decode cX4_readSettings 122 = .ok (.iadd, 1) := by decide +kernel
theorem dX4_readSettings_123 : decode cX4_readSettings 123 = .ok (.putfield 138, 3) := by decide +kernel
theorem dX4_readSettings_126 : decode cX4_readSettings 126 = .ok (.aload_n 0, 1) := by decide +kernel
theorem dX4_readSettings_127 : decode cX4_readSettings 127 = .ok (.aload_n 0, 1) := by decide +kernel
theorem dX4_readSettings_128 : decode cX4_readSettings 128 = .ok (.getfield 28, 3) := by decide +kernel
theorem dX4_readSettings_131 : decode cX4_readSettings 131 = .ok (.getfield 138, 3) := by decide +kernel
theorem dX4_readSettings_134 : decode cX4_readSettings 134 = .ok (.i2l, 1) := by decide +kernel
theorem dX4_readSettings_135 : decode cX4_readSettings 135 = .ok (.ldc2_w 141, 3) := by decide +kernel
theorem dX4_readSettings_138 : decode cX4_readSettings 138 = .ok (.ldc2_w 143, 3) := by decide +kernel
theorem dX4_readSettings_141 : decode cX4_readSettings 141 = .ok (.invokestatic 115, 3) := by decide +kernel
theorem dX4_readSettings_144 : decode cX4_readSettings 144 = .ok (.iconst 2, 1) := by decide +kernel
theorem dX4_readSettings_145 : decode cX4_readSettings 145 = .ok (.invokevirtual 119, 3) := by decide +kernel
theorem dX4_readSettings_148 : decode cX4_readSettings 148 = .ok (.aload_n 0, 1) := by decide +kernel
theorem dX4_readSettings_149 : decode cX4_readSettings 149 = .ok (.bipush 36, 2) := by decide +kernel
theorem dX4_readSettings_151 : decode cX4_readSettings 151 = .ok (.invokevirtual 98, 3) := by decide +kernel
theorem dX4_readSettings_154 : decode cX4_readSettings 154 = .ok (.lstore_n 1, 1) := by decide +kernel
theorem dX4_readSettings_155 : decode cX4_readSettings 155 = .ok (.aload_n 0, 1) := by decide +kernel
theorem dX4_readSettings_156 : decode cX4_readSettings 156 = .ok (.lload_n 1, 1) := by decide +kernel
theorem dX4_readSettings_157 : decode cX4_readSettings 157 = .ok (.aload_n 0, 1) := by decide +kernel
theorem dX4_readSettings_158 : decode cX4_readSettings 158 = .ok (.getfield 28, 3) := by decide +kernel
theorem dX4_readSettings_161 : decode cX4_readSettings 161 = .ok (.getfield 135, 3) := by decide +kernel
theorem dX4_readSettings_164 : decode cX4_readSettings 164 = .ok (.i2l, 1) := by decide +kernel
theorem dX4_readSettings_165 : decode cX4_readSettings 165 = .ok (.lmul, 1) := by decide +kernel
theorem dX4_readSettings_166 : decode cX4_readSettings 166 = .ok (.ldc2_w 145, 3) := by decide +kernel
theorem dX4_readSettings_169 : decode cX4_readSettings 169 = .ok (.lcmp, 1) := by decide +kernel
theorem dX4_readSettings_170 : decode cX4_readSettings 170 = .ok (.ifCond .gt 7, 3) := by decide +kernel
theorem dX4_readSettings_173 : decode cX4_readSettings 173 = .ok (.iconst 1, 1) := by decide +kernel
theorem dX4_readSettings_174 : decode cX4_readSettings 174 = .ok (.goto 4, 3) := by decide +kernel
theorem dX4_readSettings_177 : decode cX4_readSettings 177 = .ok (.iconst 0, 1) := by decide +kernel
theorem dX4_readSettings_178 : decode cX4_readSettings 178 = .ok (.iconst 4, 1) := by decide +kernel
theorem dX4_readSettings_179 : decode cX4_readSettings 179 = .ok (.invokevirtual 119, 3) := by decide +kernel
theorem dX4_readSettings_182 : decode cX4_readSettings 182 = .ok (.aload_n 0, 1) := by decide +kernel
theorem dX4_readSettings_183 : decode cX4_readSettings 183 = .ok (.lload_n 1, 1) := by decide +kernel
theorem dX4_readSettings_184 : decode cX4_readSettings 184 = .ok (.l2i, 1) := by decide +kernel
theorem dX4_readSettings_185 : decode cX4_readSettings 185 = .ok (.putfield 73, 3) := by decide +kernel
theorem dX4_readSettings_188 : decode cX4_readSettings 188 = .ok (.aload_n 0, 1) := by decide +kernel
theorem dX4_readSettings_189 : decode cX4_readSettings 189 = .ok (.sipush 128, 3) := by decide +kernel
theorem dX4_readSettings_192 : decode cX4_readSettings 192 = .ok (.invokevirtual 123, 3) := by decide +kernel
theorem dX4_readSettings_195 : decode cX4_readSettings 195 = .ok (.return_, 1) := by decide +kernel
theorem dX4_expectEnd_0 : decode cX4_expectEnd 0 = .ok (.aload_n 0, 1) := by decide +kernel
theorem dX4_expectEnd_1 : decode cX4_expectEnd 1 = .ok (.getfield 64, 3) := by decide +kernel
theorem dX4_expectEnd_4 : decode cX4_expectEnd 4 = .ok (.bipush 8, 2) := by decide +kernel
theorem dX4_expectEnd_6 : decode cX4_expectEnd 6 = .ok (.aload_n 0, 1) := by decide +kernel
theorem dX4_expectEnd_7 : decode cX4_expectEnd 7 = .ok (.getfield 15, 3) := by decide +kernel
theorem dX4_expectEnd_10 : decode cX4_expectEnd 10 = .ok (.imul, 1) := by decide +kernel
theorem dX4_expectEnd_11 : decode cX4_expectEnd 11 = .ok (.if_icmp .eq 12, 3) := by decide +kernel
theorem dX4_expectEnd_14 : decode cX4_expectEnd 14 = .ok (.aload_n 0, 1) := by decide +kernel
theorem dX4_expectEnd_15 : decode cX4_expectEnd 15 = .ok (.iconst 2, 1) := by decide +kernel
theorem dX4_expectEnd_16 : decode cX4_expectEnd 16 = .ok (.aload_n 0, 1) := by decide +kernel
theorem dX4_expectEnd_17 : decode cX4_expectEnd 17 = .ok (.getfield 64, 3) := by decide +kernel
theorem dX4_expectEnd_20 : decode cX4_expectEnd 20 = .ok (.invokevirtual 95, 3) := by decide +kernel
theorem dX4_expectEnd_23 : decode cX4_expectEnd 23 = .ok (.return_, 1) := by decide +kernel
theorem dX4_readFrame_0 : decode cX4_readFrame 0 = .ok (.aload_n 0, 1) := by decide +kernel
theorem dX4_readFrame_1 : decode cX4_readFrame 1 = .ok (.getfield 64, 3) := by decide +kernel
theorem dX4_readFrame_4 : decode cX4_readFrame 4 = .ok (.iconst 3, 1) := by decide +kernel
theorem dX4_readFrame_5 : decode cX4_readFrame 5 = .ok (.ishr, 1) := by decide +kernel
theorem dX4_readFrame_6 : decode cX4_readFrame 6 = .ok (.istore_n 3, 1) := by decide +kernel
theorem dX4_readFrame_7 : decode cX4_readFrame 7 = .ok (.aload_n 0, 1) := by decide +kernel
theorem dX4_readFrame_8 : decode cX4_readFrame 8 = .ok (.iload_n 1, 1) := by decide +kernel
theorem dX4_readFrame_9 : decode cX4_readFrame 9 = .ok (.iload_n 2, 1) := by decide +kernel
theorem dX4_readFrame_10 : decode cX4_readFrame 10 = .ok (.invokevirtual 147, 3) := by decide +kernel
theorem dX4_readFrame_13 : decode cX4_readFrame 13 = .ok (.istore 4, 2) := by decide +kernel
theorem dX4_readFrame_15 : decode cX4_readFrame 15 = .ok (.aload_n 0, 1) := by decide +kernel
theorem dX4_readFrame_16 : decode cX4_readFrame 16 = .ok (.iload_n 3, 1) := by decide +kernel
theorem dX4_readFrame_17 : decode cX4_readFrame 17 = .ok (.bipush 8, 2) := by decide +kernel
theorem dX4_readFrame_19 : decode cX4_readFrame 19 = .ok (.bipush 7, 2) := by decide +kernel
theorem dX4_readFrame_21 : decode cX4_readFrame 21 = .ok (.invokevirtual 150, 3) := by decide +kernel
theorem dX4_readFrame_24 : decode cX4_readFrame 24 = .ok (.iconst 0, 1) := by decide +kernel
theorem dX4_readFrame_25 : decode cX4_readFrame 25 = .ok (.istore 5, 2) := by decide +kernel
theorem dX4_readFrame_27 : decode cX4_readFrame 27 = .ok (.iload 5, 2) := by decide +kernel
theorem dX4_readFrame_29 : decode cX4_readFrame 29 = .ok (.aload_n 0, 1) := by decide +kernel
theorem dX4_readFrame_30 : decode cX4_readFrame 30 = .ok (.getfield 28, 3) := by decide +kernel
theorem dX4_readFrame_33 : decode cX4_readFrame 33 = .ok (.getfield 135, 3) := by decide +kernel
theorem dX4_readFrame_36 : decode cX4_readFrame 36 = .ok (.if_icmp .ge 44, 3) := by decide +kernel
theorem dX4_readFrame_39 : decode cX4_readFrame 39 = .ok (.aload_n 0, 1) := by decide +kernel
theorem dX4_readFrame_40 : decode cX4_readFrame 40 = .ok (.aload_n 0, 1) := by decide +kernel
theorem dX4_readFrame_41 : decode cX4_readFrame 41 = .ok (.getfield 38, 3) := by decide +kernel
theorem dX4_readFrame_44 : decode cX4_readFrame 44 = .ok (.iload 5, 2) := by decide +kernel
theorem dX4_readFrame_46 : decode cX4_readFrame 46 = .ok (.aaload, 1) := by decide +kernel
theorem dX4_readFrame_47 : decode cX4_readFrame 47 = .ok (.iload_n 2, 1) := by decide +kernel
theorem dX4_readFrame_48 : decode cX4_readFrame 48 = .ok (.aload_n 0, 1) := by decide +kernel
theorem dX4_readFrame_49 : decode cX4_readFrame 49 = .ok (.getfield 28, 3) := by decide +kernel
theorem dX4_readFrame_52 : decode cX4_readFrame 52 = .ok (.getfield 138, 3) := by decide +kernel
theorem dX4_readFrame_55 : decode cX4_readFrame 55 = .ok (.iload 4, 2) := by decide +kernel
theorem dX4_readFrame_57 : decode cX4_readFrame 57 = .ok (.iload 5, 2) := by decide +kernel
theorem dX4_readFrame_59 : decode cX4_readFrame 59 = .ok (.invokestatic 154, 3) := by decide +kernel
theorem dX4_readFrame_62 : decode cX4_readFrame 62 = .ok (.ifCond .eq 7, 3) := by decide +kernel
theorem dX4_readFrame_65 : decode cX4_readFrame 65 = .ok (.iconst 1, 1) := by decide +kernel
theorem dX4_readFrame_66 : decode cX4_readFrame 66 = .ok (.goto 4, 3) := by decide +kernel
theorem dX4_readFrame_69 : decode cX4_readFrame 69 = .ok (.iconst 0, 1) := by decide +kernel
theorem dX4_readFrame_70 : decode cX4_readFrame 70 = .ok (.iadd, 1) := by decide +kernel
theorem dX4_readFrame_71 : decode cX4_readFrame 71 = .ok (.invokevirtual 158, 3) := by decide +kernel
theorem dX4_readFrame_74 : decode cX4_readFrame 74 = .ok (.iinc 5 1, 3) := by decide +kernel
theorem dX4_readFrame_77 : decode cX4_readFrame 77 = .ok (.goto (-50), 3) := by decide +kernel
theorem dX4_readFrame_80 : decode cX4_readFrame 80 = .ok (.aload_n 0, 1) := by decide +kernel
theorem dX4_readFrame_81 : decode cX4_readFrame 81 = .ok (.aload_n 0, 1) := by decide +kernel
theorem dX4_readFrame_82 : decode cX4_readFrame 82 = .ok (.getfield 64, 3) := by decide +kernel
theorem dX4_readFrame_85 : decode cX4_readFrame 85 = .ok (.ineg, 1) := by decide +kernel
theorem dX4_readFrame_86 : decode cX4_readFrame 86 = .ok (.bipush 7, 2) := by decide +kernel
theorem dX4_readFrame_88 : decode cX4_readFrame 88 = .ok (.iand, 1) := by decide +kernel
theorem dX4_readFrame_89 : decode cX4_readFrame 89 = .ok (.lconst 0, 1) := by decide +kernel
theorem dX4_readFrame_90 : decode cX4_readFrame 90 = .ok (.invokevirtual 104, 3) := by decide +kernel
theorem dX4_readFrame_93 : decode cX4_readFrame 93 = .ok (.aload_n 0, 1) := by decide +kernel
theorem dX4_readFrame_94 : decode cX4_readFrame 94 = .ok (.iload_n 3, 1) := by decide +kernel
theorem dX4_readFrame_95 : decode cX4_readFrame 95 = .ok (.bipush 16, 2) := by decide +kernel
theorem dX4_readFrame_97 : decode cX4_readFrame 97 = .ok (.ldc 162, 2) := by decide +kernel
theorem dX4_readFrame_99 : decode cX4_readFrame 99 = .ok (.invokevirtual 150, 3) := by decide +kernel
theorem dX4_readFrame_102 : decode cX4_readFrame 102 = .ok (.aload_n 0, 1) := by decide +kernel
theorem dX4_readFrame_103 : decode cX4_readFrame 103 = .ok (.iload 4, 2) := by decide +kernel
theorem dX4_readFrame_105 : decode cX4_readFrame 105 = .ok (.iload_n 2, 1) := by decide +kernel
theorem dX4_readFrame_106 : decode cX4_readFrame 106 = .ok (.invokevirtual 163, 3) := by decide +kernel
theorem dX4_readFrame_109 : decode cX4_readFrame 109 = .ok (.aload_n 0, 1) := by decide +kernel
theorem dX4_readFrame_110 : decode cX4_readFrame 110 = .ok (.iload_n 1, 1) := by decide +kernel
theorem dX4_readFrame_111 : decode cX4_readFrame 111 = .ok (.aload_n 0, 1) := by decide +kernel
theorem dX4_readFrame_112 : decode cX4_readFrame 112 = .ok (.getfield 28, 3) := by decide +kernel
theorem dX4_readFrame_115 : decode cX4_readFrame 115 = .ok (.getfield 70, 3) := by decide +kernel
theorem dX4_readFrame_118 : decode cX4_readFrame 118 = .ok (.imul, 1) := by decide +kernel
theorem dX4_readFrame_119 : decode cX4_readFrame 119 = .ok (.iload_n 2, 1) := by decide +kernel
theorem dX4_readFrame_120 : decode cX4_readFrame 120 = .ok (.invokevirtual 166, 3) := by decide +kernel
theorem dX4_readFrame_123 : decode cX4_readFrame 123 = .ok (.return_, 1) := by decide +kernel
theorem dX4_keepSamples_0 : decode cX4_keepSamples 0 = .ok (.iconst 0, 1) := by decide +kernel
theorem dX4_keepSamples_1 : decode cX4_keepSamples 1 = .ok (.istore_n 3, 1) := by decide +kernel
theorem dX4_keepSamples_2 : decode cX4_keepSamples 2 = .ok (.iload_n 3, 1) := by decide +kernel
theorem dX4_keepSamples_3 : decode cX4_keepSamples 3 = .ok (.aload_n 0, 1) := by decide +kernel
theorem dX4_keepSamples_4 : decode cX4_keepSamples 4 = .ok (.getfield 28, 3) := by decide +kernel
theorem dX4_keepSamples_7 : decode cX4_keepSamples 7 = .ok (.getfield 135, 3) := by decide +kernel
theorem dX4_keepSamples_10 : decode cX4_keepSamples 10 = .ok (.if_icmp .ge 77, 3) := by decide +kernel
theorem dX4_keepSamples_13 : decode cX4_keepSamples 13 = .ok (.iconst 0, 1) := by decide +kernel
theorem dX4_keepSamples_14 : decode cX4_keepSamples 14 = .ok (.istore 4, 2) := by decide +kernel
theorem dX4_keepSamples_16 : decode cX4_keepSamples 16 = .ok (.iload 4, 2) := by decide +kernel
theorem dX4_keepSamples_18 : decode cX4_keepSamples 18 = .ok (.iload_n 2, 1) := by decide +kernel
theorem dX4_keepSamples_19 : decode cX4_keepSamples 19 = .ok (.if_icmp .ge 62, 3) := by decide +kernel
theorem dX4_keepSamples_22 : decode cX4_keepSamples 22 = .ok (.aload_n 0, 1) := by decide +kernel
theorem dX4_keepSamples_23 : decode cX4_keepSamples 23 = .ok (.aload_n 0, 1) := by decide +kernel
theorem dX4_keepSamples_24 : decode cX4_keepSamples 24 = .ok (.getfield 38, 3) := by decide +kernel
theorem dX4_keepSamples_27 : decode cX4_keepSamples 27 = .ok (.iload_n 3, 1) := by decide +kernel
theorem dX4_keepSamples_28 : decode cX4_keepSamples 28 = .ok (.aaload, 1) := by decide +kernel
theorem dX4_keepSamples_29 : decode cX4_keepSamples 29 = .ok (.iload 4, 2) := by decide +kernel
theorem dX4_keepSamples_31 : decode cX4_keepSamples 31 = .ok (.iaload, 1) := by decide +kernel
theorem dX4_keepSamples_32 : decode cX4_keepSamples 32 = .ok (.i2l, 1) := by decide +kernel
theorem dX4_keepSamples_33 : decode cX4_keepSamples 33 = .ok (.aload_n 0, 1) := by decide +kernel
theorem dX4_keepSamples_34 : decode cX4_keepSamples 34 = .ok (.getfield 28, 3) := by decide +kernel
theorem dX4_keepSamples_37 : decode cX4_keepSamples 37 = .ok (.getfield 138, 3) := by decide +kernel
theorem dX4_keepSamples_40 : decode cX4_keepSamples 40 = .ok (.invokestatic 169, 3) := by decide +kernel
theorem dX4_keepSamples_43 : decode cX4_keepSamples 43 = .ok (.iconst 4, 1) := by decide +kernel
theorem dX4_keepSamples_44 : decode cX4_keepSamples 44 = .ok (.invokevirtual 119, 3) := by decide +kernel
theorem dX4_keepSamples_47 : decode cX4_keepSamples 47 = .ok (.aload_n 0, 1) := by decide +kernel
theorem dX4_keepSamples_48 : decode cX4_keepSamples 48 = .ok (.getfield 32, 3) := by decide +kernel
theorem dX4_keepSamples_51 : decode cX4_keepSamples 51 = .ok (.iload_n 1, 1) := by decide +kernel
theorem dX4_keepSamples_52 : decode cX4_keepSamples 52 = .ok (.iload 4, 2) := by decide +kernel
theorem dX4_keepSamples_54 : decode cX4_keepSamples 54 = .ok (.iadd, 1) := by decide +kernel
theorem dX4_keepSamples_55 : decode cX4_keepSamples 55 = .ok (.aload_n 0, 1) := by decide +kernel
theorem dX4_keepSamples_56 : decode cX4_keepSamples 56 = .ok (.getfield 28, 3) := by decide +kernel
theorem dX4_keepSamples_59 : decode cX4_keepSamples 59 = .ok (.getfield 135, 3) := by decide +kernel
theorem dX4_keepSamples_62 : decode cX4_keepSamples 62 = .ok (.imul, 1) := by decide +kernel
theorem dX4_keepSamples_63 : decode cX4_keepSamples 63 = .ok (.iload_n 3, 1) := by decide +kernel
theorem dX4_keepSamples_64 : decode cX4_keepSamples 64 = .ok (.iadd, 1) := by decide +kernel
theorem dX4_keepSamples_65 : decode cX4_keepSamples 65 = .ok (.aload_n 0, 1) := by decide +kernel
theorem dX4_keepSamples_66 : decode cX4_keepSamples 66 = .ok (.getfield 38, 3) := by decide +kernel
theorem dX4_keepSamples_69 : decode cX4_keepSamples 69 = .ok (.iload_n 3, 1) := by decide +kernel
theorem dX4_keepSamples_70 : decode cX4_keepSamples 70 = .ok (.aaload, 1) := by decide +kernel
theorem dX4_keepSamples_71 : decode cX4_keepSamples 71 = .ok (.iload 4, 2) := by decide +kernel
theorem dX4_keepSamples_73 : decode cX4_keepSamples 73 = .ok (.iaload, 1) := by decide +kernel
theorem dX4_keepSamples_74 : decode cX4_keepSamples 74 = .ok (.iastore, 1) := by decide +kernel
theorem dX4_keepSamples_75 : decode cX4_keepSamples 75 = .ok (.iinc 4 1, 3) := by decide +kernel
theorem dX4_keepSamples_78 : decode cX4_keepSamples 78 = .ok (.goto (-62), 3) := by decide +kernel
theorem dX4_keepSamples_81 : decode cX4_keepSamples 81 = .ok (.iinc 3 1, 3) := by decide +kernel
theorem dX4_keepSamples_84 : decode cX4_keepSamples 84 = .ok (.goto (-82), 3) := by decide +kernel
theorem dX4_keepSamples_87 : decode cX4_keepSamples 87 = .ok (.return_, 1) := by decide +kernel
theorem dX4_readHeader_0 : decode cX4_readHeader 0 = .ok (.aload_n 0, 1) := by decide +kernel
theorem dX4_readHeader_1 : decode cX4_readHeader 1 = .ok (.bipush 14, 2) := by decide +kernel
theorem dX4_readHeader_3 : decode cX4_readHeader 3 = .ok (.ldc2_w 173, 3) := by decide +kernel
theorem dX4_readHeader_6 : decode cX4_readHeader 6 = .ok (.invokevirtual 104, 3) := by decide +kernel
theorem dX4_readHeader_9 : decode cX4_readHeader 9 = .ok (.aload_n 0, 1) := by decide +kernel
theorem dX4_readHeader_10 : decode cX4_readHeader 10 = .ok (.iconst 2, 1) := by decide +kernel
theorem dX4_readHeader_11 : decode cX4_readHeader 11 = .ok (.lconst 0, 1) := by decide +kernel
theorem dX4_readHeader_12 : decode cX4_readHeader 12 = .ok (.invokevirtual 104, 3) := by decide +kernel
theorem dX4_readHeader_15 : decode cX4_readHeader 15 = .ok (.aload_n 0, 1) := by decide +kernel
theorem dX4_readHeader_16 : decode cX4_readHeader 16 = .ok (.iconst 4, 1) := by decide +kernel
theorem dX4_readHeader_17 : decode cX4_readHeader 17 = .ok (.ldc2_w 175, 3) := by decide +kernel
theorem dX4_readHeader_20 : decode cX4_readHeader 20 = .ok (.invokevirtual 104, 3) := by decide +kernel
theorem dX4_readHeader_23 : decode cX4_readHeader 23 = .ok (.aload_n 0, 1) := by decide +kernel
theorem dX4_readHeader_24 : decode cX4_readHeader 24 = .ok (.iconst 4, 1) := by decide +kernel
theorem dX4_readHeader_25 : decode cX4_readHeader 25 = .ok (.lconst 0, 1) := by decide +kernel
theorem dX4_readHeader_26 : decode cX4_readHeader 26 = .ok (.invokevirtual 104, 3) := by decide +kernel
theorem dX4_readHeader_29 : decode cX4_readHeader 29 = .ok (.aload_n 0, 1) := by decide +kernel
theorem dX4_readHeader_30 : decode cX4_readHeader 30 = .ok (.iconst 4, 1) := by decide +kernel
theorem dX4_readHeader_31 : decode cX4_readHeader 31 = .ok (.invokevirtual 98, 3) := by decide +kernel
theorem dX4_readHeader_34 : decode cX4_readHeader 34 = .ok (.l2i, 1) := by decide +kernel
theorem dX4_readHeader_35 : decode cX4_readHeader 35 = .ok (.istore_n 3, 1) := by decide +kernel
theorem dX4_readHeader_36 : decode cX4_readHeader 36 = .ok (.aload_n 0, 1) := by decide +kernel
theorem dX4_readHeader_37 : decode cX4_readHeader 37 = .ok (.getfield 28, 3) := by decide +kernel
theorem dX4_readHeader_40 : decode cX4_readHeader 40 = .ok (.getfield 135, 3) := by decide +kernel
theorem dX4_readHeader_43 : decode cX4_readHeader 43 = .ok (.iconst 2, 1) := by decide +kernel
theorem dX4_readHeader_44 : decode cX4_readHeader 44 = .ok (.if_icmp .ne 21, 3) := by decide +kernel
theorem dX4_readHeader_47 : decode cX4_readHeader 47 = .ok (.iload_n 3, 1) := by decide +kernel
theorem dX4_readHeader_48 : decode cX4_readHeader 48 = .ok (.i2l, 1) := by decide +kernel
theorem dX4_readHeader_49 : decode cX4_readHeader 49 = .ok (.ldc2_w 177, 3) := by decide +kernel
theorem dX4_readHeader_52 : decode cX4_readHeader 52 = .ok (.ldc2_w 179, 3) := by decide +kernel
theorem dX4_readHeader_55 : decode cX4_readHeader 55 = .ok (.invokestatic 115, 3) := by decide +kernel
theorem dX4_readHeader_58 : decode cX4_readHeader 58 = .ok (.ifCond .eq 7, 3) := by decide +kernel
theorem dX4_readHeader_61 : decode cX4_readHeader 61 = .ok (.iconst 1, 1) := by decide +kernel
theorem dX4_readHeader_62 : decode cX4_readHeader 62 = .ok (.goto 4, 3) := by decide +kernel
theorem dX4_readHeader_65 : decode cX4_readHeader 65 = .ok (.iconst 0, 1) := by decide +kernel
theorem dX4_readHeader_66 : decode cX4_readHeader 66 = .ok (.istore 4, 2) := by decide +kernel
theorem dX4_readHeader_68 : decode cX4_readHeader 68 = .ok (.aload_n 0, 1) := by decide +kernel
theorem dX4_readHeader_69 : decode cX4_readHeader 69 = .ok (.iload 4, 2) := by decide +kernel
theorem dX4_readHeader_71 : decode cX4_readHeader 71 = .ok (.ifCond .ne 16, 3) := by decide +kernel
theorem dX4_readHeader_74 : decode cX4_readHeader 74 = .ok (.iload_n 3, 1) := by decide +kernel
theorem dX4_readHeader_75 : decode cX4_readHeader 75 = .ok (.aload_n 0, 1) := by decide +kernel
theorem dX4_readHeader_76 : decode cX4_readHeader 76 = .ok (.getfield 28, 3) := by decide +kernel
theorem dX4_readHeader_79 : decode cX4_readHeader 79 = .ok (.getfield 135, 3) := by decide +kernel
theorem dX4_readHeader_82 : decode cX4_readHeader 82 = .ok (.iconst 1, 1) := by decide +kernel
theorem dX4_readHeader_83 : decode cX4_readHeader 83 = .ok (.isub, 1) := by decide +kernel
theorem dX4_readHeader_84 : decode cX4_readHeader 84 = .ok (.if_icmp .ne 7, 3) := by decide +kernel
theorem dX4_readHeader_87 : decode cX4_readHeader 87 = .ok (.iconst 1, 1) := by decide +kernel
theorem dX4_readHeader_88 : decode cX4_readHeader 88 = .ok (.goto 4, 3) := by decide +kernel
theorem dX4_readHeader_91 : decode cX4_readHeader 91 = .ok (.iconst 0, 1) := by decide +kernel
theorem dX4_readHeader_92 : decode cX4_readHeader 92 = .ok (.iconst 2, 1) := by decide +kernel
theorem dX4_readHeader_93 : decode cX4_readHeader 93 = .ok (.invokevirtual 119, 3) := by decide +kernel
theorem dX4_readHeader_96 : decode cX4_readHeader 96 = .ok (.aload_n 0, 1) := by decide +kernel
theorem dX4_readHeader_97 : decode cX4_readHeader 97 = .ok (.iconst 4, 1) := by decide +kernel
theorem dX4_readHeader_98 : decode cX4_readHeader 98 = .ok (.lconst 0, 1) := by decide +kernel
theorem dX4_readHeader_99 : decode cX4_readHeader 99 = .ok (.invokevirtual 104, 3) := by decide +kernel
theorem dX4_readHeader_102 : decode cX4_readHeader 102 = .ok (.aload_n 0, 1) := by decide +kernel
theorem dX4_readHeader_103 : decode cX4_readHeader 103 = .ok (.iload_n 1, 1) := by decide +kernel
theorem dX4_readHeader_104 : decode cX4_readHeader 104 = .ok (.invokevirtual 181, 3) := by decide +kernel
theorem dX4_readHeader_107 : decode cX4_readHeader 107 = .ok (.aload_n 0, 1) := by decide +kernel
theorem dX4_readHeader_108 : decode cX4_readHeader 108 = .ok (.aload_n 0, 1) := by decide +kernel
theorem dX4_readHeader_109 : decode cX4_readHeader 109 = .ok (.bipush 8, 2) := by decide +kernel
theorem dX4_readHeader_111 : decode cX4_readHeader 111 = .ok (.invokevirtual 98, 3) := by decide +kernel
theorem dX4_readHeader_114 : decode cX4_readHeader 114 = .ok (.iload_n 2, 1) := by decide +kernel
theorem dX4_readHeader_115 : decode cX4_readHeader 115 = .ok (.iconst 1, 1) := by decide +kernel
theorem dX4_readHeader_116 : decode cX4_readHeader 116 = .ok (.isub, 1) := by decide +kernel
theorem dX4_readHeader_117 : decode cX4_readHeader 117 = .ok (.i2l, 1) := by decide +kernel
theorem dX4_readHeader_118 : decode cX4_readHeader 118 = .ok (.lcmp, 1) := by decide +kernel
theorem dX4_readHeader_119 : decode cX4_readHeader 119 = .ok (.ifCond .ne 7, 3) := by decide +kernel
theorem dX4_readHeader_122 : decode cX4_readHeader 122 = .ok (.iconst 1, 1) := by decide +kernel
theorem dX4_readHeader_123 : decode cX4_readHeader 123 = .ok (.goto 4, 3) := by decide +kernel
theorem dX4_readHeader_126 : decode cX4_readHeader 126 = .ok (.iconst 0, 1) := by decide +kernel
theorem dX4_readHeader_127 : decode cX4_readHeader 127 = .ok (.iconst 4, 1) := by decide +kernel
theorem dX4_readHeader_128 : decode cX4_readHeader 128 = .ok (.invokevirtual 119, 3) := by decide +kernel
theorem dX4_readHeader_131 : decode cX4_readHeader 131 = .ok (.iload_n 3, 1) := by decide +kernel
theorem dX4_readHeader_132 : decode cX4_readHeader 132 = .ok (.ireturn, 1) := by decide +kernel
theorem dX4_readFrameNumber_0 : decode cX4_readFrameNumber 0 = .ok (.aload_n 0, 1) := by decide +kernel
theorem dX4_readFrameNumber_1 : decode cX4_readFrameNumber 1 = .ok (.bipush 8, 2) := by decide +kernel
theorem dX4_readFrameNumber_3 : decode cX4_readFrameNumber 3 = .ok (.invokevirtual 98, 3) := by decide +kernel
theorem dX4_readFrameNumber_6 : decode cX4_readFrameNumber 6 = .ok (.lstore_n 2, 1) := by decide +kernel
theorem dX4_readFrameNumber_7 : decode cX4_readFrameNumber 7 = .ok (.aload_n 0, 1) := by decide +kernel
theorem dX4_readFrameNumber_8 : decode cX4_readFrameNumber 8 = .ok (.lload_n 2, 1) := by decide +kernel
theorem dX4_readFrameNumber_9 : decode cX4_readFrameNumber 9 = .ok (.lconst 0, 1) := by decide +kernel
theorem dX4_readFrameNumber_10 : decode cX4_readFrameNumber 10 = .ok (.ldc2_w 184, 3) := by decide +kernel
theorem dX4_readFrameNumber_13 : decode cX4_readFrameNumber 13 = .ok (.invokestatic 115, 3) := by decide +kernel
theorem dX4_readFrameNumber_16 : decode cX4_readFrameNumber 16 = .ok (.ifCond .ne 16, 3) := by decide +kernel
theorem dX4_readFrameNumber_19 : decode cX4_readFrameNumber 19 = .ok (.lload_n 2, 1) := by decide +kernel
theorem dX4_readFrameNumber_20 : decode cX4_readFrameNumber 20 = .ok (.ldc2_w 186, 3) := by decide +kernel
theorem dX4_readFrameNumber_23 : decode cX4_readFrameNumber 23 = .ok (.ldc2_w 188, 3) := by decide +kernel
theorem dX4_readFrameNumber_26 : decode cX4_readFrameNumber 26 = .ok (.invokestatic 115, 3) := by decide +kernel
theorem dX4_readFrameNumber_29 : decode cX4_readFrameNumber 29 = .ok (.ifCond .eq 7, 3) := by decide +kernel
theorem dX4_readFrameNumber_32 : decode cX4_readFrameNumber 32 = .ok (.iconst 1, 1) := by decide +kernel
theorem dX4_readFrameNumber_33 : decode cX4_readFrameNumber 33 = .ok (.goto 4, 3) := by decide +kernel
theorem dX4_readFrameNumber_36 : decode cX4_readFrameNumber 36 = .ok (.iconst 0, 1) := by decide +kernel
theorem dX4_readFrameNumber_37 : decode cX4_readFrameNumber 37 = .ok (.iconst 2, 1) := by decide +kernel
theorem dX4_readFrameNumber_38 : decode cX4_readFrameNumber 38 = .ok (.invokevirtual 119, 3) := by decide +kernel
theorem dX4_readFrameNumber_41 : decode cX4_readFrameNumber 41 = .ok (.aload_n 0, 1) := by decide +kernel
theorem dX4_readFrameNumber_42 : decode cX4_readFrameNumber 42 = .ok (.lload_n 2, 1) := by decide +kernel
theorem dX4_readFrameNumber_43 : decode cX4_readFrameNumber 43 = .ok (.iload_n 1, 1) := by decide +kernel
theorem dX4_readFrameNumber_44 : decode cX4_readFrameNumber 44 = .ok (.sipush 128, 3) := by decide +kernel
theorem dX4_readFrameNumber_47 : decode cX4_readFrameNumber 47 = .ok (.if_icmp .ge 7, 3) := by decide +kernel
theorem dX4_readFrameNumber_50 : decode cX4_readFrameNumber 50 = .ok (.iload_n 1, 1) := by decide +kernel
theorem dX4_readFrameNumber_51 : decode cX4_readFrameNumber 51 = .ok (.goto 11, 3) := by decide +kernel
theorem dX4_readFrameNumber_54 : decode cX4_readFrameNumber 54 = .ok (.sipush 192, 3) := by decide +kernel
theorem dX4_readFrameNumber_57 : decode cX4_readFrameNumber 57 = .ok (.iload_n 1, 1) := by decide +kernel
theorem dX4_readFrameNumber_58 : decode cX4_readFrameNumber 58 = .ok (.bipush 6, 2) := by decide +kernel
theorem dX4_readFrameNumber_60 : decode cX4_readFrameNumber 60 = .ok (.ishr, 1) := by decide +kernel
theorem dX4_readFrameNumber_61 : decode cX4_readFrameNumber 61 = .ok (.iadd, 1) := by decide +kernel
theorem dX4_readFrameNumber_62 : decode cX4_readFrameNumber 62 = .ok (.i2l, 1) := by decide +kernel
theorem dX4_readFrameNumber_63 : decode cX4_readFrameNumber 63 = .ok (.lcmp, 1) := by decide +kernel
theorem dX4_readFrameNumber_64 : decode cX4_readFrameNumber 64 = .ok (.ifCond .ne 7, 3) := by decide +kernel
theorem dX4_readFrameNumber_67 : decode cX4_readFrameNumber 67 = .ok (.iconst 1, 1) := by decide +kernel
theorem dX4_readFrameNumber_68 : decode cX4_readFrameNumber 68 = .ok (.goto 4, 3) := by decide +kernel
theorem dX4_readFrameNumber_71 : decode cX4_readFrameNumber 71 = .ok (.iconst 0, 1) := by decide +kernel
theorem dX4_readFrameNumber_72 : decode cX4_readFrameNumber 72 = .ok (.iconst 4, 1) := by decide +kernel
theorem dX4_readFrameNumber_73 : decode cX4_readFrameNumber 73 = .ok (.invokevirtual 119, 3) := by decide +kernel
theorem dX4_readFrameNumber_76 : decode cX4_readFrameNumber 76 = .ok (.iload_n 1, 1) := by decide +kernel
theorem dX4_readFrameNumber_77 : decode cX4_readFrameNumber 77 = .ok (.sipush 128, 3) := by decide +kernel
theorem dX4_readFrameNumber_80 : decode cX4_readFrameNumber 80 = .ok (.if_icmp .lt 52, 3) := by decide +kernel
theorem dX4_readFrameNumber_83 : decode cX4_readFrameNumber 83 = .ok (.aload_n 0, 1) := by decide +kernel
theorem dX4_readFrameNumber_84 : decode cX4_readFrameNumber 84 = .ok (.bipush 8, 2) := by decide +kernel
theorem dX4_readFrameNumber_86 : decode cX4_readFrameNumber 86 = .ok (.invokevirtual 98, 3) := by decide +kernel
theorem dX4_readFrameNumber_89 : decode cX4_readFrameNumber 89 = .ok (.lstore 4, 2) := by decide +kernel
theorem dX4_readFrameNumber_91 : decode cX4_readFrameNumber 91 = .ok (.aload_n 0, 1) := by decide +kernel
theorem dX4_readFrameNumber_92 : decode cX4_readFrameNumber 92 = .ok (.lload 4, 2) := by decide +kernel
theorem dX4_readFrameNumber_94 : decode cX4_readFrameNumber 94 = .ok (.ldc2_w 190, 3) := by decide +kernel
theorem dX4_readFrameNumber_97 : decode cX4_readFrameNumber 97 = .ok (.ldc2_w 192, 3) := by decide +kernel
theorem dX4_readFrameNumber_100 : decode cX4_readFrameNumber 100 = .ok (.invokestatic 115, 3) := by decide +kernel
theorem dX4_readFrameNumber_103 : decode cX4_readFrameNumber 103 = .ok (.iconst 2, 1) := by decide +kernel
theorem dX4_readFrameNumber_104 : decode cX4_readFrameNumber 104 = .ok (.invokevirtual 119, 3) := by decide +kernel
theorem dX4_readFrameNumber_107 : decode cX4_readFrameNumber 107 = .ok (.aload_n 0, 1) := by decide +kernel
theorem dX4_readFrameNumber_108 : decode cX4_readFrameNumber 108 = .ok (.lload 4, 2) := by decide +kernel
theorem dX4_readFrameNumber_110 : decode cX4_readFrameNumber 110 = .ok (.sipush 128, 3) := by decide +kernel
theorem dX4_readFrameNumber_113 : decode cX4_readFrameNumber 113 = .ok (.iload_n 1, 1) := by decide +kernel
theorem dX4_readFrameNumber_114 : decode cX4_readFrameNumber 114 = .ok (.bipush 63, 2) := by decide +kernel
theorem dX4_readFrameNumber_116 : decode cX4_readFrameNumber 116 = .ok (.iand, 1) := by decide +kernel
theorem dX4_readFrameNumber_117 : decode cX4_readFrameNumber 117 = .ok (.iadd, 1) := by decide +kernel
theorem dX4_readFrameNumber_118 : decode cX4_readFrameNumber 118 = .ok (.i2l, 1) := by decide +kernel
theorem dX4_readFrameNumber_119 : decode cX4_readFrameNumber 119 = .ok (.lcmp, 1) := by decide +kernel
theorem dX4_readFrameNumber_120 : decode cX4_readFrameNumber 120 = .ok (.ifCond .ne 7, 3) := by decide +kernel
theorem dX4_readFrameNumber_123 : decode cX4_readFrameNumber 123 = .ok (.iconst 1, 1) := by decide +kernel
theorem dX4_readFrameNumber_124 : decode cX4_readFrameNumber 124 = .ok (.goto 4, 3) := by decide +kernel
theorem dX4_readFrameNumber_127 : decode cX4_readFrameNumber 127 = .ok (.iconst 0, 1) := by decide +kernel
theorem dX4_readFrameNumber_128 : decode cX4_readFrameNumber 128 = .ok (.iconst 4, 1) := by decide +kernel
theorem dX4_readFrameNumber_129 : decode cX4_readFrameNumber 129 = .ok (.invokevirtual 119, 3) := by decide +kernel
theorem dX4_readFrameNumber_132 : decode cX4_readFrameNumber 132 = .ok (.return_, 1) := by decide +kernel
theorem dX4_expectSum_0 : decode cX4_expectSum 0 = .ok (.aload_n 0, 1) := by decide +kernel
theorem dX4_expectSum_1 : decode cX4_expectSum 1 = .ok (.getfield 9, 3) := by decide +kernel
theorem dX4_expectSum_4 : decode cX4_expectSum 4 = .ok (.iload_n 1, 1) := by decide +kernel
theorem dX4_expectSum_5 : decode cX4_expectSum 5 = .ok (.aload_n 0, 1) := by decide +kernel
theorem dX4_expectSum_6 : decode cX4_expectSum 6 = .ok (.getfield 64, 3) := by decide +kernel
theorem dX4_expectSum_9 : decode cX4_expectSum 9 = .ok (.iconst 3, 1) := by decide +kernel
theorem dX4_expectSum_10 : decode cX4_expectSum 10 = .ok (.ishr, 1) := by decide +kernel
theorem dX4_expectSum_11 : decode cX4_expectSum 11 = .ok (.iload_n 2, 1) := by decide +kernel
theorem dX4_expectSum_12 : decode cX4_expectSum 12 = .ok (.iload_n 3, 1) := by decide +kernel
theorem dX4_expectSum_13 : decode cX4_expectSum 13 = .ok (.invokestatic 194, 3) := by decide +kernel
theorem dX4_expectSum_16 : decode cX4_expectSum 16 = .ok (.istore 4, 2) := by decide +kernel
theorem dX4_expectSum_18 : decode cX4_expectSum 18 = .ok (.aload_n 0, 1) := by decide +kernel
theorem dX4_expectSum_19 : decode cX4_expectSum 19 = .ok (.aload_n 0, 1) := by decide +kernel
theorem dX4_expectSum_20 : decode cX4_expectSum 20 = .ok (.iload_n 2, 1) := by decide +kernel
theorem dX4_expectSum_21 : decode cX4_expectSum 21 = .ok (.invokevirtual 98, 3) := by decide +kernel
theorem dX4_expectSum_24 : decode cX4_expectSum 24 = .ok (.iload 4, 2) := by decide +kernel
theorem dX4_expectSum_26 : decode cX4_expectSum 26 = .ok (.i2l, 1) := by decide +kernel
theorem dX4_expectSum_27 : decode cX4_expectSum 27 = .ok (.lcmp, 1) := by decide +kernel
theorem dX4_expectSum_28 : decode cX4_expectSum 28 = .ok (.ifCond .ne 7, 3) := by decide +kernel
theorem dX4_expectSum_31 : decode cX4_expectSum 31 = .ok (.iconst 1, 1) := by decide +kernel
theorem dX4_expectSum_32 : decode cX4_expectSum 32 = .ok (.goto 4, 3) := by decide +kernel
theorem dX4_expectSum_35 : decode cX4_expectSum 35 = .ok (.iconst 0, 1) := by decide +kernel
theorem dX4_expectSum_36 : decode cX4_expectSum 36 = .ok (.iconst 3, 1) := by decide +kernel
theorem dX4_expectSum_37 : decode cX4_expectSum 37 = .ok (.invokevirtual 119, 3) := by decide +kernel
theorem dX4_expectSum_40 : decode cX4_expectSum 40 = .ok (.return_, 1) := by decide +kernel
theorem dX4_readSubframe_0 : decode cX4_readSubframe 0 = .ok (.aload_n 0, 1) := by decide +kernel
theorem dX4_readSubframe_1 : decode cX4_readSubframe 1 = .ok (.iconst 1, 1) := by decide +kernel
theorem dX4_readSubframe_2 : decode cX4_readSubframe 2 = .ok (.lconst 0, 1) := by decide +kernel
theorem dX4_readSubframe_3 : decode cX4_readSubframe 3 = .ok (.invokevirtual 104, 3) := by decide +kernel
theorem dX4_readSubframe_6 : decode cX4_readSubframe 6 = .ok (.aload_n 0, 1) := by decide +kernel
theorem dX4_readSubframe_7 : decode cX4_readSubframe 7 = .ok (.bipush 6, 2) := by decide +kernel
theorem dX4_readSubframe_9 : decode cX4_readSubframe 9 = .ok (.invokevirtual 98, 3) := by decide +kernel
theorem dX4_readSubframe_12 : decode cX4_readSubframe 12 = .ok (.l2i, 1) := by decide +kernel
theorem dX4_readSubframe_13 : decode cX4_readSubframe 13 = .ok (.istore 4, 2) := by decide +kernel
theorem dX4_readSubframe_15 : decode cX4_readSubframe 15 = .ok (.iload 4, 2) := by decide +kernel
theorem dX4_readSubframe_17 : decode cX4_readSubframe 17 = .ok (.invokestatic 198, 3) := by decide +kernel
theorem dX4_readSubframe_20 : decode cX4_readSubframe 20 = .ok (.istore 5, 2) := by decide +kernel
theorem dX4_readSubframe_22 : decode cX4_readSubframe 22 = .ok (.aload_n 0, 1) := by decide +kernel
theorem dX4_readSubframe_23 : decode cX4_readSubframe 23 = .ok (.iload 5, 2) := by decide +kernel
theorem dX4_readSubframe_25 : decode cX4_readSubframe 25 = .ok (.i2l, 1) := by decide +kernel
theorem dX4_readSubframe_26 : decode cX4_readSubframe 26 = .ok (.lconst 0, 1) := by decide +kernel
theorem dX4_readSubframe_27 : decode cX4_readSubframe 27 = .ok (.iload_n 2, 1) := by decide +kernel
theorem dX4_readSubframe_28 : decode cX4_readSubframe 28 = .ok (.i2l, 1) := by decide +kernel
theorem dX4_readSubframe_29 : decode cX4_readSubframe 29 = .ok (.invokestatic 115, 3) := by decide +kernel
theorem dX4_readSubframe_32 : decode cX4_readSubframe 32 = .ok (.iconst 2, 1) := by decide +kernel
theorem dX4_readSubframe_33 : decode cX4_readSubframe 33 = .ok (.invokevirtual 119, 3) := by decide +kernel
theorem dX4_readSubframe_36 : decode cX4_readSubframe 36 = .ok (.iconst 0, 1) := by decide +kernel
theorem dX4_readSubframe_37 : decode cX4_readSubframe 37 = .ok (.istore 6, 2) := by decide +kernel
theorem dX4_readSubframe_39 : decode cX4_readSubframe 39 = .ok (.aload_n 0, 1) := by decide +kernel
theorem dX4_readSubframe_40 : decode cX4_readSubframe 40 = .ok (.iconst 1, 1) := by decide +kernel
theorem dX4_readSubframe_41 : decode cX4_readSubframe 41 = .ok (.invokevirtual 98, 3) := by decide +kernel
theorem dX4_readSubframe_44 : decode cX4_readSubframe 44 = .ok (.lconst 1, 1) := by decide +kernel
theorem dX4_readSubframe_45 : decode cX4_readSubframe 45 = .ok (.lcmp, 1) := by decide +kernel
theorem dX4_readSubframe_46 : decode cX4_readSubframe 46 = .ok (.ifCond .ne 27, 3) := by decide +kernel
theorem dX4_readSubframe_49 : decode cX4_readSubframe 49 = .ok (.aload_n 0, 1) := by decide +kernel
theorem dX4_readSubframe_50 : decode cX4_readSubframe 50 = .ok (.invokevirtual 202, 3) := by decide +kernel
theorem dX4_readSubframe_53 : decode cX4_readSubframe 53 = .ok (.iconst 1, 1) := by decide +kernel
theorem dX4_readSubframe_54 : decode cX4_readSubframe 54 = .ok (.iadd, 1) := by decide +kernel
theorem dX4_readSubframe_55 : decode cX4_readSubframe 55 = .ok (.istore 6, 2) := by decide +kernel
theorem dX4_readSubframe_57 : decode cX4_readSubframe 57 = .ok (.aload_n 0, 1) := by decide +kernel
theorem dX4_readSubframe_58 : decode cX4_readSubframe 58 = .ok (.iload 6, 2) := by decide +kernel
theorem dX4_readSubframe_60 : decode cX4_readSubframe 60 = .ok (.iload_n 3, 1) := by decide +kernel
theorem dX4_readSubframe_61 : decode cX4_readSubframe 61 = .ok (.if_icmp .ge 7, 3) := by decide +kernel
theorem dX4_readSubframe_64 : decode cX4_readSubframe 64 = .ok (.iconst 1, 1) := by decide +kernel
theorem dX4_readSubframe_65 : decode cX4_readSubframe 65 = .ok (.goto 4, 3) := by decide +kernel
theorem dX4_readSubframe_68 : decode cX4_readSubframe 68 = .ok (.iconst 0, 1) := by decide +kernel
theorem dX4_readSubframe_69 : decode cX4_readSubframe 69 = .ok (.iconst 2, 1) := by decide +kernel
theorem dX4_readSubframe_70 : decode cX4_readSubframe 70 = .ok (.invokevirtual 119, 3) := by decide +kernel
theorem dX4_readSubframe_73 : decode cX4_readSubframe 73 = .ok (.iload_n 3, 1) := by decide +kernel
theorem dX4_readSubframe_74 : decode cX4_readSubframe 74 = .ok (.iload 6, 2) := by decide +kernel
theorem dX4_readSubframe_76 : decode cX4_readSubframe 76 = .ok (.isub, 1) := by decide +kernel
theorem dX4_readSubframe_77 : decode cX4_readSubframe 77 = .ok (.istore 7, 2) := by decide +kernel
theorem dX4_readSubframe_79 : decode cX4_readSubframe 79 = .ok (.iload 4, 2) := by decide +kernel
end
section
theorem dX4_readSubframe_81 : decode cX4_readSubframe 81 = .ok (.ifCond .ne 23, 3) := by decide +kernel
theorem dX4_readSubframe_84 : decode cX4_readSubframe 84 = .ok (.aload_n 1, 1) := by decide +kernel
theorem dX4_readSubframe_85 : decode cX4_readSubframe 85 = .ok (.iconst 0, 1) := by decide +kernel
theorem dX4_readSubframe_86 : decode cX4_readSubframe 86 = .ok (.iload_n 2, 1) := by decide +kernel
theorem dX4_readSubframe_87 : decode cX4_readSubframe 87 = .ok (.aload_n 0, 1) := by decide +kernel
theorem dX4_readSubframe_88 : decode cX4_readSubframe 88 = .ok (.iload 7, 2) := by decide +kernel
theorem dX4_readSubframe_90 : decode cX4_readSubframe 90 = .ok (.invokevirtual 98, 3) := by decide +kernel
theorem dX4_readSubframe_93 : decode cX4_readSubframe 93 = .ok (.iload 7, 2) := by decide +kernel
theorem dX4_readSubframe_95 : decode cX4_readSubframe 95 = .ok (.invokestatic 205, 3) := by decide +kernel
theorem dX4_readSubframe_98 : decode cX4_readSubframe 98 = .ok (.invokestatic 209, 3) := by decide +kernel
theorem dX4_readSubframe_101 : decode cX4_readSubframe 101 = .ok (.goto 45, 3) := by decide +kernel
theorem dX4_readSubframe_104 : decode cX4_readSubframe 104 = .ok (.iload 4, 2) := by decide +kernel
theorem dX4_readSubframe_106 : decode cX4_readSubframe 106 = .ok (.iconst 1, 1) := by decide +kernel
theorem dX4_readSubframe_107 : decode cX4_readSubframe 107 = .ok (.if_icmp .ne 14, 3) := by decide +kernel
theorem dX4_readSubframe_110 : decode cX4_readSubframe 110 = .ok (.aload_n 0, 1) := by decide +kernel
theorem dX4_readSubframe_111 : decode cX4_readSubframe 111 = .ok (.aload_n 1, 1) := by decide +kernel
theorem dX4_readSubframe_112 : decode cX4_readSubframe 112 = .ok (.iload_n 2, 1) := by decide +kernel
theorem dX4_readSubframe_113 : decode cX4_readSubframe 113 = .ok (.iload 7, 2) := by decide +kernel
theorem dX4_readSubframe_115 : decode cX4_readSubframe 115 = .ok (.invokevirtual 215, 3) := by decide +kernel
theorem dX4_readSubframe_118 : decode cX4_readSubframe 118 = .ok (.goto 28, 3) := by decide +kernel
theorem dX4_readSubframe_121 : decode cX4_readSubframe 121 = .ok (.aload_n 0, 1) := by decide +kernel
theorem dX4_readSubframe_122 : decode cX4_readSubframe 122 = .ok (.aload_n 1, 1) := by decide +kernel
theorem dX4_readSubframe_123 : decode cX4_readSubframe 123 = .ok (.iload 5, 2) := by decide +kernel
theorem dX4_readSubframe_125 : decode cX4_readSubframe 125 = .ok (.iload 7, 2) := by decide +kernel
theorem dX4_readSubframe_127 : decode cX4_readSubframe 127 = .ok (.invokevirtual 215, 3) := by decide +kernel
theorem dX4_readSubframe_130 : decode cX4_readSubframe 130 = .ok (.aload_n 0, 1) := by decide +kernel
theorem dX4_readSubframe_131 : decode cX4_readSubframe 131 = .ok (.iload 4, 2) := by decide +kernel
theorem dX4_readSubframe_133 : decode cX4_readSubframe 133 = .ok (.iload 5, 2) := by decide +kernel
theorem dX4_readSubframe_135 : decode cX4_readSubframe 135 = .ok (.invokevirtual 218, 3) := by decide +kernel
theorem dX4_readSubframe_138 : decode cX4_readSubframe 138 = .ok (.aload_n 0, 1) := by decide +kernel
theorem dX4_readSubframe_139 : decode cX4_readSubframe 139 = .ok (.aload_n 1, 1) := by decide +kernel
theorem dX4_readSubframe_140 : decode cX4_readSubframe 140 = .ok (.iload_n 2, 1) := by decide +kernel
theorem dX4_readSubframe_141 : decode cX4_readSubframe 141 = .ok (.iload 7, 2) := by decide +kernel
theorem dX4_readSubframe_143 : decode cX4_readSubframe 143 = .ok (.invokevirtual 221, 3) := by decide +kernel
theorem dX4_readSubframe_146 : decode cX4_readSubframe 146 = .ok (.iconst 0, 1) := by decide +kernel
theorem dX4_readSubframe_147 : decode cX4_readSubframe 147 = .ok (.istore 8, 2) := by decide +kernel
theorem dX4_readSubframe_149 : decode cX4_readSubframe 149 = .ok (.iload 8, 2) := by decide +kernel
theorem dX4_readSubframe_151 : decode cX4_readSubframe 151 = .ok (.iload_n 2, 1) := by decide +kernel
theorem dX4_readSubframe_152 : decode cX4_readSubframe 152 = .ok (.if_icmp .ge 18, 3) := by decide +kernel
theorem dX4_readSubframe_155 : decode cX4_readSubframe 155 = .ok (.aload_n 1, 1) := by decide +kernel
theorem dX4_readSubframe_156 : decode cX4_readSubframe 156 = .ok (.iload 8, 2) := by decide +kernel
theorem dX4_readSubframe_158 : decode cX4_readSubframe 158 = .ok (.dup2, 1) := by decide +kernel
theorem dX4_readSubframe_159 : decode cX4_readSubframe 159 = .ok (.iaload, 1) := by decide +kernel
theorem dX4_readSubframe_160 : decode cX4_readSubframe 160 = .ok (.iload 6, 2) := by decide +kernel
theorem dX4_readSubframe_162 : decode cX4_readSubframe 162 = .ok (.ishl, 1) := by decide +kernel
theorem dX4_readSubframe_163 : decode cX4_readSubframe 163 = .ok (.iastore, 1) := by decide +kernel
theorem dX4_readSubframe_164 : decode cX4_readSubframe 164 = .ok (.iinc 8 1, 3) := by decide +kernel
theorem dX4_readSubframe_167 : decode cX4_readSubframe 167 = .ok (.goto (-18), 3) := by decide +kernel
theorem dX4_readSubframe_170 : decode cX4_readSubframe 170 = .ok (.return_, 1) := by decide +kernel
theorem dX4_orderOf_0 : decode cX4_orderOf 0 = .ok (.iload_n 0, 1) := by decide +kernel
theorem dX4_orderOf_1 : decode cX4_orderOf 1 = .ok (.ifCond .eq 8, 3) := by decide +kernel
theorem dX4_orderOf_4 : decode cX4_orderOf 4 = .ok (.iload_n 0, 1) := by decide +kernel
theorem dX4_orderOf_5 : decode cX4_orderOf 5 = .ok (.iconst 1, 1) := by decide +kernel
theorem dX4_orderOf_6 : decode cX4_orderOf 6 = .ok (.if_icmp .ne 5, 3) := by decide +kernel
theorem dX4_orderOf_9 : decode cX4_orderOf 9 = .ok (.iconst 0, 1) := by decide +kernel
theorem dX4_orderOf_10 : decode cX4_orderOf 10 = .ok (.ireturn, 1) := by decide +kernel
theorem dX4_orderOf_11 : decode cX4_orderOf 11 = .ok (.iload_n 0, 1) := by decide +kernel
theorem dX4_orderOf_12 : decode cX4_orderOf 12 = .ok (.i2l, 1) := by decide +kernel
theorem dX4_orderOf_13 : decode cX4_orderOf 13 = .ok (.ldc2_w 177, 3) := by decide +kernel
theorem dX4_orderOf_16 : decode cX4_orderOf 16 = .ok (.ldc2_w 224, 3) := by decide +kernel
theorem dX4_orderOf_19 : decode cX4_orderOf 19 = .ok (.invokestatic 115, 3) := by decide +kernel
theorem dX4_orderOf_22 : decode cX4_orderOf 22 = .ok (.ifCond .eq 8, 3) := by decide +kernel
theorem dX4_orderOf_25 : decode cX4_orderOf 25 = .ok (.iload_n 0, 1) := by decide +kernel
theorem dX4_orderOf_26 : decode cX4_orderOf 26 = .ok (.bipush 8, 2) := by decide +kernel
theorem dX4_orderOf_28 : decode cX4_orderOf 28 = .ok (.isub, 1) := by decide +kernel
theorem dX4_orderOf_29 : decode cX4_orderOf 29 = .ok (.ireturn, 1) := by decide +kernel
theorem dX4_orderOf_30 : decode cX4_orderOf 30 = .ok (.iload_n 0, 1) := by decide +kernel
theorem dX4_orderOf_31 : decode cX4_orderOf 31 = .ok (.i2l, 1) := by decide +kernel
theorem dX4_orderOf_32 : decode cX4_orderOf 32 = .ok (.ldc2_w 226, 3) := by decide +kernel
theorem dX4_orderOf_35 : decode cX4_orderOf 35 = .ok (.ldc2_w 228, 3) := by decide +kernel
theorem dX4_orderOf_38 : decode cX4_orderOf 38 = .ok (.invokestatic 115, 3) := by decide +kernel
theorem dX4_orderOf_41 : decode cX4_orderOf 41 = .ok (.ifCond .eq 10, 3) := by decide +kernel
theorem dX4_orderOf_44 : decode cX4_orderOf 44 = .ok (.iload_n 0, 1) := by decide +kernel
theorem dX4_orderOf_45 : decode cX4_orderOf 45 = .ok (.bipush 31, 2) := by decide +kernel
theorem dX4_orderOf_47 : decode cX4_orderOf 47 = .ok (.isub, 1) := by decide +kernel
theorem dX4_orderOf_48 : decode cX4_orderOf 48 = .ok (.goto 4, 3) := by decide +kernel
theorem dX4_orderOf_51 : decode cX4_orderOf 51 = .ok (.iconst (-1), 1) := by decide +kernel
theorem dX4_orderOf_52 : decode cX4_orderOf 52 = .ok (.ireturn, 1) := by decide +kernel
theorem dX4_readNumbers_0 : decode cX4_readNumbers 0 = .ok (.iconst 0, 1) := by decide +kernel
theorem dX4_readNumbers_1 : decode cX4_readNumbers 1 = .ok (.istore 4, 2) := by decide +kernel
theorem dX4_readNumbers_3 : decode cX4_readNumbers 3 = .ok (.iload 4, 2) := by decide +kernel
theorem dX4_readNumbers_5 : decode cX4_readNumbers 5 = .ok (.iload_n 2, 1) := by decide +kernel
theorem dX4_readNumbers_6 : decode cX4_readNumbers 6 = .ok (.if_icmp .ge 22, 3) := by decide +kernel
theorem dX4_readNumbers_9 : decode cX4_readNumbers 9 = .ok (.aload_n 1, 1) := by decide +kernel
theorem dX4_readNumbers_10 : decode cX4_readNumbers 10 = .ok (.iload 4, 2) := by decide +kernel
theorem dX4_readNumbers_12 : decode cX4_readNumbers 12 = .ok (.aload_n 0, 1) := by decide +kernel
theorem dX4_readNumbers_13 : decode cX4_readNumbers 13 = .ok (.iload_n 3, 1) := by decide +kernel
theorem dX4_readNumbers_14 : decode cX4_readNumbers 14 = .ok (.invokevirtual 98, 3) := by decide +kernel
theorem dX4_readNumbers_17 : decode cX4_readNumbers 17 = .ok (.iload_n 3, 1) := by decide +kernel
theorem dX4_readNumbers_18 : decode cX4_readNumbers 18 = .ok (.invokestatic 205, 3) := by decide +kernel
theorem dX4_readNumbers_21 : decode cX4_readNumbers 21 = .ok (.iastore, 1) := by decide +kernel
theorem dX4_readNumbers_22 : decode cX4_readNumbers 22 = .ok (.iinc 4 1, 3) := by decide +kernel
theorem dX4_readNumbers_25 : decode cX4_readNumbers 25 = .ok (.goto (-22), 3) := by decide +kernel
theorem dX4_readNumbers_28 : decode cX4_readNumbers 28 = .ok (.return_, 1) := by decide +kernel
theorem dX4_readPredictor_0 : decode cX4_readPredictor 0 = .ok (.iload_n 1, 1) := by decide +kernel
theorem dX4_readPredictor_1 : decode cX4_readPredictor 1 = .ok (.bipush 31, 2) := by decide +kernel
theorem dX4_readPredictor_3 : decode cX4_readPredictor 3 = .ok (.if_icmp .gt 12, 3) := by decide +kernel
theorem dX4_readPredictor_6 : decode cX4_readPredictor 6 = .ok (.aload_n 0, 1) := by decide +kernel
theorem dX4_readPredictor_7 : decode cX4_readPredictor 7 = .ok (.getfield 46, 3) := by decide +kernel
theorem dX4_readPredictor_10 : decode cX4_readPredictor 10 = .ok (.iload_n 2, 1) := by decide +kernel
theorem dX4_readPredictor_11 : decode cX4_readPredictor 11 = .ok (.invokevirtual 230, 3) := by decide +kernel
theorem dX4_readPredictor_14 : decode cX4_readPredictor 14 = .ok (.return_, 1) := by decide +kernel
theorem dX4_readPredictor_15 : decode cX4_readPredictor 15 = .ok (.aload_n 0, 1) := by decide +kernel
theorem dX4_readPredictor_16 : decode cX4_readPredictor 16 = .ok (.iconst 4, 1) := by decide +kernel
theorem dX4_readPredictor_17 : decode cX4_readPredictor 17 = .ok (.invokevirtual 98, 3) := by decide +kernel
theorem dX4_readPredictor_20 : decode cX4_readPredictor 20 = .ok (.l2i, 1) := by decide +kernel
theorem dX4_readPredictor_21 : decode cX4_readPredictor 21 = .ok (.iconst 1, 1) := by decide +kernel
theorem dX4_readPredictor_22 : decode cX4_readPredictor 22 = .ok (.iadd, 1) := by decide +kernel
theorem dX4_readPredictor_23 : decode cX4_readPredictor 23 = .ok (.istore_n 3, 1) := by decide +kernel
theorem dX4_readPredictor_24 : decode cX4_readPredictor 24 = .ok (.aload_n 0, 1) := by decide +kernel
theorem dX4_readPredictor_25 : decode cX4_readPredictor 25 = .ok (.iload_n 3, 1) := by decide +kernel
theorem dX4_readPredictor_26 : decode cX4_readPredictor 26 = .ok (.bipush 15, 2) := by decide +kernel
theorem dX4_readPredictor_28 : decode cX4_readPredictor 28 = .ok (.if_icmp .gt 7, 3) := by decide +kernel
theorem dX4_readPredictor_31 : decode cX4_readPredictor 31 = .ok (.iconst 1, 1) := by decide +kernel
theorem dX4_readPredictor_32 : decode cX4_readPredictor 32 = .ok (.goto 4, 3) := by decide +kernel
theorem dX4_readPredictor_35 : decode cX4_readPredictor 35 = .ok (.iconst 0, 1) := by decide +kernel
theorem dX4_readPredictor_36 : decode cX4_readPredictor 36 = .ok (.iconst 2, 1) := by decide +kernel
theorem dX4_readPredictor_37 : decode cX4_readPredictor 37 = .ok (.invokevirtual 119, 3) := by decide +kernel
theorem dX4_readPredictor_40 : decode cX4_readPredictor 40 = .ok (.aload_n 0, 1) := by decide +kernel
theorem dX4_readPredictor_41 : decode cX4_readPredictor 41 = .ok (.iconst 5, 1) := by decide +kernel
theorem dX4_readPredictor_42 : decode cX4_readPredictor 42 = .ok (.invokevirtual 98, 3) := by decide +kernel
theorem dX4_readPredictor_45 : decode cX4_readPredictor 45 = .ok (.l2i, 1) := by decide +kernel
theorem dX4_readPredictor_46 : decode cX4_readPredictor 46 = .ok (.istore 4, 2) := by decide +kernel
theorem dX4_readPredictor_48 : decode cX4_readPredictor 48 = .ok (.aload_n 0, 1) := by decide +kernel
theorem dX4_readPredictor_49 : decode cX4_readPredictor 49 = .ok (.iload 4, 2) := by decide +kernel
theorem dX4_readPredictor_51 : decode cX4_readPredictor 51 = .ok (.bipush 15, 2) := by decide +kernel
theorem dX4_readPredictor_53 : decode cX4_readPredictor 53 = .ok (.if_icmp .gt 7, 3) := by decide +kernel
theorem dX4_readPredictor_56 : decode cX4_readPredictor 56 = .ok (.iconst 1, 1) := by decide +kernel
theorem dX4_readPredictor_57 : decode cX4_readPredictor 57 = .ok (.goto 4, 3) := by decide +kernel
theorem dX4_readPredictor_60 : decode cX4_readPredictor 60 = .ok (.iconst 0, 1) := by decide +kernel
theorem dX4_readPredictor_61 : decode cX4_readPredictor 61 = .ok (.iconst 2, 1) := by decide +kernel
theorem dX4_readPredictor_62 : decode cX4_readPredictor 62 = .ok (.invokevirtual 119, 3) := by decide +kernel
theorem dX4_readPredictor_65 : decode cX4_readPredictor 65 = .ok (.aload_n 0, 1) := by decide +kernel
theorem dX4_readPredictor_66 : decode cX4_readPredictor 66 = .ok (.getfield 46, 3) := by decide +kernel
theorem dX4_readPredictor_69 : decode cX4_readPredictor 69 = .ok (.iload 4, 2) := by decide +kernel
theorem dX4_readPredictor_71 : decode cX4_readPredictor 71 = .ok (.invokevirtual 233, 3) := by decide +kernel
theorem dX4_readPredictor_74 : decode cX4_readPredictor 74 = .ok (.iconst 0, 1) := by decide +kernel
theorem dX4_readPredictor_75 : decode cX4_readPredictor 75 = .ok (.istore 5, 2) := by decide +kernel
theorem dX4_readPredictor_77 : decode cX4_readPredictor 77 = .ok (.iload 5, 2) := by decide +kernel
theorem dX4_readPredictor_79 : decode cX4_readPredictor 79 = .ok (.iload_n 2, 1) := by decide +kernel
theorem dX4_readPredictor_80 : decode cX4_readPredictor 80 = .ok (.if_icmp .ge 25, 3) := by decide +kernel
theorem dX4_readPredictor_83 : decode cX4_readPredictor 83 = .ok (.aload_n 0, 1) := by decide +kernel
theorem dX4_readPredictor_84 : decode cX4_readPredictor 84 = .ok (.getfield 46, 3) := by decide +kernel
theorem dX4_readPredictor_87 : decode cX4_readPredictor 87 = .ok (.aload_n 0, 1) := by decide +kernel
theorem dX4_readPredictor_88 : decode cX4_readPredictor 88 = .ok (.iload_n 3, 1) := by decide +kernel
theorem dX4_readPredictor_89 : decode cX4_readPredictor 89 = .ok (.invokevirtual 98, 3) := by decide +kernel
theorem dX4_readPredictor_92 : decode cX4_readPredictor 92 = .ok (.iload_n 3, 1) := by decide +kernel
theorem dX4_readPredictor_93 : decode cX4_readPredictor 93 = .ok (.invokestatic 205, 3) := by decide +kernel
theorem dX4_readPredictor_96 : decode cX4_readPredictor 96 = .ok (.invokevirtual 236, 3) := by decide +kernel
theorem dX4_readPredictor_99 : decode cX4_readPredictor 99 = .ok (.iinc 5 1, 3) := by decide +kernel
theorem dX4_readPredictor_102 : decode cX4_readPredictor 102 = .ok (.goto (-25), 3) := by decide +kernel
theorem dX4_readPredictor_105 : decode cX4_readPredictor 105 = .ok (.return_, 1) := by decide +kernel
theorem dX4_readResiduals_0 : decode cX4_readResiduals 0 = .ok (.aload_n 0, 1) := by decide +kernel
theorem dX4_readResiduals_1 : decode cX4_readResiduals 1 = .ok (.iconst 2, 1) := by decide +kernel
theorem dX4_readResiduals_2 : decode cX4_readResiduals 2 = .ok (.invokevirtual 98, 3) := by decide +kernel
theorem dX4_readResiduals_5 : decode cX4_readResiduals 5 = .ok (.l2i, 1) := by decide +kernel
theorem dX4_readResiduals_6 : decode cX4_readResiduals 6 = .ok (.istore 4, 2) := by decide +kernel
theorem dX4_readResiduals_8 : decode cX4_readResiduals 8 = .ok (.aload_n 0, 1) := by decide +kernel
theorem dX4_readResiduals_9 : decode cX4_readResiduals 9 = .ok (.iload 4, 2) := by decide +kernel
theorem dX4_readResiduals_11 : decode cX4_readResiduals 11 = .ok (.iconst 1, 1) := by decide +kernel
theorem dX4_readResiduals_12 : decode cX4_readResiduals 12 = .ok (.if_icmp .gt 7, 3) := by decide +kernel
theorem dX4_readResiduals_15 : decode cX4_readResiduals 15 = .ok (.iconst 1, 1) := by decide +kernel
theorem dX4_readResiduals_16 : decode cX4_readResiduals 16 = .ok (.goto 4, 3) := by decide +kernel
theorem dX4_readResiduals_19 : decode cX4_readResiduals 19 = .ok (.iconst 0, 1) := by decide +kernel
theorem dX4_readResiduals_20 : decode cX4_readResiduals 20 = .ok (.iconst 2, 1) := by decide +kernel
theorem dX4_readResiduals_21 : decode cX4_readResiduals 21 = .ok (.invokevirtual 119, 3) := by decide +kernel
theorem dX4_readResiduals_24 : decode cX4_readResiduals 24 = .ok (.aload_n 0, 1) := by decide +kernel
theorem dX4_readResiduals_25 : decode cX4_readResiduals 25 = .ok (.iconst 4, 1) := by decide +kernel
theorem dX4_readResiduals_26 : decode cX4_readResiduals 26 = .ok (.invokevirtual 98, 3) := by decide +kernel
theorem dX4_readResiduals_29 : decode cX4_readResiduals 29 = .ok (.l2i, 1) := by decide +kernel
theorem dX4_readResiduals_30 : decode cX4_readResiduals 30 = .ok (.istore 5, 2) := by decide +kernel
theorem dX4_readResiduals_32 : decode cX4_readResiduals 32 = .ok (.iconst 1, 1) := by decide +kernel
theorem dX4_readResiduals_33 : decode cX4_readResiduals 33 = .ok (.iload 5, 2) := by decide +kernel
theorem dX4_readResiduals_35 : decode cX4_readResiduals 35 = .ok (.ishl, 1) := by decide +kernel
theorem dX4_readResiduals_36 : decode cX4_readResiduals 36 = .ok (.istore 6, 2) := by decide +kernel
theorem dX4_readResiduals_38 : decode cX4_readResiduals 38 = .ok (.iload_n 2, 1) := by decide +kernel
theorem dX4_readResiduals_39 : decode cX4_readResiduals 39 = .ok (.iload 5, 2) := by decide +kernel
theorem dX4_readResiduals_41 : decode cX4_readResiduals 41 = .ok (.ishr, 1) := by decide +kernel
theorem dX4_readResiduals_42 : decode cX4_readResiduals 42 = .ok (.istore 7, 2) := by decide +kernel
theorem dX4_readResiduals_44 : decode cX4_readResiduals 44 = .ok (.aload_n 0, 1) := by decide +kernel
theorem dX4_readResiduals_45 : decode cX4_readResiduals 45 = .ok (.iload 7, 2) := by decide +kernel
theorem dX4_readResiduals_47 : decode cX4_readResiduals 47 = .ok (.iload 5, 2) := by decide +kernel
theorem dX4_readResiduals_49 : decode cX4_readResiduals 49 = .ok (.ishl, 1) := by decide +kernel
theorem dX4_readResiduals_50 : decode cX4_readResiduals 50 = .ok (.iload_n 2, 1) := by decide +kernel
theorem dX4_readResiduals_51 : decode cX4_readResiduals 51 = .ok (.if_icmp .ne 19, 3) := by decide +kernel
theorem dX4_readResiduals_54 : decode cX4_readResiduals 54 = .ok (.iload 7, 2) := by decide +kernel
theorem dX4_readResiduals_56 : decode cX4_readResiduals 56 = .ok (.aload_n 0, 1) := by decide +kernel
theorem dX4_readResiduals_57 : decode cX4_readResiduals 57 = .ok (.getfield 46, 3) := by decide +kernel
theorem dX4_readResiduals_60 : decode cX4_readResiduals 60 = .ok (.getfield 239, 3) := by decide +kernel
theorem dX4_readResiduals_63 : decode cX4_readResiduals 63 = .ok (.if_icmp .lt 7, 3) := by decide +kernel
theorem dX4_readResiduals_66 : decode cX4_readResiduals 66 = .ok (.iconst 1, 1) := by decide +kernel
theorem dX4_readResiduals_67 : decode cX4_readResiduals 67 = .ok (.goto 4, 3) := by decide +kernel
theorem dX4_readResiduals_70 : decode cX4_readResiduals 70 = .ok (.iconst 0, 1) := by decide +kernel
theorem dX4_readResiduals_71 : decode cX4_readResiduals 71 = .ok (.iconst 2, 1) := by decide +kernel
theorem dX4_readResiduals_72 : decode cX4_readResiduals 72 = .ok (.invokevirtual 119, 3) := by decide +kernel
theorem dX4_readResiduals_75 : decode cX4_readResiduals 75 = .ok (.iconst 0, 1) := by decide +kernel
theorem dX4_readResiduals_76 : decode cX4_readResiduals 76 = .ok (.istore 8, 2) := by decide +kernel
theorem dX4_readResiduals_78 : decode cX4_readResiduals 78 = .ok (.iload 8, 2) := by decide +kernel
theorem dX4_readResiduals_80 : decode cX4_readResiduals 80 = .ok (.iload 6, 2) := by decide +kernel
theorem dX4_readResiduals_82 : decode cX4_readResiduals 82 = .ok (.if_icmp .ge 50, 3) := by decide +kernel
theorem dX4_readResiduals_85 : decode cX4_readResiduals 85 = .ok (.iload 8, 2) := by decide +kernel
theorem dX4_readResiduals_87 : decode cX4_readResiduals 87 = .ok (.ifCond .ne 13, 3) := by decide +kernel
theorem dX4_readResiduals_90 : decode cX4_readResiduals 90 = .ok (.aload_n 0, 1) := by decide +kernel
theorem dX4_readResiduals_91 : decode cX4_readResiduals 91 = .ok (.getfield 46, 3) := by decide +kernel
theorem dX4_readResiduals_94 : decode cX4_readResiduals 94 = .ok (.getfield 239, 3) := by decide +kernel
theorem dX4_readResiduals_97 : decode cX4_readResiduals 97 = .ok (.goto 8, 3) := by decide +kernel
theorem dX4_readResiduals_100 : decode cX4_readResiduals 100 = .ok (.iload 8, 2) := by decide +kernel
theorem dX4_readResiduals_102 : decode cX4_readResiduals 102 = .ok (.iload 7, 2) := by decide +kernel
theorem dX4_readResiduals_104 : decode cX4_readResiduals 104 = .ok (.imul, 1) := by decide +kernel
theorem dX4_readResiduals_105 : decode cX4_readResiduals 105 = .ok (.istore 9, 2) := by decide +kernel
theorem dX4_readResiduals_107 : decode cX4_readResiduals 107 = .ok (.aload_n 0, 1) := by decide +kernel
theorem dX4_readResiduals_108 : decode cX4_readResiduals 108 = .ok (.aload_n 1, 1) := by decide +kernel
theorem dX4_readResiduals_109 : decode cX4_readResiduals 109 = .ok (.iload 9, 2) := by decide +kernel
theorem dX4_readResiduals_111 : decode cX4_readResiduals 111 = .ok (.iload 8, 2) := by decide +kernel
theorem dX4_readResiduals_113 : decode cX4_readResiduals 113 = .ok (.iconst 1, 1) := by decide +kernel
theorem dX4_readResiduals_114 : decode cX4_readResiduals 114 = .ok (.iadd, 1) := by decide +kernel
theorem dX4_readResiduals_115 : decode cX4_readResiduals 115 = .ok (.iload 7, 2) := by decide +kernel
theorem dX4_readResiduals_117 : decode cX4_readResiduals 117 = .ok (.imul, 1) := by decide +kernel
theorem dX4_readResiduals_118 : decode cX4_readResiduals 118 = .ok (.iload_n 3, 1) := by decide +kernel
theorem dX4_readResiduals_119 : decode cX4_readResiduals 119 = .ok (.iconst 4, 1) := by decide +kernel
theorem dX4_readResiduals_120 : decode cX4_readResiduals 120 = .ok (.iload 4, 2) := by decide +kernel
theorem dX4_readResiduals_122 : decode cX4_readResiduals 122 = .ok (.iadd, 1) := by decide +kernel
theorem dX4_readResiduals_123 : decode cX4_readResiduals 123 = .ok (.invokevirtual 242, 3) := by decide +kernel
theorem dX4_readResiduals_126 : decode cX4_readResiduals 126 = .ok (.iinc 8 1, 3) := by decide +kernel
theorem dX4_readResiduals_129 : decode cX4_readResiduals 129 = .ok (.goto (-51), 3) := by decide +kernel
theorem dX4_readResiduals_132 : decode cX4_readResiduals 132 = .ok (.return_, 1) := by decide +kernel
theorem dX4_readPart_0 : decode cX4_readPart 0 = .ok (.aload_n 0, 1) := by decide +kernel
theorem dX4_readPart_1 : decode cX4_readPart 1 = .ok (.iload 5, 2) := by decide +kernel
theorem dX4_readPart_3 : decode cX4_readPart 3 = .ok (.invokevirtual 98, 3) := by decide +kernel
theorem dX4_readPart_6 : decode cX4_readPart 6 = .ok (.l2i, 1) := by decide +kernel
theorem dX4_readPart_7 : decode cX4_readPart 7 = .ok (.istore 6, 2) := by decide +kernel
theorem dX4_readPart_9 : decode cX4_readPart 9 = .ok (.iload 6, 2) := by decide +kernel
theorem dX4_readPart_11 : decode cX4_readPart 11 = .ok (.iconst 1, 1) := by decide +kernel
theorem dX4_readPart_12 : decode cX4_readPart 12 = .ok (.iload 5, 2) := by decide +kernel
theorem dX4_readPart_14 : decode cX4_readPart 14 = .ok (.ishl, 1) := by decide +kernel
theorem dX4_readPart_15 : decode cX4_readPart 15 = .ok (.iconst 1, 1) := by decide +kernel
theorem dX4_readPart_16 : decode cX4_readPart 16 = .ok (.isub, 1) := by decide +kernel
theorem dX4_readPart_17 : decode cX4_readPart 17 = .ok (.if_icmp .ne 7, 3) := by decide +kernel
theorem dX4_readPart_20 : decode cX4_readPart 20 = .ok (.iconst 1, 1) := by decide +kernel
theorem dX4_readPart_21 : decode cX4_readPart 21 = .ok (.goto 4, 3) := by decide +kernel
theorem dX4_readPart_24 : decode cX4_readPart 24 = .ok (.iconst 0, 1) := by decide +kernel
theorem dX4_readPart_25 : decode cX4_readPart 25 = .ok (.istore 7, 2) := by decide +kernel
theorem dX4_readPart_27 : decode cX4_readPart 27 = .ok (.iload 7, 2) := by decide +kernel
theorem dX4_readPart_29 : decode cX4_readPart 29 = .ok (.ifCond .eq 12, 3) := by decide +kernel
theorem dX4_readPart_32 : decode cX4_readPart 32 = .ok (.aload_n 0, 1) := by decide +kernel
theorem dX4_readPart_33 : decode cX4_readPart 33 = .ok (.iconst 5, 1) := by decide +kernel
theorem dX4_readPart_34 : decode cX4_readPart 34 = .ok (.invokevirtual 98, 3) := by decide +kernel
theorem dX4_readPart_37 : decode cX4_readPart 37 = .ok (.l2i, 1) := by decide +kernel
theorem dX4_readPart_38 : decode cX4_readPart 38 = .ok (.goto 5, 3) := by decide +kernel
theorem dX4_readPart_41 : decode cX4_readPart 41 = .ok (.iload 6, 2) := by decide +kernel
theorem dX4_readPart_43 : decode cX4_readPart 43 = .ok (.istore 8, 2) := by decide +kernel
theorem dX4_readPart_45 : decode cX4_readPart 45 = .ok (.iload_n 2, 1) := by decide +kernel
theorem dX4_readPart_46 : decode cX4_readPart 46 = .ok (.istore 9, 2) := by decide +kernel
theorem dX4_readPart_48 : decode cX4_readPart 48 = .ok (.iload 9, 2) := by decide +kernel
theorem dX4_readPart_50 : decode cX4_readPart 50 = .ok (.iload_n 3, 1) := by decide +kernel
theorem dX4_readPart_51 : decode cX4_readPart 51 = .ok (.if_icmp .ge 107, 3) := by decide +kernel
theorem dX4_readPart_54 : decode cX4_readPart 54 = .ok (.aload_n 0, 1) := by decide +kernel
theorem dX4_readPart_55 : decode cX4_readPart 55 = .ok (.getfield 64, 3) := by decide +kernel
theorem dX4_readPart_58 : decode cX4_readPart 58 = .ok (.istore 10, 2) := by decide +kernel
theorem dX4_readPart_60 : decode cX4_readPart 60 = .ok (.iload 7, 2) := by decide +kernel
theorem dX4_readPart_62 : decode cX4_readPart 62 = .ok (.ifCond .eq 7, 3) := by decide +kernel
theorem dX4_readPart_65 : decode cX4_readPart 65 = .ok (.lconst 0, 1) := by decide +kernel
theorem dX4_readPart_66 : decode cX4_readPart 66 = .ok (.goto 8, 3) := by decide +kernel
theorem dX4_readPart_69 : decode cX4_readPart 69 = .ok (.aload_n 0, 1) := by decide +kernel
theorem dX4_readPart_70 : decode cX4_readPart 70 = .ok (.invokevirtual 202, 3) := by decide +kernel
theorem dX4_readPart_73 : decode cX4_readPart 73 = .ok (.i2l, 1) := by decide +kernel
theorem dX4_readPart_74 : decode cX4_readPart 74 = .ok (.lstore 11, 2) := by decide +kernel
theorem dX4_readPart_76 : decode cX4_readPart 76 = .ok (.aload_n 0, 1) := by decide +kernel
theorem dX4_readPart_77 : decode cX4_readPart 77 = .ok (.iload 8, 2) := by decide +kernel
theorem dX4_readPart_79 : decode cX4_readPart 79 = .ok (.invokevirtual 98, 3) := by decide +kernel
theorem dX4_readPart_82 : decode cX4_readPart 82 = .ok (.lstore 13, 2) := by decide +kernel
theorem dX4_readPart_84 : decode cX4_readPart 84 = .ok (.iload 7, 2) := by decide +kernel
theorem dX4_readPart_86 : decode cX4_readPart 86 = .ok (.ifCond .eq 14, 3) := by decide +kernel
theorem dX4_readPart_89 : decode cX4_readPart 89 = .ok (.lload 13, 2) := by decide +kernel
theorem dX4_readPart_91 : decode cX4_readPart 91 = .ok (.iload 8, 2) := by decide +kernel
theorem dX4_readPart_93 : decode cX4_readPart 93 = .ok (.invokestatic 205, 3) := by decide +kernel
theorem dX4_readPart_96 : decode cX4_readPart 96 = .ok (.i2l, 1) := by decide +kernel
theorem dX4_readPart_97 : decode cX4_readPart 97 = .ok (.goto 14, 3) := by decide +kernel
theorem dX4_readPart_100 : decode cX4_readPart 100 = .ok (.lload 11, 2) := by decide +kernel
theorem dX4_readPart_102 : decode cX4_readPart 102 = .ok (.iload 8, 2) := by decide +kernel
theorem dX4_readPart_104 : decode cX4_readPart 104 = .ok (.lshl, 1) := by decide +kernel
theorem dX4_readPart_105 : decode cX4_readPart 105 = .ok (.lload 13, 2) := by decide +kernel
theorem dX4_readPart_107 : decode cX4_readPart 107 = .ok (.lor, 1) := by decide +kernel
theorem dX4_readPart_108 : decode cX4_readPart 108 = .ok (.invokestatic 246, 3) := by decide +kernel
theorem dX4_readPart_111 : decode cX4_readPart 111 = .ok (.lstore 15, 2) := by decide +kernel
theorem dX4_readPart_113 : decode cX4_readPart 113 = .ok (.aload_n 0, 1) := by decide +kernel
theorem dX4_readPart_114 : decode cX4_readPart 114 = .ok (.getfield 46, 3) := by decide +kernel
theorem dX4_readPart_117 : decode cX4_readPart 117 = .ok (.aload_n 1, 1) := by decide +kernel
theorem dX4_readPart_118 : decode cX4_readPart 118 = .ok (.iload 9, 2) := by decide +kernel
theorem dX4_readPart_120 : decode cX4_readPart 120 = .ok (.invokevirtual 250, 3) := by decide +kernel
theorem dX4_readPart_123 : decode cX4_readPart 123 = .ok (.lload 15, 2) := by decide +kernel
theorem dX4_readPart_125 : decode cX4_readPart 125 = .ok (.ladd, 1) := by decide +kernel
theorem dX4_readPart_126 : decode cX4_readPart 126 = .ok (.lstore 17, 2) := by decide +kernel
theorem dX4_readPart_128 : decode cX4_readPart 128 = .ok (.lload 17, 2) := by decide +kernel
theorem dX4_readPart_130 : decode cX4_readPart 130 = .ok (.iload 4, 2) := by decide +kernel
theorem dX4_readPart_132 : decode cX4_readPart 132 = .ok (.invokestatic 169, 3) := by decide +kernel
theorem dX4_readPart_135 : decode cX4_readPart 135 = .ok (.ifCond .ne 10, 3) := by decide +kernel
theorem dX4_readPart_138 : decode cX4_readPart 138 = .ok (.aload_n 0, 1) := by decide +kernel
theorem dX4_readPart_139 : decode cX4_readPart 139 = .ok (.iconst 2, 1) := by decide +kernel
theorem dX4_readPart_140 : decode cX4_readPart 140 = .ok (.iload 10, 2) := by decide +kernel
theorem dX4_readPart_142 : decode cX4_readPart 142 = .ok (.invokevirtual 95, 3) := by decide +kernel
theorem dX4_readPart_145 : decode cX4_readPart 145 = .ok (.aload_n 1, 1) := by decide +kernel
theorem dX4_readPart_146 : decode cX4_readPart 146 = .ok (.iload 9, 2) := by decide +kernel
theorem dX4_readPart_148 : decode cX4_readPart 148 = .ok (.lload 17, 2) := by decide +kernel
theorem dX4_readPart_150 : decode cX4_readPart 150 = .ok (.l2i, 1) := by decide +kernel
theorem dX4_readPart_151 : decode cX4_readPart 151 = .ok (.iastore, 1) := by decide +kernel
theorem dX4_readPart_152 : decode cX4_readPart 152 = .ok (.iinc 9 1, 3) := by decide +kernel
theorem dX4_readPart_155 : decode cX4_readPart 155 = .ok (.goto (-107), 3) := by decide +kernel
theorem dX4_readPart_158 : decode cX4_readPart 158 = .ok (.return_, 1) := by decide +kernel
theorem dX4_uniteRows_0 : decode cX4_uniteRows 0 = .ok (.aload_n 0, 1) := by decide +kernel
theorem dX4_uniteRows_1 : decode cX4_uniteRows 1 = .ok (.getfield 38, 3) := by decide +kernel
theorem dX4_uniteRows_4 : decode cX4_uniteRows 4 = .ok (.iconst 0, 1) := by decide +kernel
theorem dX4_uniteRows_5 : decode cX4_uniteRows 5 = .ok (.aaload, 1) := by decide +kernel
theorem dX4_uniteRows_6 : decode cX4_uniteRows 6 = .ok (.astore_n 3, 1) := by decide +kernel
theorem dX4_uniteRows_7 : decode cX4_uniteRows 7 = .ok (.aload_n 0, 1) := by decide +kernel
theorem dX4_uniteRows_8 : decode cX4_uniteRows 8 = .ok (.getfield 38, 3) := by decide +kernel
theorem dX4_uniteRows_11 : decode cX4_uniteRows 11 = .ok (.iconst 1, 1) := by decide +kernel
theorem dX4_uniteRows_12 : decode cX4_uniteRows 12 = .ok (.aaload, 1) := by decide +kernel
theorem dX4_uniteRows_13 : decode cX4_uniteRows 13 = .ok (.astore 4, 2) := by decide +kernel
theorem dX4_uniteRows_15 : decode cX4_uniteRows 15 = .ok (.iconst 0, 1) := by decide +kernel
theorem dX4_uniteRows_16 : decode cX4_uniteRows 16 = .ok (.istore 5, 2) := by decide +kernel
theorem dX4_uniteRows_18 : decode cX4_uniteRows 18 = .ok (.iload 5, 2) := by decide +kernel
theorem dX4_uniteRows_20 : decode cX4_uniteRows 20 = .ok (.iload_n 2, 1) := by decide +kernel
theorem dX4_uniteRows_21 : decode cX4_uniteRows 21 = .ok (.if_icmp .ge 105, 3) := by decide +kernel
theorem dX4_uniteRows_24 : decode cX4_uniteRows 24 = .ok (.iload_n 1, 1) := by decide +kernel
theorem dX4_uniteRows_25 : decode cX4_uniteRows 25 = .ok (.bipush 8, 2) := by decide +kernel
theorem dX4_uniteRows_27 : decode cX4_uniteRows 27 = .ok (.if_icmp .ne 21, 3) := by decide +kernel
theorem dX4_uniteRows_30 : decode cX4_uniteRows 30 = .ok (.aload 4, 2) := by decide +kernel
theorem dX4_uniteRows_32 : decode cX4_uniteRows 32 = .ok (.iload 5, 2) := by decide +kernel
theorem dX4_uniteRows_34 : decode cX4_uniteRows 34 = .ok (.aload_n 3, 1) := by decide +kernel
theorem dX4_uniteRows_35 : decode cX4_uniteRows 35 = .ok (.iload 5, 2) := by decide +kernel
theorem dX4_uniteRows_37 : decode cX4_uniteRows 37 = .ok (.iaload, 1) := by decide +kernel
theorem dX4_uniteRows_38 : decode cX4_uniteRows 38 = .ok (.aload 4, 2) := by decide +kernel
theorem dX4_uniteRows_40 : decode cX4_uniteRows 40 = .ok (.iload 5, 2) := by decide +kernel
theorem dX4_uniteRows_42 : decode cX4_uniteRows 42 = .ok (.iaload, 1) := by decide +kernel
theorem dX4_uniteRows_43 : decode cX4_uniteRows 43 = .ok (.isub, 1) := by decide +kernel
theorem dX4_uniteRows_44 : decode cX4_uniteRows 44 = .ok (.iastore, 1) := by decide +kernel
theorem dX4_uniteRows_45 : decode cX4_uniteRows 45 = .ok (.goto 75, 3) := by decide +kernel
theorem dX4_uniteRows_48 : decode cX4_uniteRows 48 = .ok (.iload_n 1, 1) := by decide +kernel
theorem dX4_uniteRows_49 : decode cX4_uniteRows 49 = .ok (.bipush 9, 2) := by decide +kernel
theorem dX4_uniteRows_51 : decode cX4_uniteRows 51 = .ok (.if_icmp .ne 18, 3) := by decide +kernel
theorem dX4_uniteRows_54 : decode cX4_uniteRows 54 = .ok (.aload_n 3, 1) := by decide +kernel
theorem dX4_uniteRows_55 : decode cX4_uniteRows 55 = .ok (.iload 5, 2) := by decide +kernel
theorem dX4_uniteRows_57 : decode cX4_uniteRows 57 = .ok (.dup2, 1) := by decide +kernel
theorem dX4_uniteRows_58 : decode cX4_uniteRows 58 = .ok (.iaload, 1) := by decide +kernel
theorem dX4_uniteRows_59 : decode cX4_uniteRows 59 = .ok (.aload 4, 2) := by decide +kernel
theorem dX4_uniteRows_61 : decode cX4_uniteRows 61 = .ok (.iload 5, 2) := by decide +kernel
theorem dX4_uniteRows_63 : decode cX4_uniteRows 63 = .ok (.iaload, 1) := by decide +kernel
theorem dX4_uniteRows_64 : decode cX4_uniteRows 64 = .ok (.iadd, 1) := by decide +kernel
theorem dX4_uniteRows_65 : decode cX4_uniteRows 65 = .ok (.iastore, 1) := by decide +kernel
theorem dX4_uniteRows_66 : decode cX4_uniteRows 66 = .ok (.goto 54, 3) := by decide +kernel
theorem dX4_uniteRows_69 : decode cX4_uniteRows 69 = .ok (.iload_n 1, 1) := by decide +kernel
theorem dX4_uniteRows_70 : decode cX4_uniteRows 70 = .ok (.bipush 10, 2) := by decide +kernel
theorem dX4_uniteRows_72 : decode cX4_uniteRows 72 = .ok (.if_icmp .ne 48, 3) := by decide +kernel
theorem dX4_uniteRows_75 : decode cX4_uniteRows 75 = .ok (.iconst 2, 1) := by decide +kernel
theorem dX4_uniteRows_76 : decode cX4_uniteRows 76 = .ok (.aload_n 3, 1) := by decide +kernel
theorem dX4_uniteRows_77 : decode cX4_uniteRows 77 = .ok (.iload 5, 2) := by decide +kernel
theorem dX4_uniteRows_79 : decode cX4_uniteRows 79 = .ok (.iaload, 1) := by decide +kernel
theorem dX4_uniteRows_80 : decode cX4_uniteRows 80 = .ok (.imul, 1) := by decide +kernel
theorem dX4_uniteRows_81 : decode cX4_uniteRows 81 = .ok (.aload 4, 2) := by decide +kernel
theorem dX4_uniteRows_83 : decode cX4_uniteRows 83 = .ok (.iload 5, 2) := by decide +kernel
theorem dX4_uniteRows_85 : decode cX4_uniteRows 85 = .ok (.iaload, 1) := by decide +kernel
theorem dX4_uniteRows_86 : decode cX4_uniteRows 86 = .ok (.iconst 1, 1) := by decide +kernel
theorem dX4_uniteRows_87 : decode cX4_uniteRows 87 = .ok (.iand, 1) := by decide +kernel
theorem dX4_uniteRows_88 : decode cX4_uniteRows 88 = .ok (.iadd, 1) := by decide +kernel
theorem dX4_uniteRows_89 : decode cX4_uniteRows 89 = .ok (.istore 6, 2) := by decide +kernel
theorem dX4_uniteRows_91 : decode cX4_uniteRows 91 = .ok (.aload_n 3, 1) := by decide +kernel
theorem dX4_uniteRows_92 : decode cX4_uniteRows 92 = .ok (.iload 5, 2) := by decide +kernel
theorem dX4_uniteRows_94 : decode cX4_uniteRows 94 = .ok (.iload 6, 2) := by decide +kernel
theorem dX4_uniteRows_96 : decode cX4_uniteRows 96 = .ok (.aload 4, 2) := by decide +kernel
theorem dX4_uniteRows_98 : decode cX4_uniteRows 98 = .ok (.iload 5, 2) := by decide +kernel
theorem dX4_uniteRows_100 : decode cX4_uniteRows 100 = .ok (.iaload, 1) := by decide +kernel
theorem dX4_uniteRows_101 : decode cX4_uniteRows 101 = .ok (.iadd, 1) := by decide +kernel
theorem dX4_uniteRows_102 : decode cX4_uniteRows 102 = .ok (.iconst 1, 1) := by decide +kernel
theorem dX4_uniteRows_103 : decode cX4_uniteRows 103 = .ok (.ishr, 1) := by decide +kernel
theorem dX4_uniteRows_104 : decode cX4_uniteRows 104 = .ok (.iastore, 1) := by decide +kernel
theorem dX4_uniteRows_105 : decode cX4_uniteRows 105 = .ok (.aload 4, 2) := by decide +kernel
theorem dX4_uniteRows_107 : decode cX4_uniteRows 107 = .ok (.iload 5, 2) := by decide +kernel
theorem dX4_uniteRows_109 : decode cX4_uniteRows 109 = .ok (.aload_n 3, 1) := by decide +kernel
theorem dX4_uniteRows_110 : decode cX4_uniteRows 110 = .ok (.iload 5, 2) := by decide +kernel
theorem dX4_uniteRows_112 : decode cX4_uniteRows 112 = .ok (.iaload, 1) := by decide +kernel
theorem dX4_uniteRows_113 : decode cX4_uniteRows 113 = .ok (.aload 4, 2) := by decide +kernel
theorem dX4_uniteRows_115 : decode cX4_uniteRows 115 = .ok (.iload 5, 2) := by decide +kernel
theorem dX4_uniteRows_117 : decode cX4_uniteRows 117 = .ok (.iaload, 1) := by decide +kernel
theorem dX4_uniteRows_118 : decode cX4_uniteRows 118 = .ok (.isub, 1) := by decide +kernel
theorem dX4_uniteRows_119 : decode cX4_uniteRows 119 = .ok (.iastore, 1) := by decide +kernel
theorem dX4_uniteRows_120 : decode cX4_uniteRows 120 = .ok (.iinc 5 1, 3) := by decide +kernel
theorem dX4_uniteRows_123 : decode cX4_uniteRows 123 = .ok (.goto (-105), 3) := by decide +kernel
theorem dX4_uniteRows_126 : decode cX4_uniteRows 126 = .ok (.return_, 1) := by decide +kernel
theorem dX5_init_0 : decode cX5_init 0 = .ok (.aload_n 0, 1) := by decide +kernel
theorem dX5_init_1 : decode cX5_init 1 = .ok (.invokespecial 3, 3) := by decide +kernel
theorem dX5_init_4 : decode cX5_init 4 = .ok (.aload_n 0, 1) := by decide +kernel
theorem dX5_init_5 : decode cX5_init 5 = .ok (.sipush 256, 3) := by decide +kernel
theorem dX5_init_8 : decode cX5_init 8 = .ok (.newarray .long, 2) := by decide +kernel
theorem dX5_init_10 : decode cX5_init 10 = .ok (.putfield 9, 3) := by decide +kernel
theorem dX5_init_13 : decode cX5_init 13 = .ok (.aload_n 0, 1) := by decide +kernel
theorem dX5_init_14 : decode cX5_init 14 = .ok (.bipush 120, 2) := by decide +kernel
theorem dX5_init_16 : decode cX5_init 16 = .ok (.newarray .long, 2) := by decide +kernel
theorem dX5_init_18 : decode cX5_init 18 = .ok (.putfield 15, 3) := by decide +kernel
theorem dX5_init_21 : decode cX5_init 21 = .ok (.aload_n 0, 1) := by decide +kernel
theorem dX5_init_22 : decode cX5_init 22 = .ok (.bipush 8, 2) := by decide +kernel
theorem dX5_init_24 : decode cX5_init 24 = .ok (.newarray .int, 2) := by decide +kernel
theorem dX5_init_26 : decode cX5_init 26 = .ok (.putfield 18, 3) := by decide +kernel
theorem dX5_init_29 : decode cX5_init 29 = .ok (.aload_n 0, 1) := by decide +kernel
theorem dX5_init_30 : decode cX5_init 30 = .ok (.bipush 8, 2) := by decide +kernel
theorem dX5_init_32 : decode cX5_init 32 = .ok (.newarray .int, 2) := by decide +kernel
theorem dX5_init_34 : decode cX5_init 34 = .ok (.putfield 22, 3) := by decide +kernel
theorem dX5_init_37 : decode cX5_init 37 = .ok (.return_, 1) := by decide +kernel
theorem dX5_take_0 : decode cX5_take 0 = .ok (.aload_n 0, 1) := by decide +kernel
theorem dX5_take_1 : decode cX5_take 1 = .ok (.iload_n 2, 1) := by decide +kernel
theorem dX5_take_2 : decode cX5_take 2 = .ok (.putfield 25, 3) := by decide +kernel
theorem dX5_take_5 : decode cX5_take 5 = .ok (.aload_n 0, 1) := by decide +kernel
theorem dX5_take_6 : decode cX5_take 6 = .ok (.aload_n 3, 1) := by decide +kernel
theorem dX5_take_7 : decode cX5_take 7 = .ok (.getfield 29, 3) := by decide +kernel
theorem dX5_take_10 : decode cX5_take 10 = .ok (.putfield 34, 3) := by decide +kernel
theorem dX5_take_13 : decode cX5_take 13 = .ok (.aload_n 0, 1) := by decide +kernel
theorem dX5_take_14 : decode cX5_take 14 = .ok (.getfield 34, 3) := by decide +kernel
theorem dX5_take_17 : decode cX5_take 17 = .ok (.istore 4, 2) := by decide +kernel
theorem dX5_take_19 : decode cX5_take 19 = .ok (.iload 4, 2) := by decide +kernel
theorem dX5_take_21 : decode cX5_take 21 = .ok (.iload_n 2, 1) := by decide +kernel
theorem dX5_take_22 : decode cX5_take 22 = .ok (.if_icmp .ge 71, 3) := by decide +kernel
theorem dX5_take_25 : decode cX5_take 25 = .ok (.aload_n 1, 1) := by decide +kernel
theorem dX5_take_26 : decode cX5_take 26 = .ok (.iload 4, 2) := by decide +kernel
theorem dX5_take_28 : decode cX5_take 28 = .ok (.iaload, 1) := by decide +kernel
theorem dX5_take_29 : decode cX5_take 29 = .ok (.i2l, 1) := by decide +kernel
theorem dX5_take_30 : decode cX5_take 30 = .ok (.aload_n 3, 1) := by decide +kernel
theorem dX5_take_31 : decode cX5_take 31 = .ok (.aload_n 1, 1) := by decide +kernel
theorem dX5_take_32 : decode cX5_take 32 = .ok (.iload 4, 2) := by decide +kernel
theorem dX5_take_34 : decode cX5_take 34 = .ok (.invokevirtual 37, 3) := by decide +kernel
theorem dX5_take_37 : decode cX5_take 37 = .ok (.lsub, 1) := by decide +kernel
theorem dX5_take_38 : decode cX5_take 38 = .ok (.lstore 5, 2) := by decide +kernel
theorem dX5_take_40 : decode cX5_take 40 = .ok (.lload 5, 2) := by decide +kernel
theorem dX5_take_42 : decode cX5_take 42 = .ok (.ldc2_w 41, 3) := by decide +kernel
theorem dX5_take_45 : decode cX5_take 45 = .ok (.ldc2_w 43, 3) := by decide +kernel
theorem dX5_take_48 : decode cX5_take 48 = .ok (.invokestatic 45, 3) := by decide +kernel
theorem dX5_take_51 : decode cX5_take 51 = .ok (.ifCond .ne 5, 3) := by decide +kernel
theorem dX5_take_54 : decode cX5_take 54 = .ok (.iconst 0, 1) := by decide +kernel
theorem dX5_take_55 : decode cX5_take 55 = .ok (.ireturn, 1) := by decide +kernel
theorem dX5_take_56 : decode cX5_take 56 = .ok (.aload_n 0, 1) := by decide +kernel
theorem dX5_take_57 : decode cX5_take 57 = .ok (.getfield 9, 3) := by decide +kernel
theorem dX5_take_60 : decode cX5_take 60 = .ok (.iload 4, 2) := by decide +kernel
theorem dX5_take_62 : decode cX5_take 62 = .ok (.lload 5, 2) := by decide +kernel
theorem dX5_take_64 : decode cX5_take 64 = .ok (.lconst 0, 1) := by decide +kernel
theorem dX5_take_65 : decode cX5_take 65 = .ok (.lcmp, 1) := by decide +kernel
theorem dX5_take_66 : decode cX5_take 66 = .ok (.ifCond .lt 12, 3) := by decide +kernel
theorem dX5_take_69 : decode cX5_take 69 = .ok (.ldc2_w 49, 3) := by decide +kernel
theorem dX5_take_72 : decode cX5_take 72 = .ok (.lload 5, 2) := by decide +kernel
theorem dX5_take_74 : decode cX5_take 74 = .ok (.lmul, 1) := by decide +kernel
theorem dX5_take_75 : decode cX5_take 75 = .ok (.goto 11, 3) := by decide +kernel
theorem dX5_take_78 : decode cX5_take 78 = .ok (.ldc2_w 51, 3) := by decide +kernel
theorem dX5_take_81 : decode cX5_take 81 = .ok (.lload 5, 2) := by decide +kernel
theorem dX5_take_83 : decode cX5_take 83 = .ok (.lmul, 1) := by decide +kernel
theorem dX5_take_84 : decode cX5_take 84 = .ok (.lconst 1, 1) := by decide +kernel
theorem dX5_take_85 : decode cX5_take 85 = .ok (.lsub, 1) := by decide +kernel
theorem dX5_take_86 : decode cX5_take 86 = .ok (.lastore, 1) := by decide +kernel
theorem dX5_take_87 : decode cX5_take 87 = .ok (.iinc 4 1, 3) := by decide +kernel
theorem dX5_take_90 : decode cX5_take 90 = .ok (.goto (-71), 3) := by decide +kernel
theorem dX5_take_93 : decode cX5_take 93 = .ok (.iconst 1, 1) := by decide +kernel
theorem dX5_take_94 : decode cX5_take 94 = .ok (.ireturn, 1) := by decide +kernel
theorem dX5_measure_0 : decode cX5_measure 0 = .ok (.aload_n 0, 1) := by decide +kernel
theorem dX5_measure_1 : decode cX5_measure 1 = .ok (.invokevirtual 53, 3) := by decide +kernel
theorem dX5_measure_4 : decode cX5_measure 4 = .ok (.istore_n 1, 1) := by decide +kernel
theorem dX5_measure_5 : decode cX5_measure 5 = .ok (.aload_n 0, 1) := by decide +kernel
theorem dX5_measure_6 : decode cX5_measure 6 = .ok (.iload_n 1, 1) := by decide +kernel
theorem dX5_measure_7 : decode cX5_measure 7 = .ok (.invokevirtual 57, 3) := by decide +kernel
theorem dX5_measure_10 : decode cX5_measure 10 = .ok (.aload_n 0, 1) := by decide +kernel
theorem dX5_measure_11 : decode cX5_measure 11 = .ok (.ldc2_w 61, 3) := by decide +kernel
theorem dX5_measure_14 : decode cX5_measure 14 = .ok (.putfield 63, 3) := by decide +kernel
theorem dX5_measure_17 : decode cX5_measure 17 = .ok (.iload_n 1, 1) := by decide +kernel
theorem dX5_measure_18 : decode cX5_measure 18 = .ok (.istore_n 2, 1) := by decide +kernel
theorem dX5_measure_19 : decode cX5_measure 19 = .ok (.iload_n 2, 1) := by decide +kernel
theorem dX5_measure_20 : decode cX5_measure 20 = .ok (.ifCond .lt 55, 3) := by decide +kernel
theorem dX5_measure_23 : decode cX5_measure 23 = .ok (.aload_n 0, 1) := by decide +kernel
theorem dX5_measure_24 : decode cX5_measure 24 = .ok (.iload_n 2, 1) := by decide +kernel
theorem dX5_measure_25 : decode cX5_measure 25 = .ok (.invokevirtual 67, 3) := by decide +kernel
theorem dX5_measure_28 : decode cX5_measure 28 = .ok (.lstore_n 3, 1) := by decide +kernel
theorem dX5_measure_29 : decode cX5_measure 29 = .ok (.lload_n 3, 1) := by decide +kernel
theorem dX5_measure_30 : decode cX5_measure 30 = .ok (.aload_n 0, 1) := by decide +kernel
theorem dX5_measure_31 : decode cX5_measure 31 = .ok (.getfield 63, 3) := by decide +kernel
theorem dX5_measure_34 : decode cX5_measure 34 = .ok (.lcmp, 1) := by decide +kernel
theorem dX5_measure_35 : decode cX5_measure 35 = .ok (.ifCond .gt 29, 3) := by decide +kernel
theorem dX5_measure_38 : decode cX5_measure 38 = .ok (.aload_n 0, 1) := by decide +kernel
theorem dX5_measure_39 : decode cX5_measure 39 = .ok (.lload_n 3, 1) := by decide +kernel
theorem dX5_measure_40 : decode cX5_measure 40 = .ok (.putfield 63, 3) := by decide +kernel
theorem dX5_measure_43 : decode cX5_measure 43 = .ok (.aload_n 0, 1) := by decide +kernel
theorem dX5_measure_44 : decode cX5_measure 44 = .ok (.iload_n 2, 1) := by decide +kernel
theorem dX5_measure_45 : decode cX5_measure 45 = .ok (.putfield 71, 3) := by decide +kernel
theorem dX5_measure_48 : decode cX5_measure 48 = .ok (.aload_n 0, 1) := by decide +kernel
theorem dX5_measure_49 : decode cX5_measure 49 = .ok (.getfield 22, 3) := by decide +kernel
theorem dX5_measure_52 : decode cX5_measure 52 = .ok (.iconst 0, 1) := by decide +kernel
theorem dX5_measure_53 : decode cX5_measure 53 = .ok (.aload_n 0, 1) := by decide +kernel
theorem dX5_measure_54 : decode cX5_measure 54 = .ok (.getfield 18, 3) := by decide +kernel
theorem dX5_measure_57 : decode cX5_measure 57 = .ok (.iconst 0, 1) := by decide +kernel
theorem dX5_measure_58 : decode cX5_measure 58 = .ok (.iconst 1, 1) := by decide +kernel
theorem dX5_measure_59 : decode cX5_measure 59 = .ok (.iload_n 2, 1) := by decide +kernel
theorem dX5_measure_60 : decode cX5_measure 60 = .ok (.ishl, 1) := by decide +kernel
theorem dX5_measure_61 : decode cX5_measure 61 = .ok (.invokestatic 72, 3) := by decide +kernel
theorem dX5_measure_64 : decode cX5_measure 64 = .ok (.aload_n 0, 1) := by decide +kernel
theorem dX5_measure_65 : decode cX5_measure 65 = .ok (.iload_n 2, 1) := by decide +kernel
theorem dX5_measure_66 : decode cX5_measure 66 = .ok (.invokevirtual 78, 3) := by decide +kernel
theorem dX5_measure_69 : decode cX5_measure 69 = .ok (.iinc 2 (-1), 3) := by decide +kernel
theorem dX5_measure_72 : decode cX5_measure 72 = .ok (.goto (-53), 3) := by decide +kernel
theorem dX5_measure_75 : decode cX5_measure 75 = .ok (.return_, 1) := by decide +kernel
theorem dX5_finestOrder_0 : decode cX5_finestOrder 0 = .ok (.iconst 0, 1) := by decide +kernel
theorem dX5_finestOrder_1 : decode cX5_finestOrder 1 = .ok (.istore_n 1, 1) := by decide +kernel
theorem dX5_finestOrder_2 : decode cX5_finestOrder 2 = .ok (.iload_n 1, 1) := by decide +kernel
theorem dX5_finestOrder_3 : decode cX5_finestOrder 3 = .ok (.iconst 3, 1) := by decide +kernel
theorem dX5_finestOrder_4 : decode cX5_finestOrder 4 = .ok (.if_icmp .ge 35, 3) := by decide +kernel
theorem dX5_finestOrder_7 : decode cX5_finestOrder 7 = .ok (.aload_n 0, 1) := by decide +kernel
theorem dX5_finestOrder_8 : decode cX5_finestOrder 8 = .ok (.getfield 25, 3) := by decide +kernel
theorem dX5_finestOrder_11 : decode cX5_finestOrder 11 = .ok (.iload_n 1, 1) := by decide +kernel
theorem dX5_finestOrder_12 : decode cX5_finestOrder 12 = .ok (.ishr, 1) := by decide +kernel
theorem dX5_finestOrder_13 : decode cX5_finestOrder 13 = .ok (.iconst 1, 1) := by decide +kernel
theorem dX5_finestOrder_14 : decode cX5_finestOrder 14 = .ok (.iand, 1) := by decide +kernel
theorem dX5_finestOrder_15 : decode cX5_finestOrder 15 = .ok (.ifCond .ne 24, 3) := by decide +kernel
theorem dX5_finestOrder_18 : decode cX5_finestOrder 18 = .ok (.aload_n 0, 1) := by decide +kernel
theorem dX5_finestOrder_19 : decode cX5_finestOrder 19 = .ok (.getfield 25, 3) := by decide +kernel
theorem dX5_finestOrder_22 : decode cX5_finestOrder 22 = .ok (.iload_n 1, 1) := by decide +kernel
theorem dX5_finestOrder_23 : decode cX5_finestOrder 23 = .ok (.iconst 1, 1) := by decide +kernel
theorem dX5_finestOrder_24 : decode cX5_finestOrder 24 = .ok (.iadd, 1) := by decide +kernel
theorem dX5_finestOrder_25 : decode cX5_finestOrder 25 = .ok (.ishr, 1) := by decide +kernel
theorem dX5_finestOrder_26 : decode cX5_finestOrder 26 = .ok (.aload_n 0, 1) := by decide +kernel
theorem dX5_finestOrder_27 : decode cX5_finestOrder 27 = .ok (.getfield 34, 3) := by decide +kernel
theorem dX5_finestOrder_30 : decode cX5_finestOrder 30 = .ok (.if_icmp .le 9, 3) := by decide +kernel
theorem dX5_finestOrder_33 : decode cX5_finestOrder 33 = .ok (.iinc 1 1, 3) := by decide +kernel
theorem dX5_finestOrder_36 : decode cX5_finestOrder 36 = .ok (.goto (-34), 3) := by decide +kernel
theorem dX5_finestOrder_39 : decode cX5_finestOrder 39 = .ok (.iload_n 1, 1) := by decide +kernel
theorem dX5_finestOrder_40 : decode cX5_finestOrder 40 = .ok (.ireturn, 1) := by decide +kernel
theorem dX5_addUp_0 : decode cX5_addUp 0 = .ok (.aload_n 0, 1) := by decide +kernel
theorem dX5_addUp_1 : decode cX5_addUp 1 = .ok (.getfield 15, 3) := by decide +kernel
theorem dX5_addUp_4 : decode cX5_addUp 4 = .ok (.lconst 0, 1) := by decide +kernel
theorem dX5_addUp_5 : decode cX5_addUp 5 = .ok (.invokestatic 81, 3) := by decide +kernel
theorem dX5_addUp_8 : decode cX5_addUp 8 = .ok (.aload_n 0, 1) := by decide +kernel
theorem dX5_addUp_9 : decode cX5_addUp 9 = .ok (.getfield 25, 3) := by decide +kernel
theorem dX5_addUp_12 : decode cX5_addUp 12 = .ok (.iload_n 1, 1) := by decide +kernel
theorem dX5_addUp_13 : decode cX5_addUp 13 = .ok (.ishr, 1) := by decide +kernel
theorem dX5_addUp_14 : decode cX5_addUp 14 = .ok (.istore_n 2, 1) := by decide +kernel
theorem dX5_addUp_15 : decode cX5_addUp 15 = .ok (.iconst 0, 1) := by decide +kernel
theorem dX5_addUp_16 : decode cX5_addUp 16 = .ok (.istore_n 3, 1) := by decide +kernel
theorem dX5_addUp_17 : decode cX5_addUp 17 = .ok (.iload_n 3, 1) := by decide +kernel
theorem dX5_addUp_18 : decode cX5_addUp 18 = .ok (.iconst 1, 1) := by decide +kernel
theorem dX5_addUp_19 : decode cX5_addUp 19 = .ok (.iload_n 1, 1) := by decide +kernel
theorem dX5_addUp_20 : decode cX5_addUp 20 = .ok (.ishl, 1) := by decide +kernel
theorem dX5_addUp_21 : decode cX5_addUp 21 = .ok (.if_icmp .ge 92, 3) := by decide +kernel
theorem dX5_addUp_24 : decode cX5_addUp 24 = .ok (.aload_n 0, 1) := by decide +kernel
theorem dX5_addUp_25 : decode cX5_addUp 25 = .ok (.getfield 34, 3) := by decide +kernel
theorem dX5_addUp_28 : decode cX5_addUp 28 = .ok (.iload_n 3, 1) := by decide +kernel
theorem dX5_addUp_29 : decode cX5_addUp 29 = .ok (.iload_n 2, 1) := by decide +kernel
theorem dX5_addUp_30 : decode cX5_addUp 30 = .ok (.imul, 1) := by decide +kernel
theorem dX5_addUp_31 : decode cX5_addUp 31 = .ok (.invokestatic 87, 3) := by decide +kernel
theorem dX5_addUp_34 : decode cX5_addUp 34 = .ok (.istore 4, 2) := by decide +kernel
theorem dX5_addUp_36 : decode cX5_addUp 36 = .ok (.iload 4, 2) := by decide +kernel
theorem dX5_addUp_38 : decode cX5_addUp 38 = .ok (.iload_n 3, 1) := by decide +kernel
theorem dX5_addUp_39 : decode cX5_addUp 39 = .ok (.iconst 1, 1) := by decide +kernel
theorem dX5_addUp_40 : decode cX5_addUp 40 = .ok (.iadd, 1) := by decide +kernel
theorem dX5_addUp_41 : decode cX5_addUp 41 = .ok (.iload_n 2, 1) := by decide +kernel
theorem dX5_addUp_42 : decode cX5_addUp 42 = .ok (.imul, 1) := by decide +kernel
theorem dX5_addUp_43 : decode cX5_addUp 43 = .ok (.if_icmp .ge 64, 3) := by decide +kernel
theorem dX5_addUp_46 : decode cX5_addUp 46 = .ok (.aload_n 0, 1) := by decide +kernel
theorem dX5_addUp_47 : decode cX5_addUp 47 = .ok (.getfield 9, 3) := by decide +kernel
theorem dX5_addUp_50 : decode cX5_addUp 50 = .ok (.iload 4, 2) := by decide +kernel
theorem dX5_addUp_52 : decode cX5_addUp 52 = .ok (.laload, 1) := by decide +kernel
theorem dX5_addUp_53 : decode cX5_addUp 53 = .ok (.lstore 5, 2) := by decide +kernel
theorem dX5_addUp_55 : decode cX5_addUp 55 = .ok (.iconst 0, 1) := by decide +kernel
theorem dX5_addUp_56 : decode cX5_addUp 56 = .ok (.istore 7, 2) := by decide +kernel
theorem dX5_addUp_58 : decode cX5_addUp 58 = .ok (.iload 7, 2) := by decide +kernel
theorem dX5_addUp_60 : decode cX5_addUp 60 = .ok (.bipush 15, 2) := by decide +kernel
theorem dX5_addUp_62 : decode cX5_addUp 62 = .ok (.if_icmp .ge 39, 3) := by decide +kernel
theorem dX5_addUp_65 : decode cX5_addUp 65 = .ok (.lload 5, 2) := by decide +kernel
theorem dX5_addUp_67 : decode cX5_addUp 67 = .ok (.lconst 0, 1) := by decide +kernel
theorem dX5_addUp_68 : decode cX5_addUp 68 = .ok (.lcmp, 1) := by decide +kernel
theorem dX5_addUp_69 : decode cX5_addUp 69 = .ok (.ifCond .le 32, 3) := by decide +kernel
theorem dX5_addUp_72 : decode cX5_addUp 72 = .ok (.aload_n 0, 1) := by decide +kernel
theorem dX5_addUp_73 : decode cX5_addUp 73 = .ok (.getfield 15, 3) := by decide +kernel
theorem dX5_addUp_76 : decode cX5_addUp 76 = .ok (.iload_n 3, 1) := by decide +kernel
theorem dX5_addUp_77 : decode cX5_addUp 77 = .ok (.bipush 15, 2) := by decide +kernel
theorem dX5_addUp_79 : decode cX5_addUp 79 = .ok (.imul, 1) := by decide +kernel
theorem dX5_addUp_80 : decode cX5_addUp 80 = .ok (.iload 7, 2) := by decide +kernel
theorem dX5_addUp_82 : decode cX5_addUp 82 = .ok (.iadd, 1) := by decide +kernel
theorem dX5_addUp_83 : decode cX5_addUp 83 = .ok (.dup2, 1) := by decide +kernel
theorem dX5_addUp_84 : decode cX5_addUp 84 = .ok (.laload, 1) := by decide +kernel
theorem dX5_addUp_85 : decode cX5_addUp 85 = .ok (.lload 5, 2) := by decide +kernel
theorem dX5_addUp_87 : decode cX5_addUp 87 = .ok (.ladd, 1) := by decide +kernel
theorem dX5_addUp_88 : decode cX5_addUp 88 = .ok (.lastore, 1) := by decide +kernel
theorem dX5_addUp_89 : decode cX5_addUp 89 = .ok (.lload 5, 2) := by decide +kernel
theorem dX5_addUp_91 : decode cX5_addUp 91 = .ok (.iconst 1, 1) := by decide +kernel
theorem dX5_addUp_92 : decode cX5_addUp 92 = .ok (.lshr, 1) := by decide +kernel
theorem dX5_addUp_93 : decode cX5_addUp 93 = .ok (.lstore 5, 2) := by decide +kernel
theorem dX5_addUp_95 : decode cX5_addUp 95 = .ok (.iinc 7 1, 3) := by decide +kernel
theorem dX5_addUp_98 : decode cX5_addUp 98 = .ok (.goto (-40), 3) := by decide +kernel
theorem dX5_addUp_101 : decode cX5_addUp 101 = .ok (.iinc 4 1, 3) := by decide +kernel
theorem dX5_addUp_104 : decode cX5_addUp 104 = .ok (.goto (-68), 3) := by decide +kernel
theorem dX5_addUp_107 : decode cX5_addUp 107 = .ok (.iinc 3 1, 3) := by decide +kernel
theorem dX5_addUp_110 : decode cX5_addUp 110 = .ok (.goto (-93), 3) := by decide +kernel
theorem dX5_addUp_113 : decode cX5_addUp 113 = .ok (.return_, 1) := by decide +kernel
theorem dX5_bitsInParts_0 : decode cX5_bitsInParts 0 = .ok (.ldc2_w 93, 3) := by decide +kernel
theorem dX5_bitsInParts_3 : decode cX5_bitsInParts 3 = .ok (.lstore_n 2, 1) := by decide +kernel
theorem dX5_bitsInParts_4 : decode cX5_bitsInParts 4 = .ok (.iconst 0, 1) := by decide +kernel
theorem dX5_bitsInParts_5 : decode cX5_bitsInParts 5 = .ok (.istore 4, 2) := by decide +kernel
theorem dX5_bitsInParts_7 : decode cX5_bitsInParts 7 = .ok (.iload 4, 2) := by decide +kernel
theorem dX5_bitsInParts_9 : decode cX5_bitsInParts 9 = .ok (.iconst 1, 1) := by decide +kernel
theorem dX5_bitsInParts_10 : decode cX5_bitsInParts 10 = .ok (.iload_n 1, 1) := by decide +kernel
theorem dX5_bitsInParts_11 : decode cX5_bitsInParts 11 = .ok (.ishl, 1) := by decide +kernel
theorem dX5_bitsInParts_12 : decode cX5_bitsInParts 12 = .ok (.if_icmp .ge 107, 3) := by decide +kernel
theorem dX5_bitsInParts_15 : decode cX5_bitsInParts 15 = .ok (.aload_n 0, 1) := by decide +kernel
theorem dX5_bitsInParts_16 : decode cX5_bitsInParts 16 = .ok (.getfield 25, 3) := by decide +kernel
theorem dX5_bitsInParts_19 : decode cX5_bitsInParts 19 = .ok (.iload_n 1, 1) := by decide +kernel
theorem dX5_bitsInParts_20 : decode cX5_bitsInParts 20 = .ok (.ishr, 1) := by decide +kernel
theorem dX5_bitsInParts_21 : decode cX5_bitsInParts 21 = .ok (.iload 4, 2) := by decide +kernel
theorem dX5_bitsInParts_23 : decode cX5_bitsInParts 23 = .ok (.ifCond .ne 10, 3) := by decide +kernel
theorem dX5_bitsInParts_26 : decode cX5_bitsInParts 26 = .ok (.aload_n 0, 1) := by decide +kernel
theorem dX5_bitsInParts_27 : decode cX5_bitsInParts 27 = .ok (.getfield 34, 3) := by decide +kernel
theorem dX5_bitsInParts_30 : decode cX5_bitsInParts 30 = .ok (.goto 4, 3) := by decide +kernel
theorem dX5_bitsInParts_33 : decode cX5_bitsInParts 33 = .ok (.iconst 0, 1) := by decide +kernel
theorem dX5_bitsInParts_34 : decode cX5_bitsInParts 34 = .ok (.isub, 1) := by decide +kernel
theorem dX5_bitsInParts_35 : decode cX5_bitsInParts 35 = .ok (.istore 5, 2) := by decide +kernel
theorem dX5_bitsInParts_37 : decode cX5_bitsInParts 37 = .ok (.ldc2_w 61, 3) := by decide +kernel
theorem dX5_bitsInParts_40 : decode cX5_bitsInParts 40 = .ok (.lstore 6, 2) := by decide +kernel
theorem dX5_bitsInParts_42 : decode cX5_bitsInParts 42 = .ok (.iconst 0, 1) := by decide +kernel
theorem dX5_bitsInParts_43 : decode cX5_bitsInParts 43 = .ok (.istore 8, 2) := by decide +kernel
theorem dX5_bitsInParts_45 : decode cX5_bitsInParts 45 = .ok (.iload 8, 2) := by decide +kernel
theorem dX5_bitsInParts_47 : decode cX5_bitsInParts 47 = .ok (.bipush 15, 2) := by decide +kernel
theorem dX5_bitsInParts_49 : decode cX5_bitsInParts 49 = .ok (.if_icmp .ge 59, 3) := by decide +kernel
theorem dX5_bitsInParts_52 : decode cX5_bitsInParts 52 = .ok (.ldc2_w 95, 3) := by decide +kernel
theorem dX5_bitsInParts_55 : decode cX5_bitsInParts 55 = .ok (.aload_n 0, 1) := by decide +kernel
theorem dX5_bitsInParts_56 : decode cX5_bitsInParts 56 = .ok (.getfield 15, 3) := by decide +kernel
theorem dX5_bitsInParts_59 : decode cX5_bitsInParts 59 = .ok (.iload 4, 2) := by decide +kernel
theorem dX5_bitsInParts_61 : decode cX5_bitsInParts 61 = .ok (.bipush 15, 2) := by decide +kernel
theorem dX5_bitsInParts_63 : decode cX5_bitsInParts 63 = .ok (.imul, 1) := by decide +kernel
theorem dX5_bitsInParts_64 : decode cX5_bitsInParts 64 = .ok (.iload 8, 2) := by decide +kernel
theorem dX5_bitsInParts_66 : decode cX5_bitsInParts 66 = .ok (.iadd, 1) := by decide +kernel
theorem dX5_bitsInParts_67 : decode cX5_bitsInParts 67 = .ok (.laload, 1) := by decide +kernel
theorem dX5_bitsInParts_68 : decode cX5_bitsInParts 68 = .ok (.ladd, 1) := by decide +kernel
theorem dX5_bitsInParts_69 : decode cX5_bitsInParts 69 = .ok (.iload 5, 2) := by decide +kernel
theorem dX5_bitsInParts_71 : decode cX5_bitsInParts 71 = .ok (.i2l, 1) := by decide +kernel
theorem dX5_bitsInParts_72 : decode cX5_bitsInParts 72 = .ok (.iconst 1, 1) := by decide +kernel
theorem dX5_bitsInParts_73 : decode cX5_bitsInParts 73 = .ok (.iload 8, 2) := by decide +kernel
theorem dX5_bitsInParts_75 : decode cX5_bitsInParts 75 = .ok (.iadd, 1) := by decide +kernel
theorem dX5_bitsInParts_76 : decode cX5_bitsInParts 76 = .ok (.i2l, 1) := by decide +kernel
theorem dX5_bitsInParts_77 : decode cX5_bitsInParts 77 = .ok (.lmul, 1) := by decide +kernel
theorem dX5_bitsInParts_78 : decode cX5_bitsInParts 78 = .ok (.ladd, 1) := by decide +kernel
theorem dX5_bitsInParts_79 : decode cX5_bitsInParts 79 = .ok (.lstore 9, 2) := by decide +kernel
theorem dX5_bitsInParts_81 : decode cX5_bitsInParts 81 = .ok (.lload 9, 2) := by decide +kernel
theorem dX5_bitsInParts_83 : decode cX5_bitsInParts 83 = .ok (.lload 6, 2) := by decide +kernel
theorem dX5_bitsInParts_85 : decode cX5_bitsInParts 85 = .ok (.lcmp, 1) := by decide +kernel
theorem dX5_bitsInParts_86 : decode cX5_bitsInParts 86 = .ok (.ifCond .ge 16, 3) := by decide +kernel
theorem dX5_bitsInParts_89 : decode cX5_bitsInParts 89 = .ok (.lload 9, 2) := by decide +kernel
theorem dX5_bitsInParts_91 : decode cX5_bitsInParts 91 = .ok (.lstore 6, 2) := by decide +kernel
theorem dX5_bitsInParts_93 : decode cX5_bitsInParts 93 = .ok (.aload_n 0, 1) := by decide +kernel
theorem dX5_bitsInParts_94 : decode cX5_bitsInParts 94 = .ok (.getfield 22, 3) := by decide +kernel
theorem dX5_bitsInParts_97 : decode cX5_bitsInParts 97 = .ok (.iload 4, 2) := by decide +kernel
theorem dX5_bitsInParts_99 : decode cX5_bitsInParts 99 = .ok (.iload 8, 2) := by decide +kernel
theorem dX5_bitsInParts_101 : decode cX5_bitsInParts 101 = .ok (.iastore, 1) := by decide +kernel
theorem dX5_bitsInParts_102 : decode cX5_bitsInParts 102 = .ok (.iinc 8 1, 3) := by decide +kernel
theorem dX5_bitsInParts_105 : decode cX5_bitsInParts 105 = .ok (.goto (-60), 3) := by decide +kernel
theorem dX5_bitsInParts_108 : decode cX5_bitsInParts 108 = .ok (.lload_n 2, 1) := by decide +kernel
theorem dX5_bitsInParts_109 : decode cX5_bitsInParts 109 = .ok (.lload 6, 2) := by decide +kernel
theorem dX5_bitsInParts_111 : decode cX5_bitsInParts 111 = .ok (.ladd, 1) := by decide +kernel
theorem dX5_bitsInParts_112 : decode cX5_bitsInParts 112 = .ok (.lstore_n 2, 1) := by decide +kernel
theorem dX5_bitsInParts_113 : decode cX5_bitsInParts 113 = .ok (.iinc 4 1, 3) := by decide +kernel
theorem dX5_bitsInParts_116 : decode cX5_bitsInParts 116 = .ok (.goto (-109), 3) := by decide +kernel
theorem dX5_bitsInParts_119 : decode cX5_bitsInParts 119 = .ok (.lload_n 2, 1) := by decide +kernel
theorem dX5_bitsInParts_120 : decode cX5_bitsInParts 120 = .ok (.lreturn, 1) := by decide +kernel
theorem dX5_joinPairs_0 : decode cX5_joinPairs 0 = .ok (.iconst 0, 1) := by decide +kernel
theorem dX5_joinPairs_1 : decode cX5_joinPairs 1 = .ok (.istore_n 2, 1) := by decide +kernel
theorem dX5_joinPairs_2 : decode cX5_joinPairs 2 = .ok (.iload_n 2, 1) := by decide +kernel
theorem dX5_joinPairs_3 : decode cX5_joinPairs 3 = .ok (.iconst 1, 1) := by decide +kernel
theorem dX5_joinPairs_4 : decode cX5_joinPairs 4 = .ok (.iload_n 1, 1) := by decide +kernel
theorem dX5_joinPairs_5 : decode cX5_joinPairs 5 = .ok (.ishl, 1) := by decide +kernel
theorem dX5_joinPairs_6 : decode cX5_joinPairs 6 = .ok (.iconst 1, 1) := by decide +kernel
theorem dX5_joinPairs_7 : decode cX5_joinPairs 7 = .ok (.ishr, 1) := by decide +kernel
theorem dX5_joinPairs_8 : decode cX5_joinPairs 8 = .ok (.if_icmp .ge 63, 3) := by decide +kernel
theorem dX5_joinPairs_11 : decode cX5_joinPairs 11 = .ok (.iconst 0, 1) := by decide +kernel
theorem dX5_joinPairs_12 : decode cX5_joinPairs 12 = .ok (.istore_n 3, 1) := by decide +kernel
theorem dX5_joinPairs_13 : decode cX5_joinPairs 13 = .ok (.iload_n 3, 1) := by decide +kernel
theorem dX5_joinPairs_14 : decode cX5_joinPairs 14 = .ok (.bipush 15, 2) := by decide +kernel
theorem dX5_joinPairs_16 : decode cX5_joinPairs 16 = .ok (.if_icmp .ge 49, 3) := by decide +kernel
theorem dX5_joinPairs_19 : decode cX5_joinPairs 19 = .ok (.aload_n 0, 1) := by decide +kernel
theorem dX5_joinPairs_20 : decode cX5_joinPairs 20 = .ok (.getfield 15, 3) := by decide +kernel
theorem dX5_joinPairs_23 : decode cX5_joinPairs 23 = .ok (.iload_n 2, 1) := by decide +kernel
theorem dX5_joinPairs_24 : decode cX5_joinPairs 24 = .ok (.bipush 15, 2) := by decide +kernel
theorem dX5_joinPairs_26 : decode cX5_joinPairs 26 = .ok (.imul, 1) := by decide +kernel
theorem dX5_joinPairs_27 : decode cX5_joinPairs 27 = .ok (.iload_n 3, 1) := by decide +kernel
theorem dX5_joinPairs_28 : decode cX5_joinPairs 28 = .ok (.iadd, 1) := by decide +kernel
theorem dX5_joinPairs_29 : decode cX5_joinPairs 29 = .ok (.aload_n 0, 1) := by decide +kernel
theorem dX5_joinPairs_30 : decode cX5_joinPairs 30 = .ok (.getfield 15, 3) := by decide +kernel
theorem dX5_joinPairs_33 : decode cX5_joinPairs 33 = .ok (.iconst 2, 1) := by decide +kernel
theorem dX5_joinPairs_34 : decode cX5_joinPairs 34 = .ok (.iload_n 2, 1) := by decide +kernel
theorem dX5_joinPairs_35 : decode cX5_joinPairs 35 = .ok (.imul, 1) := by decide +kernel
theorem dX5_joinPairs_36 : decode cX5_joinPairs 36 = .ok (.bipush 15, 2) := by decide +kernel
theorem dX5_joinPairs_38 : decode cX5_joinPairs 38 = .ok (.imul, 1) := by decide +kernel
theorem dX5_joinPairs_39 : decode cX5_joinPairs 39 = .ok (.iload_n 3, 1) := by decide +kernel
theorem dX5_joinPairs_40 : decode cX5_joinPairs 40 = .ok (.iadd, 1) := by decide +kernel
theorem dX5_joinPairs_41 : decode cX5_joinPairs 41 = .ok (.laload, 1) := by decide +kernel
theorem dX5_joinPairs_42 : decode cX5_joinPairs 42 = .ok (.aload_n 0, 1) := by decide +kernel
theorem dX5_joinPairs_43 : decode cX5_joinPairs 43 = .ok (.getfield 15, 3) := by decide +kernel
theorem dX5_joinPairs_46 : decode cX5_joinPairs 46 = .ok (.iconst 2, 1) := by decide +kernel
theorem dX5_joinPairs_47 : decode cX5_joinPairs 47 = .ok (.iload_n 2, 1) := by decide +kernel
theorem dX5_joinPairs_48 : decode cX5_joinPairs 48 = .ok (.imul, 1) := by decide +kernel
theorem dX5_joinPairs_49 : decode cX5_joinPairs 49 = .ok (.iconst 1, 1) := by decide +kernel
theorem dX5_joinPairs_50 : decode cX5_joinPairs 50 = .ok (.iadd, 1) := by decide +kernel
theorem dX5_joinPairs_51 : decode cX5_joinPairs 51 = .ok (.bipush 15, 2) := by decide +kernel
theorem dX5_joinPairs_53 : decode cX5_joinPairs 53 = .ok (.imul, 1) := by decide +kernel
theorem dX5_joinPairs_54 : decode cX5_joinPairs 54 = .ok (.iload_n 3, 1) := by decide +kernel
theorem dX5_joinPairs_55 : decode cX5_joinPairs 55 = .ok (.iadd, 1) := by decide +kernel
theorem dX5_joinPairs_56 : decode cX5_joinPairs 56 = .ok (.laload, 1) := by decide +kernel
theorem dX5_joinPairs_57 : decode cX5_joinPairs 57 = .ok (.ladd, 1) := by decide +kernel
theorem dX5_joinPairs_58 : decode cX5_joinPairs 58 = .ok (.lastore, 1) := by decide +kernel
theorem dX5_joinPairs_59 : decode cX5_joinPairs 59 = .ok (.iinc 3 1, 3) := by decide +kernel
theorem dX5_joinPairs_62 : decode cX5_joinPairs 62 = .ok (.goto (-49), 3) := by decide +kernel
theorem dX5_joinPairs_65 : decode cX5_joinPairs 65 = .ok (.iinc 2 1, 3) := by decide +kernel
theorem dX5_joinPairs_68 : decode cX5_joinPairs 68 = .ok (.goto (-66), 3) := by decide +kernel
theorem dX5_joinPairs_71 : decode cX5_joinPairs 71 = .ok (.return_, 1) := by decide +kernel
theorem dX5_write_0 : decode cX5_write 0 = .ok (.aload_n 1, 1) := by decide +kernel
theorem dX5_write_1 : decode cX5_write 1 = .ok (.iconst 2, 1) := by decide +kernel
theorem dX5_write_2 : decode cX5_write 2 = .ok (.lconst 0, 1) := by decide +kernel
theorem dX5_write_3 : decode cX5_write 3 = .ok (.invokevirtual 97, 3) := by decide +kernel
theorem dX5_write_6 : decode cX5_write 6 = .ok (.aload_n 1, 1) := by decide +kernel
theorem dX5_write_7 : decode cX5_write 7 = .ok (.iconst 4, 1) := by decide +kernel
theorem dX5_write_8 : decode cX5_write 8 = .ok (.aload_n 0, 1) := by decide +kernel
theorem dX5_write_9 : decode cX5_write 9 = .ok (.getfield 71, 3) := by decide +kernel
theorem dX5_write_12 : decode cX5_write 12 = .ok (.i2l, 1) := by decide +kernel
theorem dX5_write_13 : decode cX5_write 13 = .ok (.invokevirtual 97, 3) := by decide +kernel
theorem dX5_write_16 : decode cX5_write 16 = .ok (.aload_n 0, 1) := by decide +kernel
theorem dX5_write_17 : decode cX5_write 17 = .ok (.getfield 25, 3) := by decide +kernel
theorem dX5_write_20 : decode cX5_write 20 = .ok (.aload_n 0, 1) := by decide +kernel
theorem dX5_write_21 : decode cX5_write 21 = .ok (.getfield 71, 3) := by decide +kernel
theorem dX5_write_24 : decode cX5_write 24 = .ok (.ishr, 1) := by decide +kernel
theorem dX5_write_25 : decode cX5_write 25 = .ok (.istore_n 2, 1) := by decide +kernel
theorem dX5_write_26 : decode cX5_write 26 = .ok (.iconst 0, 1) := by decide +kernel
theorem dX5_write_27 : decode cX5_write 27 = .ok (.istore_n 3, 1) := by decide +kernel
theorem dX5_write_28 : decode cX5_write 28 = .ok (.iload_n 3, 1) := by decide +kernel
theorem dX5_write_29 : decode cX5_write 29 = .ok (.iconst 1, 1) := by decide +kernel
theorem dX5_write_30 : decode cX5_write 30 = .ok (.aload_n 0, 1) := by decide +kernel
theorem dX5_write_31 : decode cX5_write 31 = .ok (.getfield 71, 3) := by decide +kernel
theorem dX5_write_34 : decode cX5_write 34 = .ok (.ishl, 1) := by decide +kernel
theorem dX5_write_35 : decode cX5_write 35 = .ok (.if_icmp .ge 87, 3) := by decide +kernel
theorem dX5_write_38 : decode cX5_write 38 = .ok (.aload_n 0, 1) := by decide +kernel
theorem dX5_write_39 : decode cX5_write 39 = .ok (.getfield 18, 3) := by decide +kernel
theorem dX5_write_42 : decode cX5_write 42 = .ok (.iload_n 3, 1) := by decide +kernel
theorem dX5_write_43 : decode cX5_write 43 = .ok (.iaload, 1) := by decide +kernel
theorem dX5_write_44 : decode cX5_write 44 = .ok (.istore 4, 2) := by decide +kernel
theorem dX5_write_46 : decode cX5_write 46 = .ok (.aload_n 1, 1) := by decide +kernel
theorem dX5_write_47 : decode cX5_write 47 = .ok (.iconst 4, 1) := by decide +kernel
theorem dX5_write_48 : decode cX5_write 48 = .ok (.iload 4, 2) := by decide +kernel
theorem dX5_write_50 : decode cX5_write 50 = .ok (.i2l, 1) := by decide +kernel
theorem dX5_write_51 : decode cX5_write 51 = .ok (.invokevirtual 97, 3) := by decide +kernel
theorem dX5_write_54 : decode cX5_write 54 = .ok (.aload_n 0, 1) := by decide +kernel
theorem dX5_write_55 : decode cX5_write 55 = .ok (.getfield 34, 3) := by decide +kernel
theorem dX5_write_58 : decode cX5_write 58 = .ok (.iload_n 3, 1) := by decide +kernel
theorem dX5_write_59 : decode cX5_write 59 = .ok (.iload_n 2, 1) := by decide +kernel
theorem dX5_write_60 : decode cX5_write 60 = .ok (.imul, 1) := by decide +kernel
theorem dX5_write_61 : decode cX5_write 61 = .ok (.invokestatic 87, 3) := by decide +kernel
theorem dX5_write_64 : decode cX5_write 64 = .ok (.istore 5, 2) := by decide +kernel
theorem dX5_write_66 : decode cX5_write 66 = .ok (.iload 5, 2) := by decide +kernel
theorem dX5_write_68 : decode cX5_write 68 = .ok (.iload_n 3, 1) := by decide +kernel
theorem dX5_write_69 : decode cX5_write 69 = .ok (.iconst 1, 1) := by decide +kernel
theorem dX5_write_70 : decode cX5_write 70 = .ok (.iadd, 1) := by decide +kernel
theorem dX5_write_71 : decode cX5_write 71 = .ok (.iload_n 2, 1) := by decide +kernel
theorem dX5_write_72 : decode cX5_write 72 = .ok (.imul, 1) := by decide +kernel
theorem dX5_write_73 : decode cX5_write 73 = .ok (.if_icmp .ge 43, 3) := by decide +kernel
theorem dX5_write_76 : decode cX5_write 76 = .ok (.aload_n 1, 1) := by decide +kernel
theorem dX5_write_77 : decode cX5_write 77 = .ok (.aload_n 0, 1) := by decide +kernel
theorem dX5_write_78 : decode cX5_write 78 = .ok (.getfield 9, 3) := by decide +kernel
theorem dX5_write_81 : decode cX5_write 81 = .ok (.iload 5, 2) := by decide +kernel
theorem dX5_write_83 : decode cX5_write 83 = .ok (.laload, 1) := by decide +kernel
theorem dX5_write_84 : decode cX5_write 84 = .ok (.iload 4, 2) := by decide +kernel
theorem dX5_write_86 : decode cX5_write 86 = .ok (.lshr, 1) := by decide +kernel
theorem dX5_write_87 : decode cX5_write 87 = .ok (.l2i, 1) := by decide +kernel
theorem dX5_write_88 : decode cX5_write 88 = .ok (.invokevirtual 103, 3) := by decide +kernel
theorem dX5_write_91 : decode cX5_write 91 = .ok (.aload_n 1, 1) := by decide +kernel
theorem dX5_write_92 : decode cX5_write 92 = .ok (.iconst 1, 1) := by decide +kernel
theorem dX5_write_93 : decode cX5_write 93 = .ok (.lconst 1, 1) := by decide +kernel
theorem dX5_write_94 : decode cX5_write 94 = .ok (.invokevirtual 97, 3) := by decide +kernel
theorem dX5_write_97 : decode cX5_write 97 = .ok (.aload_n 1, 1) := by decide +kernel
theorem dX5_write_98 : decode cX5_write 98 = .ok (.iload 4, 2) := by decide +kernel
theorem dX5_write_100 : decode cX5_write 100 = .ok (.aload_n 0, 1) := by decide +kernel
theorem dX5_write_101 : decode cX5_write 101 = .ok (.getfield 9, 3) := by decide +kernel
theorem dX5_write_104 : decode cX5_write 104 = .ok (.iload 5, 2) := by decide +kernel
theorem dX5_write_106 : decode cX5_write 106 = .ok (.laload, 1) := by decide +kernel
theorem dX5_write_107 : decode cX5_write 107 = .ok (.invokevirtual 97, 3) := by decide +kernel
theorem dX5_write_110 : decode cX5_write 110 = .ok (.iinc 5 1, 3) := by decide +kernel
theorem dX5_write_113 : decode cX5_write 113 = .ok (.goto (-47), 3) := by decide +kernel
theorem dX5_write_116 : decode cX5_write 116 = .ok (.iinc 3 1, 3) := by decide +kernel
theorem dX5_write_119 : decode cX5_write 119 = .ok (.goto (-91), 3) := by decide +kernel
theorem dX5_write_122 : decode cX5_write 122 = .ok (.return_, 1) := by decide +kernel
theorem dX6_init_0 : decode cX6_init 0 = .ok (.aload_n 0, 1) := by decide +kernel
theorem dX6_init_1 : decode cX6_init 1 = .ok (.invokespecial 1, 3) := by decide +kernel
theorem dX6_init_4 : decode cX6_init 4 = .ok (.aload_n 0, 1) := by decide +kernel
theorem dX6_init_5 : decode cX6_init 5 = .ok (.iconst 1, 1) := by decide +kernel
theorem dX6_init_6 : decode cX6_init 6 = .ok (.putfield 7, 3) := by decide +kernel
theorem dX6_init_9 : decode cX6_init 9 = .ok (.aload_n 0, 1) := by decide +kernel
theorem dX6_init_10 : decode cX6_init 10 = .ok (.bipush 16, 2) := by decide +kernel
theorem dX6_init_12 : decode cX6_init 12 = .ok (.putfield 13, 3) := by decide +kernel
theorem dX6_init_15 : decode cX6_init 15 = .ok (.aload_n 0, 1) := by decide +kernel
theorem dX6_init_16 : decode cX6_init 16 = .ok (.bipush 64, 2) := by decide +kernel
theorem dX6_init_18 : decode cX6_init 18 = .ok (.putfield 16, 3) := by decide +kernel
theorem dX6_init_21 : decode cX6_init 21 = .ok (.aload_n 0, 1) := by decide +kernel
theorem dX6_init_22 : decode cX6_init 22 = .ok (.ldc 19, 2) := by decide +kernel
theorem dX6_init_24 : decode cX6_init 24 = .ok (.putfield 20, 3) := by decide +kernel
theorem dX6_init_27 : decode cX6_init 27 = .ok (.return_, 1) := by decide +kernel
theorem dX6_become_0 : decode cX6_become 0 = .ok (.aload_n 0, 1) := by decide +kernel
theorem dX6_become_1 : decode cX6_become 1 = .ok (.aload_n 1, 1) := by decide +kernel
theorem dX6_become_2 : decode cX6_become 2 = .ok (.getfield 7, 3) := by decide +kernel
theorem dX6_become_5 : decode cX6_become 5 = .ok (.putfield 7, 3) := by decide +kernel
theorem dX6_become_8 : decode cX6_become 8 = .ok (.aload_n 0, 1) := by decide +kernel
theorem dX6_become_9 : decode cX6_become 9 = .ok (.aload_n 1, 1) := by decide +kernel
theorem dX6_become_10 : decode cX6_become 10 = .ok (.getfield 13, 3) := by decide +kernel
theorem dX6_become_13 : decode cX6_become 13 = .ok (.putfield 13, 3) := by decide +kernel
theorem dX6_become_16 : decode cX6_become 16 = .ok (.aload_n 0, 1) := by decide +kernel
theorem dX6_become_17 : decode cX6_become 17 = .ok (.aload_n 1, 1) := by decide +kernel
theorem dX6_become_18 : decode cX6_become 18 = .ok (.getfield 16, 3) := by decide +kernel
theorem dX6_become_21 : decode cX6_become 21 = .ok (.putfield 16, 3) := by decide +kernel
theorem dX6_become_24 : decode cX6_become 24 = .ok (.aload_n 0, 1) := by decide +kernel
theorem dX6_become_25 : decode cX6_become 25 = .ok (.aload_n 1, 1) := by decide +kernel
theorem dX6_become_26 : decode cX6_become 26 = .ok (.getfield 20, 3) := by decide +kernel
theorem dX6_become_29 : decode cX6_become 29 = .ok (.putfield 20, 3) := by decide +kernel
theorem dX6_become_32 : decode cX6_become 32 = .ok (.return_, 1) := by decide +kernel
theorem dX7_init_0 : decode cX7_init 0 = .ok (.aload_n 0, 1) := by decide +kernel
theorem dX7_init_1 : decode cX7_init 1 = .ok (.invokespecial 3, 3) := by decide +kernel
theorem dX7_init_4 : decode cX7_init 4 = .ok (.aload_n 0, 1) := by decide +kernel
theorem dX7_init_5 : decode cX7_init 5 = .ok (.sipush 256, 3) := by decide +kernel
theorem dX7_init_8 : decode cX7_init 8 = .ok (.newarray .int, 2) := by decide +kernel
theorem dX7_init_10 : decode cX7_init 10 = .ok (.putfield 9, 3) := by decide +kernel
theorem dX7_init_13 : decode cX7_init 13 = .ok (.return_, 1) := by decide +kernel
theorem dX7_begin_0 : decode cX7_begin 0 = .ok (.aload_n 0, 1) := by decide +kernel
theorem dX7_begin_1 : decode cX7_begin 1 = .ok (.iload_n 1, 1) := by decide +kernel
theorem dX7_begin_2 : decode cX7_begin 2 = .ok (.putfield 15, 3) := by decide +kernel
theorem dX7_begin_5 : decode cX7_begin 5 = .ok (.aload_n 0, 1) := by decide +kernel
theorem dX7_begin_6 : decode cX7_begin 6 = .ok (.iload_n 2, 1) := by decide +kernel
theorem dX7_begin_7 : decode cX7_begin 7 = .ok (.putfield 19, 3) := by decide +kernel
theorem dX7_begin_10 : decode cX7_begin 10 = .ok (.aload_n 0, 1) := by decide +kernel
theorem dX7_begin_11 : decode cX7_begin 11 = .ok (.iconst 0, 1) := by decide +kernel
theorem dX7_begin_12 : decode cX7_begin 12 = .ok (.putfield 22, 3) := by decide +kernel
theorem dX7_begin_15 : decode cX7_begin 15 = .ok (.aload_n 0, 1) := by decide +kernel
theorem dX7_begin_16 : decode cX7_begin 16 = .ok (.ldc2_w 25, 3) := by decide +kernel
theorem dX7_begin_19 : decode cX7_begin 19 = .ok (.putfield 27, 3) := by decide +kernel
theorem dX7_begin_22 : decode cX7_begin 22 = .ok (.return_, 1) := by decide +kernel
theorem dX7_dropWasted_0 : decode cX7_dropWasted 0 = .ok (.iconst 0, 1) := by decide +kernel
theorem dX7_dropWasted_1 : decode cX7_dropWasted 1 = .ok (.istore_n 1, 1) := by decide +kernel
theorem dX7_dropWasted_2 : decode cX7_dropWasted 2 = .ok (.iconst 0, 1) := by decide +kernel
theorem dX7_dropWasted_3 : decode cX7_dropWasted 3 = .ok (.istore_n 2, 1) := by decide +kernel
theorem dX7_dropWasted_4 : decode cX7_dropWasted 4 = .ok (.iload_n 2, 1) := by decide +kernel
theorem dX7_dropWasted_5 : decode cX7_dropWasted 5 = .ok (.aload_n 0, 1) := by decide +kernel
theorem dX7_dropWasted_6 : decode cX7_dropWasted 6 = .ok (.getfield 15, 3) := by decide +kernel
theorem dX7_dropWasted_9 : decode cX7_dropWasted 9 = .ok (.if_icmp .ge 18, 3) := by decide +kernel
theorem dX7_dropWasted_12 : decode cX7_dropWasted 12 = .ok (.iload_n 1, 1) := by decide +kernel
theorem dX7_dropWasted_13 : decode cX7_dropWasted 13 = .ok (.aload_n 0, 1) := by decide +kernel
theorem dX7_dropWasted_14 : decode cX7_dropWasted 14 = .ok (.getfield 9, 3) := by decide +kernel
theorem dX7_dropWasted_17 : decode cX7_dropWasted 17 = .ok (.iload_n 2, 1) := by decide +kernel
theorem dX7_dropWasted_18 : decode cX7_dropWasted 18 = .ok (.iaload, 1) := by decide +kernel
theorem dX7_dropWasted_19 : decode cX7_dropWasted 19 = .ok (.ior, 1) := by decide +kernel
theorem dX7_dropWasted_20 : decode cX7_dropWasted 20 = .ok (.istore_n 1, 1) := by decide +kernel
theorem dX7_dropWasted_21 : decode cX7_dropWasted 21 = .ok (.iinc 2 1, 3) := by decide +kernel
theorem dX7_dropWasted_24 : decode cX7_dropWasted 24 = .ok (.goto (-20), 3) := by decide +kernel
theorem dX7_dropWasted_27 : decode cX7_dropWasted 27 = .ok (.iload_n 1, 1) := by decide +kernel
theorem dX7_dropWasted_28 : decode cX7_dropWasted 28 = .ok (.ifCond .eq 39, 3) := by decide +kernel
theorem dX7_dropWasted_31 : decode cX7_dropWasted 31 = .ok (.iload_n 1, 1) := by decide +kernel
theorem dX7_dropWasted_32 : decode cX7_dropWasted 32 = .ok (.iconst 1, 1) := by decide +kernel
theorem dX7_dropWasted_33 : decode cX7_dropWasted 33 = .ok (.iand, 1) := by decide +kernel
theorem dX7_dropWasted_34 : decode cX7_dropWasted 34 = .ok (.ifCond .ne 33, 3) := by decide +kernel
theorem dX7_dropWasted_37 : decode cX7_dropWasted 37 = .ok (.aload_n 0, 1) := by decide +kernel
theorem dX7_dropWasted_38 : decode cX7_dropWasted 38 = .ok (.getfield 22, 3) := by decide +kernel
theorem dX7_dropWasted_41 : decode cX7_dropWasted 41 = .ok (.aload_n 0, 1) := by decide +kernel
theorem dX7_dropWasted_42 : decode cX7_dropWasted 42 = .ok (.getfield 19, 3) := by decide +kernel
theorem dX7_dropWasted_45 : decode cX7_dropWasted 45 = .ok (.iconst 1, 1) := by decide +kernel
theorem dX7_dropWasted_46 : decode cX7_dropWasted 46 = .ok (.isub, 1) := by decide +kernel
theorem dX7_dropWasted_47 : decode cX7_dropWasted 47 = .ok (.if_icmp .ge 20, 3) := by decide +kernel
theorem dX7_dropWasted_50 : decode cX7_dropWasted 50 = .ok (.iload_n 1, 1) := by decide +kernel
theorem dX7_dropWasted_51 : decode cX7_dropWasted 51 = .ok (.iconst 1, 1) := by decide +kernel
theorem dX7_dropWasted_52 : decode cX7_dropWasted 52 = .ok (.ishr, 1) := by decide +kernel
theorem dX7_dropWasted_53 : decode cX7_dropWasted 53 = .ok (.istore_n 1, 1) := by decide +kernel
theorem dX7_dropWasted_54 : decode cX7_dropWasted 54 = .ok (.aload_n 0, 1) := by decide +kernel
theorem dX7_dropWasted_55 : decode cX7_dropWasted 55 = .ok (.dup, 1) := by decide +kernel
theorem dX7_dropWasted_56 : decode cX7_dropWasted 56 = .ok (.getfield 22, 3) := by decide +kernel
theorem dX7_dropWasted_59 : decode cX7_dropWasted 59 = .ok (.iconst 1, 1) := by decide +kernel
theorem dX7_dropWasted_60 : decode cX7_dropWasted 60 = .ok (.iadd, 1) := by decide +kernel
theorem dX7_dropWasted_61 : decode cX7_dropWasted 61 = .ok (.putfield 22, 3) := by decide +kernel
theorem dX7_dropWasted_64 : decode cX7_dropWasted 64 = .ok (.goto (-37), 3) := by decide +kernel
theorem dX7_dropWasted_67 : decode cX7_dropWasted 67 = .ok (.iconst 0, 1) := by decide +kernel
theorem dX7_dropWasted_68 : decode cX7_dropWasted 68 = .ok (.istore_n 2, 1) := by decide +kernel
theorem dX7_dropWasted_69 : decode cX7_dropWasted 69 = .ok (.iload_n 2, 1) := by decide +kernel
theorem dX7_dropWasted_70 : decode cX7_dropWasted 70 = .ok (.aload_n 0, 1) := by decide +kernel
theorem dX7_dropWasted_71 : decode cX7_dropWasted 71 = .ok (.getfield 15, 3) := by decide +kernel
theorem dX7_dropWasted_74 : decode cX7_dropWasted 74 = .ok (.if_icmp .ge 29, 3) := by decide +kernel
theorem dX7_dropWasted_77 : decode cX7_dropWasted 77 = .ok (.aload_n 0, 1) := by decide +kernel
theorem dX7_dropWasted_78 : decode cX7_dropWasted 78 = .ok (.getfield 22, 3) := by decide +kernel
theorem dX7_dropWasted_81 : decode cX7_dropWasted 81 = .ok (.ifCond .le 22, 3) := by decide +kernel
theorem dX7_dropWasted_84 : decode cX7_dropWasted 84 = .ok (.aload_n 0, 1) := by decide +kernel
theorem dX7_dropWasted_85 : decode cX7_dropWasted 85 = .ok (.getfield 9, 3) := by decide +kernel
theorem dX7_dropWasted_88 : decode cX7_dropWasted 88 = .ok (.iload_n 2, 1) := by decide +kernel
theorem dX7_dropWasted_89 : decode cX7_dropWasted 89 = .ok (.dup2, 1) := by decide +kernel
theorem dX7_dropWasted_90 : decode cX7_dropWasted 90 = .ok (.iaload, 1) := by decide +kernel
theorem dX7_dropWasted_91 : decode cX7_dropWasted 91 = .ok (.aload_n 0, 1) := by decide +kernel
theorem dX7_dropWasted_92 : decode cX7_dropWasted 92 = .ok (.getfield 22, 3) := by decide +kernel
theorem dX7_dropWasted_95 : decode cX7_dropWasted 95 = .ok (.ishr, 1) := by decide +kernel
theorem dX7_dropWasted_96 : decode cX7_dropWasted 96 = .ok (.iastore, 1) := by decide +kernel
theorem dX7_dropWasted_97 : decode cX7_dropWasted 97 = .ok (.iinc 2 1, 3) := by decide +kernel
theorem dX7_dropWasted_100 : decode cX7_dropWasted 100 = .ok (.goto (-31), 3) := by decide +kernel
theorem dX7_dropWasted_103 : decode cX7_dropWasted 103 = .ok (.aload_n 0, 1) := by decide +kernel
theorem dX7_dropWasted_104 : decode cX7_dropWasted 104 = .ok (.dup, 1) := by decide +kernel
theorem dX7_dropWasted_105 : decode cX7_dropWasted 105 = .ok (.getfield 19, 3) := by decide +kernel
theorem dX7_dropWasted_108 : decode cX7_dropWasted 108 = .ok (.aload_n 0, 1) := by decide +kernel
theorem dX7_dropWasted_109 : decode cX7_dropWasted 109 = .ok (.getfield 22, 3) := by decide +kernel
theorem dX7_dropWasted_112 : decode cX7_dropWasted 112 = .ok (.isub, 1) := by decide +kernel
theorem dX7_dropWasted_113 : decode cX7_dropWasted 113 = .ok (.putfield 19, 3) := by decide +kernel
theorem dX7_dropWasted_116 : decode cX7_dropWasted 116 = .ok (.return_, 1) := by decide +kernel
theorem dX7_isOneNumber_0 : decode cX7_isOneNumber 0 = .ok (.iconst 1, 1) := by decide +kernel
theorem dX7_isOneNumber_1 : decode cX7_isOneNumber 1 = .ok (.istore_n 1, 1) := by decide +kernel
theorem dX7_isOneNumber_2 : decode cX7_isOneNumber 2 = .ok (.iload_n 1, 1) := by decide +kernel
theorem dX7_isOneNumber_3 : decode cX7_isOneNumber 3 = .ok (.aload_n 0, 1) := by decide +kernel
theorem dX7_isOneNumber_4 : decode cX7_isOneNumber 4 = .ok (.getfield 15, 3) := by decide +kernel
theorem dX7_isOneNumber_7 : decode cX7_isOneNumber 7 = .ok (.if_icmp .ge 26, 3) := by decide +kernel
theorem dX7_isOneNumber_10 : decode cX7_isOneNumber 10 = .ok (.aload_n 0, 1) := by decide +kernel
theorem dX7_isOneNumber_11 : decode cX7_isOneNumber 11 = .ok (.getfield 9, 3) := by decide +kernel
theorem dX7_isOneNumber_14 : decode cX7_isOneNumber 14 = .ok (.iload_n 1, 1) := by decide +kernel
theorem dX7_isOneNumber_15 : decode cX7_isOneNumber 15 = .ok (.iaload, 1) := by decide +kernel
theorem dX7_isOneNumber_16 : decode cX7_isOneNumber 16 = .ok (.aload_n 0, 1) := by decide +kernel
theorem dX7_isOneNumber_17 : decode cX7_isOneNumber 17 = .ok (.getfield 9, 3) := by decide +kernel
theorem dX7_isOneNumber_20 : decode cX7_isOneNumber 20 = .ok (.iconst 0, 1) := by decide +kernel
theorem dX7_isOneNumber_21 : decode cX7_isOneNumber 21 = .ok (.iaload, 1) := by decide +kernel
theorem dX7_isOneNumber_22 : decode cX7_isOneNumber 22 = .ok (.if_icmp .eq 5, 3) := by decide +kernel
theorem dX7_isOneNumber_25 : decode cX7_isOneNumber 25 = .ok (.iconst 0, 1) := by decide +kernel
theorem dX7_isOneNumber_26 : decode cX7_isOneNumber 26 = .ok (.ireturn, 1) := by decide +kernel
theorem dX7_isOneNumber_27 : decode cX7_isOneNumber 27 = .ok (.iinc 1 1, 3) := by decide +kernel
theorem dX7_isOneNumber_30 : decode cX7_isOneNumber 30 = .ok (.goto (-28), 3) := by decide +kernel
theorem dX7_isOneNumber_33 : decode cX7_isOneNumber 33 = .ok (.iconst 1, 1) := by decide +kernel
theorem dX7_isOneNumber_34 : decode cX7_isOneNumber 34 = .ok (.ireturn, 1) := by decide +kernel
theorem dX7_offer_0 : decode cX7_offer 0 = .ok (.lload_n 2, 1) := by decide +kernel
theorem dX7_offer_1 : decode cX7_offer 1 = .ok (.aload_n 0, 1) := by decide +kernel
theorem dX7_offer_2 : decode cX7_offer 2 = .ok (.getfield 27, 3) := by decide +kernel
theorem dX7_offer_5 : decode cX7_offer 5 = .ok (.lcmp, 1) := by decide +kernel
theorem dX7_offer_6 : decode cX7_offer 6 = .ok (.ifCond .ge 19, 3) := by decide +kernel
theorem dX7_offer_9 : decode cX7_offer 9 = .ok (.aload_n 0, 1) := by decide +kernel
theorem dX7_offer_10 : decode cX7_offer 10 = .ok (.iload_n 1, 1) := by decide +kernel
theorem dX7_offer_11 : decode cX7_offer 11 = .ok (.putfield 31, 3) := by decide +kernel
theorem dX7_offer_14 : decode cX7_offer 14 = .ok (.aload_n 0, 1) := by decide +kernel
theorem dX7_offer_15 : decode cX7_offer 15 = .ok (.lload_n 2, 1) := by decide +kernel
theorem dX7_offer_16 : decode cX7_offer 16 = .ok (.putfield 27, 3) := by decide +kernel
theorem dX7_offer_19 : decode cX7_offer 19 = .ok (.aload_n 0, 1) := by decide +kernel
theorem dX7_offer_20 : decode cX7_offer 20 = .ok (.iload 4, 2) := by decide +kernel
theorem dX7_offer_22 : decode cX7_offer 22 = .ok (.putfield 34, 3) := by decide +kernel
theorem dX7_offer_25 : decode cX7_offer 25 = .ok (.return_, 1) := by decide +kernel
theorem dX8_init_0 : decode cX8_init 0 = .ok (.aload_n 0, 1) := by decide +kernel
theorem dX8_init_1 : decode cX8_init 1 = .ok (.invokespecial 3, 3) := by decide +kernel
theorem dX8_init_4 : decode cX8_init 4 = .ok (.aload_n 0, 1) := by decide +kernel
theorem dX8_init_5 : decode cX8_init 5 = .ok (.new 9, 3) := by decide +kernel
theorem dX8_init_8 : decode cX8_init 8 = .ok (.dup, 1) := by decide +kernel
theorem dX8_init_9 : decode cX8_init 9 = .ok (.invokespecial 11, 3) := by decide +kernel
theorem dX8_init_12 : decode cX8_init 12 = .ok (.putfield 12, 3) := by decide +kernel
theorem dX8_init_15 : decode cX8_init 15 = .ok (.aload_n 0, 1) := by decide +kernel
theorem dX8_init_16 : decode cX8_init 16 = .ok (.new 16, 3) := by decide +kernel
theorem dX8_init_19 : decode cX8_init 19 = .ok (.dup, 1) := by decide +kernel
theorem dX8_init_20 : decode cX8_init 20 = .ok (.bipush 8, 2) := by decide +kernel
theorem dX8_init_22 : decode cX8_init 22 = .ok (.invokespecial 18, 3) := by decide +kernel
theorem dX8_init_25 : decode cX8_init 25 = .ok (.putfield 21, 3) := by decide +kernel
theorem dX8_init_28 : decode cX8_init 28 = .ok (.aload_n 0, 1) := by decide +kernel
theorem dX8_init_29 : decode cX8_init 29 = .ok (.sipush 4096, 3) := by decide +kernel
theorem dX8_init_32 : decode cX8_init 32 = .ok (.newarray .int, 2) := by decide +kernel
theorem dX8_init_34 : decode cX8_init 34 = .ok (.putfield 25, 3) := by decide +kernel
theorem dX8_init_37 : decode cX8_init 37 = .ok (.aload_n 0, 1) := by decide +kernel
theorem dX8_init_38 : decode cX8_init 38 = .ok (.iconst 0, 1) := by decide +kernel
theorem dX8_init_39 : decode cX8_init 39 = .ok (.putfield 29, 3) := by decide +kernel
theorem dX8_init_42 : decode cX8_init 42 = .ok (.aload_n 0, 1) := by decide +kernel
theorem dX8_init_43 : decode cX8_init 43 = .ok (.new 33, 3) := by decide +kernel
theorem dX8_init_46 : decode cX8_init 46 = .ok (.dup, 1) := by decide +kernel
theorem dX8_init_47 : decode cX8_init 47 = .ok (.invokespecial 35, 3) := by decide +kernel
theorem dX8_init_50 : decode cX8_init 50 = .ok (.putfield 36, 3) := by decide +kernel
theorem dX8_init_53 : decode cX8_init 53 = .ok (.aload_n 0, 1) := by decide +kernel
theorem dX8_init_54 : decode cX8_init 54 = .ok (.new 40, 3) := by decide +kernel
theorem dX8_init_57 : decode cX8_init 57 = .ok (.dup, 1) := by decide +kernel
theorem dX8_init_58 : decode cX8_init 58 = .ok (.invokespecial 42, 3) := by decide +kernel
theorem dX8_init_61 : decode cX8_init 61 = .ok (.putfield 43, 3) := by decide +kernel
theorem dX8_init_64 : decode cX8_init 64 = .ok (.return_, 1) := by decide +kernel
theorem dX8_shape_0 : decode cX8_shape 0 = .ok (.iload_n 1, 1) := by decide +kernel
theorem dX8_shape_1 : decode cX8_shape 1 = .ok (.i2l, 1) := by decide +kernel
theorem dX8_shape_2 : decode cX8_shape 2 = .ok (.lconst 1, 1) := by decide +kernel
theorem dX8_shape_3 : decode cX8_shape 3 = .ok (.ldc2_w 47, 3) := by decide +kernel
theorem dX8_shape_6 : decode cX8_shape 6 = .ok (.invokestatic 49, 3) := by decide +kernel
theorem dX8_shape_9 : decode cX8_shape 9 = .ok (.ifCond .eq 44, 3) := by decide +kernel
theorem dX8_shape_12 : decode cX8_shape 12 = .ok (.iload_n 2, 1) := by decide +kernel
theorem dX8_shape_13 : decode cX8_shape 13 = .ok (.i2l, 1) := by decide +kernel
theorem dX8_shape_14 : decode cX8_shape 14 = .ok (.ldc2_w 53, 3) := by decide +kernel
theorem dX8_shape_17 : decode cX8_shape 17 = .ok (.ldc2_w 55, 3) := by decide +kernel
theorem dX8_shape_20 : decode cX8_shape 20 = .ok (.invokestatic 49, 3) := by decide +kernel
theorem dX8_shape_23 : decode cX8_shape 23 = .ok (.ifCond .eq 30, 3) := by decide +kernel
theorem dX8_shape_26 : decode cX8_shape 26 = .ok (.iload_n 3, 1) := by decide +kernel
theorem dX8_shape_27 : decode cX8_shape 27 = .ok (.i2l, 1) := by decide +kernel
theorem dX8_shape_28 : decode cX8_shape 28 = .ok (.ldc2_w 57, 3) := by decide +kernel
theorem dX8_shape_31 : decode cX8_shape 31 = .ok (.ldc2_w 59, 3) := by decide +kernel
theorem dX8_shape_34 : decode cX8_shape 34 = .ok (.invokestatic 49, 3) := by decide +kernel
theorem dX8_shape_37 : decode cX8_shape 37 = .ok (.ifCond .eq 16, 3) := by decide +kernel
theorem dX8_shape_40 : decode cX8_shape 40 = .ok (.iload 4, 2) := by decide +kernel
theorem dX8_shape_42 : decode cX8_shape 42 = .ok (.i2l, 1) := by decide +kernel
theorem dX8_shape_43 : decode cX8_shape 43 = .ok (.lconst 1, 1) := by decide +kernel
theorem dX8_shape_44 : decode cX8_shape 44 = .ok (.ldc2_w 61, 3) := by decide +kernel
theorem dX8_shape_47 : decode cX8_shape 47 = .ok (.invokestatic 49, 3) := by decide +kernel
theorem dX8_shape_50 : decode cX8_shape 50 = .ok (.ifCond .ne 11, 3) := by decide +kernel
theorem dX8_shape_53 : decode cX8_shape 53 = .ok (.new 63, 3) := by decide +kernel
theorem dX8_shape_56 : decode cX8_shape 56 = .ok (.dup, 1) := by decide +kernel
theorem dX8_shape_57 : decode cX8_shape 57 = .ok (.invokespecial 65, 3) := by decide +kernel
theorem dX8_shape_60 : decode cX8_shape 60 = .ok (.athrow, 1) := by decide +kernel
theorem dX8_shape_61 : decode cX8_shape 61 = .ok (.aload_n 0, 1) := by decide +kernel
theorem dX8_shape_62 : decode cX8_shape 62 = .ok (.getfield 12, 3) := by decide +kernel
theorem dX8_shape_65 : decode cX8_shape 65 = .ok (.iload_n 1, 1) := by decide +kernel
theorem dX8_shape_66 : decode cX8_shape 66 = .ok (.putfield 66, 3) := by decide +kernel
theorem dX8_shape_69 : decode cX8_shape 69 = .ok (.aload_n 0, 1) := by decide +kernel
theorem dX8_shape_70 : decode cX8_shape 70 = .ok (.getfield 12, 3) := by decide +kernel
theorem dX8_shape_73 : decode cX8_shape 73 = .ok (.iload_n 2, 1) := by decide +kernel
theorem dX8_shape_74 : decode cX8_shape 74 = .ok (.putfield 69, 3) := by decide +kernel
theorem dX8_shape_77 : decode cX8_shape 77 = .ok (.aload_n 0, 1) := by decide +kernel
theorem dX8_shape_78 : decode cX8_shape 78 = .ok (.getfield 12, 3) := by decide +kernel
theorem dX8_shape_81 : decode cX8_shape 81 = .ok (.iload_n 3, 1) := by decide +kernel
theorem dX8_shape_82 : decode cX8_shape 82 = .ok (.putfield 72, 3) := by decide +kernel
theorem dX8_shape_85 : decode cX8_shape 85 = .ok (.aload_n 0, 1) := by decide +kernel
theorem dX8_shape_86 : decode cX8_shape 86 = .ok (.getfield 12, 3) := by decide +kernel
theorem dX8_shape_89 : decode cX8_shape 89 = .ok (.iload 4, 2) := by decide +kernel
theorem dX8_shape_91 : decode cX8_shape 91 = .ok (.putfield 75, 3) := by decide +kernel
theorem dX8_shape_94 : decode cX8_shape 94 = .ok (.aload_n 0, 1) := by decide +kernel
theorem dX8_shape_95 : decode cX8_shape 95 = .ok (.iconst 0, 1) := by decide +kernel
theorem dX8_shape_96 : decode cX8_shape 96 = .ok (.putfield 29, 3) := by decide +kernel
theorem dX8_shape_99 : decode cX8_shape 99 = .ok (.return_, 1) := by decide +kernel
theorem dX8_predict_0 : decode cX8_predict 0 = .ok (.iload_n 1, 1) := by decide +kernel
theorem dX8_predict_1 : decode cX8_predict 1 = .ok (.i2l, 1) := by decide +kernel
theorem dX8_predict_2 : decode cX8_predict 2 = .ok (.lconst 0, 1) := by decide +kernel
theorem dX8_predict_3 : decode cX8_predict 3 = .ok (.ldc2_w 78, 3) := by decide +kernel
theorem dX8_predict_6 : decode cX8_predict 6 = .ok (.invokestatic 49, 3) := by decide +kernel
theorem dX8_predict_9 : decode cX8_predict 9 = .ok (.ifCond .ne 11, 3) := by decide +kernel
theorem dX8_predict_12 : decode cX8_predict 12 = .ok (.new 63, 3) := by decide +kernel
theorem dX8_predict_15 : decode cX8_predict 15 = .ok (.dup, 1) := by decide +kernel
theorem dX8_predict_16 : decode cX8_predict 16 = .ok (.invokespecial 65, 3) := by decide +kernel
theorem dX8_predict_19 : decode cX8_predict 19 = .ok (.athrow, 1) := by decide +kernel
theorem dX8_predict_20 : decode cX8_predict 20 = .ok (.aload_n 0, 1) := by decide +kernel
theorem dX8_predict_21 : decode cX8_predict 21 = .ok (.getfield 21, 3) := by decide +kernel
theorem dX8_predict_24 : decode cX8_predict 24 = .ok (.iload_n 1, 1) := by decide +kernel
theorem dX8_predict_25 : decode cX8_predict 25 = .ok (.invokevirtual 80, 3) := by decide +kernel
theorem dX8_predict_28 : decode cX8_predict 28 = .ok (.return_, 1) := by decide +kernel
theorem dX8_coefficient_0 : decode cX8_coefficient 0 = .ok (.iload_n 1, 1) := by decide +kernel
theorem dX8_coefficient_1 : decode cX8_coefficient 1 = .ok (.i2l, 1) := by decide +kernel
theorem dX8_coefficient_2 : decode cX8_coefficient 2 = .ok (.bipush 15, 2) := by decide +kernel
theorem dX8_coefficient_4 : decode cX8_coefficient 4 = .ok (.invokestatic 83, 3) := by decide +kernel
theorem dX8_coefficient_7 : decode cX8_coefficient 7 = .ok (.ifCond .ne 11, 3) := by decide +kernel
theorem dX8_coefficient_10 : decode cX8_coefficient 10 = .ok (.new 63, 3) := by decide +kernel
theorem dX8_coefficient_13 : decode cX8_coefficient 13 = .ok (.dup, 1) := by decide +kernel
theorem dX8_coefficient_14 : decode cX8_coefficient 14 = .ok (.invokespecial 65, 3) := by decide +kernel
theorem dX8_coefficient_17 : decode cX8_coefficient 17 = .ok (.athrow, 1) := by decide +kernel
theorem dX8_coefficient_18 : decode cX8_coefficient 18 = .ok (.aload_n 0, 1) := by decide +kernel
theorem dX8_coefficient_19 : decode cX8_coefficient 19 = .ok (.getfield 21, 3) := by decide +kernel
theorem dX8_coefficient_22 : decode cX8_coefficient 22 = .ok (.getfield 87, 3) := by decide +kernel
theorem dX8_coefficient_25 : decode cX8_coefficient 25 = .ok (.bipush 8, 2) := by decide +kernel
theorem dX8_coefficient_27 : decode cX8_coefficient 27 = .ok (.if_icmp .lt 11, 3) := by decide +kernel
theorem dX8_coefficient_30 : decode cX8_coefficient 30 = .ok (.new 90, 3) := by decide +kernel
theorem dX8_coefficient_33 : decode cX8_coefficient 33 = .ok (.dup, 1) := by decide +kernel
theorem dX8_coefficient_34 : decode cX8_coefficient 34 = .ok (.invokespecial 92, 3) := by decide +kernel
theorem dX8_coefficient_37 : decode cX8_coefficient 37 = .ok (.athrow, 1) := by decide +kernel
theorem dX8_coefficient_38 : decode cX8_coefficient 38 = .ok (.aload_n 0, 1) := by decide +kernel
theorem dX8_coefficient_39 : decode cX8_coefficient 39 = .ok (.getfield 21, 3) := by decide +kernel
theorem dX8_coefficient_42 : decode cX8_coefficient 42 = .ok (.iload_n 1, 1) := by decide +kernel
theorem dX8_coefficient_43 : decode cX8_coefficient 43 = .ok (.invokevirtual 93, 3) := by decide +kernel
theorem dX8_coefficient_46 : decode cX8_coefficient 46 = .ok (.return_, 1) := by decide +kernel
theorem dX8_push_0 : decode cX8_push 0 = .ok (.iload_n 1, 1) := by decide +kernel
theorem dX8_push_1 : decode cX8_push 1 = .ok (.i2l, 1) := by decide +kernel
theorem dX8_push_2 : decode cX8_push 2 = .ok (.aload_n 0, 1) := by decide +kernel
theorem dX8_push_3 : decode cX8_push 3 = .ok (.getfield 12, 3) := by decide +kernel
theorem dX8_push_6 : decode cX8_push 6 = .ok (.getfield 69, 3) := by decide +kernel
theorem dX8_push_9 : decode cX8_push 9 = .ok (.invokestatic 83, 3) := by decide +kernel
theorem dX8_push_12 : decode cX8_push 12 = .ok (.ifCond .ne 11, 3) := by decide +kernel
theorem dX8_push_15 : decode cX8_push 15 = .ok (.new 63, 3) := by decide +kernel
theorem dX8_push_18 : decode cX8_push 18 = .ok (.dup, 1) := by decide +kernel
theorem dX8_push_19 : decode cX8_push 19 = .ok (.invokespecial 65, 3) := by decide +kernel
theorem dX8_push_22 : decode cX8_push 22 = .ok (.athrow, 1) := by decide +kernel
theorem dX8_push_23 : decode cX8_push 23 = .ok (.aload_n 0, 1) := by decide +kernel
theorem dX8_push_24 : decode cX8_push 24 = .ok (.getfield 29, 3) := by decide +kernel
theorem dX8_push_27 : decode cX8_push 27 = .ok (.sipush 4096, 3) := by decide +kernel
theorem dX8_push_30 : decode cX8_push 30 = .ok (.if_icmp .lt 11, 3) := by decide +kernel
theorem dX8_push_33 : decode cX8_push 33 = .ok (.new 90, 3) := by decide +kernel
theorem dX8_push_36 : decode cX8_push 36 = .ok (.dup, 1) := by decide +kernel
theorem dX8_push_37 : decode cX8_push 37 = .ok (.invokespecial 92, 3) := by decide +kernel
theorem dX8_push_40 : decode cX8_push 40 = .ok (.athrow, 1) := by decide +kernel
theorem dX8_push_41 : decode cX8_push 41 = .ok (.aload_n 0, 1) := by decide +kernel
theorem dX8_push_42 : decode cX8_push 42 = .ok (.getfield 25, 3) := by decide +kernel
theorem dX8_push_45 : decode cX8_push 45 = .ok (.aload_n 0, 1) := by decide +kernel
theorem dX8_push_46 : decode cX8_push 46 = .ok (.getfield 29, 3) := by decide +kernel
theorem dX8_push_49 : decode cX8_push 49 = .ok (.iload_n 1, 1) := by decide +kernel
theorem dX8_push_50 : decode cX8_push 50 = .ok (.iastore, 1) := by decide +kernel
theorem dX8_push_51 : decode cX8_push 51 = .ok (.aload_n 0, 1) := by decide +kernel
theorem dX8_push_52 : decode cX8_push 52 = .ok (.dup, 1) := by decide +kernel
theorem dX8_push_53 : decode cX8_push 53 = .ok (.getfield 29, 3) := by decide +kernel
theorem dX8_push_56 : decode cX8_push 56 = .ok (.iconst 1, 1) := by decide +kernel
theorem dX8_push_57 : decode cX8_push 57 = .ok (.iadd, 1) := by decide +kernel
theorem dX8_push_58 : decode cX8_push 58 = .ok (.putfield 29, 3) := by decide +kernel
theorem dX8_push_61 : decode cX8_push 61 = .ok (.return_, 1) := by decide +kernel
theorem dX8_make_0 : decode cX8_make 0 = .ok (.aload_n 0, 1) := by decide +kernel
theorem dX8_make_1 : decode cX8_make 1 = .ok (.getfield 29, 3) := by decide +kernel
theorem dX8_make_4 : decode cX8_make 4 = .ok (.aload_n 0, 1) := by decide +kernel
theorem dX8_make_5 : decode cX8_make 5 = .ok (.getfield 12, 3) := by decide +kernel
theorem dX8_make_8 : decode cX8_make 8 = .ok (.getfield 66, 3) := by decide +kernel
theorem dX8_make_11 : decode cX8_make 11 = .ok (.irem, 1) := by decide +kernel
theorem dX8_make_12 : decode cX8_make 12 = .ok (.ifCond .eq 11, 3) := by decide +kernel
theorem dX8_make_15 : decode cX8_make 15 = .ok (.new 90, 3) := by decide +kernel
theorem dX8_make_18 : decode cX8_make 18 = .ok (.dup, 1) := by decide +kernel
theorem dX8_make_19 : decode cX8_make 19 = .ok (.invokespecial 92, 3) := by decide +kernel
theorem dX8_make_22 : decode cX8_make 22 = .ok (.athrow, 1) := by decide +kernel
theorem dX8_make_23 : decode cX8_make 23 = .ok (.aload_n 0, 1) := by decide +kernel
theorem dX8_make_24 : decode cX8_make 24 = .ok (.getfield 29, 3) := by decide +kernel
theorem dX8_make_27 : decode cX8_make 27 = .ok (.aload_n 0, 1) := by decide +kernel
theorem dX8_make_28 : decode cX8_make 28 = .ok (.getfield 12, 3) := by decide +kernel
theorem dX8_make_31 : decode cX8_make 31 = .ok (.getfield 66, 3) := by decide +kernel
theorem dX8_make_34 : decode cX8_make 34 = .ok (.idiv, 1) := by decide +kernel
theorem dX8_make_35 : decode cX8_make 35 = .ok (.istore_n 1, 1) := by decide +kernel
theorem dX8_make_36 : decode cX8_make 36 = .ok (.aload_n 0, 1) := by decide +kernel
theorem dX8_make_37 : decode cX8_make 37 = .ok (.getfield 36, 3) := by decide +kernel
theorem dX8_make_40 : decode cX8_make 40 = .ok (.aload_n 0, 1) := by decide +kernel
theorem dX8_make_41 : decode cX8_make 41 = .ok (.getfield 12, 3) := by decide +kernel
theorem dX8_make_44 : decode cX8_make 44 = .ok (.iload_n 1, 1) := by decide +kernel
theorem dX8_make_45 : decode cX8_make 45 = .ok (.invokevirtual 96, 3) := by decide +kernel
theorem dX8_make_48 : decode cX8_make 48 = .ok (.iconst 0, 1) := by decide +kernel
theorem dX8_make_49 : decode cX8_make 49 = .ok (.istore_n 2, 1) := by decide +kernel
theorem dX8_make_50 : decode cX8_make 50 = .ok (.iload_n 2, 1) := by decide +kernel
theorem dX8_make_51 : decode cX8_make 51 = .ok (.sipush 256, 3) := by decide +kernel
theorem dX8_make_54 : decode cX8_make 54 = .ok (.if_icmp .ge 68, 3) := by decide +kernel
theorem dX8_make_57 : decode cX8_make 57 = .ok (.iload_n 2, 1) := by decide +kernel
theorem dX8_make_58 : decode cX8_make 58 = .ok (.aload_n 0, 1) := by decide +kernel
theorem dX8_make_59 : decode cX8_make 59 = .ok (.getfield 12, 3) := by decide +kernel
theorem dX8_make_62 : decode cX8_make 62 = .ok (.getfield 72, 3) := by decide +kernel
theorem dX8_make_65 : decode cX8_make 65 = .ok (.imul, 1) := by decide +kernel
theorem dX8_make_66 : decode cX8_make 66 = .ok (.iload_n 1, 1) := by decide +kernel
theorem dX8_make_67 : decode cX8_make 67 = .ok (.if_icmp .ge 55, 3) := by decide +kernel
theorem dX8_make_70 : decode cX8_make 70 = .ok (.iload_n 2, 1) := by decide +kernel
theorem dX8_make_71 : decode cX8_make 71 = .ok (.aload_n 0, 1) := by decide +kernel
theorem dX8_make_72 : decode cX8_make 72 = .ok (.getfield 12, 3) := by decide +kernel
theorem dX8_make_75 : decode cX8_make 75 = .ok (.getfield 72, 3) := by decide +kernel
theorem dX8_make_78 : decode cX8_make 78 = .ok (.imul, 1) := by decide +kernel
theorem dX8_make_79 : decode cX8_make 79 = .ok (.istore_n 3, 1) := by decide +kernel
theorem dX8_make_80 : decode cX8_make 80 = .ok (.aload_n 0, 1) := by decide +kernel
theorem dX8_make_81 : decode cX8_make 81 = .ok (.getfield 36, 3) := by decide +kernel
theorem dX8_make_84 : decode cX8_make 84 = .ok (.aload_n 0, 1) := by decide +kernel
theorem dX8_make_85 : decode cX8_make 85 = .ok (.getfield 25, 3) := by decide +kernel
theorem dX8_make_88 : decode cX8_make 88 = .ok (.iload_n 3, 1) := by decide +kernel
theorem dX8_make_89 : decode cX8_make 89 = .ok (.aload_n 0, 1) := by decide +kernel
theorem dX8_make_90 : decode cX8_make 90 = .ok (.getfield 12, 3) := by decide +kernel
theorem dX8_make_93 : decode cX8_make 93 = .ok (.getfield 72, 3) := by decide +kernel
theorem dX8_make_96 : decode cX8_make 96 = .ok (.iload_n 1, 1) := by decide +kernel
theorem dX8_make_97 : decode cX8_make 97 = .ok (.iload_n 3, 1) := by decide +kernel
theorem dX8_make_98 : decode cX8_make 98 = .ok (.isub, 1) := by decide +kernel
theorem dX8_make_99 : decode cX8_make 99 = .ok (.invokestatic 99, 3) := by decide +kernel
theorem dX8_make_102 : decode cX8_make 102 = .ok (.aload_n 0, 1) := by decide +kernel
theorem dX8_make_103 : decode cX8_make 103 = .ok (.getfield 12, 3) := by decide +kernel
theorem dX8_make_106 : decode cX8_make 106 = .ok (.getfield 69, 3) := by decide +kernel
theorem dX8_make_109 : decode cX8_make 109 = .ok (.aload_n 0, 1) := by decide +kernel
theorem dX8_make_110 : decode cX8_make 110 = .ok (.getfield 21, 3) := by decide +kernel
theorem dX8_make_113 : decode cX8_make 113 = .ok (.invokevirtual 105, 3) := by decide +kernel
theorem dX8_make_116 : decode cX8_make 116 = .ok (.iinc 2 1, 3) := by decide +kernel
theorem dX8_make_119 : decode cX8_make 119 = .ok (.goto (-69), 3) := by decide +kernel
theorem dX8_make_122 : decode cX8_make 122 = .ok (.aload_n 0, 1) := by decide +kernel
theorem dX8_make_123 : decode cX8_make 123 = .ok (.getfield 36, 3) := by decide +kernel
theorem dX8_make_126 : decode cX8_make 126 = .ok (.getfield 109, 3) := by decide +kernel
theorem dX8_make_129 : decode cX8_make 129 = .ok (.invokevirtual 113, 3) := by decide +kernel
theorem dX8_make_132 : decode cX8_make 132 = .ok (.ireturn, 1) := by decide +kernel
theorem dX8_octet_0 : decode cX8_octet 0 = .ok (.iload_n 1, 1) := by decide +kernel
theorem dX8_octet_1 : decode cX8_octet 1 = .ok (.i2l, 1) := by decide +kernel
theorem dX8_octet_2 : decode cX8_octet 2 = .ok (.lconst 0, 1) := by decide +kernel
theorem dX8_octet_3 : decode cX8_octet 3 = .ok (.aload_n 0, 1) := by decide +kernel
theorem dX8_octet_4 : decode cX8_octet 4 = .ok (.getfield 36, 3) := by decide +kernel
theorem dX8_octet_7 : decode cX8_octet 7 = .ok (.getfield 109, 3) := by decide +kernel
theorem dX8_octet_10 : decode cX8_octet 10 = .ok (.invokevirtual 113, 3) := by decide +kernel
theorem dX8_octet_13 : decode cX8_octet 13 = .ok (.iconst 1, 1) := by decide +kernel
theorem dX8_octet_14 : decode cX8_octet 14 = .ok (.isub, 1) := by decide +kernel
theorem dX8_octet_15 : decode cX8_octet 15 = .ok (.i2l, 1) := by decide +kernel
theorem dX8_octet_16 : decode cX8_octet 16 = .ok (.invokestatic 49, 3) := by decide +kernel
theorem dX8_octet_19 : decode cX8_octet 19 = .ok (.ifCond .eq 22, 3) := by decide +kernel
theorem dX8_octet_22 : decode cX8_octet 22 = .ok (.aload_n 0, 1) := by decide +kernel
theorem dX8_octet_23 : decode cX8_octet 23 = .ok (.getfield 36, 3) := by decide +kernel
theorem dX8_octet_26 : decode cX8_octet 26 = .ok (.getfield 109, 3) := by decide +kernel
theorem dX8_octet_29 : decode cX8_octet 29 = .ok (.getfield 119, 3) := by decide +kernel
theorem dX8_octet_32 : decode cX8_octet 32 = .ok (.iload_n 1, 1) := by decide +kernel
theorem dX8_octet_33 : decode cX8_octet 33 = .ok (.baload, 1) := by decide +kernel
theorem dX8_octet_34 : decode cX8_octet 34 = .ok (.sipush 255, 3) := by decide +kernel
theorem dX8_octet_37 : decode cX8_octet 37 = .ok (.iand, 1) := by decide +kernel
theorem dX8_octet_38 : decode cX8_octet 38 = .ok (.goto 4, 3) := by decide +kernel
theorem dX8_octet_41 : decode cX8_octet 41 = .ok (.iconst (-1), 1) := by decide +kernel
theorem dX8_octet_42 : decode cX8_octet 42 = .ok (.ireturn, 1) := by decide +kernel
theorem dX8_way_0 : decode cX8_way 0 = .ok (.iload_n 1, 1) := by decide +kernel
theorem dX8_way_1 : decode cX8_way 1 = .ok (.i2l, 1) := by decide +kernel
theorem dX8_way_2 : decode cX8_way 2 = .ok (.lconst 0, 1) := by decide +kernel
theorem dX8_way_3 : decode cX8_way 3 = .ok (.aload_n 0, 1) := by decide +kernel
theorem dX8_way_4 : decode cX8_way 4 = .ok (.getfield 36, 3) := by decide +kernel
theorem dX8_way_7 : decode cX8_way 7 = .ok (.getfield 123, 3) := by decide +kernel
theorem dX8_way_10 : decode cX8_way 10 = .ok (.iconst 1, 1) := by decide +kernel
theorem dX8_way_11 : decode cX8_way 11 = .ok (.isub, 1) := by decide +kernel
theorem dX8_way_12 : decode cX8_way 12 = .ok (.i2l, 1) := by decide +kernel
theorem dX8_way_13 : decode cX8_way 13 = .ok (.invokestatic 49, 3) := by decide +kernel
theorem dX8_way_16 : decode cX8_way 16 = .ok (.ifCond .eq 34, 3) := by decide +kernel
theorem dX8_way_19 : decode cX8_way 19 = .ok (.iload_n 2, 1) := by decide +kernel
theorem dX8_way_20 : decode cX8_way 20 = .ok (.i2l, 1) := by decide +kernel
theorem dX8_way_21 : decode cX8_way 21 = .ok (.lconst 0, 1) := by decide +kernel
theorem dX8_way_22 : decode cX8_way 22 = .ok (.aload_n 0, 1) := by decide +kernel
theorem dX8_way_23 : decode cX8_way 23 = .ok (.getfield 36, 3) := by decide +kernel
theorem dX8_way_26 : decode cX8_way 26 = .ok (.getfield 126, 3) := by decide +kernel
theorem dX8_way_29 : decode cX8_way 29 = .ok (.iconst 1, 1) := by decide +kernel
theorem dX8_way_30 : decode cX8_way 30 = .ok (.isub, 1) := by decide +kernel
theorem dX8_way_31 : decode cX8_way 31 = .ok (.i2l, 1) := by decide +kernel
theorem dX8_way_32 : decode cX8_way 32 = .ok (.invokestatic 49, 3) := by decide +kernel
theorem dX8_way_35 : decode cX8_way 35 = .ok (.ifCond .eq 15, 3) := by decide +kernel
theorem dX8_way_38 : decode cX8_way 38 = .ok (.iload_n 3, 1) := by decide +kernel
theorem dX8_way_39 : decode cX8_way 39 = .ok (.i2l, 1) := by decide +kernel
theorem dX8_way_40 : decode cX8_way 40 = .ok (.lconst 0, 1) := by decide +kernel
theorem dX8_way_41 : decode cX8_way 41 = .ok (.ldc2_w 53, 3) := by decide +kernel
theorem dX8_way_44 : decode cX8_way 44 = .ok (.invokestatic 49, 3) := by decide +kernel
theorem dX8_way_47 : decode cX8_way 47 = .ok (.ifCond .ne 11, 3) := by decide +kernel
theorem dX8_way_50 : decode cX8_way 50 = .ok (.new 63, 3) := by decide +kernel
theorem dX8_way_53 : decode cX8_way 53 = .ok (.dup, 1) := by decide +kernel
theorem dX8_way_54 : decode cX8_way 54 = .ok (.invokespecial 65, 3) := by decide +kernel
theorem dX8_way_57 : decode cX8_way 57 = .ok (.athrow, 1) := by decide +kernel
theorem dX8_way_58 : decode cX8_way 58 = .ok (.aload_n 0, 1) := by decide +kernel
theorem dX8_way_59 : decode cX8_way 59 = .ok (.getfield 36, 3) := by decide +kernel
theorem dX8_way_62 : decode cX8_way 62 = .ok (.iload_n 1, 1) := by decide +kernel
theorem dX8_way_63 : decode cX8_way 63 = .ok (.iload_n 2, 1) := by decide +kernel
theorem dX8_way_64 : decode cX8_way 64 = .ok (.iload_n 3, 1) := by decide +kernel
theorem dX8_way_65 : decode cX8_way 65 = .ok (.invokevirtual 127, 3) := by decide +kernel
theorem dX8_way_68 : decode cX8_way 68 = .ok (.ireturn, 1) := by decide +kernel
theorem dX8_feed_0 : decode cX8_feed 0 = .ok (.iload_n 3, 1) := by decide +kernel
theorem dX8_feed_1 : decode cX8_feed 1 = .ok (.i2l, 1) := by decide +kernel
theorem dX8_feed_2 : decode cX8_feed 2 = .ok (.lconst 1, 1) := by decide +kernel
theorem dX8_feed_3 : decode cX8_feed 3 = .ok (.ldc2_w 47, 3) := by decide +kernel
theorem dX8_feed_6 : decode cX8_feed 6 = .ok (.invokestatic 49, 3) := by decide +kernel
theorem dX8_feed_9 : decode cX8_feed 9 = .ok (.ifCond .eq 19, 3) := by decide +kernel
theorem dX8_feed_12 : decode cX8_feed 12 = .ok (.aload_n 0, 1) := by decide +kernel
theorem dX8_feed_13 : decode cX8_feed 13 = .ok (.getfield 43, 3) := by decide +kernel
theorem dX8_feed_16 : decode cX8_feed 16 = .ok (.lload_n 1, 1) := by decide +kernel
theorem dX8_feed_17 : decode cX8_feed 17 = .ok (.iload_n 3, 1) := by decide +kernel
theorem dX8_feed_18 : decode cX8_feed 18 = .ok (.invokevirtual 131, 3) := by decide +kernel
theorem dX8_feed_21 : decode cX8_feed 21 = .ok (.ifCond .eq 7, 3) := by decide +kernel
theorem dX8_feed_24 : decode cX8_feed 24 = .ok (.iconst 1, 1) := by decide +kernel
theorem dX8_feed_25 : decode cX8_feed 25 = .ok (.goto 4, 3) := by decide +kernel
theorem dX8_feed_28 : decode cX8_feed 28 = .ok (.iconst 0, 1) := by decide +kernel
theorem dX8_feed_29 : decode cX8_feed 29 = .ok (.ireturn, 1) := by decide +kernel
theorem dX8_again_0 : decode cX8_again 0 = .ok (.aload_n 0, 1) := by decide +kernel
theorem dX8_again_1 : decode cX8_again 1 = .ok (.getfield 43, 3) := by decide +kernel
theorem dX8_again_4 : decode cX8_again 4 = .ok (.aload_n 0, 1) := by decide +kernel
theorem dX8_again_5 : decode cX8_again 5 = .ok (.getfield 36, 3) := by decide +kernel
theorem dX8_again_8 : decode cX8_again 8 = .ok (.getfield 109, 3) := by decide +kernel
theorem dX8_again_11 : decode cX8_again 11 = .ok (.invokevirtual 134, 3) := by decide +kernel
theorem dX8_again_14 : decode cX8_again 14 = .ok (.aload_n 0, 1) := by decide +kernel
theorem dX8_again_15 : decode cX8_again 15 = .ok (.getfield 43, 3) := by decide +kernel
theorem dX8_again_18 : decode cX8_again 18 = .ok (.getfield 138, 3) := by decide +kernel
theorem dX8_again_21 : decode cX8_again 21 = .ok (.ireturn, 1) := by decide +kernel
theorem dX8_read_0 : decode cX8_read 0 = .ok (.aload_n 0, 1) := by decide +kernel
theorem dX8_read_1 : decode cX8_read 1 = .ok (.getfield 43, 3) := by decide +kernel
theorem dX8_read_4 : decode cX8_read 4 = .ok (.invokevirtual 140, 3) := by decide +kernel
theorem dX8_read_7 : decode cX8_read 7 = .ok (.ifCond .ne 11, 3) := by decide +kernel
theorem dX8_read_10 : decode cX8_read 10 = .ok (.new 63, 3) := by decide +kernel
theorem dX8_read_13 : decode cX8_read 13 = .ok (.dup, 1) := by decide +kernel
theorem dX8_read_14 : decode cX8_read 14 = .ok (.invokespecial 65, 3) := by decide +kernel
theorem dX8_read_17 : decode cX8_read 17 = .ok (.athrow, 1) := by decide +kernel
theorem dX8_read_18 : decode cX8_read 18 = .ok (.aload_n 0, 1) := by decide +kernel
theorem dX8_read_19 : decode cX8_read 19 = .ok (.getfield 12, 3) := by decide +kernel
theorem dX8_read_22 : decode cX8_read 22 = .ok (.aload_n 0, 1) := by decide +kernel
theorem dX8_read_23 : decode cX8_read 23 = .ok (.getfield 43, 3) := by decide +kernel
theorem dX8_read_26 : decode cX8_read 26 = .ok (.getfield 144, 3) := by decide +kernel
theorem dX8_read_29 : decode cX8_read 29 = .ok (.invokevirtual 147, 3) := by decide +kernel
theorem dX8_read_32 : decode cX8_read 32 = .ok (.aload_n 0, 1) := by decide +kernel
theorem dX8_read_33 : decode cX8_read 33 = .ok (.aload_n 0, 1) := by decide +kernel
theorem dX8_read_34 : decode cX8_read 34 = .ok (.getfield 43, 3) := by decide +kernel
theorem dX8_read_37 : decode cX8_read 37 = .ok (.getfield 151, 3) := by decide +kernel
theorem dX8_read_40 : decode cX8_read 40 = .ok (.aload_n 0, 1) := by decide +kernel
theorem dX8_read_41 : decode cX8_read 41 = .ok (.getfield 12, 3) := by decide +kernel
theorem dX8_read_44 : decode cX8_read 44 = .ok (.getfield 66, 3) := by decide +kernel
theorem dX8_read_47 : decode cX8_read 47 = .ok (.imul, 1) := by decide +kernel
theorem dX8_read_48 : decode cX8_read 48 = .ok (.putfield 29, 3) := by decide +kernel
theorem dX8_read_51 : decode cX8_read 51 = .ok (.aload_n 0, 1) := by decide +kernel
theorem dX8_read_52 : decode cX8_read 52 = .ok (.getfield 43, 3) := by decide +kernel
theorem dX8_read_55 : decode cX8_read 55 = .ok (.getfield 154, 3) := by decide +kernel
theorem dX8_read_58 : decode cX8_read 58 = .ok (.iconst 0, 1) := by decide +kernel
theorem dX8_read_59 : decode cX8_read 59 = .ok (.aload_n 0, 1) := by decide +kernel
theorem dX8_read_60 : decode cX8_read 60 = .ok (.getfield 25, 3) := by decide +kernel
theorem dX8_read_63 : decode cX8_read 63 = .ok (.iconst 0, 1) := by decide +kernel
theorem dX8_read_64 : decode cX8_read 64 = .ok (.aload_n 0, 1) := by decide +kernel
theorem dX8_read_65 : decode cX8_read 65 = .ok (.getfield 29, 3) := by decide +kernel
theorem dX8_read_68 : decode cX8_read 68 = .ok (.invokestatic 155, 3) := by decide +kernel
theorem dX8_read_71 : decode cX8_read 71 = .ok (.aload_n 0, 1) := by decide +kernel
theorem dX8_read_72 : decode cX8_read 72 = .ok (.getfield 29, 3) := by decide +kernel
theorem dX8_read_75 : decode cX8_read 75 = .ok (.ireturn, 1) := by decide +kernel
theorem dX8_fault_0 : decode cX8_fault 0 = .ok (.aload_n 0, 1) := by decide +kernel
theorem dX8_fault_1 : decode cX8_fault 1 = .ok (.getfield 43, 3) := by decide +kernel
theorem dX8_fault_4 : decode cX8_fault 4 = .ok (.getfield 161, 3) := by decide +kernel
theorem dX8_fault_7 : decode cX8_fault 7 = .ok (.ireturn, 1) := by decide +kernel
theorem dX8_place_0 : decode cX8_place 0 = .ok (.aload_n 0, 1) := by decide +kernel
theorem dX8_place_1 : decode cX8_place 1 = .ok (.getfield 43, 3) := by decide +kernel
theorem dX8_place_4 : decode cX8_place 4 = .ok (.getfield 164, 3) := by decide +kernel
theorem dX8_place_7 : decode cX8_place 7 = .ok (.ireturn, 1) := by decide +kernel
theorem dX8_sample_0 : decode cX8_sample 0 = .ok (.iload_n 1, 1) := by decide +kernel
theorem dX8_sample_1 : decode cX8_sample 1 = .ok (.i2l, 1) := by decide +kernel
theorem dX8_sample_2 : decode cX8_sample 2 = .ok (.lconst 0, 1) := by decide +kernel
theorem dX8_sample_3 : decode cX8_sample 3 = .ok (.aload_n 0, 1) := by decide +kernel
theorem dX8_sample_4 : decode cX8_sample 4 = .ok (.getfield 29, 3) := by decide +kernel
theorem dX8_sample_7 : decode cX8_sample 7 = .ok (.iconst 1, 1) := by decide +kernel
theorem dX8_sample_8 : decode cX8_sample 8 = .ok (.isub, 1) := by decide +kernel
theorem dX8_sample_9 : decode cX8_sample 9 = .ok (.i2l, 1) := by decide +kernel
theorem dX8_sample_10 : decode cX8_sample 10 = .ok (.invokestatic 49, 3) := by decide +kernel
theorem dX8_sample_13 : decode cX8_sample 13 = .ok (.ifCond .ne 11, 3) := by decide +kernel
theorem dX8_sample_16 : decode cX8_sample 16 = .ok (.new 63, 3) := by decide +kernel
theorem dX8_sample_19 : decode cX8_sample 19 = .ok (.dup, 1) := by decide +kernel
theorem dX8_sample_20 : decode cX8_sample 20 = .ok (.invokespecial 65, 3) := by decide +kernel
theorem dX8_sample_23 : decode cX8_sample 23 = .ok (.athrow, 1) := by decide +kernel
theorem dX8_sample_24 : decode cX8_sample 24 = .ok (.aload_n 0, 1) := by decide +kernel
theorem dX8_sample_25 : decode cX8_sample 25 = .ok (.getfield 25, 3) := by decide +kernel
theorem dX8_sample_28 : decode cX8_sample 28 = .ok (.iload_n 1, 1) := by decide +kernel
theorem dX8_sample_29 : decode cX8_sample 29 = .ok (.iaload, 1) := by decide +kernel
theorem dX8_sample_30 : decode cX8_sample 30 = .ok (.ireturn, 1) := by decide +kernel
theorem dX8_count_0 : decode cX8_count 0 = .ok (.iload_n 1, 1) := by decide +kernel
theorem dX8_count_1 : decode cX8_count 1 = .ok (.tableswitch 123 0 8 #[51, 56, 64, 72, 80, 88, 99, 107, 115], 51) := by decide +kernel
theorem dX8_count_52 : decode cX8_count 52 = .ok (.aload_n 0, 1) := by decide +kernel
theorem dX8_count_53 : decode cX8_count 53 = .ok (.getfield 29, 3) := by decide +kernel
theorem dX8_count_56 : decode cX8_count 56 = .ok (.ireturn, 1) := by decide +kernel
theorem dX8_count_57 : decode cX8_count 57 = .ok (.aload_n 0, 1) := by decide +kernel
theorem dX8_count_58 : decode cX8_count 58 = .ok (.getfield 12, 3) := by decide +kernel
theorem dX8_count_61 : decode cX8_count 61 = .ok (.getfield 66, 3) := by decide +kernel
theorem dX8_count_64 : decode cX8_count 64 = .ok (.ireturn, 1) := by decide +kernel
theorem dX8_count_65 : decode cX8_count 65 = .ok (.aload_n 0, 1) := by decide +kernel
theorem dX8_count_66 : decode cX8_count 66 = .ok (.getfield 12, 3) := by decide +kernel
theorem dX8_count_69 : decode cX8_count 69 = .ok (.getfield 69, 3) := by decide +kernel
theorem dX8_count_72 : decode cX8_count 72 = .ok (.ireturn, 1) := by decide +kernel
theorem dX8_count_73 : decode cX8_count 73 = .ok (.aload_n 0, 1) := by decide +kernel
theorem dX8_count_74 : decode cX8_count 74 = .ok (.getfield 12, 3) := by decide +kernel
theorem dX8_count_77 : decode cX8_count 77 = .ok (.getfield 72, 3) := by decide +kernel
theorem dX8_count_80 : decode cX8_count 80 = .ok (.ireturn, 1) := by decide +kernel
theorem dX8_count_81 : decode cX8_count 81 = .ok (.aload_n 0, 1) := by decide +kernel
theorem dX8_count_82 : decode cX8_count 82 = .ok (.getfield 12, 3) := by decide +kernel
theorem dX8_count_85 : decode cX8_count 85 = .ok (.getfield 75, 3) := by decide +kernel
theorem dX8_count_88 : decode cX8_count 88 = .ok (.ireturn, 1) := by decide +kernel
theorem dX8_count_89 : decode cX8_count 89 = .ok (.aload_n 0, 1) := by decide +kernel
theorem dX8_count_90 : decode cX8_count 90 = .ok (.getfield 36, 3) := by decide +kernel
theorem dX8_count_93 : decode cX8_count 93 = .ok (.getfield 109, 3) := by decide +kernel
theorem dX8_count_96 : decode cX8_count 96 = .ok (.invokevirtual 113, 3) := by decide +kernel
theorem dX8_count_99 : decode cX8_count 99 = .ok (.ireturn, 1) := by decide +kernel
theorem dX8_count_100 : decode cX8_count 100 = .ok (.aload_n 0, 1) := by decide +kernel
theorem dX8_count_101 : decode cX8_count 101 = .ok (.getfield 36, 3) := by decide +kernel
theorem dX8_count_104 : decode cX8_count 104 = .ok (.getfield 123, 3) := by decide +kernel
theorem dX8_count_107 : decode cX8_count 107 = .ok (.ireturn, 1) := by decide +kernel
theorem dX8_count_108 : decode cX8_count 108 = .ok (.aload_n 0, 1) := by decide +kernel
theorem dX8_count_109 : decode cX8_count 109 = .ok (.getfield 43, 3) := by decide +kernel
theorem dX8_count_112 : decode cX8_count 112 = .ok (.getfield 138, 3) := by decide +kernel
theorem dX8_count_115 : decode cX8_count 115 = .ok (.ireturn, 1) := by decide +kernel
theorem dX8_count_116 : decode cX8_count 116 = .ok (.aload_n 0, 1) := by decide +kernel
theorem dX8_count_117 : decode cX8_count 117 = .ok (.getfield 21, 3) := by decide +kernel
theorem dX8_count_120 : decode cX8_count 120 = .ok (.getfield 87, 3) := by decide +kernel
theorem dX8_count_123 : decode cX8_count 123 = .ok (.ireturn, 1) := by decide +kernel
theorem dX8_count_124 : decode cX8_count 124 = .ok (.iconst (-1), 1) := by decide +kernel
theorem dX8_count_125 : decode cX8_count 125 = .ok (.ireturn, 1) := by decide +kernel
theorem dX8_within_0 : decode cX8_within 0 = .ok (.lload_n 0, 1) := by decide +kernel
theorem dX8_within_1 : decode cX8_within 1 = .ok (.lload_n 2, 1) := by decide +kernel
theorem dX8_within_2 : decode cX8_within 2 = .ok (.lcmp, 1) := by decide +kernel
theorem dX8_within_3 : decode cX8_within 3 = .ok (.ifCond .lt 14, 3) := by decide +kernel
theorem dX8_within_6 : decode cX8_within 6 = .ok (.lload_n 0, 1) := by decide +kernel
theorem dX8_within_7 : decode cX8_within 7 = .ok (.lload 4, 2) := by decide +kernel
theorem dX8_within_9 : decode cX8_within 9 = .ok (.lcmp, 1) := by decide +kernel
theorem dX8_within_10 : decode cX8_within 10 = .ok (.ifCond .gt 7, 3) := by decide +kernel
theorem dX8_within_13 : decode cX8_within 13 = .ok (.iconst 1, 1) := by decide +kernel
theorem dX8_within_14 : decode cX8_within 14 = .ok (.goto 4, 3) := by decide +kernel
theorem dX8_within_17 : decode cX8_within 17 = .ok (.iconst 0, 1) := by decide +kernel
theorem dX8_within_18 : decode cX8_within 18 = .ok (.ireturn, 1) := by decide +kernel
theorem dX8_fits_0 : decode cX8_fits 0 = .ok (.lconst 1, 1) := by decide +kernel
theorem dX8_fits_1 : decode cX8_fits 1 = .ok (.iload_n 2, 1) := by decide +kernel
theorem dX8_fits_2 : decode cX8_fits 2 = .ok (.iconst 1, 1) := by decide +kernel
theorem dX8_fits_3 : decode cX8_fits 3 = .ok (.isub, 1) := by decide +kernel
theorem dX8_fits_4 : decode cX8_fits 4 = .ok (.lshl, 1) := by decide +kernel
theorem dX8_fits_5 : decode cX8_fits 5 = .ok (.lstore_n 3, 1) := by decide +kernel
theorem dX8_fits_6 : decode cX8_fits 6 = .ok (.lload_n 0, 1) := by decide +kernel
theorem dX8_fits_7 : decode cX8_fits 7 = .ok (.lload_n 3, 1) := by decide +kernel
theorem dX8_fits_8 : decode cX8_fits 8 = .ok (.lneg, 1) := by decide +kernel
theorem dX8_fits_9 : decode cX8_fits 9 = .ok (.lcmp, 1) := by decide +kernel
theorem dX8_fits_10 : decode cX8_fits 10 = .ok (.ifCond .lt 13, 3) := by decide +kernel
theorem dX8_fits_13 : decode cX8_fits 13 = .ok (.lload_n 0, 1) := by decide +kernel
theorem dX8_fits_14 : decode cX8_fits 14 = .ok (.lload_n 3, 1) := by decide +kernel
theorem dX8_fits_15 : decode cX8_fits 15 = .ok (.lcmp, 1) := by decide +kernel
theorem dX8_fits_16 : decode cX8_fits 16 = .ok (.ifCond .ge 7, 3) := by decide +kernel
theorem dX8_fits_19 : decode cX8_fits 19 = .ok (.iconst 1, 1) := by decide +kernel
theorem dX8_fits_20 : decode cX8_fits 20 = .ok (.goto 4, 3) := by decide +kernel
theorem dX8_fits_23 : decode cX8_fits 23 = .ok (.iconst 0, 1) := by decide +kernel
theorem dX8_fits_24 : decode cX8_fits 24 = .ok (.ireturn, 1) := by decide +kernel
theorem dX8_isSide_0 : decode cX8_isSide 0 = .ok (.iload_n 0, 1) := by decide +kernel
theorem dX8_isSide_1 : decode cX8_isSide 1 = .ok (.bipush 9, 2) := by decide +kernel
theorem dX8_isSide_3 : decode cX8_isSide 3 = .ok (.if_icmp .ne 13, 3) := by decide +kernel
theorem dX8_isSide_6 : decode cX8_isSide 6 = .ok (.iload_n 1, 1) := by decide +kernel
theorem dX8_isSide_7 : decode cX8_isSide 7 = .ok (.ifCond .ne 7, 3) := by decide +kernel
theorem dX8_isSide_10 : decode cX8_isSide 10 = .ok (.iconst 1, 1) := by decide +kernel
theorem dX8_isSide_11 : decode cX8_isSide 11 = .ok (.goto 4, 3) := by decide +kernel
theorem dX8_isSide_14 : decode cX8_isSide 14 = .ok (.iconst 0, 1) := by decide +kernel
theorem dX8_isSide_15 : decode cX8_isSide 15 = .ok (.ireturn, 1) := by decide +kernel
theorem dX8_isSide_16 : decode cX8_isSide 16 = .ok (.iload_n 0, 1) := by decide +kernel
theorem dX8_isSide_17 : decode cX8_isSide 17 = .ok (.bipush 8, 2) := by decide +kernel
theorem dX8_isSide_19 : decode cX8_isSide 19 = .ok (.if_icmp .eq 9, 3) := by decide +kernel
theorem dX8_isSide_22 : decode cX8_isSide 22 = .ok (.iload_n 0, 1) := by decide +kernel
theorem dX8_isSide_23 : decode cX8_isSide 23 = .ok (.bipush 10, 2) := by decide +kernel
theorem dX8_isSide_25 : decode cX8_isSide 25 = .ok (.if_icmp .ne 12, 3) := by decide +kernel
theorem dX8_isSide_28 : decode cX8_isSide 28 = .ok (.iload_n 1, 1) := by decide +kernel
theorem dX8_isSide_29 : decode cX8_isSide 29 = .ok (.iconst 1, 1) := by decide +kernel
theorem dX8_isSide_30 : decode cX8_isSide 30 = .ok (.if_icmp .ne 7, 3) := by decide +kernel
theorem dX8_isSide_33 : decode cX8_isSide 33 = .ok (.iconst 1, 1) := by decide +kernel
theorem dX8_isSide_34 : decode cX8_isSide 34 = .ok (.goto 4, 3) := by decide +kernel
theorem dX8_isSide_37 : decode cX8_isSide 37 = .ok (.iconst 0, 1) := by decide +kernel
theorem dX8_isSide_38 : decode cX8_isSide 38 = .ok (.ireturn, 1) := by decide +kernel
theorem dX8_sumOf_0 : decode cX8_sumOf 0 = .ok (.iconst 1, 1) := by decide +kernel
theorem dX8_sumOf_1 : decode cX8_sumOf 1 = .ok (.iload_n 3, 1) := by decide +kernel
theorem dX8_sumOf_2 : decode cX8_sumOf 2 = .ok (.iconst 1, 1) := by decide +kernel
theorem dX8_sumOf_3 : decode cX8_sumOf 3 = .ok (.isub, 1) := by decide +kernel
theorem dX8_sumOf_4 : decode cX8_sumOf 4 = .ok (.ishl, 1) := by decide +kernel
theorem dX8_sumOf_5 : decode cX8_sumOf 5 = .ok (.istore 5, 2) := by decide +kernel
theorem dX8_sumOf_7 : decode cX8_sumOf 7 = .ok (.iconst 1, 1) := by decide +kernel
theorem dX8_sumOf_8 : decode cX8_sumOf 8 = .ok (.iload_n 3, 1) := by decide +kernel
theorem dX8_sumOf_9 : decode cX8_sumOf 9 = .ok (.ishl, 1) := by decide +kernel
theorem dX8_sumOf_10 : decode cX8_sumOf 10 = .ok (.iconst 1, 1) := by decide +kernel
theorem dX8_sumOf_11 : decode cX8_sumOf 11 = .ok (.isub, 1) := by decide +kernel
theorem dX8_sumOf_12 : decode cX8_sumOf 12 = .ok (.istore 6, 2) := by decide +kernel
theorem dX8_sumOf_14 : decode cX8_sumOf 14 = .ok (.iconst 0, 1) := by decide +kernel
theorem dX8_sumOf_15 : decode cX8_sumOf 15 = .ok (.istore 7, 2) := by decide +kernel
theorem dX8_sumOf_17 : decode cX8_sumOf 17 = .ok (.iload_n 1, 1) := by decide +kernel
theorem dX8_sumOf_18 : decode cX8_sumOf 18 = .ok (.istore 8, 2) := by decide +kernel
theorem dX8_sumOf_20 : decode cX8_sumOf 20 = .ok (.iload 8, 2) := by decide +kernel
theorem dX8_sumOf_22 : decode cX8_sumOf 22 = .ok (.iload_n 2, 1) := by decide +kernel
theorem dX8_sumOf_23 : decode cX8_sumOf 23 = .ok (.if_icmp .ge 79, 3) := by decide +kernel
theorem dX8_sumOf_26 : decode cX8_sumOf 26 = .ok (.iload 7, 2) := by decide +kernel
theorem dX8_sumOf_28 : decode cX8_sumOf 28 = .ok (.aload_n 0, 1) := by decide +kernel
theorem dX8_sumOf_29 : decode cX8_sumOf 29 = .ok (.iload 8, 2) := by decide +kernel
theorem dX8_sumOf_31 : decode cX8_sumOf 31 = .ok (.baload, 1) := by decide +kernel
theorem dX8_sumOf_32 : decode cX8_sumOf 32 = .ok (.sipush 255, 3) := by decide +kernel
theorem dX8_sumOf_35 : decode cX8_sumOf 35 = .ok (.iand, 1) := by decide +kernel
theorem dX8_sumOf_36 : decode cX8_sumOf 36 = .ok (.iload_n 3, 1) := by decide +kernel
theorem dX8_sumOf_37 : decode cX8_sumOf 37 = .ok (.bipush 8, 2) := by decide +kernel
theorem dX8_sumOf_39 : decode cX8_sumOf 39 = .ok (.isub, 1) := by decide +kernel
theorem dX8_sumOf_40 : decode cX8_sumOf 40 = .ok (.ishl, 1) := by decide +kernel
theorem dX8_sumOf_41 : decode cX8_sumOf 41 = .ok (.ixor, 1) := by decide +kernel
theorem dX8_sumOf_42 : decode cX8_sumOf 42 = .ok (.istore 7, 2) := by decide +kernel
theorem dX8_sumOf_44 : decode cX8_sumOf 44 = .ok (.iconst 0, 1) := by decide +kernel
theorem dX8_sumOf_45 : decode cX8_sumOf 45 = .ok (.istore 9, 2) := by decide +kernel
theorem dX8_sumOf_47 : decode cX8_sumOf 47 = .ok (.iload 9, 2) := by decide +kernel
theorem dX8_sumOf_49 : decode cX8_sumOf 49 = .ok (.bipush 8, 2) := by decide +kernel
theorem dX8_sumOf_51 : decode cX8_sumOf 51 = .ok (.if_icmp .ge 45, 3) := by decide +kernel
theorem dX8_sumOf_54 : decode cX8_sumOf 54 = .ok (.iload 7, 2) := by decide +kernel
theorem dX8_sumOf_56 : decode cX8_sumOf 56 = .ok (.iload 5, 2) := by decide +kernel
theorem dX8_sumOf_58 : decode cX8_sumOf 58 = .ok (.iand, 1) := by decide +kernel
theorem dX8_sumOf_59 : decode cX8_sumOf 59 = .ok (.ifCond .eq 7, 3) := by decide +kernel
theorem dX8_sumOf_62 : decode cX8_sumOf 62 = .ok (.iconst 1, 1) := by decide +kernel
theorem dX8_sumOf_63 : decode cX8_sumOf 63 = .ok (.goto 4, 3) := by decide +kernel
theorem dX8_sumOf_66 : decode cX8_sumOf 66 = .ok (.iconst 0, 1) := by decide +kernel
theorem dX8_sumOf_67 : decode cX8_sumOf 67 = .ok (.istore 10, 2) := by decide +kernel
theorem dX8_sumOf_69 : decode cX8_sumOf 69 = .ok (.iload 7, 2) := by decide +kernel
theorem dX8_sumOf_71 : decode cX8_sumOf 71 = .ok (.iconst 1, 1) := by decide +kernel
theorem dX8_sumOf_72 : decode cX8_sumOf 72 = .ok (.ishl, 1) := by decide +kernel
theorem dX8_sumOf_73 : decode cX8_sumOf 73 = .ok (.iload 6, 2) := by decide +kernel
theorem dX8_sumOf_75 : decode cX8_sumOf 75 = .ok (.iand, 1) := by decide +kernel
theorem dX8_sumOf_76 : decode cX8_sumOf 76 = .ok (.istore 7, 2) := by decide +kernel
theorem dX8_sumOf_78 : decode cX8_sumOf 78 = .ok (.iload 10, 2) := by decide +kernel
theorem dX8_sumOf_80 : decode cX8_sumOf 80 = .ok (.ifCond .eq 10, 3) := by decide +kernel
theorem dX8_sumOf_83 : decode cX8_sumOf 83 = .ok (.iload 7, 2) := by decide +kernel
theorem dX8_sumOf_85 : decode cX8_sumOf 85 = .ok (.iload 4, 2) := by decide +kernel
theorem dX8_sumOf_87 : decode cX8_sumOf 87 = .ok (.ixor, 1) := by decide +kernel
theorem dX8_sumOf_88 : decode cX8_sumOf 88 = .ok (.istore 7, 2) := by decide +kernel
theorem dX8_sumOf_90 : decode cX8_sumOf 90 = .ok (.iinc 9 1, 3) := by decide +kernel
theorem dX8_sumOf_93 : decode cX8_sumOf 93 = .ok (.goto (-46), 3) := by decide +kernel
theorem dX8_sumOf_96 : decode cX8_sumOf 96 = .ok (.iinc 8 1, 3) := by decide +kernel
theorem dX8_sumOf_99 : decode cX8_sumOf 99 = .ok (.goto (-79), 3) := by decide +kernel
theorem dX8_sumOf_102 : decode cX8_sumOf 102 = .ok (.iload 7, 2) := by decide +kernel
theorem dX8_sumOf_104 : decode cX8_sumOf 104 = .ok (.ireturn, 1) := by decide +kernel
theorem dX9_init_0 : decode cX9_init 0 = .ok (.aload_n 0, 1) := by decide +kernel
theorem dX9_init_1 : decode cX9_init 1 = .ok (.invokespecial 1, 3) := by decide +kernel
theorem dX9_init_4 : decode cX9_init 4 = .ok (.aload_n 0, 1) := by decide +kernel
theorem dX9_init_5 : decode cX9_init 5 = .ok (.iconst 1, 1) := by decide +kernel
theorem dX9_init_6 : decode cX9_init 6 = .ok (.putfield 7, 3) := by decide +kernel
theorem dX9_init_9 : decode cX9_init 9 = .ok (.aload_n 0, 1) := by decide +kernel
theorem dX9_init_10 : decode cX9_init 10 = .ok (.bipush 16, 2) := by decide +kernel
theorem dX9_init_12 : decode cX9_init 12 = .ok (.putfield 13, 3) := by decide +kernel
theorem dX9_init_15 : decode cX9_init 15 = .ok (.aload_n 0, 1) := by decide +kernel
theorem dX9_init_16 : decode cX9_init 16 = .ok (.bipush 64, 2) := by decide +kernel
theorem dX9_init_18 : decode cX9_init 18 = .ok (.putfield 16, 3) := by decide +kernel
theorem dX9_init_21 : decode cX9_init 21 = .ok (.aload_n 0, 1) := by decide +kernel
theorem dX9_init_22 : decode cX9_init 22 = .ok (.ldc 19, 2) := by decide +kernel
theorem dX9_init_24 : decode cX9_init 24 = .ok (.putfield 20, 3) := by decide +kernel
theorem dX9_init_27 : decode cX9_init 27 = .ok (.aload_n 0, 1) := by decide +kernel
theorem dX9_init_28 : decode cX9_init 28 = .ok (.bipush 8, 2) := by decide +kernel
theorem dX9_init_30 : decode cX9_init 30 = .ok (.newarray .int, 2) := by decide +kernel
theorem dX9_init_32 : decode cX9_init 32 = .ok (.putfield 23, 3) := by decide +kernel
theorem dX9_init_35 : decode cX9_init 35 = .ok (.aload_n 0, 1) := by decide +kernel
theorem dX9_init_36 : decode cX9_init 36 = .ok (.sipush 4096, 3) := by decide +kernel
theorem dX9_init_39 : decode cX9_init 39 = .ok (.newarray .int, 2) := by decide +kernel
theorem dX9_init_41 : decode cX9_init 41 = .ok (.putfield 27, 3) := by decide +kernel
theorem dX9_init_44 : decode cX9_init 44 = .ok (.aload_n 0, 1) := by decide +kernel
theorem dX9_init_45 : decode cX9_init 45 = .ok (.sipush 2500, 3) := by decide +kernel
theorem dX9_init_48 : decode cX9_init 48 = .ok (.newarray .long, 2) := by decide +kernel
theorem dX9_init_50 : decode cX9_init 50 = .ok (.putfield 30, 3) := by decide +kernel
theorem dX9_init_53 : decode cX9_init 53 = .ok (.aload_n 0, 1) := by decide +kernel
theorem dX9_init_54 : decode cX9_init 54 = .ok (.sipush 264, 3) := by decide +kernel
theorem dX9_init_57 : decode cX9_init 57 = .ok (.newarray .int, 2) := by decide +kernel
theorem dX9_init_59 : decode cX9_init 59 = .ok (.putfield 34, 3) := by decide +kernel
theorem dX9_init_62 : decode cX9_init 62 = .ok (.aload_n 0, 1) := by decide +kernel
theorem dX9_init_63 : decode cX9_init 63 = .ok (.sipush 264, 3) := by decide +kernel
theorem dX9_init_66 : decode cX9_init 66 = .ok (.newarray .int, 2) := by decide +kernel
theorem dX9_init_68 : decode cX9_init 68 = .ok (.putfield 37, 3) := by decide +kernel
theorem dX9_init_71 : decode cX9_init 71 = .ok (.aload_n 0, 1) := by decide +kernel
theorem dX9_init_72 : decode cX9_init 72 = .ok (.sipush 264, 3) := by decide +kernel
theorem dX9_init_75 : decode cX9_init 75 = .ok (.newarray .int, 2) := by decide +kernel
theorem dX9_init_77 : decode cX9_init 77 = .ok (.putfield 40, 3) := by decide +kernel
theorem dX9_init_80 : decode cX9_init 80 = .ok (.aload_n 0, 1) := by decide +kernel
theorem dX9_init_81 : decode cX9_init 81 = .ok (.sipush 264, 3) := by decide +kernel
theorem dX9_init_84 : decode cX9_init 84 = .ok (.newarray .int, 2) := by decide +kernel
theorem dX9_init_86 : decode cX9_init 86 = .ok (.putfield 43, 3) := by decide +kernel
theorem dX9_init_89 : decode cX9_init 89 = .ok (.aload_n 0, 1) := by decide +kernel
theorem dX9_init_90 : decode cX9_init 90 = .ok (.sipush 256, 3) := by decide +kernel
theorem dX9_init_93 : decode cX9_init 93 = .ok (.newarray .int, 2) := by decide +kernel
theorem dX9_init_95 : decode cX9_init 95 = .ok (.putfield 46, 3) := by decide +kernel
theorem dX9_init_98 : decode cX9_init 98 = .ok (.aload_n 0, 1) := by decide +kernel
theorem dX9_init_99 : decode cX9_init 99 = .ok (.sipush 2500, 3) := by decide +kernel
theorem dX9_init_102 : decode cX9_init 102 = .ok (.newarray .long, 2) := by decide +kernel
theorem dX9_init_104 : decode cX9_init 104 = .ok (.putfield 49, 3) := by decide +kernel
theorem dX9_init_107 : decode cX9_init 107 = .ok (.aload_n 0, 1) := by decide +kernel
theorem dX9_init_108 : decode cX9_init 108 = .ok (.iconst (-1), 1) := by decide +kernel
theorem dX9_init_109 : decode cX9_init 109 = .ok (.putfield 52, 3) := by decide +kernel
theorem dX9_init_112 : decode cX9_init 112 = .ok (.aload_n 0, 1) := by decide +kernel
theorem dX9_init_113 : decode cX9_init 113 = .ok (.sipush 256, 3) := by decide +kernel
theorem dX9_init_116 : decode cX9_init 116 = .ok (.newarray .long, 2) := by decide +kernel
theorem dX9_init_118 : decode cX9_init 118 = .ok (.putfield 55, 3) := by decide +kernel
theorem dX9_init_121 : decode cX9_init 121 = .ok (.aload_n 0, 1) := by decide +kernel
theorem dX9_init_122 : decode cX9_init 122 = .ok (.sipush 256, 3) := by decide +kernel
theorem dX9_init_125 : decode cX9_init 125 = .ok (.newarray .long, 2) := by decide +kernel
theorem dX9_init_127 : decode cX9_init 127 = .ok (.putfield 58, 3) := by decide +kernel
theorem dX9_init_130 : decode cX9_init 130 = .ok (.aload_n 0, 1) := by decide +kernel
theorem dX9_init_131 : decode cX9_init 131 = .ok (.sipush 4096, 3) := by decide +kernel
theorem dX9_init_134 : decode cX9_init 134 = .ok (.newarray .int, 2) := by decide +kernel
theorem dX9_init_136 : decode cX9_init 136 = .ok (.putfield 61, 3) := by decide +kernel
theorem dX9_init_139 : decode cX9_init 139 = .ok (.aload_n 0, 1) := by decide +kernel
theorem dX9_init_140 : decode cX9_init 140 = .ok (.sipush 2048, 3) := by decide +kernel
theorem dX9_init_143 : decode cX9_init 143 = .ok (.newarray .long, 2) := by decide +kernel
theorem dX9_init_145 : decode cX9_init 145 = .ok (.putfield 64, 3) := by decide +kernel
theorem dX9_init_148 : decode cX9_init 148 = .ok (.aload_n 0, 1) := by decide +kernel
theorem dX9_init_149 : decode cX9_init 149 = .ok (.bipush 32, 2) := by decide +kernel
theorem dX9_init_151 : decode cX9_init 151 = .ok (.newarray .int, 2) := by decide +kernel
theorem dX9_init_153 : decode cX9_init 153 = .ok (.putfield 67, 3) := by decide +kernel
theorem dX9_init_156 : decode cX9_init 156 = .ok (.return_, 1) := by decide +kernel
theorem dX9_thrown_0 : decode cX9_thrown 0 = .ok (.aload_n 0, 1) := by decide +kernel
theorem dX9_thrown_1 : decode cX9_thrown 1 = .ok (.getfield 70, 3) := by decide +kernel
theorem dX9_thrown_4 : decode cX9_thrown 4 = .ok (.ireturn, 1) := by decide +kernel
theorem dX9_in_0 : decode cX9_in 0 = .ok (.lload_n 0, 1) := by decide +kernel
theorem dX9_in_1 : decode cX9_in 1 = .ok (.lload_n 2, 1) := by decide +kernel
theorem dX9_in_2 : decode cX9_in 2 = .ok (.lcmp, 1) := by decide +kernel
theorem dX9_in_3 : decode cX9_in 3 = .ok (.ifCond .lt 14, 3) := by decide +kernel
theorem dX9_in_6 : decode cX9_in 6 = .ok (.lload_n 0, 1) := by decide +kernel
theorem dX9_in_7 : decode cX9_in 7 = .ok (.lload 4, 2) := by decide +kernel
theorem dX9_in_9 : decode cX9_in 9 = .ok (.lcmp, 1) := by decide +kernel
theorem dX9_in_10 : decode cX9_in 10 = .ok (.ifCond .gt 7, 3) := by decide +kernel
theorem dX9_in_13 : decode cX9_in 13 = .ok (.iconst 1, 1) := by decide +kernel
theorem dX9_in_14 : decode cX9_in 14 = .ok (.goto 4, 3) := by decide +kernel
theorem dX9_in_17 : decode cX9_in 17 = .ok (.iconst 0, 1) := by decide +kernel
theorem dX9_in_18 : decode cX9_in 18 = .ok (.ireturn, 1) := by decide +kernel
theorem dX9_fits_0 : decode cX9_fits 0 = .ok (.lload_n 0, 1) := by decide +kernel
theorem dX9_fits_1 : decode cX9_fits 1 = .ok (.lconst 1, 1) := by decide +kernel
theorem dX9_fits_2 : decode cX9_fits 2 = .ok (.iload_n 2, 1) := by decide +kernel
theorem dX9_fits_3 : decode cX9_fits 3 = .ok (.iconst 1, 1) := by decide +kernel
theorem dX9_fits_4 : decode cX9_fits 4 = .ok (.isub, 1) := by decide +kernel
theorem dX9_fits_5 : decode cX9_fits 5 = .ok (.lshl, 1) := by decide +kernel
theorem dX9_fits_6 : decode cX9_fits 6 = .ok (.lneg, 1) := by decide +kernel
theorem dX9_fits_7 : decode cX9_fits 7 = .ok (.lcmp, 1) := by decide +kernel
theorem dX9_fits_8 : decode cX9_fits 8 = .ok (.ifCond .lt 17, 3) := by decide +kernel
theorem dX9_fits_11 : decode cX9_fits 11 = .ok (.lload_n 0, 1) := by decide +kernel
theorem dX9_fits_12 : decode cX9_fits 12 = .ok (.lconst 1, 1) := by decide +kernel
theorem dX9_fits_13 : decode cX9_fits 13 = .ok (.iload_n 2, 1) := by decide +kernel
theorem dX9_fits_14 : decode cX9_fits 14 = .ok (.iconst 1, 1) := by decide +kernel
theorem dX9_fits_15 : decode cX9_fits 15 = .ok (.isub, 1) := by decide +kernel
theorem dX9_fits_16 : decode cX9_fits 16 = .ok (.lshl, 1) := by decide +kernel
theorem dX9_fits_17 : decode cX9_fits 17 = .ok (.lcmp, 1) := by decide +kernel
theorem dX9_fits_18 : decode cX9_fits 18 = .ok (.ifCond .ge 7, 3) := by decide +kernel
theorem dX9_fits_21 : decode cX9_fits 21 = .ok (.iconst 1, 1) := by decide +kernel
theorem dX9_fits_22 : decode cX9_fits 22 = .ok (.goto 4, 3) := by decide +kernel
theorem dX9_fits_25 : decode cX9_fits 25 = .ok (.iconst 0, 1) := by decide +kernel
theorem dX9_fits_26 : decode cX9_fits 26 = .ok (.ireturn, 1) := by decide +kernel
theorem dX9_shape_0 : decode cX9_shape 0 = .ok (.aload_n 0, 1) := by decide +kernel
theorem dX9_shape_1 : decode cX9_shape 1 = .ok (.iload_n 1, 1) := by decide +kernel
theorem dX9_shape_2 : decode cX9_shape 2 = .ok (.i2l, 1) := by decide +kernel
theorem dX9_shape_3 : decode cX9_shape 3 = .ok (.lconst 1, 1) := by decide +kernel
theorem dX9_shape_4 : decode cX9_shape 4 = .ok (.ldc2_w 73, 3) := by decide +kernel
theorem dX9_shape_7 : decode cX9_shape 7 = .ok (.invokestatic 75, 3) := by decide +kernel
theorem dX9_shape_10 : decode cX9_shape 10 = .ok (.ifCond .eq 48, 3) := by decide +kernel
theorem dX9_shape_13 : decode cX9_shape 13 = .ok (.iload_n 2, 1) := by decide +kernel
theorem dX9_shape_14 : decode cX9_shape 14 = .ok (.i2l, 1) := by decide +kernel
theorem dX9_shape_15 : decode cX9_shape 15 = .ok (.ldc2_w 79, 3) := by decide +kernel
theorem dX9_shape_18 : decode cX9_shape 18 = .ok (.ldc2_w 81, 3) := by decide +kernel
theorem dX9_shape_21 : decode cX9_shape 21 = .ok (.invokestatic 75, 3) := by decide +kernel
theorem dX9_shape_24 : decode cX9_shape 24 = .ok (.ifCond .eq 34, 3) := by decide +kernel
theorem dX9_shape_27 : decode cX9_shape 27 = .ok (.iload_n 3, 1) := by decide +kernel
theorem dX9_shape_28 : decode cX9_shape 28 = .ok (.i2l, 1) := by decide +kernel
theorem dX9_shape_29 : decode cX9_shape 29 = .ok (.ldc2_w 83, 3) := by decide +kernel
theorem dX9_shape_32 : decode cX9_shape 32 = .ok (.ldc2_w 85, 3) := by decide +kernel
theorem dX9_shape_35 : decode cX9_shape 35 = .ok (.invokestatic 75, 3) := by decide +kernel
theorem dX9_shape_38 : decode cX9_shape 38 = .ok (.ifCond .eq 20, 3) := by decide +kernel
theorem dX9_shape_41 : decode cX9_shape 41 = .ok (.iload 4, 2) := by decide +kernel
theorem dX9_shape_43 : decode cX9_shape 43 = .ok (.i2l, 1) := by decide +kernel
theorem dX9_shape_44 : decode cX9_shape 44 = .ok (.lconst 1, 1) := by decide +kernel
theorem dX9_shape_45 : decode cX9_shape 45 = .ok (.ldc2_w 87, 3) := by decide +kernel
theorem dX9_shape_48 : decode cX9_shape 48 = .ok (.invokestatic 75, 3) := by decide +kernel
theorem dX9_shape_51 : decode cX9_shape 51 = .ok (.ifCond .eq 7, 3) := by decide +kernel
theorem dX9_shape_54 : decode cX9_shape 54 = .ok (.iconst 0, 1) := by decide +kernel
theorem dX9_shape_55 : decode cX9_shape 55 = .ok (.goto 4, 3) := by decide +kernel
theorem dX9_shape_58 : decode cX9_shape 58 = .ok (.iconst 1, 1) := by decide +kernel
theorem dX9_shape_59 : decode cX9_shape 59 = .ok (.putfield 70, 3) := by decide +kernel
theorem dX9_shape_62 : decode cX9_shape 62 = .ok (.aload_n 0, 1) := by decide +kernel
theorem dX9_shape_63 : decode cX9_shape 63 = .ok (.getfield 70, 3) := by decide +kernel
theorem dX9_shape_66 : decode cX9_shape 66 = .ok (.ifCond .le 4, 3) := by decide +kernel
theorem dX9_shape_69 : decode cX9_shape 69 = .ok (.return_, 1) := by decide +kernel
theorem dX9_shape_70 : decode cX9_shape 70 = .ok (.aload_n 0, 1) := by decide +kernel
theorem dX9_shape_71 : decode cX9_shape 71 = .ok (.iload_n 1, 1) := by decide +kernel
theorem dX9_shape_72 : decode cX9_shape 72 = .ok (.putfield 7, 3) := by decide +kernel
theorem dX9_shape_75 : decode cX9_shape 75 = .ok (.aload_n 0, 1) := by decide +kernel
theorem dX9_shape_76 : decode cX9_shape 76 = .ok (.iload_n 2, 1) := by decide +kernel
theorem dX9_shape_77 : decode cX9_shape 77 = .ok (.putfield 13, 3) := by decide +kernel
theorem dX9_shape_80 : decode cX9_shape 80 = .ok (.aload_n 0, 1) := by decide +kernel
theorem dX9_shape_81 : decode cX9_shape 81 = .ok (.iload_n 3, 1) := by decide +kernel
theorem dX9_shape_82 : decode cX9_shape 82 = .ok (.putfield 16, 3) := by decide +kernel
theorem dX9_shape_85 : decode cX9_shape 85 = .ok (.aload_n 0, 1) := by decide +kernel
theorem dX9_shape_86 : decode cX9_shape 86 = .ok (.iload 4, 2) := by decide +kernel
theorem dX9_shape_88 : decode cX9_shape 88 = .ok (.putfield 20, 3) := by decide +kernel
theorem dX9_shape_91 : decode cX9_shape 91 = .ok (.aload_n 0, 1) := by decide +kernel
theorem dX9_shape_92 : decode cX9_shape 92 = .ok (.iconst 0, 1) := by decide +kernel
theorem dX9_shape_93 : decode cX9_shape 93 = .ok (.putfield 89, 3) := by decide +kernel
theorem dX9_shape_96 : decode cX9_shape 96 = .ok (.return_, 1) := by decide +kernel
theorem dX9_predict_0 : decode cX9_predict 0 = .ok (.aload_n 0, 1) := by decide +kernel
theorem dX9_predict_1 : decode cX9_predict 1 = .ok (.iload_n 1, 1) := by decide +kernel
theorem dX9_predict_2 : decode cX9_predict 2 = .ok (.i2l, 1) := by decide +kernel
theorem dX9_predict_3 : decode cX9_predict 3 = .ok (.lconst 0, 1) := by decide +kernel
theorem dX9_predict_4 : decode cX9_predict 4 = .ok (.ldc2_w 92, 3) := by decide +kernel
theorem dX9_predict_7 : decode cX9_predict 7 = .ok (.invokestatic 75, 3) := by decide +kernel
theorem dX9_predict_10 : decode cX9_predict 10 = .ok (.ifCond .eq 7, 3) := by decide +kernel
theorem dX9_predict_13 : decode cX9_predict 13 = .ok (.iconst 0, 1) := by decide +kernel
theorem dX9_predict_14 : decode cX9_predict 14 = .ok (.goto 4, 3) := by decide +kernel
theorem dX9_predict_17 : decode cX9_predict 17 = .ok (.iconst 1, 1) := by decide +kernel
theorem dX9_predict_18 : decode cX9_predict 18 = .ok (.putfield 70, 3) := by decide +kernel
theorem dX9_predict_21 : decode cX9_predict 21 = .ok (.aload_n 0, 1) := by decide +kernel
theorem dX9_predict_22 : decode cX9_predict 22 = .ok (.getfield 70, 3) := by decide +kernel
theorem dX9_predict_25 : decode cX9_predict 25 = .ok (.ifCond .le 4, 3) := by decide +kernel
theorem dX9_predict_28 : decode cX9_predict 28 = .ok (.return_, 1) := by decide +kernel
theorem dX9_predict_29 : decode cX9_predict 29 = .ok (.aload_n 0, 1) := by decide +kernel
theorem dX9_predict_30 : decode cX9_predict 30 = .ok (.iload_n 1, 1) := by decide +kernel
theorem dX9_predict_31 : decode cX9_predict 31 = .ok (.putfield 94, 3) := by decide +kernel
theorem dX9_predict_34 : decode cX9_predict 34 = .ok (.aload_n 0, 1) := by decide +kernel
theorem dX9_predict_35 : decode cX9_predict 35 = .ok (.iconst 0, 1) := by decide +kernel
theorem dX9_predict_36 : decode cX9_predict 36 = .ok (.putfield 97, 3) := by decide +kernel
theorem dX9_predict_39 : decode cX9_predict 39 = .ok (.return_, 1) := by decide +kernel
theorem dX9_coefficient_0 : decode cX9_coefficient 0 = .ok (.aload_n 0, 1) := by decide +kernel
theorem dX9_coefficient_1 : decode cX9_coefficient 1 = .ok (.iload_n 1, 1) := by decide +kernel
theorem dX9_coefficient_2 : decode cX9_coefficient 2 = .ok (.i2l, 1) := by decide +kernel
theorem dX9_coefficient_3 : decode cX9_coefficient 3 = .ok (.ldc2_w 100, 3) := by decide +kernel
theorem dX9_coefficient_6 : decode cX9_coefficient 6 = .ok (.ldc2_w 102, 3) := by decide +kernel
theorem dX9_coefficient_9 : decode cX9_coefficient 9 = .ok (.invokestatic 75, 3) := by decide +kernel
theorem dX9_coefficient_12 : decode cX9_coefficient 12 = .ok (.ifCond .ne 7, 3) := by decide +kernel
theorem dX9_coefficient_15 : decode cX9_coefficient 15 = .ok (.iconst 1, 1) := by decide +kernel
theorem dX9_coefficient_16 : decode cX9_coefficient 16 = .ok (.goto 17, 3) := by decide +kernel
theorem dX9_coefficient_19 : decode cX9_coefficient 19 = .ok (.aload_n 0, 1) := by decide +kernel
theorem dX9_coefficient_20 : decode cX9_coefficient 20 = .ok (.getfield 97, 3) := by decide +kernel
theorem dX9_coefficient_23 : decode cX9_coefficient 23 = .ok (.bipush 8, 2) := by decide +kernel
theorem dX9_coefficient_25 : decode cX9_coefficient 25 = .ok (.if_icmp .ne 7, 3) := by decide +kernel
theorem dX9_coefficient_28 : decode cX9_coefficient 28 = .ok (.iconst 2, 1) := by decide +kernel
theorem dX9_coefficient_29 : decode cX9_coefficient 29 = .ok (.goto 4, 3) := by decide +kernel
theorem dX9_coefficient_32 : decode cX9_coefficient 32 = .ok (.iconst 0, 1) := by decide +kernel
theorem dX9_coefficient_33 : decode cX9_coefficient 33 = .ok (.putfield 70, 3) := by decide +kernel
theorem dX9_coefficient_36 : decode cX9_coefficient 36 = .ok (.aload_n 0, 1) := by decide +kernel
theorem dX9_coefficient_37 : decode cX9_coefficient 37 = .ok (.getfield 70, 3) := by decide +kernel
theorem dX9_coefficient_40 : decode cX9_coefficient 40 = .ok (.ifCond .le 4, 3) := by decide +kernel
theorem dX9_coefficient_43 : decode cX9_coefficient 43 = .ok (.return_, 1) := by decide +kernel
theorem dX9_coefficient_44 : decode cX9_coefficient 44 = .ok (.aload_n 0, 1) := by decide +kernel
theorem dX9_coefficient_45 : decode cX9_coefficient 45 = .ok (.getfield 23, 3) := by decide +kernel
theorem dX9_coefficient_48 : decode cX9_coefficient 48 = .ok (.aload_n 0, 1) := by decide +kernel
theorem dX9_coefficient_49 : decode cX9_coefficient 49 = .ok (.getfield 97, 3) := by decide +kernel
theorem dX9_coefficient_52 : decode cX9_coefficient 52 = .ok (.iload_n 1, 1) := by decide +kernel
theorem dX9_coefficient_53 : decode cX9_coefficient 53 = .ok (.iastore, 1) := by decide +kernel
theorem dX9_coefficient_54 : decode cX9_coefficient 54 = .ok (.aload_n 0, 1) := by decide +kernel
theorem dX9_coefficient_55 : decode cX9_coefficient 55 = .ok (.dup, 1) := by decide +kernel
theorem dX9_coefficient_56 : decode cX9_coefficient 56 = .ok (.getfield 97, 3) := by decide +kernel
theorem dX9_coefficient_59 : decode cX9_coefficient 59 = .ok (.iconst 1, 1) := by decide +kernel
theorem dX9_coefficient_60 : decode cX9_coefficient 60 = .ok (.iadd, 1) := by decide +kernel
theorem dX9_coefficient_61 : decode cX9_coefficient 61 = .ok (.putfield 97, 3) := by decide +kernel
theorem dX9_coefficient_64 : decode cX9_coefficient 64 = .ok (.return_, 1) := by decide +kernel
theorem dX9_push_0 : decode cX9_push 0 = .ok (.aload_n 0, 1) := by decide +kernel
theorem dX9_push_1 : decode cX9_push 1 = .ok (.iload_n 1, 1) := by decide +kernel
theorem dX9_push_2 : decode cX9_push 2 = .ok (.i2l, 1) := by decide +kernel
theorem dX9_push_3 : decode cX9_push 3 = .ok (.aload_n 0, 1) := by decide +kernel
theorem dX9_push_4 : decode cX9_push 4 = .ok (.getfield 13, 3) := by decide +kernel
theorem dX9_push_7 : decode cX9_push 7 = .ok (.invokestatic 104, 3) := by decide +kernel
theorem dX9_push_10 : decode cX9_push 10 = .ok (.ifCond .ne 7, 3) := by decide +kernel
theorem dX9_push_13 : decode cX9_push 13 = .ok (.iconst 1, 1) := by decide +kernel
theorem dX9_push_14 : decode cX9_push 14 = .ok (.goto 18, 3) := by decide +kernel
theorem dX9_push_17 : decode cX9_push 17 = .ok (.aload_n 0, 1) := by decide +kernel
theorem dX9_push_18 : decode cX9_push 18 = .ok (.getfield 89, 3) := by decide +kernel
theorem dX9_push_21 : decode cX9_push 21 = .ok (.sipush 4096, 3) := by decide +kernel
theorem dX9_push_24 : decode cX9_push 24 = .ok (.if_icmp .ne 7, 3) := by decide +kernel
theorem dX9_push_27 : decode cX9_push 27 = .ok (.iconst 2, 1) := by decide +kernel
theorem dX9_push_28 : decode cX9_push 28 = .ok (.goto 4, 3) := by decide +kernel
theorem dX9_push_31 : decode cX9_push 31 = .ok (.iconst 0, 1) := by decide +kernel
theorem dX9_push_32 : decode cX9_push 32 = .ok (.putfield 70, 3) := by decide +kernel
theorem dX9_push_35 : decode cX9_push 35 = .ok (.aload_n 0, 1) := by decide +kernel
theorem dX9_push_36 : decode cX9_push 36 = .ok (.getfield 70, 3) := by decide +kernel
theorem dX9_push_39 : decode cX9_push 39 = .ok (.ifCond .le 4, 3) := by decide +kernel
theorem dX9_push_42 : decode cX9_push 42 = .ok (.return_, 1) := by decide +kernel
theorem dX9_push_43 : decode cX9_push 43 = .ok (.aload_n 0, 1) := by decide +kernel
theorem dX9_push_44 : decode cX9_push 44 = .ok (.getfield 27, 3) := by decide +kernel
theorem dX9_push_47 : decode cX9_push 47 = .ok (.aload_n 0, 1) := by decide +kernel
theorem dX9_push_48 : decode cX9_push 48 = .ok (.getfield 89, 3) := by decide +kernel
theorem dX9_push_51 : decode cX9_push 51 = .ok (.iload_n 1, 1) := by decide +kernel
theorem dX9_push_52 : decode cX9_push 52 = .ok (.iastore, 1) := by decide +kernel
theorem dX9_push_53 : decode cX9_push 53 = .ok (.aload_n 0, 1) := by decide +kernel
theorem dX9_push_54 : decode cX9_push 54 = .ok (.dup, 1) := by decide +kernel
theorem dX9_push_55 : decode cX9_push 55 = .ok (.getfield 89, 3) := by decide +kernel
theorem dX9_push_58 : decode cX9_push 58 = .ok (.iconst 1, 1) := by decide +kernel
theorem dX9_push_59 : decode cX9_push 59 = .ok (.iadd, 1) := by decide +kernel
theorem dX9_push_60 : decode cX9_push 60 = .ok (.putfield 89, 3) := by decide +kernel
theorem dX9_push_63 : decode cX9_push 63 = .ok (.return_, 1) := by decide +kernel
theorem dX9_isConstant_0 : decode cX9_isConstant 0 = .ok (.iconst 1, 1) := by decide +kernel
theorem dX9_isConstant_1 : decode cX9_isConstant 1 = .ok (.istore_n 1, 1) := by decide +kernel
theorem dX9_isConstant_2 : decode cX9_isConstant 2 = .ok (.iconst 1, 1) := by decide +kernel
theorem dX9_isConstant_3 : decode cX9_isConstant 3 = .ok (.istore_n 2, 1) := by decide +kernel
theorem dX9_isConstant_4 : decode cX9_isConstant 4 = .ok (.iload_n 2, 1) := by decide +kernel
theorem dX9_isConstant_5 : decode cX9_isConstant 5 = .ok (.aload_n 0, 1) := by decide +kernel
theorem dX9_isConstant_6 : decode cX9_isConstant 6 = .ok (.getfield 108, 3) := by decide +kernel
theorem dX9_isConstant_9 : decode cX9_isConstant 9 = .ok (.if_icmp .ge 35, 3) := by decide +kernel
theorem dX9_isConstant_12 : decode cX9_isConstant 12 = .ok (.iload_n 1, 1) := by decide +kernel
theorem dX9_isConstant_13 : decode cX9_isConstant 13 = .ok (.ifCond .eq 23, 3) := by decide +kernel
theorem dX9_isConstant_16 : decode cX9_isConstant 16 = .ok (.aload_n 0, 1) := by decide +kernel
theorem dX9_isConstant_17 : decode cX9_isConstant 17 = .ok (.getfield 55, 3) := by decide +kernel
theorem dX9_isConstant_20 : decode cX9_isConstant 20 = .ok (.iload_n 2, 1) := by decide +kernel
theorem dX9_isConstant_21 : decode cX9_isConstant 21 = .ok (.laload, 1) := by decide +kernel
theorem dX9_isConstant_22 : decode cX9_isConstant 22 = .ok (.aload_n 0, 1) := by decide +kernel
theorem dX9_isConstant_23 : decode cX9_isConstant 23 = .ok (.getfield 55, 3) := by decide +kernel
theorem dX9_isConstant_26 : decode cX9_isConstant 26 = .ok (.iconst 0, 1) := by decide +kernel
theorem dX9_isConstant_27 : decode cX9_isConstant 27 = .ok (.laload, 1) := by decide +kernel
theorem dX9_isConstant_28 : decode cX9_isConstant 28 = .ok (.lcmp, 1) := by decide +kernel
theorem dX9_isConstant_29 : decode cX9_isConstant 29 = .ok (.ifCond .ne 7, 3) := by decide +kernel
theorem dX9_isConstant_32 : decode cX9_isConstant 32 = .ok (.iconst 1, 1) := by decide +kernel
theorem dX9_isConstant_33 : decode cX9_isConstant 33 = .ok (.goto 4, 3) := by decide +kernel
theorem dX9_isConstant_36 : decode cX9_isConstant 36 = .ok (.iconst 0, 1) := by decide +kernel
theorem dX9_isConstant_37 : decode cX9_isConstant 37 = .ok (.istore_n 1, 1) := by decide +kernel
theorem dX9_isConstant_38 : decode cX9_isConstant 38 = .ok (.iinc 2 1, 3) := by decide +kernel
theorem dX9_isConstant_41 : decode cX9_isConstant 41 = .ok (.goto (-37), 3) := by decide +kernel
theorem dX9_isConstant_44 : decode cX9_isConstant 44 = .ok (.iload_n 1, 1) := by decide +kernel
theorem dX9_isConstant_45 : decode cX9_isConstant 45 = .ok (.ireturn, 1) := by decide +kernel
theorem dX9_takeWaste_0 : decode cX9_takeWaste 0 = .ok (.lconst 0, 1) := by decide +kernel
theorem dX9_takeWaste_1 : decode cX9_takeWaste 1 = .ok (.lstore_n 1, 1) := by decide +kernel
theorem dX9_takeWaste_2 : decode cX9_takeWaste 2 = .ok (.iconst 0, 1) := by decide +kernel
theorem dX9_takeWaste_3 : decode cX9_takeWaste 3 = .ok (.istore_n 3, 1) := by decide +kernel
theorem dX9_takeWaste_4 : decode cX9_takeWaste 4 = .ok (.iload_n 3, 1) := by decide +kernel
theorem dX9_takeWaste_5 : decode cX9_takeWaste 5 = .ok (.aload_n 0, 1) := by decide +kernel
theorem dX9_takeWaste_6 : decode cX9_takeWaste 6 = .ok (.getfield 108, 3) := by decide +kernel
theorem dX9_takeWaste_9 : decode cX9_takeWaste 9 = .ok (.if_icmp .ge 18, 3) := by decide +kernel
theorem dX9_takeWaste_12 : decode cX9_takeWaste 12 = .ok (.lload_n 1, 1) := by decide +kernel
theorem dX9_takeWaste_13 : decode cX9_takeWaste 13 = .ok (.aload_n 0, 1) := by decide +kernel
theorem dX9_takeWaste_14 : decode cX9_takeWaste 14 = .ok (.getfield 55, 3) := by decide +kernel
theorem dX9_takeWaste_17 : decode cX9_takeWaste 17 = .ok (.iload_n 3, 1) := by decide +kernel
theorem dX9_takeWaste_18 : decode cX9_takeWaste 18 = .ok (.laload, 1) := by decide +kernel
theorem dX9_takeWaste_19 : decode cX9_takeWaste 19 = .ok (.lor, 1) := by decide +kernel
theorem dX9_takeWaste_20 : decode cX9_takeWaste 20 = .ok (.lstore_n 1, 1) := by decide +kernel
theorem dX9_takeWaste_21 : decode cX9_takeWaste 21 = .ok (.iinc 3 1, 3) := by decide +kernel
theorem dX9_takeWaste_24 : decode cX9_takeWaste 24 = .ok (.goto (-20), 3) := by decide +kernel
theorem dX9_takeWaste_27 : decode cX9_takeWaste 27 = .ok (.iconst 0, 1) := by decide +kernel
theorem dX9_takeWaste_28 : decode cX9_takeWaste 28 = .ok (.istore_n 3, 1) := by decide +kernel
theorem dX9_takeWaste_29 : decode cX9_takeWaste 29 = .ok (.lload_n 1, 1) := by decide +kernel
theorem dX9_takeWaste_30 : decode cX9_takeWaste 30 = .ok (.lconst 0, 1) := by decide +kernel
theorem dX9_takeWaste_31 : decode cX9_takeWaste 31 = .ok (.lcmp, 1) := by decide +kernel
theorem dX9_takeWaste_32 : decode cX9_takeWaste 32 = .ok (.ifCond .eq 19, 3) := by decide +kernel
theorem dX9_takeWaste_35 : decode cX9_takeWaste 35 = .ok (.lload_n 1, 1) := by decide +kernel
theorem dX9_takeWaste_36 : decode cX9_takeWaste 36 = .ok (.iload_n 3, 1) := by decide +kernel
theorem dX9_takeWaste_37 : decode cX9_takeWaste 37 = .ok (.lshr, 1) := by decide +kernel
theorem dX9_takeWaste_38 : decode cX9_takeWaste 38 = .ok (.lconst 1, 1) := by decide +kernel
theorem dX9_takeWaste_39 : decode cX9_takeWaste 39 = .ok (.land, 1) := by decide +kernel
theorem dX9_takeWaste_40 : decode cX9_takeWaste 40 = .ok (.lconst 0, 1) := by decide +kernel
theorem dX9_takeWaste_41 : decode cX9_takeWaste 41 = .ok (.lcmp, 1) := by decide +kernel
theorem dX9_takeWaste_42 : decode cX9_takeWaste 42 = .ok (.ifCond .ne 9, 3) := by decide +kernel
theorem dX9_takeWaste_45 : decode cX9_takeWaste 45 = .ok (.iinc 3 1, 3) := by decide +kernel
theorem dX9_takeWaste_48 : decode cX9_takeWaste 48 = .ok (.goto (-19), 3) := by decide +kernel
theorem dX9_takeWaste_51 : decode cX9_takeWaste 51 = .ok (.iconst 0, 1) := by decide +kernel
theorem dX9_takeWaste_52 : decode cX9_takeWaste 52 = .ok (.istore 4, 2) := by decide +kernel
theorem dX9_takeWaste_54 : decode cX9_takeWaste 54 = .ok (.iload 4, 2) := by decide +kernel
theorem dX9_takeWaste_56 : decode cX9_takeWaste 56 = .ok (.aload_n 0, 1) := by decide +kernel
theorem dX9_takeWaste_57 : decode cX9_takeWaste 57 = .ok (.getfield 108, 3) := by decide +kernel
theorem dX9_takeWaste_60 : decode cX9_takeWaste 60 = .ok (.if_icmp .ge 25, 3) := by decide +kernel
theorem dX9_takeWaste_63 : decode cX9_takeWaste 63 = .ok (.aload_n 0, 1) := by decide +kernel
theorem dX9_takeWaste_64 : decode cX9_takeWaste 64 = .ok (.getfield 55, 3) := by decide +kernel
theorem dX9_takeWaste_67 : decode cX9_takeWaste 67 = .ok (.iload 4, 2) := by decide +kernel
theorem dX9_takeWaste_69 : decode cX9_takeWaste 69 = .ok (.aload_n 0, 1) := by decide +kernel
theorem dX9_takeWaste_70 : decode cX9_takeWaste 70 = .ok (.getfield 55, 3) := by decide +kernel
theorem dX9_takeWaste_73 : decode cX9_takeWaste 73 = .ok (.iload 4, 2) := by decide +kernel
theorem dX9_takeWaste_75 : decode cX9_takeWaste 75 = .ok (.laload, 1) := by decide +kernel
theorem dX9_takeWaste_76 : decode cX9_takeWaste 76 = .ok (.iload_n 3, 1) := by decide +kernel
theorem dX9_takeWaste_77 : decode cX9_takeWaste 77 = .ok (.lshr, 1) := by decide +kernel
theorem dX9_takeWaste_78 : decode cX9_takeWaste 78 = .ok (.lastore, 1) := by decide +kernel
theorem dX9_takeWaste_79 : decode cX9_takeWaste 79 = .ok (.iinc 4 1, 3) := by decide +kernel
theorem dX9_takeWaste_82 : decode cX9_takeWaste 82 = .ok (.goto (-28), 3) := by decide +kernel
theorem dX9_takeWaste_85 : decode cX9_takeWaste 85 = .ok (.iload_n 3, 1) := by decide +kernel
theorem dX9_takeWaste_86 : decode cX9_takeWaste 86 = .ok (.ireturn, 1) := by decide +kernel
theorem dX9_fixed_0 : decode cX9_fixed 0 = .ok (.iload_n 3, 1) := by decide +kernel
theorem dX9_fixed_1 : decode cX9_fixed 1 = .ok (.ifCond .ne 5, 3) := by decide +kernel
theorem dX9_fixed_4 : decode cX9_fixed 4 = .ok (.lconst 0, 1) := by decide +kernel
theorem dX9_fixed_5 : decode cX9_fixed 5 = .ok (.lreturn, 1) := by decide +kernel
theorem dX9_fixed_6 : decode cX9_fixed 6 = .ok (.aload_n 1, 1) := by decide +kernel
theorem dX9_fixed_7 : decode cX9_fixed 7 = .ok (.iload_n 2, 1) := by decide +kernel
theorem dX9_fixed_8 : decode cX9_fixed 8 = .ok (.iconst 1, 1) := by decide +kernel
theorem dX9_fixed_9 : decode cX9_fixed 9 = .ok (.isub, 1) := by decide +kernel
theorem dX9_fixed_10 : decode cX9_fixed 10 = .ok (.laload, 1) := by decide +kernel
theorem dX9_fixed_11 : decode cX9_fixed 11 = .ok (.lstore 4, 2) := by decide +kernel
theorem dX9_fixed_13 : decode cX9_fixed 13 = .ok (.iload_n 3, 1) := by decide +kernel
theorem dX9_fixed_14 : decode cX9_fixed 14 = .ok (.iconst 1, 1) := by decide +kernel
theorem dX9_fixed_15 : decode cX9_fixed 15 = .ok (.if_icmp .ne 6, 3) := by decide +kernel
theorem dX9_fixed_18 : decode cX9_fixed 18 = .ok (.lload 4, 2) := by decide +kernel
theorem dX9_fixed_20 : decode cX9_fixed 20 = .ok (.lreturn, 1) := by decide +kernel
theorem dX9_fixed_21 : decode cX9_fixed 21 = .ok (.aload_n 1, 1) := by decide +kernel
theorem dX9_fixed_22 : decode cX9_fixed 22 = .ok (.iload_n 2, 1) := by decide +kernel
theorem dX9_fixed_23 : decode cX9_fixed 23 = .ok (.iconst 2, 1) := by decide +kernel
theorem dX9_fixed_24 : decode cX9_fixed 24 = .ok (.isub, 1) := by decide +kernel
theorem dX9_fixed_25 : decode cX9_fixed 25 = .ok (.laload, 1) := by decide +kernel
theorem dX9_fixed_26 : decode cX9_fixed 26 = .ok (.lstore 6, 2) := by decide +kernel
theorem dX9_fixed_28 : decode cX9_fixed 28 = .ok (.iload_n 3, 1) := by decide +kernel
theorem dX9_fixed_29 : decode cX9_fixed 29 = .ok (.iconst 2, 1) := by decide +kernel
theorem dX9_fixed_30 : decode cX9_fixed 30 = .ok (.if_icmp .ne 13, 3) := by decide +kernel
theorem dX9_fixed_33 : decode cX9_fixed 33 = .ok (.ldc2_w 111, 3) := by decide +kernel
theorem dX9_fixed_36 : decode cX9_fixed 36 = .ok (.lload 4, 2) := by decide +kernel
theorem dX9_fixed_38 : decode cX9_fixed 38 = .ok (.lmul, 1) := by decide +kernel
theorem dX9_fixed_39 : decode cX9_fixed 39 = .ok (.lload 6, 2) := by decide +kernel
theorem dX9_fixed_41 : decode cX9_fixed 41 = .ok (.lsub, 1) := by decide +kernel
theorem dX9_fixed_42 : decode cX9_fixed 42 = .ok (.lreturn, 1) := by decide +kernel
theorem dX9_fixed_43 : decode cX9_fixed 43 = .ok (.aload_n 1, 1) := by decide +kernel
theorem dX9_fixed_44 : decode cX9_fixed 44 = .ok (.iload_n 2, 1) := by decide +kernel
theorem dX9_fixed_45 : decode cX9_fixed 45 = .ok (.iconst 3, 1) := by decide +kernel
theorem dX9_fixed_46 : decode cX9_fixed 46 = .ok (.isub, 1) := by decide +kernel
theorem dX9_fixed_47 : decode cX9_fixed 47 = .ok (.laload, 1) := by decide +kernel
theorem dX9_fixed_48 : decode cX9_fixed 48 = .ok (.lstore 8, 2) := by decide +kernel
theorem dX9_fixed_50 : decode cX9_fixed 50 = .ok (.iload_n 3, 1) := by decide +kernel
theorem dX9_fixed_51 : decode cX9_fixed 51 = .ok (.iconst 3, 1) := by decide +kernel
theorem dX9_fixed_52 : decode cX9_fixed 52 = .ok (.if_icmp .ne 22, 3) := by decide +kernel
theorem dX9_fixed_55 : decode cX9_fixed 55 = .ok (.ldc2_w 113, 3) := by decide +kernel
theorem dX9_fixed_58 : decode cX9_fixed 58 = .ok (.lload 4, 2) := by decide +kernel
theorem dX9_fixed_60 : decode cX9_fixed 60 = .ok (.lmul, 1) := by decide +kernel
theorem dX9_fixed_61 : decode cX9_fixed 61 = .ok (.ldc2_w 113, 3) := by decide +kernel
theorem dX9_fixed_64 : decode cX9_fixed 64 = .ok (.lload 6, 2) := by decide +kernel
theorem dX9_fixed_66 : decode cX9_fixed 66 = .ok (.lmul, 1) := by decide +kernel
theorem dX9_fixed_67 : decode cX9_fixed 67 = .ok (.lsub, 1) := by decide +kernel
theorem dX9_fixed_68 : decode cX9_fixed 68 = .ok (.lload 8, 2) := by decide +kernel
theorem dX9_fixed_70 : decode cX9_fixed 70 = .ok (.ladd, 1) := by decide +kernel
theorem dX9_fixed_71 : decode cX9_fixed 71 = .ok (.goto 29, 3) := by decide +kernel
theorem dX9_fixed_74 : decode cX9_fixed 74 = .ok (.ldc2_w 79, 3) := by decide +kernel
theorem dX9_fixed_77 : decode cX9_fixed 77 = .ok (.lload 4, 2) := by decide +kernel
theorem dX9_fixed_79 : decode cX9_fixed 79 = .ok (.lmul, 1) := by decide +kernel
theorem dX9_fixed_80 : decode cX9_fixed 80 = .ok (.ldc2_w 115, 3) := by decide +kernel
theorem dX9_fixed_83 : decode cX9_fixed 83 = .ok (.lload 6, 2) := by decide +kernel
theorem dX9_fixed_85 : decode cX9_fixed 85 = .ok (.lmul, 1) := by decide +kernel
theorem dX9_fixed_86 : decode cX9_fixed 86 = .ok (.lsub, 1) := by decide +kernel
theorem dX9_fixed_87 : decode cX9_fixed 87 = .ok (.ldc2_w 79, 3) := by decide +kernel
theorem dX9_fixed_90 : decode cX9_fixed 90 = .ok (.lload 8, 2) := by decide +kernel
theorem dX9_fixed_92 : decode cX9_fixed 92 = .ok (.lmul, 1) := by decide +kernel
theorem dX9_fixed_93 : decode cX9_fixed 93 = .ok (.ladd, 1) := by decide +kernel
theorem dX9_fixed_94 : decode cX9_fixed 94 = .ok (.aload_n 1, 1) := by decide +kernel
theorem dX9_fixed_95 : decode cX9_fixed 95 = .ok (.iload_n 2, 1) := by decide +kernel
theorem dX9_fixed_96 : decode cX9_fixed 96 = .ok (.iconst 4, 1) := by decide +kernel
theorem dX9_fixed_97 : decode cX9_fixed 97 = .ok (.isub, 1) := by decide +kernel
theorem dX9_fixed_98 : decode cX9_fixed 98 = .ok (.laload, 1) := by decide +kernel
theorem dX9_fixed_99 : decode cX9_fixed 99 = .ok (.lsub, 1) := by decide +kernel
theorem dX9_fixed_100 : decode cX9_fixed 100 = .ok (.lreturn, 1) := by decide +kernel
theorem dX9_summed_0 : decode cX9_summed 0 = .ok (.lconst 0, 1) := by decide +kernel
theorem dX9_summed_1 : decode cX9_summed 1 = .ok (.lstore_n 2, 1) := by decide +kernel
theorem dX9_summed_2 : decode cX9_summed 2 = .ok (.iconst 0, 1) := by decide +kernel
theorem dX9_summed_3 : decode cX9_summed 3 = .ok (.istore 4, 2) := by decide +kernel
theorem dX9_summed_5 : decode cX9_summed 5 = .ok (.iload 4, 2) := by decide +kernel
theorem dX9_summed_7 : decode cX9_summed 7 = .ok (.aload_n 0, 1) := by decide +kernel
theorem dX9_summed_8 : decode cX9_summed 8 = .ok (.getfield 97, 3) := by decide +kernel
theorem dX9_summed_11 : decode cX9_summed 11 = .ok (.if_icmp .ge 32, 3) := by decide +kernel
theorem dX9_summed_14 : decode cX9_summed 14 = .ok (.lload_n 2, 1) := by decide +kernel
theorem dX9_summed_15 : decode cX9_summed 15 = .ok (.aload_n 0, 1) := by decide +kernel
theorem dX9_summed_16 : decode cX9_summed 16 = .ok (.getfield 23, 3) := by decide +kernel
theorem dX9_summed_19 : decode cX9_summed 19 = .ok (.iload 4, 2) := by decide +kernel
theorem dX9_summed_21 : decode cX9_summed 21 = .ok (.iaload, 1) := by decide +kernel
theorem dX9_summed_22 : decode cX9_summed 22 = .ok (.i2l, 1) := by decide +kernel
theorem dX9_summed_23 : decode cX9_summed 23 = .ok (.aload_n 0, 1) := by decide +kernel
theorem dX9_summed_24 : decode cX9_summed 24 = .ok (.getfield 55, 3) := by decide +kernel
theorem dX9_summed_27 : decode cX9_summed 27 = .ok (.iload_n 1, 1) := by decide +kernel
theorem dX9_summed_28 : decode cX9_summed 28 = .ok (.iconst 1, 1) := by decide +kernel
theorem dX9_summed_29 : decode cX9_summed 29 = .ok (.isub, 1) := by decide +kernel
theorem dX9_summed_30 : decode cX9_summed 30 = .ok (.iload 4, 2) := by decide +kernel
theorem dX9_summed_32 : decode cX9_summed 32 = .ok (.isub, 1) := by decide +kernel
theorem dX9_summed_33 : decode cX9_summed 33 = .ok (.laload, 1) := by decide +kernel
theorem dX9_summed_34 : decode cX9_summed 34 = .ok (.lmul, 1) := by decide +kernel
theorem dX9_summed_35 : decode cX9_summed 35 = .ok (.ladd, 1) := by decide +kernel
theorem dX9_summed_36 : decode cX9_summed 36 = .ok (.lstore_n 2, 1) := by decide +kernel
theorem dX9_summed_37 : decode cX9_summed 37 = .ok (.iinc 4 1, 3) := by decide +kernel
theorem dX9_summed_40 : decode cX9_summed 40 = .ok (.goto (-35), 3) := by decide +kernel
theorem dX9_summed_43 : decode cX9_summed 43 = .ok (.lload_n 2, 1) := by decide +kernel
theorem dX9_summed_44 : decode cX9_summed 44 = .ok (.aload_n 0, 1) := by decide +kernel
theorem dX9_summed_45 : decode cX9_summed 45 = .ok (.getfield 94, 3) := by decide +kernel
theorem dX9_summed_48 : decode cX9_summed 48 = .ok (.lshr, 1) := by decide +kernel
theorem dX9_summed_49 : decode cX9_summed 49 = .ok (.lreturn, 1) := by decide +kernel
theorem dX9_leave_0 : decode cX9_leave 0 = .ok (.iconst 1, 1) := by decide +kernel
theorem dX9_leave_1 : decode cX9_leave 1 = .ok (.istore_n 2, 1) := by decide +kernel
theorem dX9_leave_2 : decode cX9_leave 2 = .ok (.iload_n 1, 1) := by decide +kernel
theorem dX9_leave_3 : decode cX9_leave 3 = .ok (.invokestatic 117, 3) := by decide +kernel
theorem dX9_leave_6 : decode cX9_leave 6 = .ok (.istore_n 3, 1) := by decide +kernel
theorem dX9_leave_7 : decode cX9_leave 7 = .ok (.iload_n 3, 1) := by decide +kernel
end
section
theorem dX9_leave_8 : decode cX9_leave 8 = .ok (.aload_n 0, 1) := by decide +kernel
theorem dX9_leave_9 : decode cX9_leave 9 = .ok (.getfield 108, 3) := by decide +kernel
theorem dX9_leave_12 : decode cX9_leave 12 = .ok (.if_icmp .ge 77, 3) := by decide +kernel
theorem dX9_leave_15 : decode cX9_leave 15 = .ok (.aload_n 0, 1) := by decide +kernel
theorem dX9_leave_16 : decode cX9_leave 16 = .ok (.getfield 58, 3) := by decide +kernel
theorem dX9_leave_19 : decode cX9_leave 19 = .ok (.iload_n 3, 1) := by decide +kernel
theorem dX9_leave_20 : decode cX9_leave 20 = .ok (.aload_n 0, 1) := by decide +kernel
theorem dX9_leave_21 : decode cX9_leave 21 = .ok (.getfield 55, 3) := by decide +kernel
theorem dX9_leave_24 : decode cX9_leave 24 = .ok (.iload_n 3, 1) := by decide +kernel
theorem dX9_leave_25 : decode cX9_leave 25 = .ok (.laload, 1) := by decide +kernel
theorem dX9_leave_26 : decode cX9_leave 26 = .ok (.iload_n 1, 1) := by decide +kernel
theorem dX9_leave_27 : decode cX9_leave 27 = .ok (.bipush 31, 2) := by decide +kernel
theorem dX9_leave_29 : decode cX9_leave 29 = .ok (.if_icmp .le 11, 3) := by decide +kernel
theorem dX9_leave_32 : decode cX9_leave 32 = .ok (.aload_n 0, 1) := by decide +kernel
theorem dX9_leave_33 : decode cX9_leave 33 = .ok (.iload_n 3, 1) := by decide +kernel
theorem dX9_leave_34 : decode cX9_leave 34 = .ok (.invokevirtual 121, 3) := by decide +kernel
theorem dX9_leave_37 : decode cX9_leave 37 = .ok (.goto 16, 3) := by decide +kernel
theorem dX9_leave_40 : decode cX9_leave 40 = .ok (.aload_n 0, 1) := by decide +kernel
theorem dX9_leave_41 : decode cX9_leave 41 = .ok (.aload_n 0, 1) := by decide +kernel
theorem dX9_leave_42 : decode cX9_leave 42 = .ok (.getfield 55, 3) := by decide +kernel
theorem dX9_leave_45 : decode cX9_leave 45 = .ok (.iload_n 3, 1) := by decide +kernel
theorem dX9_leave_46 : decode cX9_leave 46 = .ok (.iload_n 1, 1) := by decide +kernel
theorem dX9_leave_47 : decode cX9_leave 47 = .ok (.bipush 8, 2) := by decide +kernel
theorem dX9_leave_49 : decode cX9_leave 49 = .ok (.isub, 1) := by decide +kernel
theorem dX9_leave_50 : decode cX9_leave 50 = .ok (.invokevirtual 125, 3) := by decide +kernel
theorem dX9_leave_53 : decode cX9_leave 53 = .ok (.lsub, 1) := by decide +kernel
theorem dX9_leave_54 : decode cX9_leave 54 = .ok (.lastore, 1) := by decide +kernel
theorem dX9_leave_55 : decode cX9_leave 55 = .ok (.iload_n 2, 1) := by decide +kernel
theorem dX9_leave_56 : decode cX9_leave 56 = .ok (.ifCond .eq 25, 3) := by decide +kernel
theorem dX9_leave_59 : decode cX9_leave 59 = .ok (.aload_n 0, 1) := by decide +kernel
theorem dX9_leave_60 : decode cX9_leave 60 = .ok (.getfield 58, 3) := by decide +kernel
theorem dX9_leave_63 : decode cX9_leave 63 = .ok (.iload_n 3, 1) := by decide +kernel
theorem dX9_leave_64 : decode cX9_leave 64 = .ok (.laload, 1) := by decide +kernel
theorem dX9_leave_65 : decode cX9_leave 65 = .ok (.ldc2_w 129, 3) := by decide +kernel
theorem dX9_leave_68 : decode cX9_leave 68 = .ok (.ldc2_w 131, 3) := by decide +kernel
theorem dX9_leave_71 : decode cX9_leave 71 = .ok (.invokestatic 75, 3) := by decide +kernel
theorem dX9_leave_74 : decode cX9_leave 74 = .ok (.ifCond .eq 7, 3) := by decide +kernel
theorem dX9_leave_77 : decode cX9_leave 77 = .ok (.iconst 1, 1) := by decide +kernel
theorem dX9_leave_78 : decode cX9_leave 78 = .ok (.goto 4, 3) := by decide +kernel
theorem dX9_leave_81 : decode cX9_leave 81 = .ok (.iconst 0, 1) := by decide +kernel
theorem dX9_leave_82 : decode cX9_leave 82 = .ok (.istore_n 2, 1) := by decide +kernel
theorem dX9_leave_83 : decode cX9_leave 83 = .ok (.iinc 3 1, 3) := by decide +kernel
theorem dX9_leave_86 : decode cX9_leave 86 = .ok (.goto (-79), 3) := by decide +kernel
theorem dX9_leave_89 : decode cX9_leave 89 = .ok (.iload_n 2, 1) := by decide +kernel
theorem dX9_leave_90 : decode cX9_leave 90 = .ok (.ireturn, 1) := by decide +kernel
theorem dX9_o_0 : decode cX9_o 0 = .ok (.iload_n 0, 1) := by decide +kernel
theorem dX9_o_1 : decode cX9_o 1 = .ok (.bipush 31, 2) := by decide +kernel
theorem dX9_o_3 : decode cX9_o 3 = .ok (.if_icmp .le 10, 3) := by decide +kernel
theorem dX9_o_6 : decode cX9_o 6 = .ok (.iload_n 0, 1) := by decide +kernel
theorem dX9_o_7 : decode cX9_o 7 = .ok (.bipush 31, 2) := by decide +kernel
theorem dX9_o_9 : decode cX9_o 9 = .ok (.isub, 1) := by decide +kernel
theorem dX9_o_10 : decode cX9_o 10 = .ok (.goto 7, 3) := by decide +kernel
theorem dX9_o_13 : decode cX9_o 13 = .ok (.iload_n 0, 1) := by decide +kernel
theorem dX9_o_14 : decode cX9_o 14 = .ok (.bipush 8, 2) := by decide +kernel
theorem dX9_o_16 : decode cX9_o 16 = .ok (.isub, 1) := by decide +kernel
theorem dX9_o_17 : decode cX9_o 17 = .ok (.ireturn, 1) := by decide +kernel
theorem dX9_folded_0 : decode cX9_folded 0 = .ok (.lload_n 0, 1) := by decide +kernel
theorem dX9_folded_1 : decode cX9_folded 1 = .ok (.lconst 0, 1) := by decide +kernel
theorem dX9_folded_2 : decode cX9_folded 2 = .ok (.lcmp, 1) := by decide +kernel
theorem dX9_folded_3 : decode cX9_folded 3 = .ok (.ifCond .ge 13, 3) := by decide +kernel
theorem dX9_folded_6 : decode cX9_folded 6 = .ok (.ldc2_w 133, 3) := by decide +kernel
theorem dX9_folded_9 : decode cX9_folded 9 = .ok (.lload_n 0, 1) := by decide +kernel
theorem dX9_folded_10 : decode cX9_folded 10 = .ok (.lmul, 1) := by decide +kernel
theorem dX9_folded_11 : decode cX9_folded 11 = .ok (.lconst 1, 1) := by decide +kernel
theorem dX9_folded_12 : decode cX9_folded 12 = .ok (.lsub, 1) := by decide +kernel
theorem dX9_folded_13 : decode cX9_folded 13 = .ok (.goto 8, 3) := by decide +kernel
theorem dX9_folded_16 : decode cX9_folded 16 = .ok (.ldc2_w 111, 3) := by decide +kernel
theorem dX9_folded_19 : decode cX9_folded 19 = .ok (.lload_n 0, 1) := by decide +kernel
theorem dX9_folded_20 : decode cX9_folded 20 = .ok (.lmul, 1) := by decide +kernel
theorem dX9_folded_21 : decode cX9_folded 21 = .ok (.lreturn, 1) := by decide +kernel
theorem dX9_costOf_0 : decode cX9_costOf 0 = .ok (.lconst 0, 1) := by decide +kernel
theorem dX9_costOf_1 : decode cX9_costOf 1 = .ok (.lstore 4, 2) := by decide +kernel
theorem dX9_costOf_3 : decode cX9_costOf 3 = .ok (.iload_n 1, 1) := by decide +kernel
theorem dX9_costOf_4 : decode cX9_costOf 4 = .ok (.istore 6, 2) := by decide +kernel
theorem dX9_costOf_6 : decode cX9_costOf 6 = .ok (.iload 6, 2) := by decide +kernel
theorem dX9_costOf_8 : decode cX9_costOf 8 = .ok (.iload_n 2, 1) := by decide +kernel
theorem dX9_costOf_9 : decode cX9_costOf 9 = .ok (.if_icmp .ge 31, 3) := by decide +kernel
theorem dX9_costOf_12 : decode cX9_costOf 12 = .ok (.lload 4, 2) := by decide +kernel
theorem dX9_costOf_14 : decode cX9_costOf 14 = .ok (.aload_n 0, 1) := by decide +kernel
theorem dX9_costOf_15 : decode cX9_costOf 15 = .ok (.getfield 58, 3) := by decide +kernel
theorem dX9_costOf_18 : decode cX9_costOf 18 = .ok (.iload 6, 2) := by decide +kernel
theorem dX9_costOf_20 : decode cX9_costOf 20 = .ok (.laload, 1) := by decide +kernel
theorem dX9_costOf_21 : decode cX9_costOf 21 = .ok (.invokestatic 135, 3) := by decide +kernel
theorem dX9_costOf_24 : decode cX9_costOf 24 = .ok (.iload_n 3, 1) := by decide +kernel
theorem dX9_costOf_25 : decode cX9_costOf 25 = .ok (.lshr, 1) := by decide +kernel
theorem dX9_costOf_26 : decode cX9_costOf 26 = .ok (.lconst 1, 1) := by decide +kernel
theorem dX9_costOf_27 : decode cX9_costOf 27 = .ok (.ladd, 1) := by decide +kernel
theorem dX9_costOf_28 : decode cX9_costOf 28 = .ok (.iload_n 3, 1) := by decide +kernel
theorem dX9_costOf_29 : decode cX9_costOf 29 = .ok (.i2l, 1) := by decide +kernel
theorem dX9_costOf_30 : decode cX9_costOf 30 = .ok (.ladd, 1) := by decide +kernel
theorem dX9_costOf_31 : decode cX9_costOf 31 = .ok (.ladd, 1) := by decide +kernel
theorem dX9_costOf_32 : decode cX9_costOf 32 = .ok (.lstore 4, 2) := by decide +kernel
theorem dX9_costOf_34 : decode cX9_costOf 34 = .ok (.iinc 6 1, 3) := by decide +kernel
theorem dX9_costOf_37 : decode cX9_costOf 37 = .ok (.goto (-31), 3) := by decide +kernel
theorem dX9_costOf_40 : decode cX9_costOf 40 = .ok (.lload 4, 2) := by decide +kernel
theorem dX9_costOf_42 : decode cX9_costOf 42 = .ok (.lreturn, 1) := by decide +kernel
theorem dX9_bestK_0 : decode cX9_bestK 0 = .ok (.iconst 0, 1) := by decide +kernel
theorem dX9_bestK_1 : decode cX9_bestK 1 = .ok (.istore_n 3, 1) := by decide +kernel
theorem dX9_bestK_2 : decode cX9_bestK 2 = .ok (.iconst 1, 1) := by decide +kernel
theorem dX9_bestK_3 : decode cX9_bestK 3 = .ok (.istore 4, 2) := by decide +kernel
theorem dX9_bestK_5 : decode cX9_bestK 5 = .ok (.iload 4, 2) := by decide +kernel
theorem dX9_bestK_7 : decode cX9_bestK 7 = .ok (.bipush 15, 2) := by decide +kernel
theorem dX9_bestK_9 : decode cX9_bestK 9 = .ok (.if_icmp .ge 31, 3) := by decide +kernel
theorem dX9_bestK_12 : decode cX9_bestK 12 = .ok (.aload_n 0, 1) := by decide +kernel
theorem dX9_bestK_13 : decode cX9_bestK 13 = .ok (.iload_n 1, 1) := by decide +kernel
theorem dX9_bestK_14 : decode cX9_bestK 14 = .ok (.iload_n 2, 1) := by decide +kernel
theorem dX9_bestK_15 : decode cX9_bestK 15 = .ok (.iload 4, 2) := by decide +kernel
theorem dX9_bestK_17 : decode cX9_bestK 17 = .ok (.invokevirtual 139, 3) := by decide +kernel
theorem dX9_bestK_20 : decode cX9_bestK 20 = .ok (.aload_n 0, 1) := by decide +kernel
theorem dX9_bestK_21 : decode cX9_bestK 21 = .ok (.iload_n 1, 1) := by decide +kernel
theorem dX9_bestK_22 : decode cX9_bestK 22 = .ok (.iload_n 2, 1) := by decide +kernel
theorem dX9_bestK_23 : decode cX9_bestK 23 = .ok (.iload_n 3, 1) := by decide +kernel
theorem dX9_bestK_24 : decode cX9_bestK 24 = .ok (.invokevirtual 139, 3) := by decide +kernel
theorem dX9_bestK_27 : decode cX9_bestK 27 = .ok (.lcmp, 1) := by decide +kernel
theorem dX9_bestK_28 : decode cX9_bestK 28 = .ok (.ifCond .ge 6, 3) := by decide +kernel
theorem dX9_bestK_31 : decode cX9_bestK 31 = .ok (.iload 4, 2) := by decide +kernel
theorem dX9_bestK_33 : decode cX9_bestK 33 = .ok (.istore_n 3, 1) := by decide +kernel
theorem dX9_bestK_34 : decode cX9_bestK 34 = .ok (.iinc 4 1, 3) := by decide +kernel
theorem dX9_bestK_37 : decode cX9_bestK 37 = .ok (.goto (-32), 3) := by decide +kernel
theorem dX9_bestK_40 : decode cX9_bestK 40 = .ok (.iload_n 3, 1) := by decide +kernel
theorem dX9_bestK_41 : decode cX9_bestK 41 = .ok (.ireturn, 1) := by decide +kernel
theorem dX9_partsCost_0 : decode cX9_partsCost 0 = .ok (.aload_n 0, 1) := by decide +kernel
theorem dX9_partsCost_1 : decode cX9_partsCost 1 = .ok (.getfield 108, 3) := by decide +kernel
theorem dX9_partsCost_4 : decode cX9_partsCost 4 = .ok (.iload_n 1, 1) := by decide +kernel
theorem dX9_partsCost_5 : decode cX9_partsCost 5 = .ok (.ishr, 1) := by decide +kernel
theorem dX9_partsCost_6 : decode cX9_partsCost 6 = .ok (.istore_n 3, 1) := by decide +kernel
theorem dX9_partsCost_7 : decode cX9_partsCost 7 = .ok (.ldc2_w 115, 3) := by decide +kernel
theorem dX9_partsCost_10 : decode cX9_partsCost 10 = .ok (.lstore 4, 2) := by decide +kernel
theorem dX9_partsCost_12 : decode cX9_partsCost 12 = .ok (.iconst 0, 1) := by decide +kernel
theorem dX9_partsCost_13 : decode cX9_partsCost 13 = .ok (.istore 6, 2) := by decide +kernel
theorem dX9_partsCost_15 : decode cX9_partsCost 15 = .ok (.iload 6, 2) := by decide +kernel
theorem dX9_partsCost_17 : decode cX9_partsCost 17 = .ok (.iconst 1, 1) := by decide +kernel
theorem dX9_partsCost_18 : decode cX9_partsCost 18 = .ok (.iload_n 1, 1) := by decide +kernel
theorem dX9_partsCost_19 : decode cX9_partsCost 19 = .ok (.ishl, 1) := by decide +kernel
theorem dX9_partsCost_20 : decode cX9_partsCost 20 = .ok (.if_icmp .ge 57, 3) := by decide +kernel
theorem dX9_partsCost_23 : decode cX9_partsCost 23 = .ok (.iload 6, 2) := by decide +kernel
theorem dX9_partsCost_25 : decode cX9_partsCost 25 = .ok (.ifCond .ne 7, 3) := by decide +kernel
theorem dX9_partsCost_28 : decode cX9_partsCost 28 = .ok (.iload_n 2, 1) := by decide +kernel
theorem dX9_partsCost_29 : decode cX9_partsCost 29 = .ok (.goto 7, 3) := by decide +kernel
theorem dX9_partsCost_32 : decode cX9_partsCost 32 = .ok (.iload 6, 2) := by decide +kernel
theorem dX9_partsCost_34 : decode cX9_partsCost 34 = .ok (.iload_n 3, 1) := by decide +kernel
theorem dX9_partsCost_35 : decode cX9_partsCost 35 = .ok (.imul, 1) := by decide +kernel
theorem dX9_partsCost_36 : decode cX9_partsCost 36 = .ok (.istore 7, 2) := by decide +kernel
theorem dX9_partsCost_38 : decode cX9_partsCost 38 = .ok (.iload 6, 2) := by decide +kernel
theorem dX9_partsCost_40 : decode cX9_partsCost 40 = .ok (.iconst 1, 1) := by decide +kernel
theorem dX9_partsCost_41 : decode cX9_partsCost 41 = .ok (.iadd, 1) := by decide +kernel
theorem dX9_partsCost_42 : decode cX9_partsCost 42 = .ok (.iload_n 3, 1) := by decide +kernel
theorem dX9_partsCost_43 : decode cX9_partsCost 43 = .ok (.imul, 1) := by decide +kernel
theorem dX9_partsCost_44 : decode cX9_partsCost 44 = .ok (.istore 8, 2) := by decide +kernel
theorem dX9_partsCost_46 : decode cX9_partsCost 46 = .ok (.lload 4, 2) := by decide +kernel
theorem dX9_partsCost_48 : decode cX9_partsCost 48 = .ok (.ldc2_w 79, 3) := by decide +kernel
theorem dX9_partsCost_51 : decode cX9_partsCost 51 = .ok (.aload_n 0, 1) := by decide +kernel
theorem dX9_partsCost_52 : decode cX9_partsCost 52 = .ok (.iload 7, 2) := by decide +kernel
theorem dX9_partsCost_54 : decode cX9_partsCost 54 = .ok (.iload 8, 2) := by decide +kernel
theorem dX9_partsCost_56 : decode cX9_partsCost 56 = .ok (.aload_n 0, 1) := by decide +kernel
theorem dX9_partsCost_57 : decode cX9_partsCost 57 = .ok (.iload 7, 2) := by decide +kernel
theorem dX9_partsCost_59 : decode cX9_partsCost 59 = .ok (.iload 8, 2) := by decide +kernel
theorem dX9_partsCost_61 : decode cX9_partsCost 61 = .ok (.invokevirtual 143, 3) := by decide +kernel
theorem dX9_partsCost_64 : decode cX9_partsCost 64 = .ok (.invokevirtual 139, 3) := by decide +kernel
theorem dX9_partsCost_67 : decode cX9_partsCost 67 = .ok (.ladd, 1) := by decide +kernel
theorem dX9_partsCost_68 : decode cX9_partsCost 68 = .ok (.ladd, 1) := by decide +kernel
theorem dX9_partsCost_69 : decode cX9_partsCost 69 = .ok (.lstore 4, 2) := by decide +kernel
theorem dX9_partsCost_71 : decode cX9_partsCost 71 = .ok (.iinc 6 1, 3) := by decide +kernel
theorem dX9_partsCost_74 : decode cX9_partsCost 74 = .ok (.goto (-59), 3) := by decide +kernel
theorem dX9_partsCost_77 : decode cX9_partsCost 77 = .ok (.lload 4, 2) := by decide +kernel
theorem dX9_partsCost_79 : decode cX9_partsCost 79 = .ok (.lreturn, 1) := by decide +kernel
theorem dX9_leftCost_0 : decode cX9_leftCost 0 = .ok (.aload_n 0, 1) := by decide +kernel
theorem dX9_leftCost_1 : decode cX9_leftCost 1 = .ok (.iconst 0, 1) := by decide +kernel
theorem dX9_leftCost_2 : decode cX9_leftCost 2 = .ok (.putfield 147, 3) := by decide +kernel
theorem dX9_leftCost_5 : decode cX9_leftCost 5 = .ok (.aload_n 0, 1) := by decide +kernel
theorem dX9_leftCost_6 : decode cX9_leftCost 6 = .ok (.iconst 0, 1) := by decide +kernel
theorem dX9_leftCost_7 : decode cX9_leftCost 7 = .ok (.iload_n 1, 1) := by decide +kernel
theorem dX9_leftCost_8 : decode cX9_leftCost 8 = .ok (.invokevirtual 150, 3) := by decide +kernel
theorem dX9_leftCost_11 : decode cX9_leftCost 11 = .ok (.lstore_n 2, 1) := by decide +kernel
theorem dX9_leftCost_12 : decode cX9_leftCost 12 = .ok (.iconst 1, 1) := by decide +kernel
theorem dX9_leftCost_13 : decode cX9_leftCost 13 = .ok (.istore 4, 2) := by decide +kernel
theorem dX9_leftCost_15 : decode cX9_leftCost 15 = .ok (.iload 4, 2) := by decide +kernel
theorem dX9_leftCost_17 : decode cX9_leftCost 17 = .ok (.iconst 4, 1) := by decide +kernel
theorem dX9_leftCost_18 : decode cX9_leftCost 18 = .ok (.if_icmp .ge 60, 3) := by decide +kernel
theorem dX9_leftCost_21 : decode cX9_leftCost 21 = .ok (.aload_n 0, 1) := by decide +kernel
theorem dX9_leftCost_22 : decode cX9_leftCost 22 = .ok (.getfield 108, 3) := by decide +kernel
theorem dX9_leftCost_25 : decode cX9_leftCost 25 = .ok (.iconst 1, 1) := by decide +kernel
theorem dX9_leftCost_26 : decode cX9_leftCost 26 = .ok (.iload 4, 2) := by decide +kernel
theorem dX9_leftCost_28 : decode cX9_leftCost 28 = .ok (.ishl, 1) := by decide +kernel
theorem dX9_leftCost_29 : decode cX9_leftCost 29 = .ok (.irem, 1) := by decide +kernel
theorem dX9_leftCost_30 : decode cX9_leftCost 30 = .ok (.ifCond .ne 42, 3) := by decide +kernel
theorem dX9_leftCost_33 : decode cX9_leftCost 33 = .ok (.aload_n 0, 1) := by decide +kernel
theorem dX9_leftCost_34 : decode cX9_leftCost 34 = .ok (.getfield 108, 3) := by decide +kernel
theorem dX9_leftCost_37 : decode cX9_leftCost 37 = .ok (.iload 4, 2) := by decide +kernel
theorem dX9_leftCost_39 : decode cX9_leftCost 39 = .ok (.ishr, 1) := by decide +kernel
theorem dX9_leftCost_40 : decode cX9_leftCost 40 = .ok (.iload_n 1, 1) := by decide +kernel
theorem dX9_leftCost_41 : decode cX9_leftCost 41 = .ok (.if_icmp .gt 6, 3) := by decide +kernel
theorem dX9_leftCost_44 : decode cX9_leftCost 44 = .ok (.goto 28, 3) := by decide +kernel
theorem dX9_leftCost_47 : decode cX9_leftCost 47 = .ok (.aload_n 0, 1) := by decide +kernel
theorem dX9_leftCost_48 : decode cX9_leftCost 48 = .ok (.iload 4, 2) := by decide +kernel
theorem dX9_leftCost_50 : decode cX9_leftCost 50 = .ok (.iload_n 1, 1) := by decide +kernel
theorem dX9_leftCost_51 : decode cX9_leftCost 51 = .ok (.invokevirtual 150, 3) := by decide +kernel
theorem dX9_leftCost_54 : decode cX9_leftCost 54 = .ok (.lstore 5, 2) := by decide +kernel
theorem dX9_leftCost_56 : decode cX9_leftCost 56 = .ok (.lload 5, 2) := by decide +kernel
theorem dX9_leftCost_58 : decode cX9_leftCost 58 = .ok (.lload_n 2, 1) := by decide +kernel
theorem dX9_leftCost_59 : decode cX9_leftCost 59 = .ok (.lcmp, 1) := by decide +kernel
theorem dX9_leftCost_60 : decode cX9_leftCost 60 = .ok (.ifCond .ge 12, 3) := by decide +kernel
theorem dX9_leftCost_63 : decode cX9_leftCost 63 = .ok (.lload 5, 2) := by decide +kernel
theorem dX9_leftCost_65 : decode cX9_leftCost 65 = .ok (.lstore_n 2, 1) := by decide +kernel
theorem dX9_leftCost_66 : decode cX9_leftCost 66 = .ok (.aload_n 0, 1) := by decide +kernel
theorem dX9_leftCost_67 : decode cX9_leftCost 67 = .ok (.iload 4, 2) := by decide +kernel
theorem dX9_leftCost_69 : decode cX9_leftCost 69 = .ok (.putfield 147, 3) := by decide +kernel
theorem dX9_leftCost_72 : decode cX9_leftCost 72 = .ok (.iinc 4 1, 3) := by decide +kernel
theorem dX9_leftCost_75 : decode cX9_leftCost 75 = .ok (.goto (-60), 3) := by decide +kernel
theorem dX9_leftCost_78 : decode cX9_leftCost 78 = .ok (.lload_n 2, 1) := by decide +kernel
theorem dX9_leftCost_79 : decode cX9_leftCost 79 = .ok (.lreturn, 1) := by decide +kernel
theorem dX9_offer_0 : decode cX9_offer 0 = .ok (.aload_n 0, 1) := by decide +kernel
theorem dX9_offer_1 : decode cX9_offer 1 = .ok (.getfield 154, 3) := by decide +kernel
theorem dX9_offer_4 : decode cX9_offer 4 = .ok (.lconst 0, 1) := by decide +kernel
theorem dX9_offer_5 : decode cX9_offer 5 = .ok (.lcmp, 1) := by decide +kernel
theorem dX9_offer_6 : decode cX9_offer 6 = .ok (.ifCond .lt 13, 3) := by decide +kernel
theorem dX9_offer_9 : decode cX9_offer 9 = .ok (.lload_n 3, 1) := by decide +kernel
theorem dX9_offer_10 : decode cX9_offer 10 = .ok (.aload_n 0, 1) := by decide +kernel
theorem dX9_offer_11 : decode cX9_offer 11 = .ok (.getfield 154, 3) := by decide +kernel
theorem dX9_offer_14 : decode cX9_offer 14 = .ok (.lcmp, 1) := by decide +kernel
theorem dX9_offer_15 : decode cX9_offer 15 = .ok (.ifCond .lt 4, 3) := by decide +kernel
theorem dX9_offer_18 : decode cX9_offer 18 = .ok (.return_, 1) := by decide +kernel
theorem dX9_offer_19 : decode cX9_offer 19 = .ok (.aload_n 0, 1) := by decide +kernel
theorem dX9_offer_20 : decode cX9_offer 20 = .ok (.iload_n 1, 1) := by decide +kernel
theorem dX9_offer_21 : decode cX9_offer 21 = .ok (.putfield 158, 3) := by decide +kernel
theorem dX9_offer_24 : decode cX9_offer 24 = .ok (.aload_n 0, 1) := by decide +kernel
theorem dX9_offer_25 : decode cX9_offer 25 = .ok (.iload_n 2, 1) := by decide +kernel
theorem dX9_offer_26 : decode cX9_offer 26 = .ok (.putfield 161, 3) := by decide +kernel
theorem dX9_offer_29 : decode cX9_offer 29 = .ok (.aload_n 0, 1) := by decide +kernel
theorem dX9_offer_30 : decode cX9_offer 30 = .ok (.lload_n 3, 1) := by decide +kernel
theorem dX9_offer_31 : decode cX9_offer 31 = .ok (.putfield 154, 3) := by decide +kernel
theorem dX9_offer_34 : decode cX9_offer 34 = .ok (.return_, 1) := by decide +kernel
theorem dX9_measure_0 : decode cX9_measure 0 = .ok (.aload_n 0, 1) := by decide +kernel
theorem dX9_measure_1 : decode cX9_measure 1 = .ok (.aload_n 0, 1) := by decide +kernel
theorem dX9_measure_2 : decode cX9_measure 2 = .ok (.invokevirtual 164, 3) := by decide +kernel
theorem dX9_measure_5 : decode cX9_measure 5 = .ok (.putfield 168, 3) := by decide +kernel
theorem dX9_measure_8 : decode cX9_measure 8 = .ok (.iload_n 1, 1) := by decide +kernel
theorem dX9_measure_9 : decode cX9_measure 9 = .ok (.aload_n 0, 1) := by decide +kernel
theorem dX9_measure_10 : decode cX9_measure 10 = .ok (.getfield 168, 3) := by decide +kernel
theorem dX9_measure_13 : decode cX9_measure 13 = .ok (.isub, 1) := by decide +kernel
theorem dX9_measure_14 : decode cX9_measure 14 = .ok (.istore_n 2, 1) := by decide +kernel
theorem dX9_measure_15 : decode cX9_measure 15 = .ok (.aload_n 0, 1) := by decide +kernel
theorem dX9_measure_16 : decode cX9_measure 16 = .ok (.ldc2_w 171, 3) := by decide +kernel
theorem dX9_measure_19 : decode cX9_measure 19 = .ok (.putfield 154, 3) := by decide +kernel
theorem dX9_measure_22 : decode cX9_measure 22 = .ok (.aload_n 0, 1) := by decide +kernel
theorem dX9_measure_23 : decode cX9_measure 23 = .ok (.invokevirtual 173, 3) := by decide +kernel
theorem dX9_measure_26 : decode cX9_measure 26 = .ok (.ifCond .eq 11, 3) := by decide +kernel
theorem dX9_measure_29 : decode cX9_measure 29 = .ok (.aload_n 0, 1) := by decide +kernel
theorem dX9_measure_30 : decode cX9_measure 30 = .ok (.iconst 0, 1) := by decide +kernel
theorem dX9_measure_31 : decode cX9_measure 31 = .ok (.iconst (-1), 1) := by decide +kernel
theorem dX9_measure_32 : decode cX9_measure 32 = .ok (.iload_n 2, 1) := by decide +kernel
theorem dX9_measure_33 : decode cX9_measure 33 = .ok (.i2l, 1) := by decide +kernel
theorem dX9_measure_34 : decode cX9_measure 34 = .ok (.invokevirtual 177, 3) := by decide +kernel
theorem dX9_measure_37 : decode cX9_measure 37 = .ok (.bipush 8, 2) := by decide +kernel
theorem dX9_measure_39 : decode cX9_measure 39 = .ok (.istore_n 3, 1) := by decide +kernel
theorem dX9_measure_40 : decode cX9_measure 40 = .ok (.iload_n 3, 1) := by decide +kernel
theorem dX9_measure_41 : decode cX9_measure 41 = .ok (.bipush 13, 2) := by decide +kernel
theorem dX9_measure_43 : decode cX9_measure 43 = .ok (.if_icmp .ge 60, 3) := by decide +kernel
theorem dX9_measure_46 : decode cX9_measure 46 = .ok (.iload_n 3, 1) := by decide +kernel
theorem dX9_measure_47 : decode cX9_measure 47 = .ok (.invokestatic 117, 3) := by decide +kernel
theorem dX9_measure_50 : decode cX9_measure 50 = .ok (.aload_n 0, 1) := by decide +kernel
theorem dX9_measure_51 : decode cX9_measure 51 = .ok (.getfield 108, 3) := by decide +kernel
theorem dX9_measure_54 : decode cX9_measure 54 = .ok (.if_icmp .le 6, 3) := by decide +kernel
theorem dX9_measure_57 : decode cX9_measure 57 = .ok (.goto 40, 3) := by decide +kernel
theorem dX9_measure_60 : decode cX9_measure 60 = .ok (.aload_n 0, 1) := by decide +kernel
theorem dX9_measure_61 : decode cX9_measure 61 = .ok (.iload_n 3, 1) := by decide +kernel
theorem dX9_measure_62 : decode cX9_measure 62 = .ok (.invokevirtual 181, 3) := by decide +kernel
theorem dX9_measure_65 : decode cX9_measure 65 = .ok (.istore 4, 2) := by decide +kernel
theorem dX9_measure_67 : decode cX9_measure 67 = .ok (.iload_n 3, 1) := by decide +kernel
theorem dX9_measure_68 : decode cX9_measure 68 = .ok (.invokestatic 117, 3) := by decide +kernel
theorem dX9_measure_71 : decode cX9_measure 71 = .ok (.i2l, 1) := by decide +kernel
theorem dX9_measure_72 : decode cX9_measure 72 = .ok (.iload_n 2, 1) := by decide +kernel
theorem dX9_measure_73 : decode cX9_measure 73 = .ok (.i2l, 1) := by decide +kernel
theorem dX9_measure_74 : decode cX9_measure 74 = .ok (.lmul, 1) := by decide +kernel
theorem dX9_measure_75 : decode cX9_measure 75 = .ok (.aload_n 0, 1) := by decide +kernel
theorem dX9_measure_76 : decode cX9_measure 76 = .ok (.iload_n 3, 1) := by decide +kernel
theorem dX9_measure_77 : decode cX9_measure 77 = .ok (.invokestatic 117, 3) := by decide +kernel
theorem dX9_measure_80 : decode cX9_measure 80 = .ok (.invokevirtual 185, 3) := by decide +kernel
theorem dX9_measure_83 : decode cX9_measure 83 = .ok (.ladd, 1) := by decide +kernel
theorem dX9_measure_84 : decode cX9_measure 84 = .ok (.lstore 5, 2) := by decide +kernel
theorem dX9_measure_86 : decode cX9_measure 86 = .ok (.aload_n 0, 1) := by decide +kernel
theorem dX9_measure_87 : decode cX9_measure 87 = .ok (.iload_n 3, 1) := by decide +kernel
theorem dX9_measure_88 : decode cX9_measure 88 = .ok (.aload_n 0, 1) := by decide +kernel
theorem dX9_measure_89 : decode cX9_measure 89 = .ok (.getfield 147, 3) := by decide +kernel
theorem dX9_measure_92 : decode cX9_measure 92 = .ok (.lload 5, 2) := by decide +kernel
theorem dX9_measure_94 : decode cX9_measure 94 = .ok (.invokevirtual 177, 3) := by decide +kernel
theorem dX9_measure_97 : decode cX9_measure 97 = .ok (.iinc 3 1, 3) := by decide +kernel
theorem dX9_measure_100 : decode cX9_measure 100 = .ok (.goto (-60), 3) := by decide +kernel
theorem dX9_measure_103 : decode cX9_measure 103 = .ok (.bipush 31, 2) := by decide +kernel
theorem dX9_measure_105 : decode cX9_measure 105 = .ok (.aload_n 0, 1) := by decide +kernel
theorem dX9_measure_106 : decode cX9_measure 106 = .ok (.getfield 97, 3) := by decide +kernel
theorem dX9_measure_109 : decode cX9_measure 109 = .ok (.iadd, 1) := by decide +kernel
theorem dX9_measure_110 : decode cX9_measure 110 = .ok (.istore_n 3, 1) := by decide +kernel
theorem dX9_measure_111 : decode cX9_measure 111 = .ok (.aload_n 0, 1) := by decide +kernel
theorem dX9_measure_112 : decode cX9_measure 112 = .ok (.getfield 97, 3) := by decide +kernel
theorem dX9_measure_115 : decode cX9_measure 115 = .ok (.ifCond .le 66, 3) := by decide +kernel
theorem dX9_measure_118 : decode cX9_measure 118 = .ok (.aload_n 0, 1) := by decide +kernel
theorem dX9_measure_119 : decode cX9_measure 119 = .ok (.getfield 97, 3) := by decide +kernel
theorem dX9_measure_122 : decode cX9_measure 122 = .ok (.aload_n 0, 1) := by decide +kernel
theorem dX9_measure_123 : decode cX9_measure 123 = .ok (.getfield 108, 3) := by decide +kernel
theorem dX9_measure_126 : decode cX9_measure 126 = .ok (.if_icmp .gt 55, 3) := by decide +kernel
theorem dX9_measure_129 : decode cX9_measure 129 = .ok (.aload_n 0, 1) := by decide +kernel
theorem dX9_measure_130 : decode cX9_measure 130 = .ok (.iload_n 3, 1) := by decide +kernel
theorem dX9_measure_131 : decode cX9_measure 131 = .ok (.invokevirtual 181, 3) := by decide +kernel
theorem dX9_measure_134 : decode cX9_measure 134 = .ok (.ifCond .eq 47, 3) := by decide +kernel
theorem dX9_measure_137 : decode cX9_measure 137 = .ok (.aload_n 0, 1) := by decide +kernel
theorem dX9_measure_138 : decode cX9_measure 138 = .ok (.getfield 97, 3) := by decide +kernel
theorem dX9_measure_141 : decode cX9_measure 141 = .ok (.i2l, 1) := by decide +kernel
theorem dX9_measure_142 : decode cX9_measure 142 = .ok (.iload_n 2, 1) := by decide +kernel
theorem dX9_measure_143 : decode cX9_measure 143 = .ok (.i2l, 1) := by decide +kernel
theorem dX9_measure_144 : decode cX9_measure 144 = .ok (.lmul, 1) := by decide +kernel
theorem dX9_measure_145 : decode cX9_measure 145 = .ok (.ldc2_w 188, 3) := by decide +kernel
theorem dX9_measure_148 : decode cX9_measure 148 = .ok (.ladd, 1) := by decide +kernel
theorem dX9_measure_149 : decode cX9_measure 149 = .ok (.ldc2_w 190, 3) := by decide +kernel
theorem dX9_measure_152 : decode cX9_measure 152 = .ok (.aload_n 0, 1) := by decide +kernel
theorem dX9_measure_153 : decode cX9_measure 153 = .ok (.getfield 97, 3) := by decide +kernel
theorem dX9_measure_156 : decode cX9_measure 156 = .ok (.i2l, 1) := by decide +kernel
theorem dX9_measure_157 : decode cX9_measure 157 = .ok (.lmul, 1) := by decide +kernel
theorem dX9_measure_158 : decode cX9_measure 158 = .ok (.ladd, 1) := by decide +kernel
theorem dX9_measure_159 : decode cX9_measure 159 = .ok (.aload_n 0, 1) := by decide +kernel
theorem dX9_measure_160 : decode cX9_measure 160 = .ok (.aload_n 0, 1) := by decide +kernel
theorem dX9_measure_161 : decode cX9_measure 161 = .ok (.getfield 97, 3) := by decide +kernel
theorem dX9_measure_164 : decode cX9_measure 164 = .ok (.invokevirtual 185, 3) := by decide +kernel
theorem dX9_measure_167 : decode cX9_measure 167 = .ok (.ladd, 1) := by decide +kernel
theorem dX9_measure_168 : decode cX9_measure 168 = .ok (.lstore 4, 2) := by decide +kernel
theorem dX9_measure_170 : decode cX9_measure 170 = .ok (.aload_n 0, 1) := by decide +kernel
theorem dX9_measure_171 : decode cX9_measure 171 = .ok (.iload_n 3, 1) := by decide +kernel
theorem dX9_measure_172 : decode cX9_measure 172 = .ok (.aload_n 0, 1) := by decide +kernel
theorem dX9_measure_173 : decode cX9_measure 173 = .ok (.getfield 147, 3) := by decide +kernel
theorem dX9_measure_176 : decode cX9_measure 176 = .ok (.lload 4, 2) := by decide +kernel
theorem dX9_measure_178 : decode cX9_measure 178 = .ok (.invokevirtual 177, 3) := by decide +kernel
theorem dX9_measure_181 : decode cX9_measure 181 = .ok (.aload_n 0, 1) := by decide +kernel
theorem dX9_measure_182 : decode cX9_measure 182 = .ok (.iconst 1, 1) := by decide +kernel
theorem dX9_measure_183 : decode cX9_measure 183 = .ok (.iconst (-1), 1) := by decide +kernel
theorem dX9_measure_184 : decode cX9_measure 184 = .ok (.aload_n 0, 1) := by decide +kernel
theorem dX9_measure_185 : decode cX9_measure 185 = .ok (.getfield 108, 3) := by decide +kernel
theorem dX9_measure_188 : decode cX9_measure 188 = .ok (.i2l, 1) := by decide +kernel
theorem dX9_measure_189 : decode cX9_measure 189 = .ok (.iload_n 2, 1) := by decide +kernel
theorem dX9_measure_190 : decode cX9_measure 190 = .ok (.i2l, 1) := by decide +kernel
theorem dX9_measure_191 : decode cX9_measure 191 = .ok (.lmul, 1) := by decide +kernel
theorem dX9_measure_192 : decode cX9_measure 192 = .ok (.invokevirtual 177, 3) := by decide +kernel
theorem dX9_measure_195 : decode cX9_measure 195 = .ok (.aload_n 0, 1) := by decide +kernel
theorem dX9_measure_196 : decode cX9_measure 196 = .ok (.dup, 1) := by decide +kernel
theorem dX9_measure_197 : decode cX9_measure 197 = .ok (.getfield 154, 3) := by decide +kernel
theorem dX9_measure_200 : decode cX9_measure 200 = .ok (.ldc2_w 73, 3) := by decide +kernel
theorem dX9_measure_203 : decode cX9_measure 203 = .ok (.aload_n 0, 1) := by decide +kernel
theorem dX9_measure_204 : decode cX9_measure 204 = .ok (.getfield 168, 3) := by decide +kernel
theorem dX9_measure_207 : decode cX9_measure 207 = .ok (.i2l, 1) := by decide +kernel
theorem dX9_measure_208 : decode cX9_measure 208 = .ok (.ladd, 1) := by decide +kernel
theorem dX9_measure_209 : decode cX9_measure 209 = .ok (.ladd, 1) := by decide +kernel
theorem dX9_measure_210 : decode cX9_measure 210 = .ok (.putfield 154, 3) := by decide +kernel
theorem dX9_measure_213 : decode cX9_measure 213 = .ok (.return_, 1) := by decide +kernel
theorem dX9_write_0 : decode cX9_write 0 = .ok (.iload_n 1, 1) := by decide +kernel
theorem dX9_write_1 : decode cX9_write 1 = .ok (.iconst 1, 1) := by decide +kernel
theorem dX9_write_2 : decode cX9_write 2 = .ok (.isub, 1) := by decide +kernel
theorem dX9_write_3 : decode cX9_write 3 = .ok (.istore 4, 2) := by decide +kernel
theorem dX9_write_5 : decode cX9_write 5 = .ok (.iload 4, 2) := by decide +kernel
theorem dX9_write_7 : decode cX9_write 7 = .ok (.ifCond .lt 80, 3) := by decide +kernel
theorem dX9_write_10 : decode cX9_write 10 = .ok (.aload_n 0, 1) := by decide +kernel
theorem dX9_write_11 : decode cX9_write 11 = .ok (.getfield 192, 3) := by decide +kernel
theorem dX9_write_14 : decode cX9_write 14 = .ok (.ldc2_w 195, 3) := by decide +kernel
theorem dX9_write_17 : decode cX9_write 17 = .ok (.ldiv, 1) := by decide +kernel
theorem dX9_write_18 : decode cX9_write 18 = .ok (.l2i, 1) := by decide +kernel
theorem dX9_write_19 : decode cX9_write 19 = .ok (.istore 5, 2) := by decide +kernel
theorem dX9_write_21 : decode cX9_write 21 = .ok (.aload_n 0, 1) := by decide +kernel
theorem dX9_write_22 : decode cX9_write 22 = .ok (.getfield 192, 3) := by decide +kernel
theorem dX9_write_25 : decode cX9_write 25 = .ok (.ldc2_w 195, 3) := by decide +kernel
theorem dX9_write_28 : decode cX9_write 28 = .ok (.lrem, 1) := by decide +kernel
theorem dX9_write_29 : decode cX9_write 29 = .ok (.lconst 0, 1) := by decide +kernel
theorem dX9_write_30 : decode cX9_write 30 = .ok (.lcmp, 1) := by decide +kernel
theorem dX9_write_31 : decode cX9_write 31 = .ok (.ifCond .ne 11, 3) := by decide +kernel
theorem dX9_write_34 : decode cX9_write 34 = .ok (.aload_n 0, 1) := by decide +kernel
theorem dX9_write_35 : decode cX9_write 35 = .ok (.getfield 30, 3) := by decide +kernel
theorem dX9_write_38 : decode cX9_write 38 = .ok (.iload 5, 2) := by decide +kernel
theorem dX9_write_40 : decode cX9_write 40 = .ok (.lconst 0, 1) := by decide +kernel
theorem dX9_write_41 : decode cX9_write 41 = .ok (.lastore, 1) := by decide +kernel
theorem dX9_write_42 : decode cX9_write 42 = .ok (.aload_n 0, 1) := by decide +kernel
theorem dX9_write_43 : decode cX9_write 43 = .ok (.getfield 30, 3) := by decide +kernel
theorem dX9_write_46 : decode cX9_write 46 = .ok (.iload 5, 2) := by decide +kernel
theorem dX9_write_48 : decode cX9_write 48 = .ok (.dup2, 1) := by decide +kernel
theorem dX9_write_49 : decode cX9_write 49 = .ok (.laload, 1) := by decide +kernel
theorem dX9_write_50 : decode cX9_write 50 = .ok (.lload_n 2, 1) := by decide +kernel
theorem dX9_write_51 : decode cX9_write 51 = .ok (.iload 4, 2) := by decide +kernel
theorem dX9_write_53 : decode cX9_write 53 = .ok (.lshr, 1) := by decide +kernel
theorem dX9_write_54 : decode cX9_write 54 = .ok (.lconst 1, 1) := by decide +kernel
theorem dX9_write_55 : decode cX9_write 55 = .ok (.land, 1) := by decide +kernel
theorem dX9_write_56 : decode cX9_write 56 = .ok (.bipush 63, 2) := by decide +kernel
theorem dX9_write_58 : decode cX9_write 58 = .ok (.aload_n 0, 1) := by decide +kernel
theorem dX9_write_59 : decode cX9_write 59 = .ok (.getfield 192, 3) := by decide +kernel
theorem dX9_write_62 : decode cX9_write 62 = .ok (.ldc2_w 195, 3) := by decide +kernel
theorem dX9_write_65 : decode cX9_write 65 = .ok (.lrem, 1) := by decide +kernel
theorem dX9_write_66 : decode cX9_write 66 = .ok (.l2i, 1) := by decide +kernel
theorem dX9_write_67 : decode cX9_write 67 = .ok (.isub, 1) := by decide +kernel
theorem dX9_write_68 : decode cX9_write 68 = .ok (.lshl, 1) := by decide +kernel
theorem dX9_write_69 : decode cX9_write 69 = .ok (.lor, 1) := by decide +kernel
theorem dX9_write_70 : decode cX9_write 70 = .ok (.lastore, 1) := by decide +kernel
theorem dX9_write_71 : decode cX9_write 71 = .ok (.aload_n 0, 1) := by decide +kernel
theorem dX9_write_72 : decode cX9_write 72 = .ok (.dup, 1) := by decide +kernel
theorem dX9_write_73 : decode cX9_write 73 = .ok (.getfield 192, 3) := by decide +kernel
theorem dX9_write_76 : decode cX9_write 76 = .ok (.lconst 1, 1) := by decide +kernel
theorem dX9_write_77 : decode cX9_write 77 = .ok (.ladd, 1) := by decide +kernel
theorem dX9_write_78 : decode cX9_write 78 = .ok (.putfield 192, 3) := by decide +kernel
theorem dX9_write_81 : decode cX9_write 81 = .ok (.iinc 4 (-1), 3) := by decide +kernel
theorem dX9_write_84 : decode cX9_write 84 = .ok (.goto (-79), 3) := by decide +kernel
theorem dX9_write_87 : decode cX9_write 87 = .ok (.return_, 1) := by decide +kernel
theorem dX9_octetOf_0 : decode cX9_octetOf 0 = .ok (.aload_n 0, 1) := by decide +kernel
theorem dX9_octetOf_1 : decode cX9_octetOf 1 = .ok (.iload_n 1, 1) := by decide +kernel
theorem dX9_octetOf_2 : decode cX9_octetOf 2 = .ok (.bipush 8, 2) := by decide +kernel
theorem dX9_octetOf_4 : decode cX9_octetOf 4 = .ok (.idiv, 1) := by decide +kernel
theorem dX9_octetOf_5 : decode cX9_octetOf 5 = .ok (.laload, 1) := by decide +kernel
theorem dX9_octetOf_6 : decode cX9_octetOf 6 = .ok (.bipush 56, 2) := by decide +kernel
theorem dX9_octetOf_8 : decode cX9_octetOf 8 = .ok (.bipush 8, 2) := by decide +kernel
theorem dX9_octetOf_10 : decode cX9_octetOf 10 = .ok (.iload_n 1, 1) := by decide +kernel
theorem dX9_octetOf_11 : decode cX9_octetOf 11 = .ok (.bipush 8, 2) := by decide +kernel
theorem dX9_octetOf_13 : decode cX9_octetOf 13 = .ok (.irem, 1) := by decide +kernel
theorem dX9_octetOf_14 : decode cX9_octetOf 14 = .ok (.imul, 1) := by decide +kernel
theorem dX9_octetOf_15 : decode cX9_octetOf 15 = .ok (.isub, 1) := by decide +kernel
theorem dX9_octetOf_16 : decode cX9_octetOf 16 = .ok (.lshr, 1) := by decide +kernel
theorem dX9_octetOf_17 : decode cX9_octetOf 17 = .ok (.l2i, 1) := by decide +kernel
theorem dX9_octetOf_18 : decode cX9_octetOf 18 = .ok (.sipush 255, 3) := by decide +kernel
theorem dX9_octetOf_21 : decode cX9_octetOf 21 = .ok (.iand, 1) := by decide +kernel
theorem dX9_octetOf_22 : decode cX9_octetOf 22 = .ok (.ireturn, 1) := by decide +kernel
theorem dX9_sumOf_0 : decode cX9_sumOf 0 = .ok (.iconst 0, 1) := by decide +kernel
theorem dX9_sumOf_1 : decode cX9_sumOf 1 = .ok (.istore 4, 2) := by decide +kernel
theorem dX9_sumOf_3 : decode cX9_sumOf 3 = .ok (.iload_n 3, 1) := by decide +kernel
theorem dX9_sumOf_4 : decode cX9_sumOf 4 = .ok (.ifCond .eq 8, 3) := by decide +kernel
theorem dX9_sumOf_7 : decode cX9_sumOf 7 = .ok (.ldc 197, 2) := by decide +kernel
theorem dX9_sumOf_9 : decode cX9_sumOf 9 = .ok (.goto 6, 3) := by decide +kernel
theorem dX9_sumOf_12 : decode cX9_sumOf 12 = .ok (.sipush 128, 3) := by decide +kernel
theorem dX9_sumOf_15 : decode cX9_sumOf 15 = .ok (.istore 5, 2) := by decide +kernel
theorem dX9_sumOf_17 : decode cX9_sumOf 17 = .ok (.iload_n 1, 1) := by decide +kernel
theorem dX9_sumOf_18 : decode cX9_sumOf 18 = .ok (.istore 6, 2) := by decide +kernel
theorem dX9_sumOf_20 : decode cX9_sumOf 20 = .ok (.iload 6, 2) := by decide +kernel
theorem dX9_sumOf_22 : decode cX9_sumOf 22 = .ok (.iload_n 2, 1) := by decide +kernel
theorem dX9_sumOf_23 : decode cX9_sumOf 23 = .ok (.if_icmp .ge 97, 3) := by decide +kernel
theorem dX9_sumOf_26 : decode cX9_sumOf 26 = .ok (.bipush 7, 2) := by decide +kernel
theorem dX9_sumOf_28 : decode cX9_sumOf 28 = .ok (.istore 7, 2) := by decide +kernel
theorem dX9_sumOf_30 : decode cX9_sumOf 30 = .ok (.iload 7, 2) := by decide +kernel
theorem dX9_sumOf_32 : decode cX9_sumOf 32 = .ok (.ifCond .lt 82, 3) := by decide +kernel
theorem dX9_sumOf_35 : decode cX9_sumOf 35 = .ok (.iload 4, 2) := by decide +kernel
theorem dX9_sumOf_37 : decode cX9_sumOf 37 = .ok (.iload 5, 2) := by decide +kernel
theorem dX9_sumOf_39 : decode cX9_sumOf 39 = .ok (.iand, 1) := by decide +kernel
theorem dX9_sumOf_40 : decode cX9_sumOf 40 = .ok (.ifCond .eq 7, 3) := by decide +kernel
theorem dX9_sumOf_43 : decode cX9_sumOf 43 = .ok (.iconst 1, 1) := by decide +kernel
theorem dX9_sumOf_44 : decode cX9_sumOf 44 = .ok (.goto 4, 3) := by decide +kernel
theorem dX9_sumOf_47 : decode cX9_sumOf 47 = .ok (.iconst 0, 1) := by decide +kernel
theorem dX9_sumOf_48 : decode cX9_sumOf 48 = .ok (.istore 8, 2) := by decide +kernel
theorem dX9_sumOf_50 : decode cX9_sumOf 50 = .ok (.aload_n 0, 1) := by decide +kernel
theorem dX9_sumOf_51 : decode cX9_sumOf 51 = .ok (.iload 6, 2) := by decide +kernel
theorem dX9_sumOf_53 : decode cX9_sumOf 53 = .ok (.invokestatic 198, 3) := by decide +kernel
theorem dX9_sumOf_56 : decode cX9_sumOf 56 = .ok (.iload 7, 2) := by decide +kernel
theorem dX9_sumOf_58 : decode cX9_sumOf 58 = .ok (.ishr, 1) := by decide +kernel
theorem dX9_sumOf_59 : decode cX9_sumOf 59 = .ok (.iconst 1, 1) := by decide +kernel
theorem dX9_sumOf_60 : decode cX9_sumOf 60 = .ok (.iand, 1) := by decide +kernel
theorem dX9_sumOf_61 : decode cX9_sumOf 61 = .ok (.iconst 1, 1) := by decide +kernel
theorem dX9_sumOf_62 : decode cX9_sumOf 62 = .ok (.if_icmp .ne 7, 3) := by decide +kernel
theorem dX9_sumOf_65 : decode cX9_sumOf 65 = .ok (.iconst 1, 1) := by decide +kernel
theorem dX9_sumOf_66 : decode cX9_sumOf 66 = .ok (.goto 4, 3) := by decide +kernel
theorem dX9_sumOf_69 : decode cX9_sumOf 69 = .ok (.iconst 0, 1) := by decide +kernel
theorem dX9_sumOf_70 : decode cX9_sumOf 70 = .ok (.istore 9, 2) := by decide +kernel
theorem dX9_sumOf_72 : decode cX9_sumOf 72 = .ok (.iload 4, 2) := by decide +kernel
theorem dX9_sumOf_74 : decode cX9_sumOf 74 = .ok (.iconst 1, 1) := by decide +kernel
theorem dX9_sumOf_75 : decode cX9_sumOf 75 = .ok (.ishl, 1) := by decide +kernel
theorem dX9_sumOf_76 : decode cX9_sumOf 76 = .ok (.iconst 2, 1) := by decide +kernel
theorem dX9_sumOf_77 : decode cX9_sumOf 77 = .ok (.iload 5, 2) := by decide +kernel
theorem dX9_sumOf_79 : decode cX9_sumOf 79 = .ok (.imul, 1) := by decide +kernel
theorem dX9_sumOf_80 : decode cX9_sumOf 80 = .ok (.iconst 1, 1) := by decide +kernel
theorem dX9_sumOf_81 : decode cX9_sumOf 81 = .ok (.isub, 1) := by decide +kernel
theorem dX9_sumOf_82 : decode cX9_sumOf 82 = .ok (.iand, 1) := by decide +kernel
theorem dX9_sumOf_83 : decode cX9_sumOf 83 = .ok (.istore 4, 2) := by decide +kernel
theorem dX9_sumOf_85 : decode cX9_sumOf 85 = .ok (.iload 8, 2) := by decide +kernel
theorem dX9_sumOf_87 : decode cX9_sumOf 87 = .ok (.iload 9, 2) := by decide +kernel
theorem dX9_sumOf_89 : decode cX9_sumOf 89 = .ok (.if_icmp .eq 19, 3) := by decide +kernel
theorem dX9_sumOf_92 : decode cX9_sumOf 92 = .ok (.iload 4, 2) := by decide +kernel
theorem dX9_sumOf_94 : decode cX9_sumOf 94 = .ok (.iload_n 3, 1) := by decide +kernel
theorem dX9_sumOf_95 : decode cX9_sumOf 95 = .ok (.ifCond .eq 8, 3) := by decide +kernel
theorem dX9_sumOf_98 : decode cX9_sumOf 98 = .ok (.ldc 202, 2) := by decide +kernel
theorem dX9_sumOf_100 : decode cX9_sumOf 100 = .ok (.goto 5, 3) := by decide +kernel
theorem dX9_sumOf_103 : decode cX9_sumOf 103 = .ok (.bipush 7, 2) := by decide +kernel
theorem dX9_sumOf_105 : decode cX9_sumOf 105 = .ok (.ixor, 1) := by decide +kernel
theorem dX9_sumOf_106 : decode cX9_sumOf 106 = .ok (.istore 4, 2) := by decide +kernel
theorem dX9_sumOf_108 : decode cX9_sumOf 108 = .ok (.iinc 7 (-1), 3) := by decide +kernel
theorem dX9_sumOf_111 : decode cX9_sumOf 111 = .ok (.goto (-81), 3) := by decide +kernel
theorem dX9_sumOf_114 : decode cX9_sumOf 114 = .ok (.iinc 6 1, 3) := by decide +kernel
theorem dX9_sumOf_117 : decode cX9_sumOf 117 = .ok (.goto (-97), 3) := by decide +kernel
theorem dX9_sumOf_120 : decode cX9_sumOf 120 = .ok (.iload 4, 2) := by decide +kernel
theorem dX9_sumOf_122 : decode cX9_sumOf 122 = .ok (.ireturn, 1) := by decide +kernel
theorem dX9_load_0 : decode cX9_load 0 = .ok (.aload_n 0, 1) := by decide +kernel
theorem dX9_load_1 : decode cX9_load 1 = .ok (.iload_n 3, 1) := by decide +kernel
theorem dX9_load_2 : decode cX9_load 2 = .ok (.putfield 108, 3) := by decide +kernel
theorem dX9_load_5 : decode cX9_load 5 = .ok (.iconst 0, 1) := by decide +kernel
theorem dX9_load_6 : decode cX9_load 6 = .ok (.istore 4, 2) := by decide +kernel
theorem dX9_load_8 : decode cX9_load 8 = .ok (.iload 4, 2) := by decide +kernel
theorem dX9_load_10 : decode cX9_load 10 = .ok (.iload_n 3, 1) := by decide +kernel
theorem dX9_load_11 : decode cX9_load 11 = .ok (.if_icmp .ge 106, 3) := by decide +kernel
theorem dX9_load_14 : decode cX9_load 14 = .ok (.iload_n 1, 1) := by decide +kernel
theorem dX9_load_15 : decode cX9_load 15 = .ok (.aload_n 0, 1) := by decide +kernel
theorem dX9_load_16 : decode cX9_load 16 = .ok (.getfield 16, 3) := by decide +kernel
theorem dX9_load_19 : decode cX9_load 19 = .ok (.imul, 1) := by decide +kernel
theorem dX9_load_20 : decode cX9_load 20 = .ok (.iload 4, 2) := by decide +kernel
theorem dX9_load_22 : decode cX9_load 22 = .ok (.iadd, 1) := by decide +kernel
theorem dX9_load_23 : decode cX9_load 23 = .ok (.aload_n 0, 1) := by decide +kernel
theorem dX9_load_24 : decode cX9_load 24 = .ok (.getfield 7, 3) := by decide +kernel
theorem dX9_load_27 : decode cX9_load 27 = .ok (.imul, 1) := by decide +kernel
theorem dX9_load_28 : decode cX9_load 28 = .ok (.istore 5, 2) := by decide +kernel
theorem dX9_load_30 : decode cX9_load 30 = .ok (.aload_n 0, 1) := by decide +kernel
theorem dX9_load_31 : decode cX9_load 31 = .ok (.getfield 27, 3) := by decide +kernel
theorem dX9_load_34 : decode cX9_load 34 = .ok (.iload 5, 2) := by decide +kernel
theorem dX9_load_36 : decode cX9_load 36 = .ok (.iaload, 1) := by decide +kernel
theorem dX9_load_37 : decode cX9_load 37 = .ok (.i2l, 1) := by decide +kernel
theorem dX9_load_38 : decode cX9_load 38 = .ok (.lstore 6, 2) := by decide +kernel
theorem dX9_load_40 : decode cX9_load 40 = .ok (.aload_n 0, 1) := by decide +kernel
theorem dX9_load_41 : decode cX9_load 41 = .ok (.getfield 7, 3) := by decide +kernel
theorem dX9_load_44 : decode cX9_load 44 = .ok (.iconst 2, 1) := by decide +kernel
theorem dX9_load_45 : decode cX9_load 45 = .ok (.if_icmp .ne 16, 3) := by decide +kernel
theorem dX9_load_48 : decode cX9_load 48 = .ok (.aload_n 0, 1) := by decide +kernel
theorem dX9_load_49 : decode cX9_load 49 = .ok (.getfield 27, 3) := by decide +kernel
theorem dX9_load_52 : decode cX9_load 52 = .ok (.iload 5, 2) := by decide +kernel
theorem dX9_load_54 : decode cX9_load 54 = .ok (.iconst 1, 1) := by decide +kernel
theorem dX9_load_55 : decode cX9_load 55 = .ok (.iadd, 1) := by decide +kernel
theorem dX9_load_56 : decode cX9_load 56 = .ok (.iaload, 1) := by decide +kernel
theorem dX9_load_57 : decode cX9_load 57 = .ok (.i2l, 1) := by decide +kernel
theorem dX9_load_58 : decode cX9_load 58 = .ok (.goto 4, 3) := by decide +kernel
theorem dX9_load_61 : decode cX9_load 61 = .ok (.lconst 0, 1) := by decide +kernel
theorem dX9_load_62 : decode cX9_load 62 = .ok (.lstore 8, 2) := by decide +kernel
theorem dX9_load_64 : decode cX9_load 64 = .ok (.aload_n 0, 1) := by decide +kernel
theorem dX9_load_65 : decode cX9_load 65 = .ok (.getfield 55, 3) := by decide +kernel
theorem dX9_load_68 : decode cX9_load 68 = .ok (.iload 4, 2) := by decide +kernel
theorem dX9_load_70 : decode cX9_load 70 = .ok (.iload_n 2, 1) := by decide +kernel
theorem dX9_load_71 : decode cX9_load 71 = .ok (.bipush 8, 2) := by decide +kernel
theorem dX9_load_73 : decode cX9_load 73 = .ok (.if_icmp .ne 11, 3) := by decide +kernel
theorem dX9_load_76 : decode cX9_load 76 = .ok (.lload 6, 2) := by decide +kernel
theorem dX9_load_78 : decode cX9_load 78 = .ok (.lload 8, 2) := by decide +kernel
theorem dX9_load_80 : decode cX9_load 80 = .ok (.lsub, 1) := by decide +kernel
theorem dX9_load_81 : decode cX9_load 81 = .ok (.goto 29, 3) := by decide +kernel
theorem dX9_load_84 : decode cX9_load 84 = .ok (.iload_n 2, 1) := by decide +kernel
theorem dX9_load_85 : decode cX9_load 85 = .ok (.bipush 9, 2) := by decide +kernel
theorem dX9_load_87 : decode cX9_load 87 = .ok (.if_icmp .ne 13, 3) := by decide +kernel
theorem dX9_load_90 : decode cX9_load 90 = .ok (.lload 6, 2) := by decide +kernel
theorem dX9_load_92 : decode cX9_load 92 = .ok (.lload 8, 2) := by decide +kernel
theorem dX9_load_94 : decode cX9_load 94 = .ok (.ladd, 1) := by decide +kernel
theorem dX9_load_95 : decode cX9_load 95 = .ok (.iconst 1, 1) := by decide +kernel
theorem dX9_load_96 : decode cX9_load 96 = .ok (.lshr, 1) := by decide +kernel
theorem dX9_load_97 : decode cX9_load 97 = .ok (.goto 13, 3) := by decide +kernel
theorem dX9_load_100 : decode cX9_load 100 = .ok (.aload_n 0, 1) := by decide +kernel
theorem dX9_load_101 : decode cX9_load 101 = .ok (.getfield 27, 3) := by decide +kernel
theorem dX9_load_104 : decode cX9_load 104 = .ok (.iload 5, 2) := by decide +kernel
theorem dX9_load_106 : decode cX9_load 106 = .ok (.iload_n 2, 1) := by decide +kernel
theorem dX9_load_107 : decode cX9_load 107 = .ok (.iadd, 1) := by decide +kernel
theorem dX9_load_108 : decode cX9_load 108 = .ok (.iaload, 1) := by decide +kernel
theorem dX9_load_109 : decode cX9_load 109 = .ok (.i2l, 1) := by decide +kernel
theorem dX9_load_110 : decode cX9_load 110 = .ok (.lastore, 1) := by decide +kernel
theorem dX9_load_111 : decode cX9_load 111 = .ok (.iinc 4 1, 3) := by decide +kernel
theorem dX9_load_114 : decode cX9_load 114 = .ok (.goto (-106), 3) := by decide +kernel
theorem dX9_load_117 : decode cX9_load 117 = .ok (.return_, 1) := by decide +kernel
theorem dX9_bitsOf_0 : decode cX9_bitsOf 0 = .ok (.iload_n 1, 1) := by decide +kernel
theorem dX9_bitsOf_1 : decode cX9_bitsOf 1 = .ok (.bipush 8, 2) := by decide +kernel
theorem dX9_bitsOf_3 : decode cX9_bitsOf 3 = .ok (.if_icmp .ne 12, 3) := by decide +kernel
theorem dX9_bitsOf_6 : decode cX9_bitsOf 6 = .ok (.aload_n 0, 1) := by decide +kernel
theorem dX9_bitsOf_7 : decode cX9_bitsOf 7 = .ok (.getfield 13, 3) := by decide +kernel
theorem dX9_bitsOf_10 : decode cX9_bitsOf 10 = .ok (.iconst 1, 1) := by decide +kernel
theorem dX9_bitsOf_11 : decode cX9_bitsOf 11 = .ok (.iadd, 1) := by decide +kernel
theorem dX9_bitsOf_12 : decode cX9_bitsOf 12 = .ok (.goto 7, 3) := by decide +kernel
theorem dX9_bitsOf_15 : decode cX9_bitsOf 15 = .ok (.aload_n 0, 1) := by decide +kernel
theorem dX9_bitsOf_16 : decode cX9_bitsOf 16 = .ok (.getfield 13, 3) := by decide +kernel
theorem dX9_bitsOf_19 : decode cX9_bitsOf 19 = .ok (.ireturn, 1) := by decide +kernel
theorem dX9_measured_0 : decode cX9_measured 0 = .ok (.aload_n 0, 1) := by decide +kernel
theorem dX9_measured_1 : decode cX9_measured 1 = .ok (.iload_n 1, 1) := by decide +kernel
theorem dX9_measured_2 : decode cX9_measured 2 = .ok (.iload_n 2, 1) := by decide +kernel
theorem dX9_measured_3 : decode cX9_measured 3 = .ok (.iload_n 3, 1) := by decide +kernel
theorem dX9_measured_4 : decode cX9_measured 4 = .ok (.invokevirtual 203, 3) := by decide +kernel
theorem dX9_measured_7 : decode cX9_measured 7 = .ok (.aload_n 0, 1) := by decide +kernel
theorem dX9_measured_8 : decode cX9_measured 8 = .ok (.aload_n 0, 1) := by decide +kernel
theorem dX9_measured_9 : decode cX9_measured 9 = .ok (.iload_n 2, 1) := by decide +kernel
theorem dX9_measured_10 : decode cX9_measured 10 = .ok (.invokevirtual 207, 3) := by decide +kernel
theorem dX9_measured_13 : decode cX9_measured 13 = .ok (.invokevirtual 210, 3) := by decide +kernel
theorem dX9_measured_16 : decode cX9_measured 16 = .ok (.aload_n 0, 1) := by decide +kernel
theorem dX9_measured_17 : decode cX9_measured 17 = .ok (.getfield 154, 3) := by decide +kernel
theorem dX9_measured_20 : decode cX9_measured 20 = .ok (.lreturn, 1) := by decide +kernel
theorem dX9_rowOf_0 : decode cX9_rowOf 0 = .ok (.iload_n 0, 1) := by decide +kernel
theorem dX9_rowOf_1 : decode cX9_rowOf 1 = .ok (.bipush 8, 2) := by decide +kernel
theorem dX9_rowOf_3 : decode cX9_rowOf 3 = .ok (.if_icmp .ge 5, 3) := by decide +kernel
theorem dX9_rowOf_6 : decode cX9_rowOf 6 = .ok (.iload_n 1, 1) := by decide +kernel
theorem dX9_rowOf_7 : decode cX9_rowOf 7 = .ok (.ireturn, 1) := by decide +kernel
theorem dX9_rowOf_8 : decode cX9_rowOf 8 = .ok (.iload_n 0, 1) := by decide +kernel
theorem dX9_rowOf_9 : decode cX9_rowOf 9 = .ok (.bipush 9, 2) := by decide +kernel
theorem dX9_rowOf_11 : decode cX9_rowOf 11 = .ok (.if_icmp .ne 14, 3) := by decide +kernel
theorem dX9_rowOf_14 : decode cX9_rowOf 14 = .ok (.iload_n 1, 1) := by decide +kernel
theorem dX9_rowOf_15 : decode cX9_rowOf 15 = .ok (.ifCond .ne 8, 3) := by decide +kernel
theorem dX9_rowOf_18 : decode cX9_rowOf 18 = .ok (.bipush 8, 2) := by decide +kernel
theorem dX9_rowOf_20 : decode cX9_rowOf 20 = .ok (.goto 4, 3) := by decide +kernel
theorem dX9_rowOf_23 : decode cX9_rowOf 23 = .ok (.iconst 1, 1) := by decide +kernel
theorem dX9_rowOf_24 : decode cX9_rowOf 24 = .ok (.ireturn, 1) := by decide +kernel
theorem dX9_rowOf_25 : decode cX9_rowOf 25 = .ok (.iload_n 1, 1) := by decide +kernel
theorem dX9_rowOf_26 : decode cX9_rowOf 26 = .ok (.iconst 1, 1) := by decide +kernel
theorem dX9_rowOf_27 : decode cX9_rowOf 27 = .ok (.if_icmp .ne 8, 3) := by decide +kernel
theorem dX9_rowOf_30 : decode cX9_rowOf 30 = .ok (.bipush 8, 2) := by decide +kernel
theorem dX9_rowOf_32 : decode cX9_rowOf 32 = .ok (.goto 15, 3) := by decide +kernel
theorem dX9_rowOf_35 : decode cX9_rowOf 35 = .ok (.iload_n 0, 1) := by decide +kernel
theorem dX9_rowOf_36 : decode cX9_rowOf 36 = .ok (.bipush 8, 2) := by decide +kernel
theorem dX9_rowOf_38 : decode cX9_rowOf 38 = .ok (.if_icmp .ne 7, 3) := by decide +kernel
theorem dX9_rowOf_41 : decode cX9_rowOf 41 = .ok (.iconst 0, 1) := by decide +kernel
theorem dX9_rowOf_42 : decode cX9_rowOf 42 = .ok (.goto 5, 3) := by decide +kernel
theorem dX9_rowOf_45 : decode cX9_rowOf 45 = .ok (.bipush 9, 2) := by decide +kernel
theorem dX9_rowOf_47 : decode cX9_rowOf 47 = .ok (.ireturn, 1) := by decide +kernel
theorem dX9_assignment_0 : decode cX9_assignment 0 = .ok (.aload_n 0, 1) := by decide +kernel
theorem dX9_assignment_1 : decode cX9_assignment 1 = .ok (.getfield 7, 3) := by decide +kernel
theorem dX9_assignment_4 : decode cX9_assignment 4 = .ok (.iconst 2, 1) := by decide +kernel
theorem dX9_assignment_5 : decode cX9_assignment 5 = .ok (.if_icmp .eq 10, 3) := by decide +kernel
theorem dX9_assignment_8 : decode cX9_assignment 8 = .ok (.aload_n 0, 1) := by decide +kernel
theorem dX9_assignment_9 : decode cX9_assignment 9 = .ok (.getfield 7, 3) := by decide +kernel
theorem dX9_assignment_12 : decode cX9_assignment 12 = .ok (.iconst 1, 1) := by decide +kernel
theorem dX9_assignment_13 : decode cX9_assignment 13 = .ok (.isub, 1) := by decide +kernel
theorem dX9_assignment_14 : decode cX9_assignment 14 = .ok (.ireturn, 1) := by decide +kernel
theorem dX9_assignment_15 : decode cX9_assignment 15 = .ok (.aload_n 0, 1) := by decide +kernel
theorem dX9_assignment_16 : decode cX9_assignment 16 = .ok (.iload_n 1, 1) := by decide +kernel
theorem dX9_assignment_17 : decode cX9_assignment 17 = .ok (.iconst 0, 1) := by decide +kernel
theorem dX9_assignment_18 : decode cX9_assignment 18 = .ok (.iload_n 2, 1) := by decide +kernel
theorem dX9_assignment_19 : decode cX9_assignment 19 = .ok (.invokevirtual 214, 3) := by decide +kernel
theorem dX9_assignment_22 : decode cX9_assignment 22 = .ok (.lstore_n 3, 1) := by decide +kernel
theorem dX9_assignment_23 : decode cX9_assignment 23 = .ok (.aload_n 0, 1) := by decide +kernel
theorem dX9_assignment_24 : decode cX9_assignment 24 = .ok (.iload_n 1, 1) := by decide +kernel
theorem dX9_assignment_25 : decode cX9_assignment 25 = .ok (.iconst 1, 1) := by decide +kernel
theorem dX9_assignment_26 : decode cX9_assignment 26 = .ok (.iload_n 2, 1) := by decide +kernel
theorem dX9_assignment_27 : decode cX9_assignment 27 = .ok (.invokevirtual 214, 3) := by decide +kernel
theorem dX9_assignment_30 : decode cX9_assignment 30 = .ok (.lstore 5, 2) := by decide +kernel
theorem dX9_assignment_32 : decode cX9_assignment 32 = .ok (.aload_n 0, 1) := by decide +kernel
theorem dX9_assignment_33 : decode cX9_assignment 33 = .ok (.iload_n 1, 1) := by decide +kernel
theorem dX9_assignment_34 : decode cX9_assignment 34 = .ok (.bipush 8, 2) := by decide +kernel
theorem dX9_assignment_36 : decode cX9_assignment 36 = .ok (.iload_n 2, 1) := by decide +kernel
theorem dX9_assignment_37 : decode cX9_assignment 37 = .ok (.invokevirtual 214, 3) := by decide +kernel
theorem dX9_assignment_40 : decode cX9_assignment 40 = .ok (.lstore 7, 2) := by decide +kernel
theorem dX9_assignment_42 : decode cX9_assignment 42 = .ok (.aload_n 0, 1) := by decide +kernel
theorem dX9_assignment_43 : decode cX9_assignment 43 = .ok (.iload_n 1, 1) := by decide +kernel
theorem dX9_assignment_44 : decode cX9_assignment 44 = .ok (.bipush 9, 2) := by decide +kernel
theorem dX9_assignment_46 : decode cX9_assignment 46 = .ok (.iload_n 2, 1) := by decide +kernel
theorem dX9_assignment_47 : decode cX9_assignment 47 = .ok (.invokevirtual 214, 3) := by decide +kernel
theorem dX9_assignment_50 : decode cX9_assignment 50 = .ok (.lstore 9, 2) := by decide +kernel
theorem dX9_assignment_52 : decode cX9_assignment 52 = .ok (.iconst 1, 1) := by decide +kernel
theorem dX9_assignment_53 : decode cX9_assignment 53 = .ok (.istore 11, 2) := by decide +kernel
theorem dX9_assignment_55 : decode cX9_assignment 55 = .ok (.lload_n 3, 1) := by decide +kernel
theorem dX9_assignment_56 : decode cX9_assignment 56 = .ok (.lload 5, 2) := by decide +kernel
theorem dX9_assignment_58 : decode cX9_assignment 58 = .ok (.ladd, 1) := by decide +kernel
theorem dX9_assignment_59 : decode cX9_assignment 59 = .ok (.lstore 12, 2) := by decide +kernel
theorem dX9_assignment_61 : decode cX9_assignment 61 = .ok (.lload_n 3, 1) := by decide +kernel
theorem dX9_assignment_62 : decode cX9_assignment 62 = .ok (.lload 7, 2) := by decide +kernel
theorem dX9_assignment_64 : decode cX9_assignment 64 = .ok (.ladd, 1) := by decide +kernel
theorem dX9_assignment_65 : decode cX9_assignment 65 = .ok (.lload 12, 2) := by decide +kernel
theorem dX9_assignment_67 : decode cX9_assignment 67 = .ok (.lcmp, 1) := by decide +kernel
theorem dX9_assignment_68 : decode cX9_assignment 68 = .ok (.ifCond .ge 13, 3) := by decide +kernel
theorem dX9_assignment_71 : decode cX9_assignment 71 = .ok (.bipush 8, 2) := by decide +kernel
theorem dX9_assignment_73 : decode cX9_assignment 73 = .ok (.istore 11, 2) := by decide +kernel
theorem dX9_assignment_75 : decode cX9_assignment 75 = .ok (.lload_n 3, 1) := by decide +kernel
theorem dX9_assignment_76 : decode cX9_assignment 76 = .ok (.lload 7, 2) := by decide +kernel
theorem dX9_assignment_78 : decode cX9_assignment 78 = .ok (.ladd, 1) := by decide +kernel
theorem dX9_assignment_79 : decode cX9_assignment 79 = .ok (.lstore 12, 2) := by decide +kernel
theorem dX9_assignment_81 : decode cX9_assignment 81 = .ok (.lload 7, 2) := by decide +kernel
theorem dX9_assignment_83 : decode cX9_assignment 83 = .ok (.lload 5, 2) := by decide +kernel
theorem dX9_assignment_85 : decode cX9_assignment 85 = .ok (.ladd, 1) := by decide +kernel
theorem dX9_assignment_86 : decode cX9_assignment 86 = .ok (.lload 12, 2) := by decide +kernel
theorem dX9_assignment_88 : decode cX9_assignment 88 = .ok (.lcmp, 1) := by decide +kernel
theorem dX9_assignment_89 : decode cX9_assignment 89 = .ok (.ifCond .ge 14, 3) := by decide +kernel
theorem dX9_assignment_92 : decode cX9_assignment 92 = .ok (.bipush 9, 2) := by decide +kernel
theorem dX9_assignment_94 : decode cX9_assignment 94 = .ok (.istore 11, 2) := by decide +kernel
theorem dX9_assignment_96 : decode cX9_assignment 96 = .ok (.lload 7, 2) := by decide +kernel
theorem dX9_assignment_98 : decode cX9_assignment 98 = .ok (.lload 5, 2) := by decide +kernel
theorem dX9_assignment_100 : decode cX9_assignment 100 = .ok (.ladd, 1) := by decide +kernel
theorem dX9_assignment_101 : decode cX9_assignment 101 = .ok (.lstore 12, 2) := by decide +kernel
theorem dX9_assignment_103 : decode cX9_assignment 103 = .ok (.lload 9, 2) := by decide +kernel
theorem dX9_assignment_105 : decode cX9_assignment 105 = .ok (.lload 7, 2) := by decide +kernel
theorem dX9_assignment_107 : decode cX9_assignment 107 = .ok (.ladd, 1) := by decide +kernel
theorem dX9_assignment_108 : decode cX9_assignment 108 = .ok (.lload 12, 2) := by decide +kernel
theorem dX9_assignment_110 : decode cX9_assignment 110 = .ok (.lcmp, 1) := by decide +kernel
theorem dX9_assignment_111 : decode cX9_assignment 111 = .ok (.ifCond .ge 8, 3) := by decide +kernel
theorem dX9_assignment_114 : decode cX9_assignment 114 = .ok (.bipush 10, 2) := by decide +kernel
theorem dX9_assignment_116 : decode cX9_assignment 116 = .ok (.goto 5, 3) := by decide +kernel
theorem dX9_assignment_119 : decode cX9_assignment 119 = .ok (.iload 11, 2) := by decide +kernel
theorem dX9_assignment_121 : decode cX9_assignment 121 = .ok (.ireturn, 1) := by decide +kernel
theorem dX9_writeNumber_0 : decode cX9_writeNumber 0 = .ok (.iload_n 1, 1) := by decide +kernel
theorem dX9_writeNumber_1 : decode cX9_writeNumber 1 = .ok (.sipush 128, 3) := by decide +kernel
theorem dX9_writeNumber_4 : decode cX9_writeNumber 4 = .ok (.if_icmp .ge 14, 3) := by decide +kernel
theorem dX9_writeNumber_7 : decode cX9_writeNumber 7 = .ok (.aload_n 0, 1) := by decide +kernel
theorem dX9_writeNumber_8 : decode cX9_writeNumber 8 = .ok (.bipush 8, 2) := by decide +kernel
theorem dX9_writeNumber_10 : decode cX9_writeNumber 10 = .ok (.iload_n 1, 1) := by decide +kernel
theorem dX9_writeNumber_11 : decode cX9_writeNumber 11 = .ok (.i2l, 1) := by decide +kernel
theorem dX9_writeNumber_12 : decode cX9_writeNumber 12 = .ok (.invokevirtual 217, 3) := by decide +kernel
theorem dX9_writeNumber_15 : decode cX9_writeNumber 15 = .ok (.goto 33, 3) := by decide +kernel
theorem dX9_writeNumber_18 : decode cX9_writeNumber 18 = .ok (.aload_n 0, 1) := by decide +kernel
theorem dX9_writeNumber_19 : decode cX9_writeNumber 19 = .ok (.bipush 8, 2) := by decide +kernel
theorem dX9_writeNumber_21 : decode cX9_writeNumber 21 = .ok (.sipush 192, 3) := by decide +kernel
theorem dX9_writeNumber_24 : decode cX9_writeNumber 24 = .ok (.iload_n 1, 1) := by decide +kernel
theorem dX9_writeNumber_25 : decode cX9_writeNumber 25 = .ok (.bipush 64, 2) := by decide +kernel
theorem dX9_writeNumber_27 : decode cX9_writeNumber 27 = .ok (.idiv, 1) := by decide +kernel
theorem dX9_writeNumber_28 : decode cX9_writeNumber 28 = .ok (.iadd, 1) := by decide +kernel
theorem dX9_writeNumber_29 : decode cX9_writeNumber 29 = .ok (.i2l, 1) := by decide +kernel
theorem dX9_writeNumber_30 : decode cX9_writeNumber 30 = .ok (.invokevirtual 217, 3) := by decide +kernel
theorem dX9_writeNumber_33 : decode cX9_writeNumber 33 = .ok (.aload_n 0, 1) := by decide +kernel
theorem dX9_writeNumber_34 : decode cX9_writeNumber 34 = .ok (.bipush 8, 2) := by decide +kernel
theorem dX9_writeNumber_36 : decode cX9_writeNumber 36 = .ok (.sipush 128, 3) := by decide +kernel
theorem dX9_writeNumber_39 : decode cX9_writeNumber 39 = .ok (.iload_n 1, 1) := by decide +kernel
theorem dX9_writeNumber_40 : decode cX9_writeNumber 40 = .ok (.bipush 64, 2) := by decide +kernel
theorem dX9_writeNumber_42 : decode cX9_writeNumber 42 = .ok (.irem, 1) := by decide +kernel
theorem dX9_writeNumber_43 : decode cX9_writeNumber 43 = .ok (.iadd, 1) := by decide +kernel
theorem dX9_writeNumber_44 : decode cX9_writeNumber 44 = .ok (.i2l, 1) := by decide +kernel
theorem dX9_writeNumber_45 : decode cX9_writeNumber 45 = .ok (.invokevirtual 217, 3) := by decide +kernel
theorem dX9_writeNumber_48 : decode cX9_writeNumber 48 = .ok (.return_, 1) := by decide +kernel
theorem dX9_writeLeft_0 : decode cX9_writeLeft 0 = .ok (.aload_n 0, 1) := by decide +kernel
theorem dX9_writeLeft_1 : decode cX9_writeLeft 1 = .ok (.iconst 2, 1) := by decide +kernel
theorem dX9_writeLeft_2 : decode cX9_writeLeft 2 = .ok (.lconst 0, 1) := by decide +kernel
theorem dX9_writeLeft_3 : decode cX9_writeLeft 3 = .ok (.invokevirtual 217, 3) := by decide +kernel
theorem dX9_writeLeft_6 : decode cX9_writeLeft 6 = .ok (.aload_n 0, 1) := by decide +kernel
theorem dX9_writeLeft_7 : decode cX9_writeLeft 7 = .ok (.iconst 4, 1) := by decide +kernel
theorem dX9_writeLeft_8 : decode cX9_writeLeft 8 = .ok (.aload_n 0, 1) := by decide +kernel
theorem dX9_writeLeft_9 : decode cX9_writeLeft 9 = .ok (.getfield 161, 3) := by decide +kernel
theorem dX9_writeLeft_12 : decode cX9_writeLeft 12 = .ok (.i2l, 1) := by decide +kernel
theorem dX9_writeLeft_13 : decode cX9_writeLeft 13 = .ok (.invokevirtual 217, 3) := by decide +kernel
theorem dX9_writeLeft_16 : decode cX9_writeLeft 16 = .ok (.aload_n 0, 1) := by decide +kernel
theorem dX9_writeLeft_17 : decode cX9_writeLeft 17 = .ok (.getfield 108, 3) := by decide +kernel
theorem dX9_writeLeft_20 : decode cX9_writeLeft 20 = .ok (.aload_n 0, 1) := by decide +kernel
theorem dX9_writeLeft_21 : decode cX9_writeLeft 21 = .ok (.getfield 161, 3) := by decide +kernel
theorem dX9_writeLeft_24 : decode cX9_writeLeft 24 = .ok (.ishr, 1) := by decide +kernel
theorem dX9_writeLeft_25 : decode cX9_writeLeft 25 = .ok (.istore_n 2, 1) := by decide +kernel
theorem dX9_writeLeft_26 : decode cX9_writeLeft 26 = .ok (.iconst 0, 1) := by decide +kernel
theorem dX9_writeLeft_27 : decode cX9_writeLeft 27 = .ok (.istore_n 3, 1) := by decide +kernel
theorem dX9_writeLeft_28 : decode cX9_writeLeft 28 = .ok (.iload_n 3, 1) := by decide +kernel
theorem dX9_writeLeft_29 : decode cX9_writeLeft 29 = .ok (.iconst 1, 1) := by decide +kernel
theorem dX9_writeLeft_30 : decode cX9_writeLeft 30 = .ok (.aload_n 0, 1) := by decide +kernel
theorem dX9_writeLeft_31 : decode cX9_writeLeft 31 = .ok (.getfield 161, 3) := by decide +kernel
theorem dX9_writeLeft_34 : decode cX9_writeLeft 34 = .ok (.ishl, 1) := by decide +kernel
theorem dX9_writeLeft_35 : decode cX9_writeLeft 35 = .ok (.if_icmp .ge 122, 3) := by decide +kernel
theorem dX9_writeLeft_38 : decode cX9_writeLeft 38 = .ok (.iload_n 3, 1) := by decide +kernel
theorem dX9_writeLeft_39 : decode cX9_writeLeft 39 = .ok (.ifCond .ne 7, 3) := by decide +kernel
theorem dX9_writeLeft_42 : decode cX9_writeLeft 42 = .ok (.iload_n 1, 1) := by decide +kernel
theorem dX9_writeLeft_43 : decode cX9_writeLeft 43 = .ok (.goto 6, 3) := by decide +kernel
theorem dX9_writeLeft_46 : decode cX9_writeLeft 46 = .ok (.iload_n 3, 1) := by decide +kernel
theorem dX9_writeLeft_47 : decode cX9_writeLeft 47 = .ok (.iload_n 2, 1) := by decide +kernel
theorem dX9_writeLeft_48 : decode cX9_writeLeft 48 = .ok (.imul, 1) := by decide +kernel
theorem dX9_writeLeft_49 : decode cX9_writeLeft 49 = .ok (.istore 4, 2) := by decide +kernel
theorem dX9_writeLeft_51 : decode cX9_writeLeft 51 = .ok (.aload_n 0, 1) := by decide +kernel
theorem dX9_writeLeft_52 : decode cX9_writeLeft 52 = .ok (.iload 4, 2) := by decide +kernel
theorem dX9_writeLeft_54 : decode cX9_writeLeft 54 = .ok (.iload_n 3, 1) := by decide +kernel
theorem dX9_writeLeft_55 : decode cX9_writeLeft 55 = .ok (.iconst 1, 1) := by decide +kernel
theorem dX9_writeLeft_56 : decode cX9_writeLeft 56 = .ok (.iadd, 1) := by decide +kernel
theorem dX9_writeLeft_57 : decode cX9_writeLeft 57 = .ok (.iload_n 2, 1) := by decide +kernel
theorem dX9_writeLeft_58 : decode cX9_writeLeft 58 = .ok (.imul, 1) := by decide +kernel
theorem dX9_writeLeft_59 : decode cX9_writeLeft 59 = .ok (.invokevirtual 143, 3) := by decide +kernel
theorem dX9_writeLeft_62 : decode cX9_writeLeft 62 = .ok (.istore 5, 2) := by decide +kernel
theorem dX9_writeLeft_64 : decode cX9_writeLeft 64 = .ok (.aload_n 0, 1) := by decide +kernel
theorem dX9_writeLeft_65 : decode cX9_writeLeft 65 = .ok (.iconst 4, 1) := by decide +kernel
theorem dX9_writeLeft_66 : decode cX9_writeLeft 66 = .ok (.iload 5, 2) := by decide +kernel
theorem dX9_writeLeft_68 : decode cX9_writeLeft 68 = .ok (.i2l, 1) := by decide +kernel
theorem dX9_writeLeft_69 : decode cX9_writeLeft 69 = .ok (.invokevirtual 217, 3) := by decide +kernel
theorem dX9_writeLeft_72 : decode cX9_writeLeft 72 = .ok (.iload 4, 2) := by decide +kernel
theorem dX9_writeLeft_74 : decode cX9_writeLeft 74 = .ok (.istore 6, 2) := by decide +kernel
theorem dX9_writeLeft_76 : decode cX9_writeLeft 76 = .ok (.iload 6, 2) := by decide +kernel
theorem dX9_writeLeft_78 : decode cX9_writeLeft 78 = .ok (.iload_n 3, 1) := by decide +kernel
theorem dX9_writeLeft_79 : decode cX9_writeLeft 79 = .ok (.iconst 1, 1) := by decide +kernel
theorem dX9_writeLeft_80 : decode cX9_writeLeft 80 = .ok (.iadd, 1) := by decide +kernel
theorem dX9_writeLeft_81 : decode cX9_writeLeft 81 = .ok (.iload_n 2, 1) := by decide +kernel
theorem dX9_writeLeft_82 : decode cX9_writeLeft 82 = .ok (.imul, 1) := by decide +kernel
theorem dX9_writeLeft_83 : decode cX9_writeLeft 83 = .ok (.if_icmp .ge 68, 3) := by decide +kernel
theorem dX9_writeLeft_86 : decode cX9_writeLeft 86 = .ok (.aload_n 0, 1) := by decide +kernel
theorem dX9_writeLeft_87 : decode cX9_writeLeft 87 = .ok (.getfield 58, 3) := by decide +kernel
theorem dX9_writeLeft_90 : decode cX9_writeLeft 90 = .ok (.iload 6, 2) := by decide +kernel
theorem dX9_writeLeft_92 : decode cX9_writeLeft 92 = .ok (.laload, 1) := by decide +kernel
theorem dX9_writeLeft_93 : decode cX9_writeLeft 93 = .ok (.invokestatic 135, 3) := by decide +kernel
theorem dX9_writeLeft_96 : decode cX9_writeLeft 96 = .ok (.iload 5, 2) := by decide +kernel
theorem dX9_writeLeft_98 : decode cX9_writeLeft 98 = .ok (.lshr, 1) := by decide +kernel
theorem dX9_writeLeft_99 : decode cX9_writeLeft 99 = .ok (.lstore 7, 2) := by decide +kernel
theorem dX9_writeLeft_101 : decode cX9_writeLeft 101 = .ok (.lload 7, 2) := by decide +kernel
theorem dX9_writeLeft_103 : decode cX9_writeLeft 103 = .ok (.lconst 0, 1) := by decide +kernel
theorem dX9_writeLeft_104 : decode cX9_writeLeft 104 = .ok (.lcmp, 1) := by decide +kernel
theorem dX9_writeLeft_105 : decode cX9_writeLeft 105 = .ok (.ifCond .le 18, 3) := by decide +kernel
theorem dX9_writeLeft_108 : decode cX9_writeLeft 108 = .ok (.aload_n 0, 1) := by decide +kernel
theorem dX9_writeLeft_109 : decode cX9_writeLeft 109 = .ok (.iconst 1, 1) := by decide +kernel
theorem dX9_writeLeft_110 : decode cX9_writeLeft 110 = .ok (.lconst 0, 1) := by decide +kernel
theorem dX9_writeLeft_111 : decode cX9_writeLeft 111 = .ok (.invokevirtual 217, 3) := by decide +kernel
theorem dX9_writeLeft_114 : decode cX9_writeLeft 114 = .ok (.lload 7, 2) := by decide +kernel
theorem dX9_writeLeft_116 : decode cX9_writeLeft 116 = .ok (.lconst 1, 1) := by decide +kernel
theorem dX9_writeLeft_117 : decode cX9_writeLeft 117 = .ok (.lsub, 1) := by decide +kernel
theorem dX9_writeLeft_118 : decode cX9_writeLeft 118 = .ok (.lstore 7, 2) := by decide +kernel
theorem dX9_writeLeft_120 : decode cX9_writeLeft 120 = .ok (.goto (-19), 3) := by decide +kernel
theorem dX9_writeLeft_123 : decode cX9_writeLeft 123 = .ok (.aload_n 0, 1) := by decide +kernel
theorem dX9_writeLeft_124 : decode cX9_writeLeft 124 = .ok (.iconst 1, 1) := by decide +kernel
theorem dX9_writeLeft_125 : decode cX9_writeLeft 125 = .ok (.lconst 1, 1) := by decide +kernel
theorem dX9_writeLeft_126 : decode cX9_writeLeft 126 = .ok (.invokevirtual 217, 3) := by decide +kernel
theorem dX9_writeLeft_129 : decode cX9_writeLeft 129 = .ok (.aload_n 0, 1) := by decide +kernel
theorem dX9_writeLeft_130 : decode cX9_writeLeft 130 = .ok (.iload 5, 2) := by decide +kernel
theorem dX9_writeLeft_132 : decode cX9_writeLeft 132 = .ok (.aload_n 0, 1) := by decide +kernel
theorem dX9_writeLeft_133 : decode cX9_writeLeft 133 = .ok (.getfield 58, 3) := by decide +kernel
theorem dX9_writeLeft_136 : decode cX9_writeLeft 136 = .ok (.iload 6, 2) := by decide +kernel
theorem dX9_writeLeft_138 : decode cX9_writeLeft 138 = .ok (.laload, 1) := by decide +kernel
theorem dX9_writeLeft_139 : decode cX9_writeLeft 139 = .ok (.invokestatic 135, 3) := by decide +kernel
theorem dX9_writeLeft_142 : decode cX9_writeLeft 142 = .ok (.invokevirtual 217, 3) := by decide +kernel
theorem dX9_writeLeft_145 : decode cX9_writeLeft 145 = .ok (.iinc 6 1, 3) := by decide +kernel
theorem dX9_writeLeft_148 : decode cX9_writeLeft 148 = .ok (.goto (-72), 3) := by decide +kernel
theorem dX9_writeLeft_151 : decode cX9_writeLeft 151 = .ok (.iinc 3 1, 3) := by decide +kernel
theorem dX9_writeLeft_154 : decode cX9_writeLeft 154 = .ok (.goto (-126), 3) := by decide +kernel
theorem dX9_writeLeft_157 : decode cX9_writeLeft 157 = .ok (.return_, 1) := by decide +kernel
theorem dX9_writeRow_0 : decode cX9_writeRow 0 = .ok (.aload_n 0, 1) := by decide +kernel
theorem dX9_writeRow_1 : decode cX9_writeRow 1 = .ok (.iconst 1, 1) := by decide +kernel
theorem dX9_writeRow_2 : decode cX9_writeRow 2 = .ok (.lconst 0, 1) := by decide +kernel
theorem dX9_writeRow_3 : decode cX9_writeRow 3 = .ok (.invokevirtual 217, 3) := by decide +kernel
theorem dX9_writeRow_6 : decode cX9_writeRow 6 = .ok (.aload_n 0, 1) := by decide +kernel
theorem dX9_writeRow_7 : decode cX9_writeRow 7 = .ok (.bipush 6, 2) := by decide +kernel
theorem dX9_writeRow_9 : decode cX9_writeRow 9 = .ok (.aload_n 0, 1) := by decide +kernel
theorem dX9_writeRow_10 : decode cX9_writeRow 10 = .ok (.getfield 158, 3) := by decide +kernel
theorem dX9_writeRow_13 : decode cX9_writeRow 13 = .ok (.i2l, 1) := by decide +kernel
theorem dX9_writeRow_14 : decode cX9_writeRow 14 = .ok (.invokevirtual 217, 3) := by decide +kernel
theorem dX9_writeRow_17 : decode cX9_writeRow 17 = .ok (.aload_n 0, 1) := by decide +kernel
theorem dX9_writeRow_18 : decode cX9_writeRow 18 = .ok (.iconst 1, 1) := by decide +kernel
theorem dX9_writeRow_19 : decode cX9_writeRow 19 = .ok (.aload_n 0, 1) := by decide +kernel
theorem dX9_writeRow_20 : decode cX9_writeRow 20 = .ok (.getfield 168, 3) := by decide +kernel
theorem dX9_writeRow_23 : decode cX9_writeRow 23 = .ok (.ifCond .le 7, 3) := by decide +kernel
theorem dX9_writeRow_26 : decode cX9_writeRow 26 = .ok (.lconst 1, 1) := by decide +kernel
theorem dX9_writeRow_27 : decode cX9_writeRow 27 = .ok (.goto 4, 3) := by decide +kernel
theorem dX9_writeRow_30 : decode cX9_writeRow 30 = .ok (.lconst 0, 1) := by decide +kernel
theorem dX9_writeRow_31 : decode cX9_writeRow 31 = .ok (.invokevirtual 217, 3) := by decide +kernel
theorem dX9_writeRow_34 : decode cX9_writeRow 34 = .ok (.iconst 1, 1) := by decide +kernel
theorem dX9_writeRow_35 : decode cX9_writeRow 35 = .ok (.istore_n 2, 1) := by decide +kernel
theorem dX9_writeRow_36 : decode cX9_writeRow 36 = .ok (.iload_n 2, 1) := by decide +kernel
theorem dX9_writeRow_37 : decode cX9_writeRow 37 = .ok (.aload_n 0, 1) := by decide +kernel
theorem dX9_writeRow_38 : decode cX9_writeRow 38 = .ok (.getfield 168, 3) := by decide +kernel
theorem dX9_writeRow_41 : decode cX9_writeRow 41 = .ok (.if_icmp .ge 15, 3) := by decide +kernel
theorem dX9_writeRow_44 : decode cX9_writeRow 44 = .ok (.aload_n 0, 1) := by decide +kernel
theorem dX9_writeRow_45 : decode cX9_writeRow 45 = .ok (.iconst 1, 1) := by decide +kernel
theorem dX9_writeRow_46 : decode cX9_writeRow 46 = .ok (.lconst 0, 1) := by decide +kernel
theorem dX9_writeRow_47 : decode cX9_writeRow 47 = .ok (.invokevirtual 217, 3) := by decide +kernel
theorem dX9_writeRow_50 : decode cX9_writeRow 50 = .ok (.iinc 2 1, 3) := by decide +kernel
theorem dX9_writeRow_53 : decode cX9_writeRow 53 = .ok (.goto (-17), 3) := by decide +kernel
theorem dX9_writeRow_56 : decode cX9_writeRow 56 = .ok (.aload_n 0, 1) := by decide +kernel
theorem dX9_writeRow_57 : decode cX9_writeRow 57 = .ok (.getfield 168, 3) := by decide +kernel
theorem dX9_writeRow_60 : decode cX9_writeRow 60 = .ok (.ifCond .le 9, 3) := by decide +kernel
theorem dX9_writeRow_63 : decode cX9_writeRow 63 = .ok (.aload_n 0, 1) := by decide +kernel
theorem dX9_writeRow_64 : decode cX9_writeRow 64 = .ok (.iconst 1, 1) := by decide +kernel
theorem dX9_writeRow_65 : decode cX9_writeRow 65 = .ok (.lconst 1, 1) := by decide +kernel
theorem dX9_writeRow_66 : decode cX9_writeRow 66 = .ok (.invokevirtual 217, 3) := by decide +kernel
theorem dX9_writeRow_69 : decode cX9_writeRow 69 = .ok (.aload_n 0, 1) := by decide +kernel
theorem dX9_writeRow_70 : decode cX9_writeRow 70 = .ok (.getfield 158, 3) := by decide +kernel
theorem dX9_writeRow_73 : decode cX9_writeRow 73 = .ok (.ifCond .ne 7, 3) := by decide +kernel
theorem dX9_writeRow_76 : decode cX9_writeRow 76 = .ok (.iconst 1, 1) := by decide +kernel
theorem dX9_writeRow_77 : decode cX9_writeRow 77 = .ok (.goto 25, 3) := by decide +kernel
theorem dX9_writeRow_80 : decode cX9_writeRow 80 = .ok (.aload_n 0, 1) := by decide +kernel
theorem dX9_writeRow_81 : decode cX9_writeRow 81 = .ok (.getfield 158, 3) := by decide +kernel
theorem dX9_writeRow_84 : decode cX9_writeRow 84 = .ok (.iconst 1, 1) := by decide +kernel
theorem dX9_writeRow_85 : decode cX9_writeRow 85 = .ok (.if_icmp .ne 10, 3) := by decide +kernel
theorem dX9_writeRow_88 : decode cX9_writeRow 88 = .ok (.aload_n 0, 1) := by decide +kernel
theorem dX9_writeRow_89 : decode cX9_writeRow 89 = .ok (.getfield 108, 3) := by decide +kernel
theorem dX9_writeRow_92 : decode cX9_writeRow 92 = .ok (.goto 10, 3) := by decide +kernel
theorem dX9_writeRow_95 : decode cX9_writeRow 95 = .ok (.aload_n 0, 1) := by decide +kernel
theorem dX9_writeRow_96 : decode cX9_writeRow 96 = .ok (.getfield 158, 3) := by decide +kernel
theorem dX9_writeRow_99 : decode cX9_writeRow 99 = .ok (.invokestatic 117, 3) := by decide +kernel
theorem dX9_writeRow_102 : decode cX9_writeRow 102 = .ok (.istore_n 2, 1) := by decide +kernel
theorem dX9_writeRow_103 : decode cX9_writeRow 103 = .ok (.iconst 0, 1) := by decide +kernel
theorem dX9_writeRow_104 : decode cX9_writeRow 104 = .ok (.istore_n 3, 1) := by decide +kernel
theorem dX9_writeRow_105 : decode cX9_writeRow 105 = .ok (.iload_n 3, 1) := by decide +kernel
theorem dX9_writeRow_106 : decode cX9_writeRow 106 = .ok (.iload_n 2, 1) := by decide +kernel
theorem dX9_writeRow_107 : decode cX9_writeRow 107 = .ok (.if_icmp .ge 20, 3) := by decide +kernel
theorem dX9_writeRow_110 : decode cX9_writeRow 110 = .ok (.aload_n 0, 1) := by decide +kernel
theorem dX9_writeRow_111 : decode cX9_writeRow 111 = .ok (.iload_n 1, 1) := by decide +kernel
theorem dX9_writeRow_112 : decode cX9_writeRow 112 = .ok (.aload_n 0, 1) := by decide +kernel
theorem dX9_writeRow_113 : decode cX9_writeRow 113 = .ok (.getfield 55, 3) := by decide +kernel
theorem dX9_writeRow_116 : decode cX9_writeRow 116 = .ok (.iload_n 3, 1) := by decide +kernel
theorem dX9_writeRow_117 : decode cX9_writeRow 117 = .ok (.laload, 1) := by decide +kernel
theorem dX9_writeRow_118 : decode cX9_writeRow 118 = .ok (.invokevirtual 217, 3) := by decide +kernel
theorem dX9_writeRow_121 : decode cX9_writeRow 121 = .ok (.iinc 3 1, 3) := by decide +kernel
theorem dX9_writeRow_124 : decode cX9_writeRow 124 = .ok (.goto (-19), 3) := by decide +kernel
theorem dX9_writeRow_127 : decode cX9_writeRow 127 = .ok (.aload_n 0, 1) := by decide +kernel
theorem dX9_writeRow_128 : decode cX9_writeRow 128 = .ok (.getfield 158, 3) := by decide +kernel
theorem dX9_writeRow_131 : decode cX9_writeRow 131 = .ok (.bipush 8, 2) := by decide +kernel
theorem dX9_writeRow_133 : decode cX9_writeRow 133 = .ok (.if_icmp .ge 4, 3) := by decide +kernel
theorem dX9_writeRow_136 : decode cX9_writeRow 136 = .ok (.return_, 1) := by decide +kernel
theorem dX9_writeRow_137 : decode cX9_writeRow 137 = .ok (.aload_n 0, 1) := by decide +kernel
theorem dX9_writeRow_138 : decode cX9_writeRow 138 = .ok (.aload_n 0, 1) := by decide +kernel
theorem dX9_writeRow_139 : decode cX9_writeRow 139 = .ok (.getfield 158, 3) := by decide +kernel
theorem dX9_writeRow_142 : decode cX9_writeRow 142 = .ok (.invokevirtual 181, 3) := by decide +kernel
theorem dX9_writeRow_145 : decode cX9_writeRow 145 = .ok (.istore_n 3, 1) := by decide +kernel
theorem dX9_writeRow_146 : decode cX9_writeRow 146 = .ok (.aload_n 0, 1) := by decide +kernel
theorem dX9_writeRow_147 : decode cX9_writeRow 147 = .ok (.getfield 158, 3) := by decide +kernel
theorem dX9_writeRow_150 : decode cX9_writeRow 150 = .ok (.bipush 31, 2) := by decide +kernel
theorem dX9_writeRow_152 : decode cX9_writeRow 152 = .ok (.if_icmp .le 53, 3) := by decide +kernel
theorem dX9_writeRow_155 : decode cX9_writeRow 155 = .ok (.aload_n 0, 1) := by decide +kernel
theorem dX9_writeRow_156 : decode cX9_writeRow 156 = .ok (.iconst 4, 1) := by decide +kernel
theorem dX9_writeRow_157 : decode cX9_writeRow 157 = .ok (.ldc2_w 92, 3) := by decide +kernel
theorem dX9_writeRow_160 : decode cX9_writeRow 160 = .ok (.invokevirtual 217, 3) := by decide +kernel
theorem dX9_writeRow_163 : decode cX9_writeRow 163 = .ok (.aload_n 0, 1) := by decide +kernel
theorem dX9_writeRow_164 : decode cX9_writeRow 164 = .ok (.iconst 5, 1) := by decide +kernel
theorem dX9_writeRow_165 : decode cX9_writeRow 165 = .ok (.aload_n 0, 1) := by decide +kernel
theorem dX9_writeRow_166 : decode cX9_writeRow 166 = .ok (.getfield 94, 3) := by decide +kernel
theorem dX9_writeRow_169 : decode cX9_writeRow 169 = .ok (.i2l, 1) := by decide +kernel
theorem dX9_writeRow_170 : decode cX9_writeRow 170 = .ok (.invokevirtual 217, 3) := by decide +kernel
theorem dX9_writeRow_173 : decode cX9_writeRow 173 = .ok (.iconst 0, 1) := by decide +kernel
theorem dX9_writeRow_174 : decode cX9_writeRow 174 = .ok (.istore 4, 2) := by decide +kernel
theorem dX9_writeRow_176 : decode cX9_writeRow 176 = .ok (.iload 4, 2) := by decide +kernel
theorem dX9_writeRow_178 : decode cX9_writeRow 178 = .ok (.aload_n 0, 1) := by decide +kernel
theorem dX9_writeRow_179 : decode cX9_writeRow 179 = .ok (.getfield 97, 3) := by decide +kernel
theorem dX9_writeRow_182 : decode cX9_writeRow 182 = .ok (.if_icmp .ge 23, 3) := by decide +kernel
theorem dX9_writeRow_185 : decode cX9_writeRow 185 = .ok (.aload_n 0, 1) := by decide +kernel
theorem dX9_writeRow_186 : decode cX9_writeRow 186 = .ok (.bipush 15, 2) := by decide +kernel
theorem dX9_writeRow_188 : decode cX9_writeRow 188 = .ok (.aload_n 0, 1) := by decide +kernel
theorem dX9_writeRow_189 : decode cX9_writeRow 189 = .ok (.getfield 23, 3) := by decide +kernel
theorem dX9_writeRow_192 : decode cX9_writeRow 192 = .ok (.iload 4, 2) := by decide +kernel
theorem dX9_writeRow_194 : decode cX9_writeRow 194 = .ok (.iaload, 1) := by decide +kernel
theorem dX9_writeRow_195 : decode cX9_writeRow 195 = .ok (.i2l, 1) := by decide +kernel
theorem dX9_writeRow_196 : decode cX9_writeRow 196 = .ok (.invokevirtual 217, 3) := by decide +kernel
theorem dX9_writeRow_199 : decode cX9_writeRow 199 = .ok (.iinc 4 1, 3) := by decide +kernel
theorem dX9_writeRow_202 : decode cX9_writeRow 202 = .ok (.goto (-26), 3) := by decide +kernel
theorem dX9_writeRow_205 : decode cX9_writeRow 205 = .ok (.aload_n 0, 1) := by decide +kernel
theorem dX9_writeRow_206 : decode cX9_writeRow 206 = .ok (.aload_n 0, 1) := by decide +kernel
theorem dX9_writeRow_207 : decode cX9_writeRow 207 = .ok (.getfield 158, 3) := by decide +kernel
theorem dX9_writeRow_210 : decode cX9_writeRow 210 = .ok (.invokestatic 117, 3) := by decide +kernel
theorem dX9_writeRow_213 : decode cX9_writeRow 213 = .ok (.invokevirtual 221, 3) := by decide +kernel
theorem dX9_writeRow_216 : decode cX9_writeRow 216 = .ok (.return_, 1) := by decide +kernel
theorem dX9_writeFrame_0 : decode cX9_writeFrame 0 = .ok (.aload_n 0, 1) := by decide +kernel
theorem dX9_writeFrame_1 : decode cX9_writeFrame 1 = .ok (.getfield 192, 3) := by decide +kernel
theorem dX9_writeFrame_4 : decode cX9_writeFrame 4 = .ok (.ldc2_w 73, 3) := by decide +kernel
theorem dX9_writeFrame_7 : decode cX9_writeFrame 7 = .ok (.ldiv, 1) := by decide +kernel
theorem dX9_writeFrame_8 : decode cX9_writeFrame 8 = .ok (.l2i, 1) := by decide +kernel
theorem dX9_writeFrame_9 : decode cX9_writeFrame 9 = .ok (.istore_n 3, 1) := by decide +kernel
theorem dX9_writeFrame_10 : decode cX9_writeFrame 10 = .ok (.aload_n 0, 1) := by decide +kernel
theorem dX9_writeFrame_11 : decode cX9_writeFrame 11 = .ok (.getfield 46, 3) := by decide +kernel
theorem dX9_writeFrame_14 : decode cX9_writeFrame 14 = .ok (.iload_n 1, 1) := by decide +kernel
theorem dX9_writeFrame_15 : decode cX9_writeFrame 15 = .ok (.aload_n 0, 1) := by decide +kernel
theorem dX9_writeFrame_16 : decode cX9_writeFrame 16 = .ok (.iload_n 1, 1) := by decide +kernel
theorem dX9_writeFrame_17 : decode cX9_writeFrame 17 = .ok (.iload_n 2, 1) := by decide +kernel
theorem dX9_writeFrame_18 : decode cX9_writeFrame 18 = .ok (.invokevirtual 224, 3) := by decide +kernel
theorem dX9_writeFrame_21 : decode cX9_writeFrame 21 = .ok (.iastore, 1) := by decide +kernel
theorem dX9_writeFrame_22 : decode cX9_writeFrame 22 = .ok (.aload_n 0, 1) := by decide +kernel
theorem dX9_writeFrame_23 : decode cX9_writeFrame 23 = .ok (.bipush 14, 2) := by decide +kernel
theorem dX9_writeFrame_25 : decode cX9_writeFrame 25 = .ok (.ldc2_w 227, 3) := by decide +kernel
theorem dX9_writeFrame_28 : decode cX9_writeFrame 28 = .ok (.invokevirtual 217, 3) := by decide +kernel
theorem dX9_writeFrame_31 : decode cX9_writeFrame 31 = .ok (.aload_n 0, 1) := by decide +kernel
theorem dX9_writeFrame_32 : decode cX9_writeFrame 32 = .ok (.iconst 2, 1) := by decide +kernel
theorem dX9_writeFrame_33 : decode cX9_writeFrame 33 = .ok (.lconst 0, 1) := by decide +kernel
theorem dX9_writeFrame_34 : decode cX9_writeFrame 34 = .ok (.invokevirtual 217, 3) := by decide +kernel
theorem dX9_writeFrame_37 : decode cX9_writeFrame 37 = .ok (.aload_n 0, 1) := by decide +kernel
theorem dX9_writeFrame_38 : decode cX9_writeFrame 38 = .ok (.iconst 4, 1) := by decide +kernel
theorem dX9_writeFrame_39 : decode cX9_writeFrame 39 = .ok (.ldc2_w 115, 3) := by decide +kernel
theorem dX9_writeFrame_42 : decode cX9_writeFrame 42 = .ok (.invokevirtual 217, 3) := by decide +kernel
theorem dX9_writeFrame_45 : decode cX9_writeFrame 45 = .ok (.aload_n 0, 1) := by decide +kernel
theorem dX9_writeFrame_46 : decode cX9_writeFrame 46 = .ok (.iconst 4, 1) := by decide +kernel
theorem dX9_writeFrame_47 : decode cX9_writeFrame 47 = .ok (.lconst 0, 1) := by decide +kernel
theorem dX9_writeFrame_48 : decode cX9_writeFrame 48 = .ok (.invokevirtual 217, 3) := by decide +kernel
theorem dX9_writeFrame_51 : decode cX9_writeFrame 51 = .ok (.aload_n 0, 1) := by decide +kernel
theorem dX9_writeFrame_52 : decode cX9_writeFrame 52 = .ok (.iconst 4, 1) := by decide +kernel
theorem dX9_writeFrame_53 : decode cX9_writeFrame 53 = .ok (.aload_n 0, 1) := by decide +kernel
theorem dX9_writeFrame_54 : decode cX9_writeFrame 54 = .ok (.getfield 46, 3) := by decide +kernel
theorem dX9_writeFrame_57 : decode cX9_writeFrame 57 = .ok (.iload_n 1, 1) := by decide +kernel
theorem dX9_writeFrame_58 : decode cX9_writeFrame 58 = .ok (.iaload, 1) := by decide +kernel
theorem dX9_writeFrame_59 : decode cX9_writeFrame 59 = .ok (.i2l, 1) := by decide +kernel
theorem dX9_writeFrame_60 : decode cX9_writeFrame 60 = .ok (.invokevirtual 217, 3) := by decide +kernel
theorem dX9_writeFrame_63 : decode cX9_writeFrame 63 = .ok (.aload_n 0, 1) := by decide +kernel
theorem dX9_writeFrame_64 : decode cX9_writeFrame 64 = .ok (.iconst 4, 1) := by decide +kernel
theorem dX9_writeFrame_65 : decode cX9_writeFrame 65 = .ok (.lconst 0, 1) := by decide +kernel
theorem dX9_writeFrame_66 : decode cX9_writeFrame 66 = .ok (.invokevirtual 217, 3) := by decide +kernel
theorem dX9_writeFrame_69 : decode cX9_writeFrame 69 = .ok (.aload_n 0, 1) := by decide +kernel
theorem dX9_writeFrame_70 : decode cX9_writeFrame 70 = .ok (.iload_n 1, 1) := by decide +kernel
theorem dX9_writeFrame_71 : decode cX9_writeFrame 71 = .ok (.invokevirtual 229, 3) := by decide +kernel
theorem dX9_writeFrame_74 : decode cX9_writeFrame 74 = .ok (.aload_n 0, 1) := by decide +kernel
theorem dX9_writeFrame_75 : decode cX9_writeFrame 75 = .ok (.bipush 8, 2) := by decide +kernel
theorem dX9_writeFrame_77 : decode cX9_writeFrame 77 = .ok (.iload_n 2, 1) := by decide +kernel
theorem dX9_writeFrame_78 : decode cX9_writeFrame 78 = .ok (.iconst 1, 1) := by decide +kernel
theorem dX9_writeFrame_79 : decode cX9_writeFrame 79 = .ok (.isub, 1) := by decide +kernel
theorem dX9_writeFrame_80 : decode cX9_writeFrame 80 = .ok (.i2l, 1) := by decide +kernel
theorem dX9_writeFrame_81 : decode cX9_writeFrame 81 = .ok (.invokevirtual 217, 3) := by decide +kernel
theorem dX9_writeFrame_84 : decode cX9_writeFrame 84 = .ok (.aload_n 0, 1) := by decide +kernel
theorem dX9_writeFrame_85 : decode cX9_writeFrame 85 = .ok (.bipush 8, 2) := by decide +kernel
theorem dX9_writeFrame_87 : decode cX9_writeFrame 87 = .ok (.aload_n 0, 1) := by decide +kernel
theorem dX9_writeFrame_88 : decode cX9_writeFrame 88 = .ok (.getfield 30, 3) := by decide +kernel
theorem dX9_writeFrame_91 : decode cX9_writeFrame 91 = .ok (.iload_n 3, 1) := by decide +kernel
theorem dX9_writeFrame_92 : decode cX9_writeFrame 92 = .ok (.aload_n 0, 1) := by decide +kernel
theorem dX9_writeFrame_93 : decode cX9_writeFrame 93 = .ok (.getfield 192, 3) := by decide +kernel
theorem dX9_writeFrame_96 : decode cX9_writeFrame 96 = .ok (.ldc2_w 73, 3) := by decide +kernel
theorem dX9_writeFrame_99 : decode cX9_writeFrame 99 = .ok (.ldiv, 1) := by decide +kernel
theorem dX9_writeFrame_100 : decode cX9_writeFrame 100 = .ok (.l2i, 1) := by decide +kernel
theorem dX9_writeFrame_101 : decode cX9_writeFrame 101 = .ok (.iconst 0, 1) := by decide +kernel
theorem dX9_writeFrame_102 : decode cX9_writeFrame 102 = .ok (.invokestatic 232, 3) := by decide +kernel
theorem dX9_writeFrame_105 : decode cX9_writeFrame 105 = .ok (.i2l, 1) := by decide +kernel
theorem dX9_writeFrame_106 : decode cX9_writeFrame 106 = .ok (.invokevirtual 217, 3) := by decide +kernel
theorem dX9_writeFrame_109 : decode cX9_writeFrame 109 = .ok (.iconst 0, 1) := by decide +kernel
theorem dX9_writeFrame_110 : decode cX9_writeFrame 110 = .ok (.istore 4, 2) := by decide +kernel
theorem dX9_writeFrame_112 : decode cX9_writeFrame 112 = .ok (.iload 4, 2) := by decide +kernel
theorem dX9_writeFrame_114 : decode cX9_writeFrame 114 = .ok (.aload_n 0, 1) := by decide +kernel
theorem dX9_writeFrame_115 : decode cX9_writeFrame 115 = .ok (.getfield 7, 3) := by decide +kernel
theorem dX9_writeFrame_118 : decode cX9_writeFrame 118 = .ok (.if_icmp .ge 101, 3) := by decide +kernel
theorem dX9_writeFrame_121 : decode cX9_writeFrame 121 = .ok (.aload_n 0, 1) := by decide +kernel
theorem dX9_writeFrame_122 : decode cX9_writeFrame 122 = .ok (.getfield 46, 3) := by decide +kernel
theorem dX9_writeFrame_125 : decode cX9_writeFrame 125 = .ok (.iload_n 1, 1) := by decide +kernel
theorem dX9_writeFrame_126 : decode cX9_writeFrame 126 = .ok (.iaload, 1) := by decide +kernel
theorem dX9_writeFrame_127 : decode cX9_writeFrame 127 = .ok (.iload 4, 2) := by decide +kernel
theorem dX9_writeFrame_129 : decode cX9_writeFrame 129 = .ok (.invokestatic 236, 3) := by decide +kernel
theorem dX9_writeFrame_132 : decode cX9_writeFrame 132 = .ok (.istore 5, 2) := by decide +kernel
theorem dX9_writeFrame_134 : decode cX9_writeFrame 134 = .ok (.aload_n 0, 1) := by decide +kernel
theorem dX9_writeFrame_135 : decode cX9_writeFrame 135 = .ok (.iload_n 1, 1) := by decide +kernel
theorem dX9_writeFrame_136 : decode cX9_writeFrame 136 = .ok (.iload 5, 2) := by decide +kernel
theorem dX9_writeFrame_138 : decode cX9_writeFrame 138 = .ok (.iload_n 2, 1) := by decide +kernel
theorem dX9_writeFrame_139 : decode cX9_writeFrame 139 = .ok (.invokevirtual 214, 3) := by decide +kernel
theorem dX9_writeFrame_142 : decode cX9_writeFrame 142 = .ok (.lstore 6, 2) := by decide +kernel
theorem dX9_writeFrame_144 : decode cX9_writeFrame 144 = .ok (.iload_n 1, 1) := by decide +kernel
theorem dX9_writeFrame_145 : decode cX9_writeFrame 145 = .ok (.aload_n 0, 1) := by decide +kernel
theorem dX9_writeFrame_146 : decode cX9_writeFrame 146 = .ok (.getfield 7, 3) := by decide +kernel
theorem dX9_writeFrame_149 : decode cX9_writeFrame 149 = .ok (.imul, 1) := by decide +kernel
theorem dX9_writeFrame_150 : decode cX9_writeFrame 150 = .ok (.iload 4, 2) := by decide +kernel
theorem dX9_writeFrame_152 : decode cX9_writeFrame 152 = .ok (.iadd, 1) := by decide +kernel
theorem dX9_writeFrame_153 : decode cX9_writeFrame 153 = .ok (.istore 8, 2) := by decide +kernel
theorem dX9_writeFrame_155 : decode cX9_writeFrame 155 = .ok (.aload_n 0, 1) := by decide +kernel
theorem dX9_writeFrame_156 : decode cX9_writeFrame 156 = .ok (.getfield 34, 3) := by decide +kernel
theorem dX9_writeFrame_159 : decode cX9_writeFrame 159 = .ok (.iload 8, 2) := by decide +kernel
theorem dX9_writeFrame_161 : decode cX9_writeFrame 161 = .ok (.aload_n 0, 1) := by decide +kernel
theorem dX9_writeFrame_162 : decode cX9_writeFrame 162 = .ok (.getfield 158, 3) := by decide +kernel
theorem dX9_writeFrame_165 : decode cX9_writeFrame 165 = .ok (.iastore, 1) := by decide +kernel
theorem dX9_writeFrame_166 : decode cX9_writeFrame 166 = .ok (.aload_n 0, 1) := by decide +kernel
theorem dX9_writeFrame_167 : decode cX9_writeFrame 167 = .ok (.getfield 37, 3) := by decide +kernel
theorem dX9_writeFrame_170 : decode cX9_writeFrame 170 = .ok (.iload 8, 2) := by decide +kernel
theorem dX9_writeFrame_172 : decode cX9_writeFrame 172 = .ok (.aload_n 0, 1) := by decide +kernel
theorem dX9_writeFrame_173 : decode cX9_writeFrame 173 = .ok (.getfield 168, 3) := by decide +kernel
theorem dX9_writeFrame_176 : decode cX9_writeFrame 176 = .ok (.iastore, 1) := by decide +kernel
theorem dX9_writeFrame_177 : decode cX9_writeFrame 177 = .ok (.aload_n 0, 1) := by decide +kernel
theorem dX9_writeFrame_178 : decode cX9_writeFrame 178 = .ok (.getfield 40, 3) := by decide +kernel
theorem dX9_writeFrame_181 : decode cX9_writeFrame 181 = .ok (.iload 8, 2) := by decide +kernel
theorem dX9_writeFrame_183 : decode cX9_writeFrame 183 = .ok (.aload_n 0, 1) := by decide +kernel
theorem dX9_writeFrame_184 : decode cX9_writeFrame 184 = .ok (.getfield 161, 3) := by decide +kernel
theorem dX9_writeFrame_187 : decode cX9_writeFrame 187 = .ok (.iastore, 1) := by decide +kernel
theorem dX9_writeFrame_188 : decode cX9_writeFrame 188 = .ok (.aload_n 0, 1) := by decide +kernel
theorem dX9_writeFrame_189 : decode cX9_writeFrame 189 = .ok (.getfield 43, 3) := by decide +kernel
theorem dX9_writeFrame_192 : decode cX9_writeFrame 192 = .ok (.iload 8, 2) := by decide +kernel
theorem dX9_writeFrame_194 : decode cX9_writeFrame 194 = .ok (.lload 6, 2) := by decide +kernel
theorem dX9_writeFrame_196 : decode cX9_writeFrame 196 = .ok (.l2i, 1) := by decide +kernel
theorem dX9_writeFrame_197 : decode cX9_writeFrame 197 = .ok (.iastore, 1) := by decide +kernel
theorem dX9_writeFrame_198 : decode cX9_writeFrame 198 = .ok (.aload_n 0, 1) := by decide +kernel
theorem dX9_writeFrame_199 : decode cX9_writeFrame 199 = .ok (.aload_n 0, 1) := by decide +kernel
theorem dX9_writeFrame_200 : decode cX9_writeFrame 200 = .ok (.iload 5, 2) := by decide +kernel
theorem dX9_writeFrame_202 : decode cX9_writeFrame 202 = .ok (.invokevirtual 207, 3) := by decide +kernel
theorem dX9_writeFrame_205 : decode cX9_writeFrame 205 = .ok (.aload_n 0, 1) := by decide +kernel
theorem dX9_writeFrame_206 : decode cX9_writeFrame 206 = .ok (.getfield 168, 3) := by decide +kernel
theorem dX9_writeFrame_209 : decode cX9_writeFrame 209 = .ok (.isub, 1) := by decide +kernel
theorem dX9_writeFrame_210 : decode cX9_writeFrame 210 = .ok (.invokevirtual 239, 3) := by decide +kernel
theorem dX9_writeFrame_213 : decode cX9_writeFrame 213 = .ok (.iinc 4 1, 3) := by decide +kernel
theorem dX9_writeFrame_216 : decode cX9_writeFrame 216 = .ok (.goto (-104), 3) := by decide +kernel
theorem dX9_writeFrame_219 : decode cX9_writeFrame 219 = .ok (.aload_n 0, 1) := by decide +kernel
theorem dX9_writeFrame_220 : decode cX9_writeFrame 220 = .ok (.getfield 192, 3) := by decide +kernel
theorem dX9_writeFrame_223 : decode cX9_writeFrame 223 = .ok (.ldc2_w 73, 3) := by decide +kernel
theorem dX9_writeFrame_226 : decode cX9_writeFrame 226 = .ok (.lrem, 1) := by decide +kernel
theorem dX9_writeFrame_227 : decode cX9_writeFrame 227 = .ok (.lconst 0, 1) := by decide +kernel
theorem dX9_writeFrame_228 : decode cX9_writeFrame 228 = .ok (.lcmp, 1) := by decide +kernel
theorem dX9_writeFrame_229 : decode cX9_writeFrame 229 = .ok (.ifCond .eq 12, 3) := by decide +kernel
theorem dX9_writeFrame_232 : decode cX9_writeFrame 232 = .ok (.aload_n 0, 1) := by decide +kernel
theorem dX9_writeFrame_233 : decode cX9_writeFrame 233 = .ok (.iconst 1, 1) := by decide +kernel
theorem dX9_writeFrame_234 : decode cX9_writeFrame 234 = .ok (.lconst 0, 1) := by decide +kernel
theorem dX9_writeFrame_235 : decode cX9_writeFrame 235 = .ok (.invokevirtual 217, 3) := by decide +kernel
theorem dX9_writeFrame_238 : decode cX9_writeFrame 238 = .ok (.goto (-19), 3) := by decide +kernel
theorem dX9_writeFrame_241 : decode cX9_writeFrame 241 = .ok (.aload_n 0, 1) := by decide +kernel
theorem dX9_writeFrame_242 : decode cX9_writeFrame 242 = .ok (.bipush 16, 2) := by decide +kernel
theorem dX9_writeFrame_244 : decode cX9_writeFrame 244 = .ok (.aload_n 0, 1) := by decide +kernel
theorem dX9_writeFrame_245 : decode cX9_writeFrame 245 = .ok (.getfield 30, 3) := by decide +kernel
theorem dX9_writeFrame_248 : decode cX9_writeFrame 248 = .ok (.iload_n 3, 1) := by decide +kernel
theorem dX9_writeFrame_249 : decode cX9_writeFrame 249 = .ok (.aload_n 0, 1) := by decide +kernel
theorem dX9_writeFrame_250 : decode cX9_writeFrame 250 = .ok (.getfield 192, 3) := by decide +kernel
theorem dX9_writeFrame_253 : decode cX9_writeFrame 253 = .ok (.ldc2_w 73, 3) := by decide +kernel
theorem dX9_writeFrame_256 : decode cX9_writeFrame 256 = .ok (.ldiv, 1) := by decide +kernel
theorem dX9_writeFrame_257 : decode cX9_writeFrame 257 = .ok (.l2i, 1) := by decide +kernel
theorem dX9_writeFrame_258 : decode cX9_writeFrame 258 = .ok (.iconst 1, 1) := by decide +kernel
theorem dX9_writeFrame_259 : decode cX9_writeFrame 259 = .ok (.invokestatic 232, 3) := by decide +kernel
theorem dX9_writeFrame_262 : decode cX9_writeFrame 262 = .ok (.i2l, 1) := by decide +kernel
theorem dX9_writeFrame_263 : decode cX9_writeFrame 263 = .ok (.invokevirtual 217, 3) := by decide +kernel
theorem dX9_writeFrame_266 : decode cX9_writeFrame 266 = .ok (.return_, 1) := by decide +kernel
theorem dX9_make_0 : decode cX9_make 0 = .ok (.aload_n 0, 1) := by decide +kernel
theorem dX9_make_1 : decode cX9_make 1 = .ok (.aload_n 0, 1) := by decide +kernel
theorem dX9_make_2 : decode cX9_make 2 = .ok (.getfield 89, 3) := by decide +kernel
theorem dX9_make_5 : decode cX9_make 5 = .ok (.aload_n 0, 1) := by decide +kernel
theorem dX9_make_6 : decode cX9_make 6 = .ok (.getfield 7, 3) := by decide +kernel
theorem dX9_make_9 : decode cX9_make 9 = .ok (.irem, 1) := by decide +kernel
theorem dX9_make_10 : decode cX9_make 10 = .ok (.ifCond .ne 7, 3) := by decide +kernel
theorem dX9_make_13 : decode cX9_make 13 = .ok (.iconst 0, 1) := by decide +kernel
theorem dX9_make_14 : decode cX9_make 14 = .ok (.goto 4, 3) := by decide +kernel
theorem dX9_make_17 : decode cX9_make 17 = .ok (.iconst 1, 1) := by decide +kernel
theorem dX9_make_18 : decode cX9_make 18 = .ok (.putfield 70, 3) := by decide +kernel
theorem dX9_make_21 : decode cX9_make 21 = .ok (.aload_n 0, 1) := by decide +kernel
theorem dX9_make_22 : decode cX9_make 22 = .ok (.getfield 70, 3) := by decide +kernel
theorem dX9_make_25 : decode cX9_make 25 = .ok (.ifCond .le 5, 3) := by decide +kernel
theorem dX9_make_28 : decode cX9_make 28 = .ok (.iconst 0, 1) := by decide +kernel
theorem dX9_make_29 : decode cX9_make 29 = .ok (.ireturn, 1) := by decide +kernel
theorem dX9_make_30 : decode cX9_make 30 = .ok (.aload_n 0, 1) := by decide +kernel
theorem dX9_make_31 : decode cX9_make 31 = .ok (.lconst 0, 1) := by decide +kernel
theorem dX9_make_32 : decode cX9_make 32 = .ok (.putfield 192, 3) := by decide +kernel
theorem dX9_make_35 : decode cX9_make 35 = .ok (.aload_n 0, 1) := by decide +kernel
theorem dX9_make_36 : decode cX9_make 36 = .ok (.getfield 89, 3) := by decide +kernel
theorem dX9_make_39 : decode cX9_make 39 = .ok (.aload_n 0, 1) := by decide +kernel
theorem dX9_make_40 : decode cX9_make 40 = .ok (.getfield 7, 3) := by decide +kernel
theorem dX9_make_43 : decode cX9_make 43 = .ok (.idiv, 1) := by decide +kernel
theorem dX9_make_44 : decode cX9_make 44 = .ok (.istore_n 1, 1) := by decide +kernel
theorem dX9_make_45 : decode cX9_make 45 = .ok (.aload_n 0, 1) := by decide +kernel
theorem dX9_make_46 : decode cX9_make 46 = .ok (.bipush 32, 2) := by decide +kernel
theorem dX9_make_48 : decode cX9_make 48 = .ok (.ldc2_w 242, 3) := by decide +kernel
theorem dX9_make_51 : decode cX9_make 51 = .ok (.invokevirtual 217, 3) := by decide +kernel
theorem dX9_make_54 : decode cX9_make 54 = .ok (.aload_n 0, 1) := by decide +kernel
theorem dX9_make_55 : decode cX9_make 55 = .ok (.iconst 1, 1) := by decide +kernel
theorem dX9_make_56 : decode cX9_make 56 = .ok (.lconst 1, 1) := by decide +kernel
theorem dX9_make_57 : decode cX9_make 57 = .ok (.invokevirtual 217, 3) := by decide +kernel
theorem dX9_make_60 : decode cX9_make 60 = .ok (.aload_n 0, 1) := by decide +kernel
theorem dX9_make_61 : decode cX9_make 61 = .ok (.bipush 7, 2) := by decide +kernel
theorem dX9_make_63 : decode cX9_make 63 = .ok (.lconst 0, 1) := by decide +kernel
theorem dX9_make_64 : decode cX9_make 64 = .ok (.invokevirtual 217, 3) := by decide +kernel
theorem dX9_make_67 : decode cX9_make 67 = .ok (.aload_n 0, 1) := by decide +kernel
theorem dX9_make_68 : decode cX9_make 68 = .ok (.bipush 24, 2) := by decide +kernel
theorem dX9_make_70 : decode cX9_make 70 = .ok (.ldc2_w 244, 3) := by decide +kernel
theorem dX9_make_73 : decode cX9_make 73 = .ok (.invokevirtual 217, 3) := by decide +kernel
theorem dX9_make_76 : decode cX9_make 76 = .ok (.aload_n 0, 1) := by decide +kernel
theorem dX9_make_77 : decode cX9_make 77 = .ok (.bipush 16, 2) := by decide +kernel
theorem dX9_make_79 : decode cX9_make 79 = .ok (.aload_n 0, 1) := by decide +kernel
theorem dX9_make_80 : decode cX9_make 80 = .ok (.getfield 16, 3) := by decide +kernel
theorem dX9_make_83 : decode cX9_make 83 = .ok (.i2l, 1) := by decide +kernel
theorem dX9_make_84 : decode cX9_make 84 = .ok (.invokevirtual 217, 3) := by decide +kernel
theorem dX9_make_87 : decode cX9_make 87 = .ok (.aload_n 0, 1) := by decide +kernel
theorem dX9_make_88 : decode cX9_make 88 = .ok (.bipush 16, 2) := by decide +kernel
theorem dX9_make_90 : decode cX9_make 90 = .ok (.aload_n 0, 1) := by decide +kernel
theorem dX9_make_91 : decode cX9_make 91 = .ok (.getfield 16, 3) := by decide +kernel
theorem dX9_make_94 : decode cX9_make 94 = .ok (.i2l, 1) := by decide +kernel
theorem dX9_make_95 : decode cX9_make 95 = .ok (.invokevirtual 217, 3) := by decide +kernel
theorem dX9_make_98 : decode cX9_make 98 = .ok (.aload_n 0, 1) := by decide +kernel
theorem dX9_make_99 : decode cX9_make 99 = .ok (.bipush 48, 2) := by decide +kernel
theorem dX9_make_101 : decode cX9_make 101 = .ok (.lconst 0, 1) := by decide +kernel
theorem dX9_make_102 : decode cX9_make 102 = .ok (.invokevirtual 217, 3) := by decide +kernel
theorem dX9_make_105 : decode cX9_make 105 = .ok (.aload_n 0, 1) := by decide +kernel
theorem dX9_make_106 : decode cX9_make 106 = .ok (.bipush 20, 2) := by decide +kernel
theorem dX9_make_108 : decode cX9_make 108 = .ok (.aload_n 0, 1) := by decide +kernel
theorem dX9_make_109 : decode cX9_make 109 = .ok (.getfield 20, 3) := by decide +kernel
theorem dX9_make_112 : decode cX9_make 112 = .ok (.i2l, 1) := by decide +kernel
theorem dX9_make_113 : decode cX9_make 113 = .ok (.invokevirtual 217, 3) := by decide +kernel
theorem dX9_make_116 : decode cX9_make 116 = .ok (.aload_n 0, 1) := by decide +kernel
theorem dX9_make_117 : decode cX9_make 117 = .ok (.iconst 3, 1) := by decide +kernel
theorem dX9_make_118 : decode cX9_make 118 = .ok (.aload_n 0, 1) := by decide +kernel
theorem dX9_make_119 : decode cX9_make 119 = .ok (.getfield 7, 3) := by decide +kernel
theorem dX9_make_122 : decode cX9_make 122 = .ok (.iconst 1, 1) := by decide +kernel
theorem dX9_make_123 : decode cX9_make 123 = .ok (.isub, 1) := by decide +kernel
theorem dX9_make_124 : decode cX9_make 124 = .ok (.i2l, 1) := by decide +kernel
theorem dX9_make_125 : decode cX9_make 125 = .ok (.invokevirtual 217, 3) := by decide +kernel
theorem dX9_make_128 : decode cX9_make 128 = .ok (.aload_n 0, 1) := by decide +kernel
theorem dX9_make_129 : decode cX9_make 129 = .ok (.iconst 5, 1) := by decide +kernel
theorem dX9_make_130 : decode cX9_make 130 = .ok (.aload_n 0, 1) := by decide +kernel
theorem dX9_make_131 : decode cX9_make 131 = .ok (.getfield 13, 3) := by decide +kernel
theorem dX9_make_134 : decode cX9_make 134 = .ok (.iconst 1, 1) := by decide +kernel
theorem dX9_make_135 : decode cX9_make 135 = .ok (.isub, 1) := by decide +kernel
theorem dX9_make_136 : decode cX9_make 136 = .ok (.i2l, 1) := by decide +kernel
theorem dX9_make_137 : decode cX9_make 137 = .ok (.invokevirtual 217, 3) := by decide +kernel
theorem dX9_make_140 : decode cX9_make 140 = .ok (.aload_n 0, 1) := by decide +kernel
theorem dX9_make_141 : decode cX9_make 141 = .ok (.bipush 36, 2) := by decide +kernel
theorem dX9_make_143 : decode cX9_make 143 = .ok (.iload_n 1, 1) := by decide +kernel
theorem dX9_make_144 : decode cX9_make 144 = .ok (.i2l, 1) := by decide +kernel
theorem dX9_make_145 : decode cX9_make 145 = .ok (.invokevirtual 217, 3) := by decide +kernel
theorem dX9_make_148 : decode cX9_make 148 = .ok (.aload_n 0, 1) := by decide +kernel
theorem dX9_make_149 : decode cX9_make 149 = .ok (.bipush 64, 2) := by decide +kernel
theorem dX9_make_151 : decode cX9_make 151 = .ok (.lconst 0, 1) := by decide +kernel
theorem dX9_make_152 : decode cX9_make 152 = .ok (.invokevirtual 217, 3) := by decide +kernel
theorem dX9_make_155 : decode cX9_make 155 = .ok (.aload_n 0, 1) := by decide +kernel
theorem dX9_make_156 : decode cX9_make 156 = .ok (.bipush 64, 2) := by decide +kernel
theorem dX9_make_158 : decode cX9_make 158 = .ok (.lconst 0, 1) := by decide +kernel
theorem dX9_make_159 : decode cX9_make 159 = .ok (.invokevirtual 217, 3) := by decide +kernel
theorem dX9_make_162 : decode cX9_make 162 = .ok (.aload_n 0, 1) := by decide +kernel
theorem dX9_make_163 : decode cX9_make 163 = .ok (.iconst 0, 1) := by decide +kernel
theorem dX9_make_164 : decode cX9_make 164 = .ok (.putfield 246, 3) := by decide +kernel
theorem dX9_make_167 : decode cX9_make 167 = .ok (.aload_n 0, 1) := by decide +kernel
theorem dX9_make_168 : decode cX9_make 168 = .ok (.aload_n 0, 1) := by decide +kernel
theorem dX9_make_169 : decode cX9_make 169 = .ok (.getfield 7, 3) := by decide +kernel
theorem dX9_make_172 : decode cX9_make 172 = .ok (.putfield 249, 3) := by decide +kernel
theorem dX9_make_175 : decode cX9_make 175 = .ok (.iconst 0, 1) := by decide +kernel
theorem dX9_make_176 : decode cX9_make 176 = .ok (.istore_n 2, 1) := by decide +kernel
theorem dX9_make_177 : decode cX9_make 177 = .ok (.iload_n 2, 1) := by decide +kernel
theorem dX9_make_178 : decode cX9_make 178 = .ok (.iload_n 1, 1) := by decide +kernel
theorem dX9_make_179 : decode cX9_make 179 = .ok (.if_icmp .ge 51, 3) := by decide +kernel
theorem dX9_make_182 : decode cX9_make 182 = .ok (.aload_n 0, 1) := by decide +kernel
theorem dX9_make_183 : decode cX9_make 183 = .ok (.aload_n 0, 1) := by decide +kernel
theorem dX9_make_184 : decode cX9_make 184 = .ok (.getfield 246, 3) := by decide +kernel
theorem dX9_make_187 : decode cX9_make 187 = .ok (.iload_n 1, 1) := by decide +kernel
theorem dX9_make_188 : decode cX9_make 188 = .ok (.iload_n 2, 1) := by decide +kernel
theorem dX9_make_189 : decode cX9_make 189 = .ok (.isub, 1) := by decide +kernel
theorem dX9_make_190 : decode cX9_make 190 = .ok (.aload_n 0, 1) := by decide +kernel
theorem dX9_make_191 : decode cX9_make 191 = .ok (.getfield 16, 3) := by decide +kernel
theorem dX9_make_194 : decode cX9_make 194 = .ok (.if_icmp .ge 9, 3) := by decide +kernel
theorem dX9_make_197 : decode cX9_make 197 = .ok (.iload_n 1, 1) := by decide +kernel
theorem dX9_make_198 : decode cX9_make 198 = .ok (.iload_n 2, 1) := by decide +kernel
theorem dX9_make_199 : decode cX9_make 199 = .ok (.isub, 1) := by decide +kernel
theorem dX9_make_200 : decode cX9_make 200 = .ok (.goto 7, 3) := by decide +kernel
theorem dX9_make_203 : decode cX9_make 203 = .ok (.aload_n 0, 1) := by decide +kernel
theorem dX9_make_204 : decode cX9_make 204 = .ok (.getfield 16, 3) := by decide +kernel
theorem dX9_make_207 : decode cX9_make 207 = .ok (.invokevirtual 252, 3) := by decide +kernel
theorem dX9_make_210 : decode cX9_make 210 = .ok (.aload_n 0, 1) := by decide +kernel
theorem dX9_make_211 : decode cX9_make 211 = .ok (.dup, 1) := by decide +kernel
theorem dX9_make_212 : decode cX9_make 212 = .ok (.getfield 246, 3) := by decide +kernel
theorem dX9_make_215 : decode cX9_make 215 = .ok (.iconst 1, 1) := by decide +kernel
theorem dX9_make_216 : decode cX9_make 216 = .ok (.iadd, 1) := by decide +kernel
theorem dX9_make_217 : decode cX9_make 217 = .ok (.putfield 246, 3) := by decide +kernel
theorem dX9_make_220 : decode cX9_make 220 = .ok (.iload_n 2, 1) := by decide +kernel
theorem dX9_make_221 : decode cX9_make 221 = .ok (.aload_n 0, 1) := by decide +kernel
theorem dX9_make_222 : decode cX9_make 222 = .ok (.getfield 16, 3) := by decide +kernel
theorem dX9_make_225 : decode cX9_make 225 = .ok (.iadd, 1) := by decide +kernel
theorem dX9_make_226 : decode cX9_make 226 = .ok (.istore_n 2, 1) := by decide +kernel
theorem dX9_make_227 : decode cX9_make 227 = .ok (.goto (-50), 3) := by decide +kernel
theorem dX9_make_230 : decode cX9_make 230 = .ok (.aload_n 0, 1) := by decide +kernel
theorem dX9_make_231 : decode cX9_make 231 = .ok (.aload_n 0, 1) := by decide +kernel
theorem dX9_make_232 : decode cX9_make 232 = .ok (.getfield 192, 3) := by decide +kernel
theorem dX9_make_235 : decode cX9_make 235 = .ok (.ldc2_w 73, 3) := by decide +kernel
theorem dX9_make_238 : decode cX9_make 238 = .ok (.ldiv, 1) := by decide +kernel
theorem dX9_make_239 : decode cX9_make 239 = .ok (.l2i, 1) := by decide +kernel
theorem dX9_make_240 : decode cX9_make 240 = .ok (.putfield 256, 3) := by decide +kernel
theorem dX9_make_243 : decode cX9_make 243 = .ok (.aload_n 0, 1) := by decide +kernel
theorem dX9_make_244 : decode cX9_make 244 = .ok (.getfield 256, 3) := by decide +kernel
theorem dX9_make_247 : decode cX9_make 247 = .ok (.ireturn, 1) := by decide +kernel
theorem dX9_octet_0 : decode cX9_octet 0 = .ok (.aload_n 0, 1) := by decide +kernel
theorem dX9_octet_1 : decode cX9_octet 1 = .ok (.iconst 0, 1) := by decide +kernel
theorem dX9_octet_2 : decode cX9_octet 2 = .ok (.putfield 70, 3) := by decide +kernel
theorem dX9_octet_5 : decode cX9_octet 5 = .ok (.iload_n 1, 1) := by decide +kernel
theorem dX9_octet_6 : decode cX9_octet 6 = .ok (.i2l, 1) := by decide +kernel
theorem dX9_octet_7 : decode cX9_octet 7 = .ok (.lconst 0, 1) := by decide +kernel
theorem dX9_octet_8 : decode cX9_octet 8 = .ok (.aload_n 0, 1) := by decide +kernel
theorem dX9_octet_9 : decode cX9_octet 9 = .ok (.getfield 256, 3) := by decide +kernel
theorem dX9_octet_12 : decode cX9_octet 12 = .ok (.iconst 1, 1) := by decide +kernel
theorem dX9_octet_13 : decode cX9_octet 13 = .ok (.isub, 1) := by decide +kernel
theorem dX9_octet_14 : decode cX9_octet 14 = .ok (.i2l, 1) := by decide +kernel
theorem dX9_octet_15 : decode cX9_octet 15 = .ok (.invokestatic 75, 3) := by decide +kernel
theorem dX9_octet_18 : decode cX9_octet 18 = .ok (.ifCond .eq 14, 3) := by decide +kernel
theorem dX9_octet_21 : decode cX9_octet 21 = .ok (.aload_n 0, 1) := by decide +kernel
theorem dX9_octet_22 : decode cX9_octet 22 = .ok (.getfield 30, 3) := by decide +kernel
theorem dX9_octet_25 : decode cX9_octet 25 = .ok (.iload_n 1, 1) := by decide +kernel
theorem dX9_octet_26 : decode cX9_octet 26 = .ok (.invokestatic 198, 3) := by decide +kernel
theorem dX9_octet_29 : decode cX9_octet 29 = .ok (.goto 4, 3) := by decide +kernel
theorem dX9_octet_32 : decode cX9_octet 32 = .ok (.iconst (-1), 1) := by decide +kernel
theorem dX9_octet_33 : decode cX9_octet 33 = .ok (.ireturn, 1) := by decide +kernel
theorem dX9_way_0 : decode cX9_way 0 = .ok (.aload_n 0, 1) := by decide +kernel
theorem dX9_way_1 : decode cX9_way 1 = .ok (.iload_n 1, 1) := by decide +kernel
theorem dX9_way_2 : decode cX9_way 2 = .ok (.i2l, 1) := by decide +kernel
theorem dX9_way_3 : decode cX9_way 3 = .ok (.lconst 0, 1) := by decide +kernel
theorem dX9_way_4 : decode cX9_way 4 = .ok (.aload_n 0, 1) := by decide +kernel
theorem dX9_way_5 : decode cX9_way 5 = .ok (.getfield 246, 3) := by decide +kernel
theorem dX9_way_8 : decode cX9_way 8 = .ok (.iconst 1, 1) := by decide +kernel
theorem dX9_way_9 : decode cX9_way 9 = .ok (.isub, 1) := by decide +kernel
theorem dX9_way_10 : decode cX9_way 10 = .ok (.i2l, 1) := by decide +kernel
theorem dX9_way_11 : decode cX9_way 11 = .ok (.invokestatic 75, 3) := by decide +kernel
theorem dX9_way_14 : decode cX9_way 14 = .ok (.ifCond .eq 35, 3) := by decide +kernel
theorem dX9_way_17 : decode cX9_way 17 = .ok (.iload_n 2, 1) := by decide +kernel
theorem dX9_way_18 : decode cX9_way 18 = .ok (.i2l, 1) := by decide +kernel
theorem dX9_way_19 : decode cX9_way 19 = .ok (.lconst 0, 1) := by decide +kernel
theorem dX9_way_20 : decode cX9_way 20 = .ok (.aload_n 0, 1) := by decide +kernel
theorem dX9_way_21 : decode cX9_way 21 = .ok (.getfield 249, 3) := by decide +kernel
theorem dX9_way_24 : decode cX9_way 24 = .ok (.iconst 1, 1) := by decide +kernel
theorem dX9_way_25 : decode cX9_way 25 = .ok (.isub, 1) := by decide +kernel
theorem dX9_way_26 : decode cX9_way 26 = .ok (.i2l, 1) := by decide +kernel
theorem dX9_way_27 : decode cX9_way 27 = .ok (.invokestatic 75, 3) := by decide +kernel
theorem dX9_way_30 : decode cX9_way 30 = .ok (.ifCond .eq 19, 3) := by decide +kernel
theorem dX9_way_33 : decode cX9_way 33 = .ok (.iload_n 3, 1) := by decide +kernel
theorem dX9_way_34 : decode cX9_way 34 = .ok (.i2l, 1) := by decide +kernel
theorem dX9_way_35 : decode cX9_way 35 = .ok (.lconst 0, 1) := by decide +kernel
theorem dX9_way_36 : decode cX9_way 36 = .ok (.ldc2_w 79, 3) := by decide +kernel
theorem dX9_way_39 : decode cX9_way 39 = .ok (.invokestatic 75, 3) := by decide +kernel
theorem dX9_way_42 : decode cX9_way 42 = .ok (.ifCond .eq 7, 3) := by decide +kernel
theorem dX9_way_45 : decode cX9_way 45 = .ok (.iconst 0, 1) := by decide +kernel
theorem dX9_way_46 : decode cX9_way 46 = .ok (.goto 4, 3) := by decide +kernel
theorem dX9_way_49 : decode cX9_way 49 = .ok (.iconst 1, 1) := by decide +kernel
theorem dX9_way_50 : decode cX9_way 50 = .ok (.putfield 70, 3) := by decide +kernel
theorem dX9_way_53 : decode cX9_way 53 = .ok (.aload_n 0, 1) := by decide +kernel
theorem dX9_way_54 : decode cX9_way 54 = .ok (.getfield 70, 3) := by decide +kernel
theorem dX9_way_57 : decode cX9_way 57 = .ok (.ifCond .le 5, 3) := by decide +kernel
theorem dX9_way_60 : decode cX9_way 60 = .ok (.iconst 0, 1) := by decide +kernel
theorem dX9_way_61 : decode cX9_way 61 = .ok (.ireturn, 1) := by decide +kernel
theorem dX9_way_62 : decode cX9_way 62 = .ok (.iload_n 1, 1) := by decide +kernel
theorem dX9_way_63 : decode cX9_way 63 = .ok (.aload_n 0, 1) := by decide +kernel
theorem dX9_way_64 : decode cX9_way 64 = .ok (.getfield 249, 3) := by decide +kernel
theorem dX9_way_67 : decode cX9_way 67 = .ok (.imul, 1) := by decide +kernel
theorem dX9_way_68 : decode cX9_way 68 = .ok (.iload_n 2, 1) := by decide +kernel
theorem dX9_way_69 : decode cX9_way 69 = .ok (.iadd, 1) := by decide +kernel
theorem dX9_way_70 : decode cX9_way 70 = .ok (.istore 4, 2) := by decide +kernel
theorem dX9_way_72 : decode cX9_way 72 = .ok (.iload_n 3, 1) := by decide +kernel
theorem dX9_way_73 : decode cX9_way 73 = .ok (.ifCond .ne 13, 3) := by decide +kernel
theorem dX9_way_76 : decode cX9_way 76 = .ok (.aload_n 0, 1) := by decide +kernel
theorem dX9_way_77 : decode cX9_way 77 = .ok (.getfield 34, 3) := by decide +kernel
theorem dX9_way_80 : decode cX9_way 80 = .ok (.iload 4, 2) := by decide +kernel
theorem dX9_way_82 : decode cX9_way 82 = .ok (.iaload, 1) := by decide +kernel
theorem dX9_way_83 : decode cX9_way 83 = .ok (.goto 54, 3) := by decide +kernel
theorem dX9_way_86 : decode cX9_way 86 = .ok (.iload_n 3, 1) := by decide +kernel
theorem dX9_way_87 : decode cX9_way 87 = .ok (.iconst 1, 1) := by decide +kernel
theorem dX9_way_88 : decode cX9_way 88 = .ok (.if_icmp .ne 13, 3) := by decide +kernel
theorem dX9_way_91 : decode cX9_way 91 = .ok (.aload_n 0, 1) := by decide +kernel
theorem dX9_way_92 : decode cX9_way 92 = .ok (.getfield 37, 3) := by decide +kernel
theorem dX9_way_95 : decode cX9_way 95 = .ok (.iload 4, 2) := by decide +kernel
theorem dX9_way_97 : decode cX9_way 97 = .ok (.iaload, 1) := by decide +kernel
theorem dX9_way_98 : decode cX9_way 98 = .ok (.goto 39, 3) := by decide +kernel
theorem dX9_way_101 : decode cX9_way 101 = .ok (.iload_n 3, 1) := by decide +kernel
theorem dX9_way_102 : decode cX9_way 102 = .ok (.iconst 2, 1) := by decide +kernel
theorem dX9_way_103 : decode cX9_way 103 = .ok (.if_icmp .ne 13, 3) := by decide +kernel
theorem dX9_way_106 : decode cX9_way 106 = .ok (.aload_n 0, 1) := by decide +kernel
theorem dX9_way_107 : decode cX9_way 107 = .ok (.getfield 40, 3) := by decide +kernel
theorem dX9_way_110 : decode cX9_way 110 = .ok (.iload 4, 2) := by decide +kernel
theorem dX9_way_112 : decode cX9_way 112 = .ok (.iaload, 1) := by decide +kernel
theorem dX9_way_113 : decode cX9_way 113 = .ok (.goto 24, 3) := by decide +kernel
theorem dX9_way_116 : decode cX9_way 116 = .ok (.iload_n 3, 1) := by decide +kernel
theorem dX9_way_117 : decode cX9_way 117 = .ok (.iconst 3, 1) := by decide +kernel
theorem dX9_way_118 : decode cX9_way 118 = .ok (.if_icmp .ne 13, 3) := by decide +kernel
theorem dX9_way_121 : decode cX9_way 121 = .ok (.aload_n 0, 1) := by decide +kernel
theorem dX9_way_122 : decode cX9_way 122 = .ok (.getfield 43, 3) := by decide +kernel
theorem dX9_way_125 : decode cX9_way 125 = .ok (.iload 4, 2) := by decide +kernel
theorem dX9_way_127 : decode cX9_way 127 = .ok (.iaload, 1) := by decide +kernel
theorem dX9_way_128 : decode cX9_way 128 = .ok (.goto 9, 3) := by decide +kernel
theorem dX9_way_131 : decode cX9_way 131 = .ok (.aload_n 0, 1) := by decide +kernel
theorem dX9_way_132 : decode cX9_way 132 = .ok (.getfield 46, 3) := by decide +kernel
theorem dX9_way_135 : decode cX9_way 135 = .ok (.iload_n 1, 1) := by decide +kernel
theorem dX9_way_136 : decode cX9_way 136 = .ok (.iaload, 1) := by decide +kernel
theorem dX9_way_137 : decode cX9_way 137 = .ok (.ireturn, 1) := by decide +kernel
theorem dX9_feed_0 : decode cX9_feed 0 = .ok (.aload_n 0, 1) := by decide +kernel
theorem dX9_feed_1 : decode cX9_feed 1 = .ok (.iconst 0, 1) := by decide +kernel
theorem dX9_feed_2 : decode cX9_feed 2 = .ok (.putfield 70, 3) := by decide +kernel
theorem dX9_feed_5 : decode cX9_feed 5 = .ok (.iload_n 3, 1) := by decide +kernel
theorem dX9_feed_6 : decode cX9_feed 6 = .ok (.i2l, 1) := by decide +kernel
theorem dX9_feed_7 : decode cX9_feed 7 = .ok (.lconst 1, 1) := by decide +kernel
theorem dX9_feed_8 : decode cX9_feed 8 = .ok (.ldc2_w 73, 3) := by decide +kernel
theorem dX9_feed_11 : decode cX9_feed 11 = .ok (.invokestatic 75, 3) := by decide +kernel
theorem dX9_feed_14 : decode cX9_feed 14 = .ok (.ifCond .eq 15, 3) := by decide +kernel
theorem dX9_feed_17 : decode cX9_feed 17 = .ok (.aload_n 0, 1) := by decide +kernel
theorem dX9_feed_18 : decode cX9_feed 18 = .ok (.getfield 259, 3) := by decide +kernel
theorem dX9_feed_21 : decode cX9_feed 21 = .ok (.iload_n 3, 1) := by decide +kernel
theorem dX9_feed_22 : decode cX9_feed 22 = .ok (.iadd, 1) := by decide +kernel
theorem dX9_feed_23 : decode cX9_feed 23 = .ok (.sipush 20000, 3) := by decide +kernel
theorem dX9_feed_26 : decode cX9_feed 26 = .ok (.if_icmp .le 5, 3) := by decide +kernel
theorem dX9_feed_29 : decode cX9_feed 29 = .ok (.iconst 0, 1) := by decide +kernel
theorem dX9_feed_30 : decode cX9_feed 30 = .ok (.ireturn, 1) := by decide +kernel
theorem dX9_feed_31 : decode cX9_feed 31 = .ok (.iconst 0, 1) := by decide +kernel
theorem dX9_feed_32 : decode cX9_feed 32 = .ok (.istore 4, 2) := by decide +kernel
theorem dX9_feed_34 : decode cX9_feed 34 = .ok (.iload 4, 2) := by decide +kernel
theorem dX9_feed_36 : decode cX9_feed 36 = .ok (.iload_n 3, 1) := by decide +kernel
theorem dX9_feed_37 : decode cX9_feed 37 = .ok (.if_icmp .ge 87, 3) := by decide +kernel
theorem dX9_feed_40 : decode cX9_feed 40 = .ok (.bipush 56, 2) := by decide +kernel
theorem dX9_feed_42 : decode cX9_feed 42 = .ok (.bipush 8, 2) := by decide +kernel
theorem dX9_feed_44 : decode cX9_feed 44 = .ok (.aload_n 0, 1) := by decide +kernel
theorem dX9_feed_45 : decode cX9_feed 45 = .ok (.getfield 259, 3) := by decide +kernel
theorem dX9_feed_48 : decode cX9_feed 48 = .ok (.bipush 8, 2) := by decide +kernel
theorem dX9_feed_50 : decode cX9_feed 50 = .ok (.irem, 1) := by decide +kernel
theorem dX9_feed_51 : decode cX9_feed 51 = .ok (.imul, 1) := by decide +kernel
theorem dX9_feed_52 : decode cX9_feed 52 = .ok (.isub, 1) := by decide +kernel
theorem dX9_feed_53 : decode cX9_feed 53 = .ok (.istore 5, 2) := by decide +kernel
theorem dX9_feed_55 : decode cX9_feed 55 = .ok (.aload_n 0, 1) := by decide +kernel
theorem dX9_feed_56 : decode cX9_feed 56 = .ok (.getfield 49, 3) := by decide +kernel
theorem dX9_feed_59 : decode cX9_feed 59 = .ok (.aload_n 0, 1) := by decide +kernel
theorem dX9_feed_60 : decode cX9_feed 60 = .ok (.getfield 259, 3) := by decide +kernel
theorem dX9_feed_63 : decode cX9_feed 63 = .ok (.bipush 8, 2) := by decide +kernel
theorem dX9_feed_65 : decode cX9_feed 65 = .ok (.idiv, 1) := by decide +kernel
theorem dX9_feed_66 : decode cX9_feed 66 = .ok (.aload_n 0, 1) := by decide +kernel
theorem dX9_feed_67 : decode cX9_feed 67 = .ok (.getfield 49, 3) := by decide +kernel
theorem dX9_feed_70 : decode cX9_feed 70 = .ok (.aload_n 0, 1) := by decide +kernel
theorem dX9_feed_71 : decode cX9_feed 71 = .ok (.getfield 259, 3) := by decide +kernel
theorem dX9_feed_74 : decode cX9_feed 74 = .ok (.bipush 8, 2) := by decide +kernel
theorem dX9_feed_76 : decode cX9_feed 76 = .ok (.idiv, 1) := by decide +kernel
theorem dX9_feed_77 : decode cX9_feed 77 = .ok (.laload, 1) := by decide +kernel
theorem dX9_feed_78 : decode cX9_feed 78 = .ok (.ldc2_w 262, 3) := by decide +kernel
theorem dX9_feed_81 : decode cX9_feed 81 = .ok (.iload 5, 2) := by decide +kernel
theorem dX9_feed_83 : decode cX9_feed 83 = .ok (.lshl, 1) := by decide +kernel
theorem dX9_feed_84 : decode cX9_feed 84 = .ok (.ldc2_w 171, 3) := by decide +kernel
theorem dX9_feed_87 : decode cX9_feed 87 = .ok (.lxor, 1) := by decide +kernel
theorem dX9_feed_88 : decode cX9_feed 88 = .ok (.land, 1) := by decide +kernel
theorem dX9_feed_89 : decode cX9_feed 89 = .ok (.lload_n 1, 1) := by decide +kernel
theorem dX9_feed_90 : decode cX9_feed 90 = .ok (.bipush 56, 2) := by decide +kernel
theorem dX9_feed_92 : decode cX9_feed 92 = .ok (.bipush 8, 2) := by decide +kernel
theorem dX9_feed_94 : decode cX9_feed 94 = .ok (.iload 4, 2) := by decide +kernel
theorem dX9_feed_96 : decode cX9_feed 96 = .ok (.imul, 1) := by decide +kernel
theorem dX9_feed_97 : decode cX9_feed 97 = .ok (.isub, 1) := by decide +kernel
theorem dX9_feed_98 : decode cX9_feed 98 = .ok (.lshr, 1) := by decide +kernel
theorem dX9_feed_99 : decode cX9_feed 99 = .ok (.ldc2_w 262, 3) := by decide +kernel
theorem dX9_feed_102 : decode cX9_feed 102 = .ok (.land, 1) := by decide +kernel
theorem dX9_feed_103 : decode cX9_feed 103 = .ok (.iload 5, 2) := by decide +kernel
theorem dX9_feed_105 : decode cX9_feed 105 = .ok (.lshl, 1) := by decide +kernel
theorem dX9_feed_106 : decode cX9_feed 106 = .ok (.lor, 1) := by decide +kernel
theorem dX9_feed_107 : decode cX9_feed 107 = .ok (.lastore, 1) := by decide +kernel
theorem dX9_feed_108 : decode cX9_feed 108 = .ok (.aload_n 0, 1) := by decide +kernel
theorem dX9_feed_109 : decode cX9_feed 109 = .ok (.dup, 1) := by decide +kernel
theorem dX9_feed_110 : decode cX9_feed 110 = .ok (.getfield 259, 3) := by decide +kernel
theorem dX9_feed_113 : decode cX9_feed 113 = .ok (.iconst 1, 1) := by decide +kernel
theorem dX9_feed_114 : decode cX9_feed 114 = .ok (.iadd, 1) := by decide +kernel
theorem dX9_feed_115 : decode cX9_feed 115 = .ok (.putfield 259, 3) := by decide +kernel
theorem dX9_feed_118 : decode cX9_feed 118 = .ok (.iinc 4 1, 3) := by decide +kernel
theorem dX9_feed_121 : decode cX9_feed 121 = .ok (.goto (-87), 3) := by decide +kernel
theorem dX9_feed_124 : decode cX9_feed 124 = .ok (.iconst 1, 1) := by decide +kernel
theorem dX9_feed_125 : decode cX9_feed 125 = .ok (.ireturn, 1) := by decide +kernel
theorem dX9_again_0 : decode cX9_again 0 = .ok (.aload_n 0, 1) := by decide +kernel
theorem dX9_again_1 : decode cX9_again 1 = .ok (.iconst 0, 1) := by decide +kernel
theorem dX9_again_2 : decode cX9_again 2 = .ok (.putfield 70, 3) := by decide +kernel
theorem dX9_again_5 : decode cX9_again 5 = .ok (.iconst 0, 1) := by decide +kernel
theorem dX9_again_6 : decode cX9_again 6 = .ok (.istore_n 1, 1) := by decide +kernel
theorem dX9_again_7 : decode cX9_again 7 = .ok (.iload_n 1, 1) := by decide +kernel
theorem dX9_again_8 : decode cX9_again 8 = .ok (.sipush 2500, 3) := by decide +kernel
theorem dX9_again_11 : decode cX9_again 11 = .ok (.if_icmp .ge 21, 3) := by decide +kernel
theorem dX9_again_14 : decode cX9_again 14 = .ok (.aload_n 0, 1) := by decide +kernel
theorem dX9_again_15 : decode cX9_again 15 = .ok (.getfield 49, 3) := by decide +kernel
theorem dX9_again_18 : decode cX9_again 18 = .ok (.iload_n 1, 1) := by decide +kernel
theorem dX9_again_19 : decode cX9_again 19 = .ok (.aload_n 0, 1) := by decide +kernel
theorem dX9_again_20 : decode cX9_again 20 = .ok (.getfield 30, 3) := by decide +kernel
theorem dX9_again_23 : decode cX9_again 23 = .ok (.iload_n 1, 1) := by decide +kernel
theorem dX9_again_24 : decode cX9_again 24 = .ok (.laload, 1) := by decide +kernel
theorem dX9_again_25 : decode cX9_again 25 = .ok (.lastore, 1) := by decide +kernel
theorem dX9_again_26 : decode cX9_again 26 = .ok (.iinc 1 1, 3) := by decide +kernel
theorem dX9_again_29 : decode cX9_again 29 = .ok (.goto (-22), 3) := by decide +kernel
theorem dX9_again_32 : decode cX9_again 32 = .ok (.aload_n 0, 1) := by decide +kernel
theorem dX9_again_33 : decode cX9_again 33 = .ok (.aload_n 0, 1) := by decide +kernel
theorem dX9_again_34 : decode cX9_again 34 = .ok (.getfield 256, 3) := by decide +kernel
theorem dX9_again_37 : decode cX9_again 37 = .ok (.putfield 259, 3) := by decide +kernel
theorem dX9_again_40 : decode cX9_again 40 = .ok (.aload_n 0, 1) := by decide +kernel
theorem dX9_again_41 : decode cX9_again 41 = .ok (.getfield 259, 3) := by decide +kernel
theorem dX9_again_44 : decode cX9_again 44 = .ok (.ireturn, 1) := by decide +kernel
theorem dX9_wrong_0 : decode cX9_wrong 0 = .ok (.aload_n 0, 1) := by decide +kernel
theorem dX9_wrong_1 : decode cX9_wrong 1 = .ok (.getfield 264, 3) := by decide +kernel
theorem dX9_wrong_4 : decode cX9_wrong 4 = .ok (.ifCond .ne 14, 3) := by decide +kernel
theorem dX9_wrong_7 : decode cX9_wrong 7 = .ok (.aload_n 0, 1) := by decide +kernel
theorem dX9_wrong_8 : decode cX9_wrong 8 = .ok (.iload_n 1, 1) := by decide +kernel
theorem dX9_wrong_9 : decode cX9_wrong 9 = .ok (.putfield 264, 3) := by decide +kernel
theorem dX9_wrong_12 : decode cX9_wrong 12 = .ok (.aload_n 0, 1) := by decide +kernel
theorem dX9_wrong_13 : decode cX9_wrong 13 = .ok (.lload_n 2, 1) := by decide +kernel
theorem dX9_wrong_14 : decode cX9_wrong 14 = .ok (.l2i, 1) := by decide +kernel
theorem dX9_wrong_15 : decode cX9_wrong 15 = .ok (.putfield 52, 3) := by decide +kernel
theorem dX9_wrong_18 : decode cX9_wrong 18 = .ok (.iconst 0, 1) := by decide +kernel
theorem dX9_wrong_19 : decode cX9_wrong 19 = .ok (.ireturn, 1) := by decide +kernel
theorem dX9_take_0 : decode cX9_take 0 = .ok (.aload_n 0, 1) := by decide +kernel
theorem dX9_take_1 : decode cX9_take 1 = .ok (.getfield 264, 3) := by decide +kernel
theorem dX9_take_4 : decode cX9_take 4 = .ok (.ifCond .le 5, 3) := by decide +kernel
theorem dX9_take_7 : decode cX9_take 7 = .ok (.lconst 0, 1) := by decide +kernel
theorem dX9_take_8 : decode cX9_take 8 = .ok (.lreturn, 1) := by decide +kernel
theorem dX9_take_9 : decode cX9_take 9 = .ok (.aload_n 0, 1) := by decide +kernel
theorem dX9_take_10 : decode cX9_take 10 = .ok (.getfield 267, 3) := by decide +kernel
theorem dX9_take_13 : decode cX9_take 13 = .ok (.iload_n 1, 1) := by decide +kernel
theorem dX9_take_14 : decode cX9_take 14 = .ok (.i2l, 1) := by decide +kernel
theorem dX9_take_15 : decode cX9_take 15 = .ok (.ladd, 1) := by decide +kernel
theorem dX9_take_16 : decode cX9_take 16 = .ok (.aload_n 0, 1) := by decide +kernel
theorem dX9_take_17 : decode cX9_take 17 = .ok (.getfield 270, 3) := by decide +kernel
theorem dX9_take_20 : decode cX9_take 20 = .ok (.lcmp, 1) := by decide +kernel
theorem dX9_take_21 : decode cX9_take 21 = .ok (.ifCond .le 15, 3) := by decide +kernel
theorem dX9_take_24 : decode cX9_take 24 = .ok (.aload_n 0, 1) := by decide +kernel
theorem dX9_take_25 : decode cX9_take 25 = .ok (.iconst 1, 1) := by decide +kernel
theorem dX9_take_26 : decode cX9_take 26 = .ok (.aload_n 0, 1) := by decide +kernel
theorem dX9_take_27 : decode cX9_take 27 = .ok (.getfield 267, 3) := by decide +kernel
theorem dX9_take_30 : decode cX9_take 30 = .ok (.invokevirtual 273, 3) := by decide +kernel
theorem dX9_take_33 : decode cX9_take 33 = .ok (.istore_n 2, 1) := by decide +kernel
theorem dX9_take_34 : decode cX9_take 34 = .ok (.lconst 0, 1) := by decide +kernel
theorem dX9_take_35 : decode cX9_take 35 = .ok (.lreturn, 1) := by decide +kernel
theorem dX9_take_36 : decode cX9_take 36 = .ok (.lconst 0, 1) := by decide +kernel
theorem dX9_take_37 : decode cX9_take 37 = .ok (.lstore_n 2, 1) := by decide +kernel
theorem dX9_take_38 : decode cX9_take 38 = .ok (.iconst 0, 1) := by decide +kernel
theorem dX9_take_39 : decode cX9_take 39 = .ok (.istore 4, 2) := by decide +kernel
theorem dX9_take_41 : decode cX9_take 41 = .ok (.iload 4, 2) := by decide +kernel
theorem dX9_take_43 : decode cX9_take 43 = .ok (.iload_n 1, 1) := by decide +kernel
theorem dX9_take_44 : decode cX9_take 44 = .ok (.if_icmp .ge 60, 3) := by decide +kernel
theorem dX9_take_47 : decode cX9_take 47 = .ok (.aload_n 0, 1) := by decide +kernel
theorem dX9_take_48 : decode cX9_take 48 = .ok (.getfield 267, 3) := by decide +kernel
theorem dX9_take_51 : decode cX9_take 51 = .ok (.ldc2_w 73, 3) := by decide +kernel
theorem dX9_take_54 : decode cX9_take 54 = .ok (.ldiv, 1) := by decide +kernel
theorem dX9_take_55 : decode cX9_take 55 = .ok (.l2i, 1) := by decide +kernel
theorem dX9_take_56 : decode cX9_take 56 = .ok (.istore 5, 2) := by decide +kernel
theorem dX9_take_58 : decode cX9_take 58 = .ok (.lload_n 2, 1) := by decide +kernel
theorem dX9_take_59 : decode cX9_take 59 = .ok (.iconst 1, 1) := by decide +kernel
theorem dX9_take_60 : decode cX9_take 60 = .ok (.lshl, 1) := by decide +kernel
theorem dX9_take_61 : decode cX9_take 61 = .ok (.aload_n 0, 1) := by decide +kernel
theorem dX9_take_62 : decode cX9_take 62 = .ok (.getfield 49, 3) := by decide +kernel
theorem dX9_take_65 : decode cX9_take 65 = .ok (.iload 5, 2) := by decide +kernel
theorem dX9_take_67 : decode cX9_take 67 = .ok (.invokestatic 198, 3) := by decide +kernel
theorem dX9_take_70 : decode cX9_take 70 = .ok (.bipush 7, 2) := by decide +kernel
theorem dX9_take_72 : decode cX9_take 72 = .ok (.aload_n 0, 1) := by decide +kernel
theorem dX9_take_73 : decode cX9_take 73 = .ok (.getfield 267, 3) := by decide +kernel
theorem dX9_take_76 : decode cX9_take 76 = .ok (.ldc2_w 73, 3) := by decide +kernel
theorem dX9_take_79 : decode cX9_take 79 = .ok (.lrem, 1) := by decide +kernel
theorem dX9_take_80 : decode cX9_take 80 = .ok (.l2i, 1) := by decide +kernel
theorem dX9_take_81 : decode cX9_take 81 = .ok (.isub, 1) := by decide +kernel
theorem dX9_take_82 : decode cX9_take 82 = .ok (.ishr, 1) := by decide +kernel
theorem dX9_take_83 : decode cX9_take 83 = .ok (.iconst 1, 1) := by decide +kernel
theorem dX9_take_84 : decode cX9_take 84 = .ok (.iand, 1) := by decide +kernel
theorem dX9_take_85 : decode cX9_take 85 = .ok (.i2l, 1) := by decide +kernel
theorem dX9_take_86 : decode cX9_take 86 = .ok (.lor, 1) := by decide +kernel
theorem dX9_take_87 : decode cX9_take 87 = .ok (.lstore_n 2, 1) := by decide +kernel
theorem dX9_take_88 : decode cX9_take 88 = .ok (.aload_n 0, 1) := by decide +kernel
theorem dX9_take_89 : decode cX9_take 89 = .ok (.dup, 1) := by decide +kernel
theorem dX9_take_90 : decode cX9_take 90 = .ok (.getfield 267, 3) := by decide +kernel
theorem dX9_take_93 : decode cX9_take 93 = .ok (.lconst 1, 1) := by decide +kernel
theorem dX9_take_94 : decode cX9_take 94 = .ok (.ladd, 1) := by decide +kernel
theorem dX9_take_95 : decode cX9_take 95 = .ok (.putfield 267, 3) := by decide +kernel
theorem dX9_take_98 : decode cX9_take 98 = .ok (.iinc 4 1, 3) := by decide +kernel
theorem dX9_take_101 : decode cX9_take 101 = .ok (.goto (-60), 3) := by decide +kernel
theorem dX9_take_104 : decode cX9_take 104 = .ok (.lload_n 2, 1) := by decide +kernel
theorem dX9_take_105 : decode cX9_take 105 = .ok (.lreturn, 1) := by decide +kernel
theorem dX9_takeSigned_0 : decode cX9_takeSigned 0 = .ok (.aload_n 0, 1) := by decide +kernel
theorem dX9_takeSigned_1 : decode cX9_takeSigned 1 = .ok (.iload_n 1, 1) := by decide +kernel
theorem dX9_takeSigned_2 : decode cX9_takeSigned 2 = .ok (.invokevirtual 277, 3) := by decide +kernel
theorem dX9_takeSigned_5 : decode cX9_takeSigned 5 = .ok (.lstore_n 2, 1) := by decide +kernel
theorem dX9_takeSigned_6 : decode cX9_takeSigned 6 = .ok (.iload_n 1, 1) := by decide +kernel
theorem dX9_takeSigned_7 : decode cX9_takeSigned 7 = .ok (.ifCond .le 23, 3) := by decide +kernel
theorem dX9_takeSigned_10 : decode cX9_takeSigned 10 = .ok (.lload_n 2, 1) := by decide +kernel
theorem dX9_takeSigned_11 : decode cX9_takeSigned 11 = .ok (.iload_n 1, 1) := by decide +kernel
theorem dX9_takeSigned_12 : decode cX9_takeSigned 12 = .ok (.iconst 1, 1) := by decide +kernel
theorem dX9_takeSigned_13 : decode cX9_takeSigned 13 = .ok (.isub, 1) := by decide +kernel
theorem dX9_takeSigned_14 : decode cX9_takeSigned 14 = .ok (.lshr, 1) := by decide +kernel
theorem dX9_takeSigned_15 : decode cX9_takeSigned 15 = .ok (.lconst 1, 1) := by decide +kernel
theorem dX9_takeSigned_16 : decode cX9_takeSigned 16 = .ok (.land, 1) := by decide +kernel
theorem dX9_takeSigned_17 : decode cX9_takeSigned 17 = .ok (.lconst 1, 1) := by decide +kernel
theorem dX9_takeSigned_18 : decode cX9_takeSigned 18 = .ok (.lcmp, 1) := by decide +kernel
theorem dX9_takeSigned_19 : decode cX9_takeSigned 19 = .ok (.ifCond .ne 11, 3) := by decide +kernel
theorem dX9_takeSigned_22 : decode cX9_takeSigned 22 = .ok (.lload_n 2, 1) := by decide +kernel
theorem dX9_takeSigned_23 : decode cX9_takeSigned 23 = .ok (.lconst 1, 1) := by decide +kernel
theorem dX9_takeSigned_24 : decode cX9_takeSigned 24 = .ok (.iload_n 1, 1) := by decide +kernel
theorem dX9_takeSigned_25 : decode cX9_takeSigned 25 = .ok (.lshl, 1) := by decide +kernel
theorem dX9_takeSigned_26 : decode cX9_takeSigned 26 = .ok (.lsub, 1) := by decide +kernel
theorem dX9_takeSigned_27 : decode cX9_takeSigned 27 = .ok (.goto 4, 3) := by decide +kernel
theorem dX9_takeSigned_30 : decode cX9_takeSigned 30 = .ok (.lload_n 2, 1) := by decide +kernel
theorem dX9_takeSigned_31 : decode cX9_takeSigned 31 = .ok (.lreturn, 1) := by decide +kernel
theorem dX9_takeIn_0 : decode cX9_takeIn 0 = .ok (.aload_n 0, 1) := by decide +kernel
theorem dX9_takeIn_1 : decode cX9_takeIn 1 = .ok (.getfield 267, 3) := by decide +kernel
theorem dX9_takeIn_4 : decode cX9_takeIn 4 = .ok (.lstore 6, 2) := by decide +kernel
theorem dX9_takeIn_6 : decode cX9_takeIn 6 = .ok (.aload_n 0, 1) := by decide +kernel
theorem dX9_takeIn_7 : decode cX9_takeIn 7 = .ok (.iload_n 1, 1) := by decide +kernel
theorem dX9_takeIn_8 : decode cX9_takeIn 8 = .ok (.invokevirtual 277, 3) := by decide +kernel
theorem dX9_takeIn_11 : decode cX9_takeIn 11 = .ok (.lstore 8, 2) := by decide +kernel
theorem dX9_takeIn_13 : decode cX9_takeIn 13 = .ok (.aload_n 0, 1) := by decide +kernel
theorem dX9_takeIn_14 : decode cX9_takeIn 14 = .ok (.getfield 264, 3) := by decide +kernel
theorem dX9_takeIn_17 : decode cX9_takeIn 17 = .ok (.ifCond .ne 23, 3) := by decide +kernel
theorem dX9_takeIn_20 : decode cX9_takeIn 20 = .ok (.lload 8, 2) := by decide +kernel
theorem dX9_takeIn_22 : decode cX9_takeIn 22 = .ok (.lload_n 2, 1) := by decide +kernel
theorem dX9_takeIn_23 : decode cX9_takeIn 23 = .ok (.lload 4, 2) := by decide +kernel
theorem dX9_takeIn_25 : decode cX9_takeIn 25 = .ok (.invokestatic 75, 3) := by decide +kernel
theorem dX9_takeIn_28 : decode cX9_takeIn 28 = .ok (.ifCond .ne 12, 3) := by decide +kernel
theorem dX9_takeIn_31 : decode cX9_takeIn 31 = .ok (.aload_n 0, 1) := by decide +kernel
theorem dX9_takeIn_32 : decode cX9_takeIn 32 = .ok (.iconst 2, 1) := by decide +kernel
theorem dX9_takeIn_33 : decode cX9_takeIn 33 = .ok (.lload 6, 2) := by decide +kernel
theorem dX9_takeIn_35 : decode cX9_takeIn 35 = .ok (.invokevirtual 273, 3) := by decide +kernel
theorem dX9_takeIn_38 : decode cX9_takeIn 38 = .ok (.istore 10, 2) := by decide +kernel
theorem dX9_takeIn_40 : decode cX9_takeIn 40 = .ok (.lload 8, 2) := by decide +kernel
theorem dX9_takeIn_42 : decode cX9_takeIn 42 = .ok (.lreturn, 1) := by decide +kernel
theorem dX9_takeRow_0 : decode cX9_takeRow 0 = .ok (.aload_n 0, 1) := by decide +kernel
theorem dX9_takeRow_1 : decode cX9_takeRow 1 = .ok (.getfield 267, 3) := by decide +kernel
theorem dX9_takeRow_4 : decode cX9_takeRow 4 = .ok (.lstore_n 1, 1) := by decide +kernel
theorem dX9_takeRow_5 : decode cX9_takeRow 5 = .ok (.lconst 0, 1) := by decide +kernel
theorem dX9_takeRow_6 : decode cX9_takeRow 6 = .ok (.lstore_n 3, 1) := by decide +kernel
theorem dX9_takeRow_7 : decode cX9_takeRow 7 = .ok (.aload_n 0, 1) := by decide +kernel
theorem dX9_takeRow_8 : decode cX9_takeRow 8 = .ok (.getfield 264, 3) := by decide +kernel
theorem dX9_takeRow_11 : decode cX9_takeRow 11 = .ok (.ifCond .ne 32, 3) := by decide +kernel
theorem dX9_takeRow_14 : decode cX9_takeRow 14 = .ok (.aload_n 0, 1) := by decide +kernel
theorem dX9_takeRow_15 : decode cX9_takeRow 15 = .ok (.getfield 267, 3) := by decide +kernel
theorem dX9_takeRow_18 : decode cX9_takeRow 18 = .ok (.aload_n 0, 1) := by decide +kernel
theorem dX9_takeRow_19 : decode cX9_takeRow 19 = .ok (.getfield 270, 3) := by decide +kernel
theorem dX9_takeRow_22 : decode cX9_takeRow 22 = .ok (.lcmp, 1) := by decide +kernel
theorem dX9_takeRow_23 : decode cX9_takeRow 23 = .ok (.ifCond .ge 20, 3) := by decide +kernel
theorem dX9_takeRow_26 : decode cX9_takeRow 26 = .ok (.aload_n 0, 1) := by decide +kernel
theorem dX9_takeRow_27 : decode cX9_takeRow 27 = .ok (.iconst 1, 1) := by decide +kernel
theorem dX9_takeRow_28 : decode cX9_takeRow 28 = .ok (.invokevirtual 277, 3) := by decide +kernel
theorem dX9_takeRow_31 : decode cX9_takeRow 31 = .ok (.lconst 0, 1) := by decide +kernel
theorem dX9_takeRow_32 : decode cX9_takeRow 32 = .ok (.lcmp, 1) := by decide +kernel
theorem dX9_takeRow_33 : decode cX9_takeRow 33 = .ok (.ifCond .ne 10, 3) := by decide +kernel
theorem dX9_takeRow_36 : decode cX9_takeRow 36 = .ok (.lload_n 3, 1) := by decide +kernel
theorem dX9_takeRow_37 : decode cX9_takeRow 37 = .ok (.lconst 1, 1) := by decide +kernel
theorem dX9_takeRow_38 : decode cX9_takeRow 38 = .ok (.ladd, 1) := by decide +kernel
theorem dX9_takeRow_39 : decode cX9_takeRow 39 = .ok (.lstore_n 3, 1) := by decide +kernel
theorem dX9_takeRow_40 : decode cX9_takeRow 40 = .ok (.goto (-33), 3) := by decide +kernel
theorem dX9_takeRow_43 : decode cX9_takeRow 43 = .ok (.aload_n 0, 1) := by decide +kernel
theorem dX9_takeRow_44 : decode cX9_takeRow 44 = .ok (.getfield 264, 3) := by decide +kernel
theorem dX9_takeRow_47 : decode cX9_takeRow 47 = .ok (.ifCond .ne 33, 3) := by decide +kernel
theorem dX9_takeRow_50 : decode cX9_takeRow 50 = .ok (.aload_n 0, 1) := by decide +kernel
theorem dX9_takeRow_51 : decode cX9_takeRow 51 = .ok (.getfield 267, 3) := by decide +kernel
theorem dX9_takeRow_54 : decode cX9_takeRow 54 = .ok (.lload_n 1, 1) := by decide +kernel
theorem dX9_takeRow_55 : decode cX9_takeRow 55 = .ok (.lcmp, 1) := by decide +kernel
theorem dX9_takeRow_56 : decode cX9_takeRow 56 = .ok (.ifCond .eq 16, 3) := by decide +kernel
theorem dX9_takeRow_59 : decode cX9_takeRow 59 = .ok (.aload_n 0, 1) := by decide +kernel
theorem dX9_takeRow_60 : decode cX9_takeRow 60 = .ok (.getfield 267, 3) := by decide +kernel
theorem dX9_takeRow_63 : decode cX9_takeRow 63 = .ok (.lload_n 1, 1) := by decide +kernel
theorem dX9_takeRow_64 : decode cX9_takeRow 64 = .ok (.lsub, 1) := by decide +kernel
theorem dX9_takeRow_65 : decode cX9_takeRow 65 = .ok (.lload_n 3, 1) := by decide +kernel
theorem dX9_takeRow_66 : decode cX9_takeRow 66 = .ok (.lconst 1, 1) := by decide +kernel
theorem dX9_takeRow_67 : decode cX9_takeRow 67 = .ok (.ladd, 1) := by decide +kernel
theorem dX9_takeRow_68 : decode cX9_takeRow 68 = .ok (.lcmp, 1) := by decide +kernel
theorem dX9_takeRow_69 : decode cX9_takeRow 69 = .ok (.ifCond .eq 11, 3) := by decide +kernel
theorem dX9_takeRow_72 : decode cX9_takeRow 72 = .ok (.aload_n 0, 1) := by decide +kernel
theorem dX9_takeRow_73 : decode cX9_takeRow 73 = .ok (.iconst 1, 1) := by decide +kernel
theorem dX9_takeRow_74 : decode cX9_takeRow 74 = .ok (.lload_n 1, 1) := by decide +kernel
theorem dX9_takeRow_75 : decode cX9_takeRow 75 = .ok (.invokevirtual 273, 3) := by decide +kernel
theorem dX9_takeRow_78 : decode cX9_takeRow 78 = .ok (.istore 5, 2) := by decide +kernel
theorem dX9_takeRow_80 : decode cX9_takeRow 80 = .ok (.lload_n 3, 1) := by decide +kernel
theorem dX9_takeRow_81 : decode cX9_takeRow 81 = .ok (.lreturn, 1) := by decide +kernel
theorem dX9_passOver_0 : decode cX9_passOver 0 = .ok (.aload_n 0, 1) := by decide +kernel
theorem dX9_passOver_1 : decode cX9_passOver 1 = .ok (.getfield 264, 3) := by decide +kernel
theorem dX9_passOver_4 : decode cX9_passOver 4 = .ok (.ifCond .ne 27, 3) := by decide +kernel
theorem dX9_passOver_7 : decode cX9_passOver 7 = .ok (.aload_n 0, 1) := by decide +kernel
theorem dX9_passOver_8 : decode cX9_passOver 8 = .ok (.getfield 267, 3) := by decide +kernel
theorem dX9_passOver_11 : decode cX9_passOver 11 = .ok (.lload_n 1, 1) := by decide +kernel
theorem dX9_passOver_12 : decode cX9_passOver 12 = .ok (.ladd, 1) := by decide +kernel
theorem dX9_passOver_13 : decode cX9_passOver 13 = .ok (.aload_n 0, 1) := by decide +kernel
theorem dX9_passOver_14 : decode cX9_passOver 14 = .ok (.getfield 270, 3) := by decide +kernel
theorem dX9_passOver_17 : decode cX9_passOver 17 = .ok (.lcmp, 1) := by decide +kernel
theorem dX9_passOver_18 : decode cX9_passOver 18 = .ok (.ifCond .le 13, 3) := by decide +kernel
theorem dX9_passOver_21 : decode cX9_passOver 21 = .ok (.aload_n 0, 1) := by decide +kernel
theorem dX9_passOver_22 : decode cX9_passOver 22 = .ok (.iconst 1, 1) := by decide +kernel
theorem dX9_passOver_23 : decode cX9_passOver 23 = .ok (.aload_n 0, 1) := by decide +kernel
theorem dX9_passOver_24 : decode cX9_passOver 24 = .ok (.getfield 267, 3) := by decide +kernel
theorem dX9_passOver_27 : decode cX9_passOver 27 = .ok (.invokevirtual 273, 3) := by decide +kernel
theorem dX9_passOver_30 : decode cX9_passOver 30 = .ok (.istore_n 3, 1) := by decide +kernel
theorem dX9_passOver_31 : decode cX9_passOver 31 = .ok (.aload_n 0, 1) := by decide +kernel
theorem dX9_passOver_32 : decode cX9_passOver 32 = .ok (.dup, 1) := by decide +kernel
theorem dX9_passOver_33 : decode cX9_passOver 33 = .ok (.getfield 267, 3) := by decide +kernel
theorem dX9_passOver_36 : decode cX9_passOver 36 = .ok (.lload_n 1, 1) := by decide +kernel
theorem dX9_passOver_37 : decode cX9_passOver 37 = .ok (.ladd, 1) := by decide +kernel
theorem dX9_passOver_38 : decode cX9_passOver 38 = .ok (.putfield 267, 3) := by decide +kernel
theorem dX9_passOver_41 : decode cX9_passOver 41 = .ok (.return_, 1) := by decide +kernel
theorem dX9_readSettings_0 : decode cX9_readSettings 0 = .ok (.aload_n 0, 1) := by decide +kernel
theorem dX9_readSettings_1 : decode cX9_readSettings 1 = .ok (.bipush 32, 2) := by decide +kernel
theorem dX9_readSettings_3 : decode cX9_readSettings 3 = .ok (.ldc2_w 242, 3) := by decide +kernel
theorem dX9_readSettings_6 : decode cX9_readSettings 6 = .ok (.ldc2_w 242, 3) := by decide +kernel
theorem dX9_readSettings_9 : decode cX9_readSettings 9 = .ok (.invokevirtual 280, 3) := by decide +kernel
theorem dX9_readSettings_12 : decode cX9_readSettings 12 = .ok (.lstore_n 1, 1) := by decide +kernel
theorem dX9_readSettings_13 : decode cX9_readSettings 13 = .ok (.aload_n 0, 1) := by decide +kernel
theorem dX9_readSettings_14 : decode cX9_readSettings 14 = .ok (.iconst 1, 1) := by decide +kernel
theorem dX9_readSettings_15 : decode cX9_readSettings 15 = .ok (.invokevirtual 277, 3) := by decide +kernel
theorem dX9_readSettings_18 : decode cX9_readSettings 18 = .ok (.lstore_n 3, 1) := by decide +kernel
theorem dX9_readSettings_19 : decode cX9_readSettings 19 = .ok (.aload_n 0, 1) := by decide +kernel
theorem dX9_readSettings_20 : decode cX9_readSettings 20 = .ok (.bipush 7, 2) := by decide +kernel
theorem dX9_readSettings_22 : decode cX9_readSettings 22 = .ok (.lconst 0, 1) := by decide +kernel
theorem dX9_readSettings_23 : decode cX9_readSettings 23 = .ok (.lconst 0, 1) := by decide +kernel
theorem dX9_readSettings_24 : decode cX9_readSettings 24 = .ok (.invokevirtual 280, 3) := by decide +kernel
theorem dX9_readSettings_27 : decode cX9_readSettings 27 = .ok (.lstore_n 1, 1) := by decide +kernel
theorem dX9_readSettings_28 : decode cX9_readSettings 28 = .ok (.aload_n 0, 1) := by decide +kernel
theorem dX9_readSettings_29 : decode cX9_readSettings 29 = .ok (.bipush 24, 2) := by decide +kernel
theorem dX9_readSettings_31 : decode cX9_readSettings 31 = .ok (.ldc2_w 244, 3) := by decide +kernel
theorem dX9_readSettings_34 : decode cX9_readSettings 34 = .ok (.ldc2_w 244, 3) := by decide +kernel
theorem dX9_readSettings_37 : decode cX9_readSettings 37 = .ok (.invokevirtual 280, 3) := by decide +kernel
theorem dX9_readSettings_40 : decode cX9_readSettings 40 = .ok (.lstore_n 1, 1) := by decide +kernel
theorem dX9_readSettings_41 : decode cX9_readSettings 41 = .ok (.aload_n 0, 1) := by decide +kernel
theorem dX9_readSettings_42 : decode cX9_readSettings 42 = .ok (.aload_n 0, 1) := by decide +kernel
theorem dX9_readSettings_43 : decode cX9_readSettings 43 = .ok (.bipush 16, 2) := by decide +kernel
theorem dX9_readSettings_45 : decode cX9_readSettings 45 = .ok (.ldc2_w 83, 3) := by decide +kernel
theorem dX9_readSettings_48 : decode cX9_readSettings 48 = .ok (.ldc2_w 85, 3) := by decide +kernel
theorem dX9_readSettings_51 : decode cX9_readSettings 51 = .ok (.invokevirtual 280, 3) := by decide +kernel
theorem dX9_readSettings_54 : decode cX9_readSettings 54 = .ok (.l2i, 1) := by decide +kernel
theorem dX9_readSettings_55 : decode cX9_readSettings 55 = .ok (.putfield 284, 3) := by decide +kernel
theorem dX9_readSettings_58 : decode cX9_readSettings 58 = .ok (.aload_n 0, 1) := by decide +kernel
theorem dX9_readSettings_59 : decode cX9_readSettings 59 = .ok (.bipush 16, 2) := by decide +kernel
theorem dX9_readSettings_61 : decode cX9_readSettings 61 = .ok (.aload_n 0, 1) := by decide +kernel
theorem dX9_readSettings_62 : decode cX9_readSettings 62 = .ok (.getfield 284, 3) := by decide +kernel
theorem dX9_readSettings_65 : decode cX9_readSettings 65 = .ok (.i2l, 1) := by decide +kernel
theorem dX9_readSettings_66 : decode cX9_readSettings 66 = .ok (.aload_n 0, 1) := by decide +kernel
theorem dX9_readSettings_67 : decode cX9_readSettings 67 = .ok (.getfield 284, 3) := by decide +kernel
theorem dX9_readSettings_70 : decode cX9_readSettings 70 = .ok (.i2l, 1) := by decide +kernel
theorem dX9_readSettings_71 : decode cX9_readSettings 71 = .ok (.invokevirtual 280, 3) := by decide +kernel
theorem dX9_readSettings_74 : decode cX9_readSettings 74 = .ok (.lstore_n 1, 1) := by decide +kernel
theorem dX9_readSettings_75 : decode cX9_readSettings 75 = .ok (.aload_n 0, 1) := by decide +kernel
theorem dX9_readSettings_76 : decode cX9_readSettings 76 = .ok (.bipush 24, 2) := by decide +kernel
theorem dX9_readSettings_78 : decode cX9_readSettings 78 = .ok (.invokevirtual 277, 3) := by decide +kernel
theorem dX9_readSettings_81 : decode cX9_readSettings 81 = .ok (.lstore_n 1, 1) := by decide +kernel
theorem dX9_readSettings_82 : decode cX9_readSettings 82 = .ok (.aload_n 0, 1) := by decide +kernel
theorem dX9_readSettings_83 : decode cX9_readSettings 83 = .ok (.bipush 24, 2) := by decide +kernel
theorem dX9_readSettings_85 : decode cX9_readSettings 85 = .ok (.invokevirtual 277, 3) := by decide +kernel
theorem dX9_readSettings_88 : decode cX9_readSettings 88 = .ok (.lstore_n 1, 1) := by decide +kernel
theorem dX9_readSettings_89 : decode cX9_readSettings 89 = .ok (.aload_n 0, 1) := by decide +kernel
theorem dX9_readSettings_90 : decode cX9_readSettings 90 = .ok (.aload_n 0, 1) := by decide +kernel
theorem dX9_readSettings_91 : decode cX9_readSettings 91 = .ok (.bipush 20, 2) := by decide +kernel
theorem dX9_readSettings_93 : decode cX9_readSettings 93 = .ok (.lconst 1, 1) := by decide +kernel
theorem dX9_readSettings_94 : decode cX9_readSettings 94 = .ok (.ldc2_w 87, 3) := by decide +kernel
theorem dX9_readSettings_97 : decode cX9_readSettings 97 = .ok (.invokevirtual 280, 3) := by decide +kernel
theorem dX9_readSettings_100 : decode cX9_readSettings 100 = .ok (.l2i, 1) := by decide +kernel
theorem dX9_readSettings_101 : decode cX9_readSettings 101 = .ok (.putfield 287, 3) := by decide +kernel
theorem dX9_readSettings_104 : decode cX9_readSettings 104 = .ok (.aload_n 0, 1) := by decide +kernel
theorem dX9_readSettings_105 : decode cX9_readSettings 105 = .ok (.aload_n 0, 1) := by decide +kernel
theorem dX9_readSettings_106 : decode cX9_readSettings 106 = .ok (.iconst 3, 1) := by decide +kernel
theorem dX9_readSettings_107 : decode cX9_readSettings 107 = .ok (.invokevirtual 277, 3) := by decide +kernel
theorem dX9_readSettings_110 : decode cX9_readSettings 110 = .ok (.l2i, 1) := by decide +kernel
theorem dX9_readSettings_111 : decode cX9_readSettings 111 = .ok (.iconst 1, 1) := by decide +kernel
theorem dX9_readSettings_112 : decode cX9_readSettings 112 = .ok (.iadd, 1) := by decide +kernel
theorem dX9_readSettings_113 : decode cX9_readSettings 113 = .ok (.putfield 290, 3) := by decide +kernel
theorem dX9_readSettings_116 : decode cX9_readSettings 116 = .ok (.aload_n 0, 1) := by decide +kernel
theorem dX9_readSettings_117 : decode cX9_readSettings 117 = .ok (.aload_n 0, 1) := by decide +kernel
theorem dX9_readSettings_118 : decode cX9_readSettings 118 = .ok (.iconst 5, 1) := by decide +kernel
theorem dX9_readSettings_119 : decode cX9_readSettings 119 = .ok (.ldc2_w 113, 3) := by decide +kernel
theorem dX9_readSettings_122 : decode cX9_readSettings 122 = .ok (.ldc2_w 293, 3) := by decide +kernel
theorem dX9_readSettings_125 : decode cX9_readSettings 125 = .ok (.invokevirtual 280, 3) := by decide +kernel
theorem dX9_readSettings_128 : decode cX9_readSettings 128 = .ok (.l2i, 1) := by decide +kernel
theorem dX9_readSettings_129 : decode cX9_readSettings 129 = .ok (.iconst 1, 1) := by decide +kernel
theorem dX9_readSettings_130 : decode cX9_readSettings 130 = .ok (.iadd, 1) := by decide +kernel
theorem dX9_readSettings_131 : decode cX9_readSettings 131 = .ok (.putfield 295, 3) := by decide +kernel
theorem dX9_readSettings_134 : decode cX9_readSettings 134 = .ok (.aload_n 0, 1) := by decide +kernel
theorem dX9_readSettings_135 : decode cX9_readSettings 135 = .ok (.getfield 267, 3) := by decide +kernel
theorem dX9_readSettings_138 : decode cX9_readSettings 138 = .ok (.lstore 5, 2) := by decide +kernel
theorem dX9_readSettings_140 : decode cX9_readSettings 140 = .ok (.aload_n 0, 1) := by decide +kernel
theorem dX9_readSettings_141 : decode cX9_readSettings 141 = .ok (.aload_n 0, 1) := by decide +kernel
theorem dX9_readSettings_142 : decode cX9_readSettings 142 = .ok (.bipush 36, 2) := by decide +kernel
theorem dX9_readSettings_144 : decode cX9_readSettings 144 = .ok (.invokevirtual 277, 3) := by decide +kernel
theorem dX9_readSettings_147 : decode cX9_readSettings 147 = .ok (.putfield 298, 3) := by decide +kernel
theorem dX9_readSettings_150 : decode cX9_readSettings 150 = .ok (.aload_n 0, 1) := by decide +kernel
theorem dX9_readSettings_151 : decode cX9_readSettings 151 = .ok (.getfield 264, 3) := by decide +kernel
theorem dX9_readSettings_154 : decode cX9_readSettings 154 = .ok (.ifCond .ne 29, 3) := by decide +kernel
theorem dX9_readSettings_157 : decode cX9_readSettings 157 = .ok (.aload_n 0, 1) := by decide +kernel
theorem dX9_readSettings_158 : decode cX9_readSettings 158 = .ok (.getfield 298, 3) := by decide +kernel
theorem dX9_readSettings_161 : decode cX9_readSettings 161 = .ok (.aload_n 0, 1) := by decide +kernel
theorem dX9_readSettings_162 : decode cX9_readSettings 162 = .ok (.getfield 290, 3) := by decide +kernel
theorem dX9_readSettings_165 : decode cX9_readSettings 165 = .ok (.i2l, 1) := by decide +kernel
theorem dX9_readSettings_166 : decode cX9_readSettings 166 = .ok (.lmul, 1) := by decide +kernel
theorem dX9_readSettings_167 : decode cX9_readSettings 167 = .ok (.ldc2_w 301, 3) := by decide +kernel
theorem dX9_readSettings_170 : decode cX9_readSettings 170 = .ok (.lcmp, 1) := by decide +kernel
theorem dX9_readSettings_171 : decode cX9_readSettings 171 = .ok (.ifCond .le 12, 3) := by decide +kernel
theorem dX9_readSettings_174 : decode cX9_readSettings 174 = .ok (.aload_n 0, 1) := by decide +kernel
theorem dX9_readSettings_175 : decode cX9_readSettings 175 = .ok (.iconst 4, 1) := by decide +kernel
theorem dX9_readSettings_176 : decode cX9_readSettings 176 = .ok (.lload 5, 2) := by decide +kernel
theorem dX9_readSettings_178 : decode cX9_readSettings 178 = .ok (.invokevirtual 273, 3) := by decide +kernel
theorem dX9_readSettings_181 : decode cX9_readSettings 181 = .ok (.istore 7, 2) := by decide +kernel
theorem dX9_readSettings_183 : decode cX9_readSettings 183 = .ok (.aload_n 0, 1) := by decide +kernel
theorem dX9_readSettings_184 : decode cX9_readSettings 184 = .ok (.ldc2_w 303, 3) := by decide +kernel
theorem dX9_readSettings_187 : decode cX9_readSettings 187 = .ok (.invokevirtual 305, 3) := by decide +kernel
theorem dX9_readSettings_190 : decode cX9_readSettings 190 = .ok (.aload_n 0, 1) := by decide +kernel
theorem dX9_readSettings_191 : decode cX9_readSettings 191 = .ok (.getfield 264, 3) := by decide +kernel
theorem dX9_readSettings_194 : decode cX9_readSettings 194 = .ok (.ifCond .ne 43, 3) := by decide +kernel
theorem dX9_readSettings_197 : decode cX9_readSettings 197 = .ok (.lload_n 3, 1) := by decide +kernel
theorem dX9_readSettings_198 : decode cX9_readSettings 198 = .ok (.lconst 0, 1) := by decide +kernel
theorem dX9_readSettings_199 : decode cX9_readSettings 199 = .ok (.lcmp, 1) := by decide +kernel
theorem dX9_readSettings_200 : decode cX9_readSettings 200 = .ok (.ifCond .ne 37, 3) := by decide +kernel
theorem dX9_readSettings_203 : decode cX9_readSettings 203 = .ok (.aload_n 0, 1) := by decide +kernel
theorem dX9_readSettings_204 : decode cX9_readSettings 204 = .ok (.iconst 1, 1) := by decide +kernel
theorem dX9_readSettings_205 : decode cX9_readSettings 205 = .ok (.invokevirtual 277, 3) := by decide +kernel
theorem dX9_readSettings_208 : decode cX9_readSettings 208 = .ok (.lstore_n 3, 1) := by decide +kernel
theorem dX9_readSettings_209 : decode cX9_readSettings 209 = .ok (.aload_n 0, 1) := by decide +kernel
theorem dX9_readSettings_210 : decode cX9_readSettings 210 = .ok (.bipush 7, 2) := by decide +kernel
theorem dX9_readSettings_212 : decode cX9_readSettings 212 = .ok (.lconst 1, 1) := by decide +kernel
theorem dX9_readSettings_213 : decode cX9_readSettings 213 = .ok (.ldc2_w 309, 3) := by decide +kernel
theorem dX9_readSettings_216 : decode cX9_readSettings 216 = .ok (.invokevirtual 280, 3) := by decide +kernel
theorem dX9_readSettings_219 : decode cX9_readSettings 219 = .ok (.lstore_n 1, 1) := by decide +kernel
theorem dX9_readSettings_220 : decode cX9_readSettings 220 = .ok (.aload_n 0, 1) := by decide +kernel
theorem dX9_readSettings_221 : decode cX9_readSettings 221 = .ok (.ldc2_w 73, 3) := by decide +kernel
theorem dX9_readSettings_224 : decode cX9_readSettings 224 = .ok (.aload_n 0, 1) := by decide +kernel
theorem dX9_readSettings_225 : decode cX9_readSettings 225 = .ok (.bipush 24, 2) := by decide +kernel
theorem dX9_readSettings_227 : decode cX9_readSettings 227 = .ok (.invokevirtual 277, 3) := by decide +kernel
theorem dX9_readSettings_230 : decode cX9_readSettings 230 = .ok (.lmul, 1) := by decide +kernel
theorem dX9_readSettings_231 : decode cX9_readSettings 231 = .ok (.invokevirtual 305, 3) := by decide +kernel
theorem dX9_readSettings_234 : decode cX9_readSettings 234 = .ok (.goto (-44), 3) := by decide +kernel
theorem dX9_readSettings_237 : decode cX9_readSettings 237 = .ok (.return_, 1) := by decide +kernel
theorem dX9_readByte_0 : decode cX9_readByte 0 = .ok (.aload_n 0, 1) := by decide +kernel
theorem dX9_readByte_1 : decode cX9_readByte 1 = .ok (.getfield 267, 3) := by decide +kernel
theorem dX9_readByte_4 : decode cX9_readByte 4 = .ok (.lstore 4, 2) := by decide +kernel
theorem dX9_readByte_6 : decode cX9_readByte 6 = .ok (.aload_n 0, 1) := by decide +kernel
theorem dX9_readByte_7 : decode cX9_readByte 7 = .ok (.bipush 8, 2) := by decide +kernel
theorem dX9_readByte_9 : decode cX9_readByte 9 = .ok (.invokevirtual 277, 3) := by decide +kernel
theorem dX9_readByte_12 : decode cX9_readByte 12 = .ok (.lstore 6, 2) := by decide +kernel
theorem dX9_readByte_14 : decode cX9_readByte 14 = .ok (.iload_n 3, 1) := by decide +kernel
theorem dX9_readByte_15 : decode cX9_readByte 15 = .ok (.ifCond .eq 37, 3) := by decide +kernel
theorem dX9_readByte_18 : decode cX9_readByte 18 = .ok (.lload 6, 2) := by decide +kernel
theorem dX9_readByte_20 : decode cX9_readByte 20 = .ok (.lconst 0, 1) := by decide +kernel
theorem dX9_readByte_21 : decode cX9_readByte 21 = .ok (.ldc2_w 311, 3) := by decide +kernel
theorem dX9_readByte_24 : decode cX9_readByte 24 = .ok (.invokestatic 75, 3) := by decide +kernel
theorem dX9_readByte_27 : decode cX9_readByte 27 = .ok (.ifCond .ne 17, 3) := by decide +kernel
theorem dX9_readByte_30 : decode cX9_readByte 30 = .ok (.lload 6, 2) := by decide +kernel
theorem dX9_readByte_32 : decode cX9_readByte 32 = .ok (.ldc2_w 313, 3) := by decide +kernel
theorem dX9_readByte_35 : decode cX9_readByte 35 = .ok (.ldc2_w 315, 3) := by decide +kernel
theorem dX9_readByte_38 : decode cX9_readByte 38 = .ok (.invokestatic 75, 3) := by decide +kernel
theorem dX9_readByte_41 : decode cX9_readByte 41 = .ok (.ifCond .eq 7, 3) := by decide +kernel
theorem dX9_readByte_44 : decode cX9_readByte 44 = .ok (.iconst 1, 1) := by decide +kernel
theorem dX9_readByte_45 : decode cX9_readByte 45 = .ok (.goto 18, 3) := by decide +kernel
theorem dX9_readByte_48 : decode cX9_readByte 48 = .ok (.iconst 0, 1) := by decide +kernel
theorem dX9_readByte_49 : decode cX9_readByte 49 = .ok (.goto 14, 3) := by decide +kernel
theorem dX9_readByte_52 : decode cX9_readByte 52 = .ok (.lload 6, 2) := by decide +kernel
theorem dX9_readByte_54 : decode cX9_readByte 54 = .ok (.ldc2_w 303, 3) := by decide +kernel
theorem dX9_readByte_57 : decode cX9_readByte 57 = .ok (.ldc2_w 317, 3) := by decide +kernel
theorem dX9_readByte_60 : decode cX9_readByte 60 = .ok (.invokestatic 75, 3) := by decide +kernel
theorem dX9_readByte_63 : decode cX9_readByte 63 = .ok (.istore 8, 2) := by decide +kernel
theorem dX9_readByte_65 : decode cX9_readByte 65 = .ok (.aload_n 0, 1) := by decide +kernel
theorem dX9_readByte_66 : decode cX9_readByte 66 = .ok (.getfield 264, 3) := by decide +kernel
theorem dX9_readByte_69 : decode cX9_readByte 69 = .ok (.ifCond .ne 28, 3) := by decide +kernel
theorem dX9_readByte_72 : decode cX9_readByte 72 = .ok (.lload 6, 2) := by decide +kernel
theorem dX9_readByte_74 : decode cX9_readByte 74 = .ok (.lload_n 1, 1) := by decide +kernel
theorem dX9_readByte_75 : decode cX9_readByte 75 = .ok (.lcmp, 1) := by decide +kernel
theorem dX9_readByte_76 : decode cX9_readByte 76 = .ok (.ifCond .eq 21, 3) := by decide +kernel
theorem dX9_readByte_79 : decode cX9_readByte 79 = .ok (.aload_n 0, 1) := by decide +kernel
theorem dX9_readByte_80 : decode cX9_readByte 80 = .ok (.iload 8, 2) := by decide +kernel
theorem dX9_readByte_82 : decode cX9_readByte 82 = .ok (.ifCond .eq 7, 3) := by decide +kernel
theorem dX9_readByte_85 : decode cX9_readByte 85 = .ok (.iconst 4, 1) := by decide +kernel
theorem dX9_readByte_86 : decode cX9_readByte 86 = .ok (.goto 4, 3) := by decide +kernel
theorem dX9_readByte_89 : decode cX9_readByte 89 = .ok (.iconst 2, 1) := by decide +kernel
theorem dX9_readByte_90 : decode cX9_readByte 90 = .ok (.lload 4, 2) := by decide +kernel
theorem dX9_readByte_92 : decode cX9_readByte 92 = .ok (.invokevirtual 273, 3) := by decide +kernel
theorem dX9_readByte_95 : decode cX9_readByte 95 = .ok (.istore 9, 2) := by decide +kernel
theorem dX9_readByte_97 : decode cX9_readByte 97 = .ok (.return_, 1) := by decide +kernel
theorem dX9_readNumber_0 : decode cX9_readNumber 0 = .ok (.aload_n 0, 1) := by decide +kernel
theorem dX9_readNumber_1 : decode cX9_readNumber 1 = .ok (.iload_n 1, 1) := by decide +kernel
theorem dX9_readNumber_2 : decode cX9_readNumber 2 = .ok (.sipush 128, 3) := by decide +kernel
theorem dX9_readNumber_5 : decode cX9_readNumber 5 = .ok (.if_icmp .ge 8, 3) := by decide +kernel
theorem dX9_readNumber_8 : decode cX9_readNumber 8 = .ok (.iload_n 1, 1) := by decide +kernel
theorem dX9_readNumber_9 : decode cX9_readNumber 9 = .ok (.i2l, 1) := by decide +kernel
theorem dX9_readNumber_10 : decode cX9_readNumber 10 = .ok (.goto 12, 3) := by decide +kernel
theorem dX9_readNumber_13 : decode cX9_readNumber 13 = .ok (.sipush 192, 3) := by decide +kernel
theorem dX9_readNumber_16 : decode cX9_readNumber 16 = .ok (.iload_n 1, 1) := by decide +kernel
theorem dX9_readNumber_17 : decode cX9_readNumber 17 = .ok (.bipush 64, 2) := by decide +kernel
theorem dX9_readNumber_19 : decode cX9_readNumber 19 = .ok (.idiv, 1) := by decide +kernel
theorem dX9_readNumber_20 : decode cX9_readNumber 20 = .ok (.iadd, 1) := by decide +kernel
theorem dX9_readNumber_21 : decode cX9_readNumber 21 = .ok (.i2l, 1) := by decide +kernel
theorem dX9_readNumber_22 : decode cX9_readNumber 22 = .ok (.iconst 1, 1) := by decide +kernel
theorem dX9_readNumber_23 : decode cX9_readNumber 23 = .ok (.invokevirtual 319, 3) := by decide +kernel
theorem dX9_readNumber_26 : decode cX9_readNumber 26 = .ok (.iload_n 1, 1) := by decide +kernel
theorem dX9_readNumber_27 : decode cX9_readNumber 27 = .ok (.bipush 127, 2) := by decide +kernel
theorem dX9_readNumber_29 : decode cX9_readNumber 29 = .ok (.if_icmp .le 17, 3) := by decide +kernel
theorem dX9_readNumber_32 : decode cX9_readNumber 32 = .ok (.aload_n 0, 1) := by decide +kernel
theorem dX9_readNumber_33 : decode cX9_readNumber 33 = .ok (.sipush 128, 3) := by decide +kernel
theorem dX9_readNumber_36 : decode cX9_readNumber 36 = .ok (.iload_n 1, 1) := by decide +kernel
theorem dX9_readNumber_37 : decode cX9_readNumber 37 = .ok (.bipush 64, 2) := by decide +kernel
theorem dX9_readNumber_39 : decode cX9_readNumber 39 = .ok (.irem, 1) := by decide +kernel
theorem dX9_readNumber_40 : decode cX9_readNumber 40 = .ok (.iadd, 1) := by decide +kernel
theorem dX9_readNumber_41 : decode cX9_readNumber 41 = .ok (.i2l, 1) := by decide +kernel
theorem dX9_readNumber_42 : decode cX9_readNumber 42 = .ok (.iconst 0, 1) := by decide +kernel
theorem dX9_readNumber_43 : decode cX9_readNumber 43 = .ok (.invokevirtual 319, 3) := by decide +kernel
theorem dX9_readNumber_46 : decode cX9_readNumber 46 = .ok (.return_, 1) := by decide +kernel
theorem dX9_readAssignment_0 : decode cX9_readAssignment 0 = .ok (.aload_n 0, 1) := by decide +kernel
theorem dX9_readAssignment_1 : decode cX9_readAssignment 1 = .ok (.getfield 267, 3) := by decide +kernel
theorem dX9_readAssignment_4 : decode cX9_readAssignment 4 = .ok (.lstore_n 1, 1) := by decide +kernel
theorem dX9_readAssignment_5 : decode cX9_readAssignment 5 = .ok (.aload_n 0, 1) := by decide +kernel
theorem dX9_readAssignment_6 : decode cX9_readAssignment 6 = .ok (.iconst 4, 1) := by decide +kernel
theorem dX9_readAssignment_7 : decode cX9_readAssignment 7 = .ok (.invokevirtual 277, 3) := by decide +kernel
theorem dX9_readAssignment_10 : decode cX9_readAssignment 10 = .ok (.l2i, 1) := by decide +kernel
theorem dX9_readAssignment_11 : decode cX9_readAssignment 11 = .ok (.istore_n 3, 1) := by decide +kernel
theorem dX9_readAssignment_12 : decode cX9_readAssignment 12 = .ok (.aload_n 0, 1) := by decide +kernel
theorem dX9_readAssignment_13 : decode cX9_readAssignment 13 = .ok (.getfield 264, 3) := by decide +kernel
theorem dX9_readAssignment_16 : decode cX9_readAssignment 16 = .ok (.ifCond .ne 43, 3) := by decide +kernel
theorem dX9_readAssignment_19 : decode cX9_readAssignment 19 = .ok (.iload_n 3, 1) := by decide +kernel
theorem dX9_readAssignment_20 : decode cX9_readAssignment 20 = .ok (.aload_n 0, 1) := by decide +kernel
theorem dX9_readAssignment_21 : decode cX9_readAssignment 21 = .ok (.getfield 290, 3) := by decide +kernel
theorem dX9_readAssignment_24 : decode cX9_readAssignment 24 = .ok (.iconst 1, 1) := by decide +kernel
theorem dX9_readAssignment_25 : decode cX9_readAssignment 25 = .ok (.isub, 1) := by decide +kernel
theorem dX9_readAssignment_26 : decode cX9_readAssignment 26 = .ok (.if_icmp .eq 33, 3) := by decide +kernel
theorem dX9_readAssignment_29 : decode cX9_readAssignment 29 = .ok (.aload_n 0, 1) := by decide +kernel
theorem dX9_readAssignment_30 : decode cX9_readAssignment 30 = .ok (.getfield 290, 3) := by decide +kernel
theorem dX9_readAssignment_33 : decode cX9_readAssignment 33 = .ok (.iconst 2, 1) := by decide +kernel
theorem dX9_readAssignment_34 : decode cX9_readAssignment 34 = .ok (.if_icmp .ne 17, 3) := by decide +kernel
theorem dX9_readAssignment_37 : decode cX9_readAssignment 37 = .ok (.iload_n 3, 1) := by decide +kernel
theorem dX9_readAssignment_38 : decode cX9_readAssignment 38 = .ok (.i2l, 1) := by decide +kernel
theorem dX9_readAssignment_39 : decode cX9_readAssignment 39 = .ok (.ldc2_w 73, 3) := by decide +kernel
theorem dX9_readAssignment_42 : decode cX9_readAssignment 42 = .ok (.ldc2_w 323, 3) := by decide +kernel
theorem dX9_readAssignment_45 : decode cX9_readAssignment 45 = .ok (.invokestatic 75, 3) := by decide +kernel
theorem dX9_readAssignment_48 : decode cX9_readAssignment 48 = .ok (.ifCond .ne 11, 3) := by decide +kernel
theorem dX9_readAssignment_51 : decode cX9_readAssignment 51 = .ok (.aload_n 0, 1) := by decide +kernel
theorem dX9_readAssignment_52 : decode cX9_readAssignment 52 = .ok (.iconst 2, 1) := by decide +kernel
theorem dX9_readAssignment_53 : decode cX9_readAssignment 53 = .ok (.lload_n 1, 1) := by decide +kernel
theorem dX9_readAssignment_54 : decode cX9_readAssignment 54 = .ok (.invokevirtual 273, 3) := by decide +kernel
theorem dX9_readAssignment_57 : decode cX9_readAssignment 57 = .ok (.istore 4, 2) := by decide +kernel
theorem dX9_readAssignment_59 : decode cX9_readAssignment 59 = .ok (.iload_n 3, 1) := by decide +kernel
theorem dX9_readAssignment_60 : decode cX9_readAssignment 60 = .ok (.ireturn, 1) := by decide +kernel
theorem dX9_readFrame_0 : decode cX9_readFrame 0 = .ok (.aload_n 0, 1) := by decide +kernel
theorem dX9_readFrame_1 : decode cX9_readFrame 1 = .ok (.getfield 267, 3) := by decide +kernel
theorem dX9_readFrame_4 : decode cX9_readFrame 4 = .ok (.lstore_n 3, 1) := by decide +kernel
theorem dX9_readFrame_5 : decode cX9_readFrame 5 = .ok (.aload_n 0, 1) := by decide +kernel
theorem dX9_readFrame_6 : decode cX9_readFrame 6 = .ok (.bipush 14, 2) := by decide +kernel
theorem dX9_readFrame_8 : decode cX9_readFrame 8 = .ok (.ldc2_w 227, 3) := by decide +kernel
theorem dX9_readFrame_11 : decode cX9_readFrame 11 = .ok (.ldc2_w 227, 3) := by decide +kernel
theorem dX9_readFrame_14 : decode cX9_readFrame 14 = .ok (.invokevirtual 280, 3) := by decide +kernel
theorem dX9_readFrame_17 : decode cX9_readFrame 17 = .ok (.lstore 5, 2) := by decide +kernel
theorem dX9_readFrame_19 : decode cX9_readFrame 19 = .ok (.aload_n 0, 1) := by decide +kernel
theorem dX9_readFrame_20 : decode cX9_readFrame 20 = .ok (.iconst 2, 1) := by decide +kernel
theorem dX9_readFrame_21 : decode cX9_readFrame 21 = .ok (.lconst 0, 1) := by decide +kernel
theorem dX9_readFrame_22 : decode cX9_readFrame 22 = .ok (.lconst 0, 1) := by decide +kernel
theorem dX9_readFrame_23 : decode cX9_readFrame 23 = .ok (.invokevirtual 280, 3) := by decide +kernel
theorem dX9_readFrame_26 : decode cX9_readFrame 26 = .ok (.lstore 5, 2) := by decide +kernel
theorem dX9_readFrame_28 : decode cX9_readFrame 28 = .ok (.aload_n 0, 1) := by decide +kernel
theorem dX9_readFrame_29 : decode cX9_readFrame 29 = .ok (.iconst 4, 1) := by decide +kernel
theorem dX9_readFrame_30 : decode cX9_readFrame 30 = .ok (.ldc2_w 115, 3) := by decide +kernel
theorem dX9_readFrame_33 : decode cX9_readFrame 33 = .ok (.ldc2_w 115, 3) := by decide +kernel
theorem dX9_readFrame_36 : decode cX9_readFrame 36 = .ok (.invokevirtual 280, 3) := by decide +kernel
theorem dX9_readFrame_39 : decode cX9_readFrame 39 = .ok (.lstore 5, 2) := by decide +kernel
theorem dX9_readFrame_41 : decode cX9_readFrame 41 = .ok (.aload_n 0, 1) := by decide +kernel
theorem dX9_readFrame_42 : decode cX9_readFrame 42 = .ok (.iconst 4, 1) := by decide +kernel
theorem dX9_readFrame_43 : decode cX9_readFrame 43 = .ok (.lconst 0, 1) := by decide +kernel
theorem dX9_readFrame_44 : decode cX9_readFrame 44 = .ok (.lconst 0, 1) := by decide +kernel
theorem dX9_readFrame_45 : decode cX9_readFrame 45 = .ok (.invokevirtual 280, 3) := by decide +kernel
theorem dX9_readFrame_48 : decode cX9_readFrame 48 = .ok (.lstore 5, 2) := by decide +kernel
theorem dX9_readFrame_50 : decode cX9_readFrame 50 = .ok (.aload_n 0, 1) := by decide +kernel
theorem dX9_readFrame_51 : decode cX9_readFrame 51 = .ok (.invokevirtual 325, 3) := by decide +kernel
theorem dX9_readFrame_54 : decode cX9_readFrame 54 = .ok (.istore 7, 2) := by decide +kernel
theorem dX9_readFrame_56 : decode cX9_readFrame 56 = .ok (.aload_n 0, 1) := by decide +kernel
theorem dX9_readFrame_57 : decode cX9_readFrame 57 = .ok (.iconst 4, 1) := by decide +kernel
theorem dX9_readFrame_58 : decode cX9_readFrame 58 = .ok (.lconst 0, 1) := by decide +kernel
theorem dX9_readFrame_59 : decode cX9_readFrame 59 = .ok (.lconst 0, 1) := by decide +kernel
theorem dX9_readFrame_60 : decode cX9_readFrame 60 = .ok (.invokevirtual 280, 3) := by decide +kernel
theorem dX9_readFrame_63 : decode cX9_readFrame 63 = .ok (.lstore 5, 2) := by decide +kernel
theorem dX9_readFrame_65 : decode cX9_readFrame 65 = .ok (.aload_n 0, 1) := by decide +kernel
theorem dX9_readFrame_66 : decode cX9_readFrame 66 = .ok (.iload_n 1, 1) := by decide +kernel
theorem dX9_readFrame_67 : decode cX9_readFrame 67 = .ok (.invokevirtual 328, 3) := by decide +kernel
theorem dX9_readFrame_70 : decode cX9_readFrame 70 = .ok (.aload_n 0, 1) := by decide +kernel
theorem dX9_readFrame_71 : decode cX9_readFrame 71 = .ok (.getfield 267, 3) := by decide +kernel
theorem dX9_readFrame_74 : decode cX9_readFrame 74 = .ok (.lstore 8, 2) := by decide +kernel
theorem dX9_readFrame_76 : decode cX9_readFrame 76 = .ok (.aload_n 0, 1) := by decide +kernel
theorem dX9_readFrame_77 : decode cX9_readFrame 77 = .ok (.bipush 8, 2) := by decide +kernel
theorem dX9_readFrame_79 : decode cX9_readFrame 79 = .ok (.invokevirtual 277, 3) := by decide +kernel
theorem dX9_readFrame_82 : decode cX9_readFrame 82 = .ok (.lstore 5, 2) := by decide +kernel
theorem dX9_readFrame_84 : decode cX9_readFrame 84 = .ok (.aload_n 0, 1) := by decide +kernel
theorem dX9_readFrame_85 : decode cX9_readFrame 85 = .ok (.getfield 264, 3) := by decide +kernel
theorem dX9_readFrame_88 : decode cX9_readFrame 88 = .ok (.ifCond .ne 22, 3) := by decide +kernel
theorem dX9_readFrame_91 : decode cX9_readFrame 91 = .ok (.lload 5, 2) := by decide +kernel
theorem dX9_readFrame_93 : decode cX9_readFrame 93 = .ok (.iload_n 2, 1) := by decide +kernel
theorem dX9_readFrame_94 : decode cX9_readFrame 94 = .ok (.iconst 1, 1) := by decide +kernel
theorem dX9_readFrame_95 : decode cX9_readFrame 95 = .ok (.isub, 1) := by decide +kernel
theorem dX9_readFrame_96 : decode cX9_readFrame 96 = .ok (.i2l, 1) := by decide +kernel
theorem dX9_readFrame_97 : decode cX9_readFrame 97 = .ok (.lcmp, 1) := by decide +kernel
theorem dX9_readFrame_98 : decode cX9_readFrame 98 = .ok (.ifCond .eq 12, 3) := by decide +kernel
theorem dX9_readFrame_101 : decode cX9_readFrame 101 = .ok (.aload_n 0, 1) := by decide +kernel
theorem dX9_readFrame_102 : decode cX9_readFrame 102 = .ok (.iconst 4, 1) := by decide +kernel
theorem dX9_readFrame_103 : decode cX9_readFrame 103 = .ok (.lload 8, 2) := by decide +kernel
theorem dX9_readFrame_105 : decode cX9_readFrame 105 = .ok (.invokevirtual 273, 3) := by decide +kernel
theorem dX9_readFrame_108 : decode cX9_readFrame 108 = .ok (.istore 10, 2) := by decide +kernel
theorem dX9_readFrame_110 : decode cX9_readFrame 110 = .ok (.aload_n 0, 1) := by decide +kernel
theorem dX9_readFrame_111 : decode cX9_readFrame 111 = .ok (.lload_n 3, 1) := by decide +kernel
theorem dX9_readFrame_112 : decode cX9_readFrame 112 = .ok (.bipush 8, 2) := by decide +kernel
end
section
theorem dX9_readFrame_114 : decode cX9_readFrame 114 = .ok (.invokevirtual 331, 3) := by decide +kernel
theorem dX9_readFrame_117 : decode cX9_readFrame 117 = .ok (.iconst 0, 1) := by decide +kernel
theorem dX9_readFrame_118 : decode cX9_readFrame 118 = .ok (.istore 10, 2) := by decide +kernel
theorem dX9_readFrame_120 : decode cX9_readFrame 120 = .ok (.iload 10, 2) := by decide +kernel
theorem dX9_readFrame_122 : decode cX9_readFrame 122 = .ok (.aload_n 0, 1) := by decide +kernel
theorem dX9_readFrame_123 : decode cX9_readFrame 123 = .ok (.getfield 290, 3) := by decide +kernel
theorem dX9_readFrame_126 : decode cX9_readFrame 126 = .ok (.if_icmp .ge 65, 3) := by decide +kernel
theorem dX9_readFrame_129 : decode cX9_readFrame 129 = .ok (.aload_n 0, 1) := by decide +kernel
theorem dX9_readFrame_130 : decode cX9_readFrame 130 = .ok (.getfield 264, 3) := by decide +kernel
theorem dX9_readFrame_133 : decode cX9_readFrame 133 = .ok (.ifCond .ne 58, 3) := by decide +kernel
theorem dX9_readFrame_136 : decode cX9_readFrame 136 = .ok (.aload_n 0, 1) := by decide +kernel
theorem dX9_readFrame_137 : decode cX9_readFrame 137 = .ok (.iload 10, 2) := by decide +kernel
theorem dX9_readFrame_139 : decode cX9_readFrame 139 = .ok (.iload_n 2, 1) := by decide +kernel
theorem dX9_readFrame_140 : decode cX9_readFrame 140 = .ok (.aload_n 0, 1) := by decide +kernel
theorem dX9_readFrame_141 : decode cX9_readFrame 141 = .ok (.getfield 295, 3) := by decide +kernel
theorem dX9_readFrame_144 : decode cX9_readFrame 144 = .ok (.iload 7, 2) := by decide +kernel
theorem dX9_readFrame_146 : decode cX9_readFrame 146 = .ok (.bipush 9, 2) := by decide +kernel
theorem dX9_readFrame_148 : decode cX9_readFrame 148 = .ok (.if_icmp .ne 8, 3) := by decide +kernel
theorem dX9_readFrame_151 : decode cX9_readFrame 151 = .ok (.iload 10, 2) := by decide +kernel
theorem dX9_readFrame_153 : decode cX9_readFrame 153 = .ok (.ifCond .eq 23, 3) := by decide +kernel
theorem dX9_readFrame_156 : decode cX9_readFrame 156 = .ok (.iload 7, 2) := by decide +kernel
theorem dX9_readFrame_158 : decode cX9_readFrame 158 = .ok (.bipush 8, 2) := by decide +kernel
theorem dX9_readFrame_160 : decode cX9_readFrame 160 = .ok (.if_icmp .eq 10, 3) := by decide +kernel
theorem dX9_readFrame_163 : decode cX9_readFrame 163 = .ok (.iload 7, 2) := by decide +kernel
theorem dX9_readFrame_165 : decode cX9_readFrame 165 = .ok (.bipush 10, 2) := by decide +kernel
theorem dX9_readFrame_167 : decode cX9_readFrame 167 = .ok (.if_icmp .ne 13, 3) := by decide +kernel
theorem dX9_readFrame_170 : decode cX9_readFrame 170 = .ok (.iload 10, 2) := by decide +kernel
theorem dX9_readFrame_172 : decode cX9_readFrame 172 = .ok (.iconst 1, 1) := by decide +kernel
theorem dX9_readFrame_173 : decode cX9_readFrame 173 = .ok (.if_icmp .ne 7, 3) := by decide +kernel
theorem dX9_readFrame_176 : decode cX9_readFrame 176 = .ok (.iconst 1, 1) := by decide +kernel
theorem dX9_readFrame_177 : decode cX9_readFrame 177 = .ok (.goto 4, 3) := by decide +kernel
theorem dX9_readFrame_180 : decode cX9_readFrame 180 = .ok (.iconst 0, 1) := by decide +kernel
theorem dX9_readFrame_181 : decode cX9_readFrame 181 = .ok (.iadd, 1) := by decide +kernel
theorem dX9_readFrame_182 : decode cX9_readFrame 182 = .ok (.invokevirtual 335, 3) := by decide +kernel
theorem dX9_readFrame_185 : decode cX9_readFrame 185 = .ok (.iinc 10 1, 3) := by decide +kernel
theorem dX9_readFrame_188 : decode cX9_readFrame 188 = .ok (.goto (-68), 3) := by decide +kernel
theorem dX9_readFrame_191 : decode cX9_readFrame 191 = .ok (.ldc2_w 73, 3) := by decide +kernel
theorem dX9_readFrame_194 : decode cX9_readFrame 194 = .ok (.aload_n 0, 1) := by decide +kernel
theorem dX9_readFrame_195 : decode cX9_readFrame 195 = .ok (.getfield 267, 3) := by decide +kernel
theorem dX9_readFrame_198 : decode cX9_readFrame 198 = .ok (.ldc2_w 73, 3) := by decide +kernel
theorem dX9_readFrame_201 : decode cX9_readFrame 201 = .ok (.lrem, 1) := by decide +kernel
theorem dX9_readFrame_202 : decode cX9_readFrame 202 = .ok (.lsub, 1) := by decide +kernel
theorem dX9_readFrame_203 : decode cX9_readFrame 203 = .ok (.ldc2_w 73, 3) := by decide +kernel
theorem dX9_readFrame_206 : decode cX9_readFrame 206 = .ok (.lrem, 1) := by decide +kernel
theorem dX9_readFrame_207 : decode cX9_readFrame 207 = .ok (.l2i, 1) := by decide +kernel
theorem dX9_readFrame_208 : decode cX9_readFrame 208 = .ok (.istore 10, 2) := by decide +kernel
theorem dX9_readFrame_210 : decode cX9_readFrame 210 = .ok (.aload_n 0, 1) := by decide +kernel
theorem dX9_readFrame_211 : decode cX9_readFrame 211 = .ok (.iload 10, 2) := by decide +kernel
theorem dX9_readFrame_213 : decode cX9_readFrame 213 = .ok (.lconst 0, 1) := by decide +kernel
theorem dX9_readFrame_214 : decode cX9_readFrame 214 = .ok (.lconst 0, 1) := by decide +kernel
theorem dX9_readFrame_215 : decode cX9_readFrame 215 = .ok (.invokevirtual 280, 3) := by decide +kernel
theorem dX9_readFrame_218 : decode cX9_readFrame 218 = .ok (.lstore 5, 2) := by decide +kernel
theorem dX9_readFrame_220 : decode cX9_readFrame 220 = .ok (.aload_n 0, 1) := by decide +kernel
theorem dX9_readFrame_221 : decode cX9_readFrame 221 = .ok (.getfield 267, 3) := by decide +kernel
theorem dX9_readFrame_224 : decode cX9_readFrame 224 = .ok (.lstore 8, 2) := by decide +kernel
theorem dX9_readFrame_226 : decode cX9_readFrame 226 = .ok (.aload_n 0, 1) := by decide +kernel
theorem dX9_readFrame_227 : decode cX9_readFrame 227 = .ok (.lload_n 3, 1) := by decide +kernel
theorem dX9_readFrame_228 : decode cX9_readFrame 228 = .ok (.bipush 16, 2) := by decide +kernel
theorem dX9_readFrame_230 : decode cX9_readFrame 230 = .ok (.invokevirtual 331, 3) := by decide +kernel
theorem dX9_readFrame_233 : decode cX9_readFrame 233 = .ok (.aload_n 0, 1) := by decide +kernel
theorem dX9_readFrame_234 : decode cX9_readFrame 234 = .ok (.getfield 264, 3) := by decide +kernel
theorem dX9_readFrame_237 : decode cX9_readFrame 237 = .ok (.ifCond .ne 22, 3) := by decide +kernel
theorem dX9_readFrame_240 : decode cX9_readFrame 240 = .ok (.aload_n 0, 1) := by decide +kernel
theorem dX9_readFrame_241 : decode cX9_readFrame 241 = .ok (.iload 7, 2) := by decide +kernel
theorem dX9_readFrame_243 : decode cX9_readFrame 243 = .ok (.iload_n 2, 1) := by decide +kernel
theorem dX9_readFrame_244 : decode cX9_readFrame 244 = .ok (.invokevirtual 338, 3) := by decide +kernel
theorem dX9_readFrame_247 : decode cX9_readFrame 247 = .ok (.ifCond .ne 12, 3) := by decide +kernel
theorem dX9_readFrame_250 : decode cX9_readFrame 250 = .ok (.aload_n 0, 1) := by decide +kernel
theorem dX9_readFrame_251 : decode cX9_readFrame 251 = .ok (.iconst 4, 1) := by decide +kernel
theorem dX9_readFrame_252 : decode cX9_readFrame 252 = .ok (.lload 8, 2) := by decide +kernel
theorem dX9_readFrame_254 : decode cX9_readFrame 254 = .ok (.invokevirtual 273, 3) := by decide +kernel
theorem dX9_readFrame_257 : decode cX9_readFrame 257 = .ok (.istore 11, 2) := by decide +kernel
theorem dX9_readFrame_259 : decode cX9_readFrame 259 = .ok (.return_, 1) := by decide +kernel
theorem dX9_readSum_0 : decode cX9_readSum 0 = .ok (.aload_n 0, 1) := by decide +kernel
theorem dX9_readSum_1 : decode cX9_readSum 1 = .ok (.getfield 267, 3) := by decide +kernel
theorem dX9_readSum_4 : decode cX9_readSum 4 = .ok (.lstore 4, 2) := by decide +kernel
theorem dX9_readSum_6 : decode cX9_readSum 6 = .ok (.aload_n 0, 1) := by decide +kernel
theorem dX9_readSum_7 : decode cX9_readSum 7 = .ok (.iload_n 3, 1) := by decide +kernel
theorem dX9_readSum_8 : decode cX9_readSum 8 = .ok (.invokevirtual 277, 3) := by decide +kernel
theorem dX9_readSum_11 : decode cX9_readSum 11 = .ok (.lstore 6, 2) := by decide +kernel
theorem dX9_readSum_13 : decode cX9_readSum 13 = .ok (.aload_n 0, 1) := by decide +kernel
theorem dX9_readSum_14 : decode cX9_readSum 14 = .ok (.getfield 264, 3) := by decide +kernel
theorem dX9_readSum_17 : decode cX9_readSum 17 = .ok (.ifCond .ne 50, 3) := by decide +kernel
theorem dX9_readSum_20 : decode cX9_readSum 20 = .ok (.lload 6, 2) := by decide +kernel
theorem dX9_readSum_22 : decode cX9_readSum 22 = .ok (.aload_n 0, 1) := by decide +kernel
theorem dX9_readSum_23 : decode cX9_readSum 23 = .ok (.getfield 49, 3) := by decide +kernel
theorem dX9_readSum_26 : decode cX9_readSum 26 = .ok (.lload_n 1, 1) := by decide +kernel
theorem dX9_readSum_27 : decode cX9_readSum 27 = .ok (.ldc2_w 73, 3) := by decide +kernel
theorem dX9_readSum_30 : decode cX9_readSum 30 = .ok (.ldiv, 1) := by decide +kernel
theorem dX9_readSum_31 : decode cX9_readSum 31 = .ok (.l2i, 1) := by decide +kernel
theorem dX9_readSum_32 : decode cX9_readSum 32 = .ok (.lload 4, 2) := by decide +kernel
theorem dX9_readSum_34 : decode cX9_readSum 34 = .ok (.ldc2_w 73, 3) := by decide +kernel
theorem dX9_readSum_37 : decode cX9_readSum 37 = .ok (.ldiv, 1) := by decide +kernel
theorem dX9_readSum_38 : decode cX9_readSum 38 = .ok (.l2i, 1) := by decide +kernel
theorem dX9_readSum_39 : decode cX9_readSum 39 = .ok (.iload_n 3, 1) := by decide +kernel
theorem dX9_readSum_40 : decode cX9_readSum 40 = .ok (.bipush 16, 2) := by decide +kernel
theorem dX9_readSum_42 : decode cX9_readSum 42 = .ok (.if_icmp .ne 7, 3) := by decide +kernel
theorem dX9_readSum_45 : decode cX9_readSum 45 = .ok (.iconst 1, 1) := by decide +kernel
theorem dX9_readSum_46 : decode cX9_readSum 46 = .ok (.goto 4, 3) := by decide +kernel
theorem dX9_readSum_49 : decode cX9_readSum 49 = .ok (.iconst 0, 1) := by decide +kernel
theorem dX9_readSum_50 : decode cX9_readSum 50 = .ok (.invokestatic 232, 3) := by decide +kernel
theorem dX9_readSum_53 : decode cX9_readSum 53 = .ok (.i2l, 1) := by decide +kernel
theorem dX9_readSum_54 : decode cX9_readSum 54 = .ok (.lcmp, 1) := by decide +kernel
theorem dX9_readSum_55 : decode cX9_readSum 55 = .ok (.ifCond .eq 12, 3) := by decide +kernel
theorem dX9_readSum_58 : decode cX9_readSum 58 = .ok (.aload_n 0, 1) := by decide +kernel
theorem dX9_readSum_59 : decode cX9_readSum 59 = .ok (.iconst 3, 1) := by decide +kernel
theorem dX9_readSum_60 : decode cX9_readSum 60 = .ok (.lload 4, 2) := by decide +kernel
theorem dX9_readSum_62 : decode cX9_readSum 62 = .ok (.invokevirtual 273, 3) := by decide +kernel
theorem dX9_readSum_65 : decode cX9_readSum 65 = .ok (.istore 8, 2) := by decide +kernel
theorem dX9_readSum_67 : decode cX9_readSum 67 = .ok (.return_, 1) := by decide +kernel
theorem dX9_isKept_0 : decode cX9_isKept 0 = .ok (.iconst 0, 1) := by decide +kernel
theorem dX9_isKept_1 : decode cX9_isKept 1 = .ok (.istore_n 3, 1) := by decide +kernel
theorem dX9_isKept_2 : decode cX9_isKept 2 = .ok (.iload_n 3, 1) := by decide +kernel
theorem dX9_isKept_3 : decode cX9_isKept 3 = .ok (.iload_n 2, 1) := by decide +kernel
theorem dX9_isKept_4 : decode cX9_isKept 4 = .ok (.if_icmp .ge 204, 3) := by decide +kernel
theorem dX9_isKept_7 : decode cX9_isKept 7 = .ok (.aload_n 0, 1) := by decide +kernel
theorem dX9_isKept_8 : decode cX9_isKept 8 = .ok (.getfield 64, 3) := by decide +kernel
theorem dX9_isKept_11 : decode cX9_isKept 11 = .ok (.iload_n 3, 1) := by decide +kernel
theorem dX9_isKept_12 : decode cX9_isKept 12 = .ok (.laload, 1) := by decide +kernel
theorem dX9_isKept_13 : decode cX9_isKept 13 = .ok (.lstore 4, 2) := by decide +kernel
theorem dX9_isKept_15 : decode cX9_isKept 15 = .ok (.aload_n 0, 1) := by decide +kernel
theorem dX9_isKept_16 : decode cX9_isKept 16 = .ok (.getfield 290, 3) := by decide +kernel
theorem dX9_isKept_19 : decode cX9_isKept 19 = .ok (.iconst 1, 1) := by decide +kernel
theorem dX9_isKept_20 : decode cX9_isKept 20 = .ok (.if_icmp .le 16, 3) := by decide +kernel
theorem dX9_isKept_23 : decode cX9_isKept 23 = .ok (.aload_n 0, 1) := by decide +kernel
theorem dX9_isKept_24 : decode cX9_isKept 24 = .ok (.getfield 64, 3) := by decide +kernel
theorem dX9_isKept_27 : decode cX9_isKept 27 = .ok (.sipush 256, 3) := by decide +kernel
theorem dX9_isKept_30 : decode cX9_isKept 30 = .ok (.iload_n 3, 1) := by decide +kernel
theorem dX9_isKept_31 : decode cX9_isKept 31 = .ok (.iadd, 1) := by decide +kernel
theorem dX9_isKept_32 : decode cX9_isKept 32 = .ok (.laload, 1) := by decide +kernel
theorem dX9_isKept_33 : decode cX9_isKept 33 = .ok (.goto 4, 3) := by decide +kernel
theorem dX9_isKept_36 : decode cX9_isKept 36 = .ok (.lconst 0, 1) := by decide +kernel
theorem dX9_isKept_37 : decode cX9_isKept 37 = .ok (.lstore 6, 2) := by decide +kernel
theorem dX9_isKept_39 : decode cX9_isKept 39 = .ok (.iload_n 1, 1) := by decide +kernel
theorem dX9_isKept_40 : decode cX9_isKept 40 = .ok (.bipush 8, 2) := by decide +kernel
theorem dX9_isKept_42 : decode cX9_isKept 42 = .ok (.if_icmp .ne 18, 3) := by decide +kernel
theorem dX9_isKept_45 : decode cX9_isKept 45 = .ok (.aload_n 0, 1) := by decide +kernel
theorem dX9_isKept_46 : decode cX9_isKept 46 = .ok (.getfield 64, 3) := by decide +kernel
theorem dX9_isKept_49 : decode cX9_isKept 49 = .ok (.sipush 256, 3) := by decide +kernel
theorem dX9_isKept_52 : decode cX9_isKept 52 = .ok (.iload_n 3, 1) := by decide +kernel
theorem dX9_isKept_53 : decode cX9_isKept 53 = .ok (.iadd, 1) := by decide +kernel
theorem dX9_isKept_54 : decode cX9_isKept 54 = .ok (.lload 4, 2) := by decide +kernel
theorem dX9_isKept_56 : decode cX9_isKept 56 = .ok (.lload 6, 2) := by decide +kernel
theorem dX9_isKept_58 : decode cX9_isKept 58 = .ok (.lsub, 1) := by decide +kernel
theorem dX9_isKept_59 : decode cX9_isKept 59 = .ok (.lastore, 1) := by decide +kernel
theorem dX9_isKept_60 : decode cX9_isKept 60 = .ok (.iload_n 1, 1) := by decide +kernel
theorem dX9_isKept_61 : decode cX9_isKept 61 = .ok (.bipush 9, 2) := by decide +kernel
theorem dX9_isKept_63 : decode cX9_isKept 63 = .ok (.if_icmp .ne 14, 3) := by decide +kernel
theorem dX9_isKept_66 : decode cX9_isKept 66 = .ok (.aload_n 0, 1) := by decide +kernel
theorem dX9_isKept_67 : decode cX9_isKept 67 = .ok (.getfield 64, 3) := by decide +kernel
theorem dX9_isKept_70 : decode cX9_isKept 70 = .ok (.iload_n 3, 1) := by decide +kernel
theorem dX9_isKept_71 : decode cX9_isKept 71 = .ok (.lload 4, 2) := by decide +kernel
theorem dX9_isKept_73 : decode cX9_isKept 73 = .ok (.lload 6, 2) := by decide +kernel
theorem dX9_isKept_75 : decode cX9_isKept 75 = .ok (.ladd, 1) := by decide +kernel
theorem dX9_isKept_76 : decode cX9_isKept 76 = .ok (.lastore, 1) := by decide +kernel
theorem dX9_isKept_77 : decode cX9_isKept 77 = .ok (.iload_n 1, 1) := by decide +kernel
theorem dX9_isKept_78 : decode cX9_isKept 78 = .ok (.bipush 10, 2) := by decide +kernel
theorem dX9_isKept_80 : decode cX9_isKept 80 = .ok (.if_icmp .ne 46, 3) := by decide +kernel
theorem dX9_isKept_83 : decode cX9_isKept 83 = .ok (.ldc2_w 111, 3) := by decide +kernel
theorem dX9_isKept_86 : decode cX9_isKept 86 = .ok (.lload 4, 2) := by decide +kernel
theorem dX9_isKept_88 : decode cX9_isKept 88 = .ok (.lmul, 1) := by decide +kernel
theorem dX9_isKept_89 : decode cX9_isKept 89 = .ok (.lload 6, 2) := by decide +kernel
theorem dX9_isKept_91 : decode cX9_isKept 91 = .ok (.lconst 1, 1) := by decide +kernel
theorem dX9_isKept_92 : decode cX9_isKept 92 = .ok (.land, 1) := by decide +kernel
theorem dX9_isKept_93 : decode cX9_isKept 93 = .ok (.ladd, 1) := by decide +kernel
theorem dX9_isKept_94 : decode cX9_isKept 94 = .ok (.lstore 8, 2) := by decide +kernel
theorem dX9_isKept_96 : decode cX9_isKept 96 = .ok (.aload_n 0, 1) := by decide +kernel
theorem dX9_isKept_97 : decode cX9_isKept 97 = .ok (.getfield 64, 3) := by decide +kernel
theorem dX9_isKept_100 : decode cX9_isKept 100 = .ok (.iload_n 3, 1) := by decide +kernel
theorem dX9_isKept_101 : decode cX9_isKept 101 = .ok (.lload 8, 2) := by decide +kernel
theorem dX9_isKept_103 : decode cX9_isKept 103 = .ok (.lload 6, 2) := by decide +kernel
theorem dX9_isKept_105 : decode cX9_isKept 105 = .ok (.ladd, 1) := by decide +kernel
theorem dX9_isKept_106 : decode cX9_isKept 106 = .ok (.iconst 1, 1) := by decide +kernel
theorem dX9_isKept_107 : decode cX9_isKept 107 = .ok (.lshr, 1) := by decide +kernel
theorem dX9_isKept_108 : decode cX9_isKept 108 = .ok (.lastore, 1) := by decide +kernel
theorem dX9_isKept_109 : decode cX9_isKept 109 = .ok (.aload_n 0, 1) := by decide +kernel
theorem dX9_isKept_110 : decode cX9_isKept 110 = .ok (.getfield 64, 3) := by decide +kernel
theorem dX9_isKept_113 : decode cX9_isKept 113 = .ok (.sipush 256, 3) := by decide +kernel
theorem dX9_isKept_116 : decode cX9_isKept 116 = .ok (.iload_n 3, 1) := by decide +kernel
theorem dX9_isKept_117 : decode cX9_isKept 117 = .ok (.iadd, 1) := by decide +kernel
theorem dX9_isKept_118 : decode cX9_isKept 118 = .ok (.lload 8, 2) := by decide +kernel
theorem dX9_isKept_120 : decode cX9_isKept 120 = .ok (.lload 6, 2) := by decide +kernel
theorem dX9_isKept_122 : decode cX9_isKept 122 = .ok (.lsub, 1) := by decide +kernel
theorem dX9_isKept_123 : decode cX9_isKept 123 = .ok (.iconst 1, 1) := by decide +kernel
theorem dX9_isKept_124 : decode cX9_isKept 124 = .ok (.lshr, 1) := by decide +kernel
theorem dX9_isKept_125 : decode cX9_isKept 125 = .ok (.lastore, 1) := by decide +kernel
theorem dX9_isKept_126 : decode cX9_isKept 126 = .ok (.iconst 0, 1) := by decide +kernel
theorem dX9_isKept_127 : decode cX9_isKept 127 = .ok (.istore 8, 2) := by decide +kernel
theorem dX9_isKept_129 : decode cX9_isKept 129 = .ok (.iload 8, 2) := by decide +kernel
theorem dX9_isKept_131 : decode cX9_isKept 131 = .ok (.aload_n 0, 1) := by decide +kernel
theorem dX9_isKept_132 : decode cX9_isKept 132 = .ok (.getfield 290, 3) := by decide +kernel
theorem dX9_isKept_135 : decode cX9_isKept 135 = .ok (.if_icmp .ge 67, 3) := by decide +kernel
theorem dX9_isKept_138 : decode cX9_isKept 138 = .ok (.aload_n 0, 1) := by decide +kernel
theorem dX9_isKept_139 : decode cX9_isKept 139 = .ok (.getfield 64, 3) := by decide +kernel
theorem dX9_isKept_142 : decode cX9_isKept 142 = .ok (.sipush 256, 3) := by decide +kernel
theorem dX9_isKept_145 : decode cX9_isKept 145 = .ok (.iload 8, 2) := by decide +kernel
theorem dX9_isKept_147 : decode cX9_isKept 147 = .ok (.imul, 1) := by decide +kernel
theorem dX9_isKept_148 : decode cX9_isKept 148 = .ok (.iload_n 3, 1) := by decide +kernel
theorem dX9_isKept_149 : decode cX9_isKept 149 = .ok (.iadd, 1) := by decide +kernel
theorem dX9_isKept_150 : decode cX9_isKept 150 = .ok (.laload, 1) := by decide +kernel
theorem dX9_isKept_151 : decode cX9_isKept 151 = .ok (.aload_n 0, 1) := by decide +kernel
theorem dX9_isKept_152 : decode cX9_isKept 152 = .ok (.getfield 295, 3) := by decide +kernel
theorem dX9_isKept_155 : decode cX9_isKept 155 = .ok (.invokestatic 104, 3) := by decide +kernel
theorem dX9_isKept_158 : decode cX9_isKept 158 = .ok (.ifCond .ne 5, 3) := by decide +kernel
theorem dX9_isKept_161 : decode cX9_isKept 161 = .ok (.iconst 0, 1) := by decide +kernel
theorem dX9_isKept_162 : decode cX9_isKept 162 = .ok (.ireturn, 1) := by decide +kernel
theorem dX9_isKept_163 : decode cX9_isKept 163 = .ok (.aload_n 0, 1) := by decide +kernel
theorem dX9_isKept_164 : decode cX9_isKept 164 = .ok (.getfield 61, 3) := by decide +kernel
theorem dX9_isKept_167 : decode cX9_isKept 167 = .ok (.aload_n 0, 1) := by decide +kernel
theorem dX9_isKept_168 : decode cX9_isKept 168 = .ok (.getfield 342, 3) := by decide +kernel
theorem dX9_isKept_171 : decode cX9_isKept 171 = .ok (.aload_n 0, 1) := by decide +kernel
theorem dX9_isKept_172 : decode cX9_isKept 172 = .ok (.getfield 64, 3) := by decide +kernel
theorem dX9_isKept_175 : decode cX9_isKept 175 = .ok (.sipush 256, 3) := by decide +kernel
theorem dX9_isKept_178 : decode cX9_isKept 178 = .ok (.iload 8, 2) := by decide +kernel
theorem dX9_isKept_180 : decode cX9_isKept 180 = .ok (.imul, 1) := by decide +kernel
theorem dX9_isKept_181 : decode cX9_isKept 181 = .ok (.iload_n 3, 1) := by decide +kernel
theorem dX9_isKept_182 : decode cX9_isKept 182 = .ok (.iadd, 1) := by decide +kernel
theorem dX9_isKept_183 : decode cX9_isKept 183 = .ok (.laload, 1) := by decide +kernel
theorem dX9_isKept_184 : decode cX9_isKept 184 = .ok (.l2i, 1) := by decide +kernel
theorem dX9_isKept_185 : decode cX9_isKept 185 = .ok (.iastore, 1) := by decide +kernel
theorem dX9_isKept_186 : decode cX9_isKept 186 = .ok (.aload_n 0, 1) := by decide +kernel
theorem dX9_isKept_187 : decode cX9_isKept 187 = .ok (.dup, 1) := by decide +kernel
theorem dX9_isKept_188 : decode cX9_isKept 188 = .ok (.getfield 342, 3) := by decide +kernel
theorem dX9_isKept_191 : decode cX9_isKept 191 = .ok (.iconst 1, 1) := by decide +kernel
theorem dX9_isKept_192 : decode cX9_isKept 192 = .ok (.iadd, 1) := by decide +kernel
theorem dX9_isKept_193 : decode cX9_isKept 193 = .ok (.putfield 342, 3) := by decide +kernel
theorem dX9_isKept_196 : decode cX9_isKept 196 = .ok (.iinc 8 1, 3) := by decide +kernel
theorem dX9_isKept_199 : decode cX9_isKept 199 = .ok (.goto (-70), 3) := by decide +kernel
theorem dX9_isKept_202 : decode cX9_isKept 202 = .ok (.iinc 3 1, 3) := by decide +kernel
theorem dX9_isKept_205 : decode cX9_isKept 205 = .ok (.goto (-203), 3) := by decide +kernel
theorem dX9_isKept_208 : decode cX9_isKept 208 = .ok (.iconst 1, 1) := by decide +kernel
theorem dX9_isKept_209 : decode cX9_isKept 209 = .ok (.ireturn, 1) := by decide +kernel
theorem dX9_readRow_0 : decode cX9_readRow 0 = .ok (.aload_n 0, 1) := by decide +kernel
theorem dX9_readRow_1 : decode cX9_readRow 1 = .ok (.iconst 1, 1) := by decide +kernel
theorem dX9_readRow_2 : decode cX9_readRow 2 = .ok (.lconst 0, 1) := by decide +kernel
theorem dX9_readRow_3 : decode cX9_readRow 3 = .ok (.lconst 0, 1) := by decide +kernel
theorem dX9_readRow_4 : decode cX9_readRow 4 = .ok (.invokevirtual 280, 3) := by decide +kernel
theorem dX9_readRow_7 : decode cX9_readRow 7 = .ok (.lstore 4, 2) := by decide +kernel
theorem dX9_readRow_9 : decode cX9_readRow 9 = .ok (.aload_n 0, 1) := by decide +kernel
theorem dX9_readRow_10 : decode cX9_readRow 10 = .ok (.getfield 267, 3) := by decide +kernel
theorem dX9_readRow_13 : decode cX9_readRow 13 = .ok (.lstore 6, 2) := by decide +kernel
theorem dX9_readRow_15 : decode cX9_readRow 15 = .ok (.aload_n 0, 1) := by decide +kernel
theorem dX9_readRow_16 : decode cX9_readRow 16 = .ok (.bipush 6, 2) := by decide +kernel
theorem dX9_readRow_18 : decode cX9_readRow 18 = .ok (.invokevirtual 277, 3) := by decide +kernel
theorem dX9_readRow_21 : decode cX9_readRow 21 = .ok (.l2i, 1) := by decide +kernel
theorem dX9_readRow_22 : decode cX9_readRow 22 = .ok (.istore 8, 2) := by decide +kernel
theorem dX9_readRow_24 : decode cX9_readRow 24 = .ok (.iload 8, 2) := by decide +kernel
theorem dX9_readRow_26 : decode cX9_readRow 26 = .ok (.iconst 2, 1) := by decide +kernel
theorem dX9_readRow_27 : decode cX9_readRow 27 = .ok (.if_icmp .lt 43, 3) := by decide +kernel
theorem dX9_readRow_30 : decode cX9_readRow 30 = .ok (.iload 8, 2) := by decide +kernel
theorem dX9_readRow_32 : decode cX9_readRow 32 = .ok (.i2l, 1) := by decide +kernel
theorem dX9_readRow_33 : decode cX9_readRow 33 = .ok (.ldc2_w 73, 3) := by decide +kernel
theorem dX9_readRow_36 : decode cX9_readRow 36 = .ok (.ldc2_w 345, 3) := by decide +kernel
theorem dX9_readRow_39 : decode cX9_readRow 39 = .ok (.invokestatic 75, 3) := by decide +kernel
theorem dX9_readRow_42 : decode cX9_readRow 42 = .ok (.ifCond .eq 12, 3) := by decide +kernel
theorem dX9_readRow_45 : decode cX9_readRow 45 = .ok (.iload 8, 2) := by decide +kernel
theorem dX9_readRow_47 : decode cX9_readRow 47 = .ok (.bipush 8, 2) := by decide +kernel
theorem dX9_readRow_49 : decode cX9_readRow 49 = .ok (.isub, 1) := by decide +kernel
theorem dX9_readRow_50 : decode cX9_readRow 50 = .ok (.iload_n 2, 1) := by decide +kernel
theorem dX9_readRow_51 : decode cX9_readRow 51 = .ok (.if_icmp .le 19, 3) := by decide +kernel
theorem dX9_readRow_54 : decode cX9_readRow 54 = .ok (.iload 8, 2) := by decide +kernel
theorem dX9_readRow_56 : decode cX9_readRow 56 = .ok (.bipush 31, 2) := by decide +kernel
theorem dX9_readRow_58 : decode cX9_readRow 58 = .ok (.if_icmp .le 16, 3) := by decide +kernel
theorem dX9_readRow_61 : decode cX9_readRow 61 = .ok (.iload 8, 2) := by decide +kernel
theorem dX9_readRow_63 : decode cX9_readRow 63 = .ok (.bipush 31, 2) := by decide +kernel
theorem dX9_readRow_65 : decode cX9_readRow 65 = .ok (.isub, 1) := by decide +kernel
theorem dX9_readRow_66 : decode cX9_readRow 66 = .ok (.iload_n 2, 1) := by decide +kernel
theorem dX9_readRow_67 : decode cX9_readRow 67 = .ok (.if_icmp .gt 7, 3) := by decide +kernel
theorem dX9_readRow_70 : decode cX9_readRow 70 = .ok (.iconst 1, 1) := by decide +kernel
theorem dX9_readRow_71 : decode cX9_readRow 71 = .ok (.goto 4, 3) := by decide +kernel
theorem dX9_readRow_74 : decode cX9_readRow 74 = .ok (.iconst 0, 1) := by decide +kernel
theorem dX9_readRow_75 : decode cX9_readRow 75 = .ok (.istore 9, 2) := by decide +kernel
theorem dX9_readRow_77 : decode cX9_readRow 77 = .ok (.aload_n 0, 1) := by decide +kernel
theorem dX9_readRow_78 : decode cX9_readRow 78 = .ok (.getfield 264, 3) := by decide +kernel
theorem dX9_readRow_81 : decode cX9_readRow 81 = .ok (.ifCond .ne 17, 3) := by decide +kernel
theorem dX9_readRow_84 : decode cX9_readRow 84 = .ok (.iload 9, 2) := by decide +kernel
theorem dX9_readRow_86 : decode cX9_readRow 86 = .ok (.ifCond .ne 12, 3) := by decide +kernel
theorem dX9_readRow_89 : decode cX9_readRow 89 = .ok (.aload_n 0, 1) := by decide +kernel
theorem dX9_readRow_90 : decode cX9_readRow 90 = .ok (.iconst 2, 1) := by decide +kernel
theorem dX9_readRow_91 : decode cX9_readRow 91 = .ok (.lload 6, 2) := by decide +kernel
theorem dX9_readRow_93 : decode cX9_readRow 93 = .ok (.invokevirtual 273, 3) := by decide +kernel
theorem dX9_readRow_96 : decode cX9_readRow 96 = .ok (.istore 10, 2) := by decide +kernel
theorem dX9_readRow_98 : decode cX9_readRow 98 = .ok (.aload_n 0, 1) := by decide +kernel
theorem dX9_readRow_99 : decode cX9_readRow 99 = .ok (.iconst 1, 1) := by decide +kernel
theorem dX9_readRow_100 : decode cX9_readRow 100 = .ok (.invokevirtual 277, 3) := by decide +kernel
theorem dX9_readRow_103 : decode cX9_readRow 103 = .ok (.lstore 10, 2) := by decide +kernel
theorem dX9_readRow_105 : decode cX9_readRow 105 = .ok (.aload_n 0, 1) := by decide +kernel
theorem dX9_readRow_106 : decode cX9_readRow 106 = .ok (.getfield 267, 3) := by decide +kernel
theorem dX9_readRow_109 : decode cX9_readRow 109 = .ok (.lstore 6, 2) := by decide +kernel
theorem dX9_readRow_111 : decode cX9_readRow 111 = .ok (.lload 10, 2) := by decide +kernel
theorem dX9_readRow_113 : decode cX9_readRow 113 = .ok (.lconst 1, 1) := by decide +kernel
theorem dX9_readRow_114 : decode cX9_readRow 114 = .ok (.lcmp, 1) := by decide +kernel
theorem dX9_readRow_115 : decode cX9_readRow 115 = .ok (.ifCond .ne 11, 3) := by decide +kernel
theorem dX9_readRow_118 : decode cX9_readRow 118 = .ok (.lconst 1, 1) := by decide +kernel
theorem dX9_readRow_119 : decode cX9_readRow 119 = .ok (.aload_n 0, 1) := by decide +kernel
theorem dX9_readRow_120 : decode cX9_readRow 120 = .ok (.invokevirtual 347, 3) := by decide +kernel
theorem dX9_readRow_123 : decode cX9_readRow 123 = .ok (.ladd, 1) := by decide +kernel
theorem dX9_readRow_124 : decode cX9_readRow 124 = .ok (.lstore 10, 2) := by decide +kernel
theorem dX9_readRow_126 : decode cX9_readRow 126 = .ok (.aload_n 0, 1) := by decide +kernel
theorem dX9_readRow_127 : decode cX9_readRow 127 = .ok (.getfield 264, 3) := by decide +kernel
theorem dX9_readRow_130 : decode cX9_readRow 130 = .ok (.ifCond .ne 20, 3) := by decide +kernel
theorem dX9_readRow_133 : decode cX9_readRow 133 = .ok (.lload 10, 2) := by decide +kernel
theorem dX9_readRow_135 : decode cX9_readRow 135 = .ok (.iload_n 3, 1) := by decide +kernel
theorem dX9_readRow_136 : decode cX9_readRow 136 = .ok (.i2l, 1) := by decide +kernel
theorem dX9_readRow_137 : decode cX9_readRow 137 = .ok (.lcmp, 1) := by decide +kernel
theorem dX9_readRow_138 : decode cX9_readRow 138 = .ok (.ifCond .lt 12, 3) := by decide +kernel
theorem dX9_readRow_141 : decode cX9_readRow 141 = .ok (.aload_n 0, 1) := by decide +kernel
theorem dX9_readRow_142 : decode cX9_readRow 142 = .ok (.iconst 2, 1) := by decide +kernel
theorem dX9_readRow_143 : decode cX9_readRow 143 = .ok (.lload 6, 2) := by decide +kernel
theorem dX9_readRow_145 : decode cX9_readRow 145 = .ok (.invokevirtual 273, 3) := by decide +kernel
theorem dX9_readRow_148 : decode cX9_readRow 148 = .ok (.istore 12, 2) := by decide +kernel
theorem dX9_readRow_150 : decode cX9_readRow 150 = .ok (.aload_n 0, 1) := by decide +kernel
theorem dX9_readRow_151 : decode cX9_readRow 151 = .ok (.getfield 264, 3) := by decide +kernel
theorem dX9_readRow_154 : decode cX9_readRow 154 = .ok (.ifCond .le 4, 3) := by decide +kernel
theorem dX9_readRow_157 : decode cX9_readRow 157 = .ok (.return_, 1) := by decide +kernel
theorem dX9_readRow_158 : decode cX9_readRow 158 = .ok (.iload_n 3, 1) := by decide +kernel
theorem dX9_readRow_159 : decode cX9_readRow 159 = .ok (.lload 10, 2) := by decide +kernel
theorem dX9_readRow_161 : decode cX9_readRow 161 = .ok (.l2i, 1) := by decide +kernel
theorem dX9_readRow_162 : decode cX9_readRow 162 = .ok (.isub, 1) := by decide +kernel
theorem dX9_readRow_163 : decode cX9_readRow 163 = .ok (.istore 12, 2) := by decide +kernel
theorem dX9_readRow_165 : decode cX9_readRow 165 = .ok (.iload 8, 2) := by decide +kernel
theorem dX9_readRow_167 : decode cX9_readRow 167 = .ok (.ifCond .ne 7, 3) := by decide +kernel
theorem dX9_readRow_170 : decode cX9_readRow 170 = .ok (.iconst 1, 1) := by decide +kernel
theorem dX9_readRow_171 : decode cX9_readRow 171 = .ok (.goto 18, 3) := by decide +kernel
theorem dX9_readRow_174 : decode cX9_readRow 174 = .ok (.iload 8, 2) := by decide +kernel
theorem dX9_readRow_176 : decode cX9_readRow 176 = .ok (.iconst 1, 1) := by decide +kernel
theorem dX9_readRow_177 : decode cX9_readRow 177 = .ok (.if_icmp .ne 7, 3) := by decide +kernel
theorem dX9_readRow_180 : decode cX9_readRow 180 = .ok (.iload_n 2, 1) := by decide +kernel
theorem dX9_readRow_181 : decode cX9_readRow 181 = .ok (.goto 8, 3) := by decide +kernel
theorem dX9_readRow_184 : decode cX9_readRow 184 = .ok (.iload 8, 2) := by decide +kernel
theorem dX9_readRow_186 : decode cX9_readRow 186 = .ok (.invokestatic 117, 3) := by decide +kernel
theorem dX9_readRow_189 : decode cX9_readRow 189 = .ok (.istore 13, 2) := by decide +kernel
theorem dX9_readRow_191 : decode cX9_readRow 191 = .ok (.iconst 0, 1) := by decide +kernel
theorem dX9_readRow_192 : decode cX9_readRow 192 = .ok (.istore 14, 2) := by decide +kernel
theorem dX9_readRow_194 : decode cX9_readRow 194 = .ok (.iload 14, 2) := by decide +kernel
theorem dX9_readRow_196 : decode cX9_readRow 196 = .ok (.iload 13, 2) := by decide +kernel
theorem dX9_readRow_198 : decode cX9_readRow 198 = .ok (.if_icmp .ge 28, 3) := by decide +kernel
theorem dX9_readRow_201 : decode cX9_readRow 201 = .ok (.aload_n 0, 1) := by decide +kernel
theorem dX9_readRow_202 : decode cX9_readRow 202 = .ok (.getfield 64, 3) := by decide +kernel
theorem dX9_readRow_205 : decode cX9_readRow 205 = .ok (.sipush 256, 3) := by decide +kernel
theorem dX9_readRow_208 : decode cX9_readRow 208 = .ok (.iload_n 1, 1) := by decide +kernel
theorem dX9_readRow_209 : decode cX9_readRow 209 = .ok (.imul, 1) := by decide +kernel
theorem dX9_readRow_210 : decode cX9_readRow 210 = .ok (.iload 14, 2) := by decide +kernel
theorem dX9_readRow_212 : decode cX9_readRow 212 = .ok (.iadd, 1) := by decide +kernel
theorem dX9_readRow_213 : decode cX9_readRow 213 = .ok (.aload_n 0, 1) := by decide +kernel
theorem dX9_readRow_214 : decode cX9_readRow 214 = .ok (.iload 12, 2) := by decide +kernel
theorem dX9_readRow_216 : decode cX9_readRow 216 = .ok (.invokevirtual 351, 3) := by decide +kernel
theorem dX9_readRow_219 : decode cX9_readRow 219 = .ok (.lastore, 1) := by decide +kernel
theorem dX9_readRow_220 : decode cX9_readRow 220 = .ok (.iinc 14 1, 3) := by decide +kernel
theorem dX9_readRow_223 : decode cX9_readRow 223 = .ok (.goto (-29), 3) := by decide +kernel
theorem dX9_readRow_226 : decode cX9_readRow 226 = .ok (.iconst 1, 1) := by decide +kernel
theorem dX9_readRow_227 : decode cX9_readRow 227 = .ok (.istore 14, 2) := by decide +kernel
theorem dX9_readRow_229 : decode cX9_readRow 229 = .ok (.iload 14, 2) := by decide +kernel
theorem dX9_readRow_231 : decode cX9_readRow 231 = .ok (.iload_n 2, 1) := by decide +kernel
theorem dX9_readRow_232 : decode cX9_readRow 232 = .ok (.if_icmp .ge 37, 3) := by decide +kernel
theorem dX9_readRow_235 : decode cX9_readRow 235 = .ok (.iload 8, 2) := by decide +kernel
theorem dX9_readRow_237 : decode cX9_readRow 237 = .ok (.ifCond .ne 32, 3) := by decide +kernel
theorem dX9_readRow_240 : decode cX9_readRow 240 = .ok (.aload_n 0, 1) := by decide +kernel
theorem dX9_readRow_241 : decode cX9_readRow 241 = .ok (.getfield 64, 3) := by decide +kernel
theorem dX9_readRow_244 : decode cX9_readRow 244 = .ok (.sipush 256, 3) := by decide +kernel
theorem dX9_readRow_247 : decode cX9_readRow 247 = .ok (.iload_n 1, 1) := by decide +kernel
theorem dX9_readRow_248 : decode cX9_readRow 248 = .ok (.imul, 1) := by decide +kernel
theorem dX9_readRow_249 : decode cX9_readRow 249 = .ok (.iload 14, 2) := by decide +kernel
theorem dX9_readRow_251 : decode cX9_readRow 251 = .ok (.iadd, 1) := by decide +kernel
theorem dX9_readRow_252 : decode cX9_readRow 252 = .ok (.aload_n 0, 1) := by decide +kernel
theorem dX9_readRow_253 : decode cX9_readRow 253 = .ok (.getfield 64, 3) := by decide +kernel
theorem dX9_readRow_256 : decode cX9_readRow 256 = .ok (.sipush 256, 3) := by decide +kernel
theorem dX9_readRow_259 : decode cX9_readRow 259 = .ok (.iload_n 1, 1) := by decide +kernel
theorem dX9_readRow_260 : decode cX9_readRow 260 = .ok (.imul, 1) := by decide +kernel
theorem dX9_readRow_261 : decode cX9_readRow 261 = .ok (.laload, 1) := by decide +kernel
theorem dX9_readRow_262 : decode cX9_readRow 262 = .ok (.lastore, 1) := by decide +kernel
theorem dX9_readRow_263 : decode cX9_readRow 263 = .ok (.iinc 14 1, 3) := by decide +kernel
theorem dX9_readRow_266 : decode cX9_readRow 266 = .ok (.goto (-37), 3) := by decide +kernel
theorem dX9_readRow_269 : decode cX9_readRow 269 = .ok (.iload 8, 2) := by decide +kernel
theorem dX9_readRow_271 : decode cX9_readRow 271 = .ok (.bipush 7, 2) := by decide +kernel
theorem dX9_readRow_273 : decode cX9_readRow 273 = .ok (.if_icmp .le 13, 3) := by decide +kernel
theorem dX9_readRow_276 : decode cX9_readRow 276 = .ok (.aload_n 0, 1) := by decide +kernel
theorem dX9_readRow_277 : decode cX9_readRow 277 = .ok (.iload_n 1, 1) := by decide +kernel
theorem dX9_readRow_278 : decode cX9_readRow 278 = .ok (.iload_n 2, 1) := by decide +kernel
theorem dX9_readRow_279 : decode cX9_readRow 279 = .ok (.iload 12, 2) := by decide +kernel
theorem dX9_readRow_281 : decode cX9_readRow 281 = .ok (.iload 8, 2) := by decide +kernel
theorem dX9_readRow_283 : decode cX9_readRow 283 = .ok (.invokevirtual 354, 3) := by decide +kernel
theorem dX9_readRow_286 : decode cX9_readRow 286 = .ok (.iconst 0, 1) := by decide +kernel
theorem dX9_readRow_287 : decode cX9_readRow 287 = .ok (.istore 14, 2) := by decide +kernel
theorem dX9_readRow_289 : decode cX9_readRow 289 = .ok (.iload 14, 2) := by decide +kernel
theorem dX9_readRow_291 : decode cX9_readRow 291 = .ok (.iload_n 2, 1) := by decide +kernel
theorem dX9_readRow_292 : decode cX9_readRow 292 = .ok (.if_icmp .ge 28, 3) := by decide +kernel
theorem dX9_readRow_295 : decode cX9_readRow 295 = .ok (.aload_n 0, 1) := by decide +kernel
theorem dX9_readRow_296 : decode cX9_readRow 296 = .ok (.getfield 64, 3) := by decide +kernel
theorem dX9_readRow_299 : decode cX9_readRow 299 = .ok (.sipush 256, 3) := by decide +kernel
theorem dX9_readRow_302 : decode cX9_readRow 302 = .ok (.iload_n 1, 1) := by decide +kernel
theorem dX9_readRow_303 : decode cX9_readRow 303 = .ok (.imul, 1) := by decide +kernel
theorem dX9_readRow_304 : decode cX9_readRow 304 = .ok (.iload 14, 2) := by decide +kernel
theorem dX9_readRow_306 : decode cX9_readRow 306 = .ok (.iadd, 1) := by decide +kernel
theorem dX9_readRow_307 : decode cX9_readRow 307 = .ok (.dup2, 1) := by decide +kernel
theorem dX9_readRow_308 : decode cX9_readRow 308 = .ok (.laload, 1) := by decide +kernel
theorem dX9_readRow_309 : decode cX9_readRow 309 = .ok (.lload 10, 2) := by decide +kernel
theorem dX9_readRow_311 : decode cX9_readRow 311 = .ok (.l2i, 1) := by decide +kernel
theorem dX9_readRow_312 : decode cX9_readRow 312 = .ok (.lshl, 1) := by decide +kernel
theorem dX9_readRow_313 : decode cX9_readRow 313 = .ok (.lastore, 1) := by decide +kernel
theorem dX9_readRow_314 : decode cX9_readRow 314 = .ok (.iinc 14 1, 3) := by decide +kernel
theorem dX9_readRow_317 : decode cX9_readRow 317 = .ok (.goto (-28), 3) := by decide +kernel
theorem dX9_readRow_320 : decode cX9_readRow 320 = .ok (.return_, 1) := by decide +kernel
theorem dX9_readWeights_0 : decode cX9_readWeights 0 = .ok (.aload_n 0, 1) := by decide +kernel
theorem dX9_readWeights_1 : decode cX9_readWeights 1 = .ok (.iconst 4, 1) := by decide +kernel
theorem dX9_readWeights_2 : decode cX9_readWeights 2 = .ok (.lconst 0, 1) := by decide +kernel
theorem dX9_readWeights_3 : decode cX9_readWeights 3 = .ok (.ldc2_w 92, 3) := by decide +kernel
theorem dX9_readWeights_6 : decode cX9_readWeights 6 = .ok (.invokevirtual 280, 3) := by decide +kernel
theorem dX9_readWeights_9 : decode cX9_readWeights 9 = .ok (.l2i, 1) := by decide +kernel
theorem dX9_readWeights_10 : decode cX9_readWeights 10 = .ok (.iconst 1, 1) := by decide +kernel
theorem dX9_readWeights_11 : decode cX9_readWeights 11 = .ok (.iadd, 1) := by decide +kernel
theorem dX9_readWeights_12 : decode cX9_readWeights 12 = .ok (.istore_n 2, 1) := by decide +kernel
theorem dX9_readWeights_13 : decode cX9_readWeights 13 = .ok (.aload_n 0, 1) := by decide +kernel
theorem dX9_readWeights_14 : decode cX9_readWeights 14 = .ok (.aload_n 0, 1) := by decide +kernel
theorem dX9_readWeights_15 : decode cX9_readWeights 15 = .ok (.iconst 5, 1) := by decide +kernel
theorem dX9_readWeights_16 : decode cX9_readWeights 16 = .ok (.lconst 0, 1) := by decide +kernel
theorem dX9_readWeights_17 : decode cX9_readWeights 17 = .ok (.ldc2_w 190, 3) := by decide +kernel
theorem dX9_readWeights_20 : decode cX9_readWeights 20 = .ok (.invokevirtual 280, 3) := by decide +kernel
theorem dX9_readWeights_23 : decode cX9_readWeights 23 = .ok (.l2i, 1) := by decide +kernel
theorem dX9_readWeights_24 : decode cX9_readWeights 24 = .ok (.putfield 358, 3) := by decide +kernel
theorem dX9_readWeights_27 : decode cX9_readWeights 27 = .ok (.iconst 0, 1) := by decide +kernel
theorem dX9_readWeights_28 : decode cX9_readWeights 28 = .ok (.istore_n 3, 1) := by decide +kernel
theorem dX9_readWeights_29 : decode cX9_readWeights 29 = .ok (.iload_n 3, 1) := by decide +kernel
theorem dX9_readWeights_30 : decode cX9_readWeights 30 = .ok (.iload_n 1, 1) := by decide +kernel
theorem dX9_readWeights_31 : decode cX9_readWeights 31 = .ok (.if_icmp .ge 21, 3) := by decide +kernel
theorem dX9_readWeights_34 : decode cX9_readWeights 34 = .ok (.aload_n 0, 1) := by decide +kernel
theorem dX9_readWeights_35 : decode cX9_readWeights 35 = .ok (.getfield 67, 3) := by decide +kernel
theorem dX9_readWeights_38 : decode cX9_readWeights 38 = .ok (.iload_n 3, 1) := by decide +kernel
theorem dX9_readWeights_39 : decode cX9_readWeights 39 = .ok (.aload_n 0, 1) := by decide +kernel
theorem dX9_readWeights_40 : decode cX9_readWeights 40 = .ok (.iload_n 2, 1) := by decide +kernel
theorem dX9_readWeights_41 : decode cX9_readWeights 41 = .ok (.invokevirtual 351, 3) := by decide +kernel
theorem dX9_readWeights_44 : decode cX9_readWeights 44 = .ok (.l2i, 1) := by decide +kernel
theorem dX9_readWeights_45 : decode cX9_readWeights 45 = .ok (.iastore, 1) := by decide +kernel
theorem dX9_readWeights_46 : decode cX9_readWeights 46 = .ok (.iinc 3 1, 3) := by decide +kernel
theorem dX9_readWeights_49 : decode cX9_readWeights 49 = .ok (.goto (-20), 3) := by decide +kernel
theorem dX9_readWeights_52 : decode cX9_readWeights 52 = .ok (.return_, 1) := by decide +kernel
theorem dX9_foretold_0 : decode cX9_foretold 0 = .ok (.iload_n 3, 1) := by decide +kernel
theorem dX9_foretold_1 : decode cX9_foretold 1 = .ok (.bipush 32, 2) := by decide +kernel
theorem dX9_foretold_3 : decode cX9_foretold 3 = .ok (.if_icmp .ge 68, 3) := by decide +kernel
theorem dX9_foretold_6 : decode cX9_foretold 6 = .ok (.iconst 0, 1) := by decide +kernel
theorem dX9_foretold_7 : decode cX9_foretold 7 = .ok (.istore 4, 2) := by decide +kernel
theorem dX9_foretold_9 : decode cX9_foretold 9 = .ok (.iload 4, 2) := by decide +kernel
theorem dX9_foretold_11 : decode cX9_foretold 11 = .ok (.iconst 4, 1) := by decide +kernel
theorem dX9_foretold_12 : decode cX9_foretold 12 = .ok (.if_icmp .ge 45, 3) := by decide +kernel
theorem dX9_foretold_15 : decode cX9_foretold 15 = .ok (.aload_n 0, 1) := by decide +kernel
theorem dX9_foretold_16 : decode cX9_foretold 16 = .ok (.getfield 55, 3) := by decide +kernel
theorem dX9_foretold_19 : decode cX9_foretold 19 = .ok (.iload 4, 2) := by decide +kernel
theorem dX9_foretold_21 : decode cX9_foretold 21 = .ok (.iload_n 2, 1) := by decide +kernel
theorem dX9_foretold_22 : decode cX9_foretold 22 = .ok (.iload 4, 2) := by decide +kernel
theorem dX9_foretold_24 : decode cX9_foretold 24 = .ok (.iadd, 1) := by decide +kernel
theorem dX9_foretold_25 : decode cX9_foretold 25 = .ok (.iconst 4, 1) := by decide +kernel
theorem dX9_foretold_26 : decode cX9_foretold 26 = .ok (.if_icmp .lt 23, 3) := by decide +kernel
theorem dX9_foretold_29 : decode cX9_foretold 29 = .ok (.aload_n 0, 1) := by decide +kernel
theorem dX9_foretold_30 : decode cX9_foretold 30 = .ok (.getfield 64, 3) := by decide +kernel
theorem dX9_foretold_33 : decode cX9_foretold 33 = .ok (.sipush 256, 3) := by decide +kernel
theorem dX9_foretold_36 : decode cX9_foretold 36 = .ok (.iload_n 1, 1) := by decide +kernel
theorem dX9_foretold_37 : decode cX9_foretold 37 = .ok (.imul, 1) := by decide +kernel
theorem dX9_foretold_38 : decode cX9_foretold 38 = .ok (.iload_n 2, 1) := by decide +kernel
theorem dX9_foretold_39 : decode cX9_foretold 39 = .ok (.iadd, 1) := by decide +kernel
theorem dX9_foretold_40 : decode cX9_foretold 40 = .ok (.iconst 4, 1) := by decide +kernel
theorem dX9_foretold_41 : decode cX9_foretold 41 = .ok (.isub, 1) := by decide +kernel
theorem dX9_foretold_42 : decode cX9_foretold 42 = .ok (.iload 4, 2) := by decide +kernel
theorem dX9_foretold_44 : decode cX9_foretold 44 = .ok (.iadd, 1) := by decide +kernel
theorem dX9_foretold_45 : decode cX9_foretold 45 = .ok (.laload, 1) := by decide +kernel
theorem dX9_foretold_46 : decode cX9_foretold 46 = .ok (.goto 4, 3) := by decide +kernel
theorem dX9_foretold_49 : decode cX9_foretold 49 = .ok (.lconst 0, 1) := by decide +kernel
theorem dX9_foretold_50 : decode cX9_foretold 50 = .ok (.lastore, 1) := by decide +kernel
theorem dX9_foretold_51 : decode cX9_foretold 51 = .ok (.iinc 4 1, 3) := by decide +kernel
theorem dX9_foretold_54 : decode cX9_foretold 54 = .ok (.goto (-45), 3) := by decide +kernel
theorem dX9_foretold_57 : decode cX9_foretold 57 = .ok (.aload_n 0, 1) := by decide +kernel
theorem dX9_foretold_58 : decode cX9_foretold 58 = .ok (.aload_n 0, 1) := by decide +kernel
theorem dX9_foretold_59 : decode cX9_foretold 59 = .ok (.getfield 55, 3) := by decide +kernel
theorem dX9_foretold_62 : decode cX9_foretold 62 = .ok (.iconst 4, 1) := by decide +kernel
theorem dX9_foretold_63 : decode cX9_foretold 63 = .ok (.iload_n 3, 1) := by decide +kernel
theorem dX9_foretold_64 : decode cX9_foretold 64 = .ok (.bipush 8, 2) := by decide +kernel
theorem dX9_foretold_66 : decode cX9_foretold 66 = .ok (.isub, 1) := by decide +kernel
theorem dX9_foretold_67 : decode cX9_foretold 67 = .ok (.invokevirtual 125, 3) := by decide +kernel
theorem dX9_foretold_70 : decode cX9_foretold 70 = .ok (.lreturn, 1) := by decide +kernel
theorem dX9_foretold_71 : decode cX9_foretold 71 = .ok (.lconst 0, 1) := by decide +kernel
theorem dX9_foretold_72 : decode cX9_foretold 72 = .ok (.lstore 4, 2) := by decide +kernel
theorem dX9_foretold_74 : decode cX9_foretold 74 = .ok (.iconst 0, 1) := by decide +kernel
theorem dX9_foretold_75 : decode cX9_foretold 75 = .ok (.istore 6, 2) := by decide +kernel
theorem dX9_foretold_77 : decode cX9_foretold 77 = .ok (.iload 6, 2) := by decide +kernel
theorem dX9_foretold_79 : decode cX9_foretold 79 = .ok (.iload_n 3, 1) := by decide +kernel
theorem dX9_foretold_80 : decode cX9_foretold 80 = .ok (.invokestatic 117, 3) := by decide +kernel
theorem dX9_foretold_83 : decode cX9_foretold 83 = .ok (.if_icmp .ge 40, 3) := by decide +kernel
theorem dX9_foretold_86 : decode cX9_foretold 86 = .ok (.lload 4, 2) := by decide +kernel
theorem dX9_foretold_88 : decode cX9_foretold 88 = .ok (.aload_n 0, 1) := by decide +kernel
theorem dX9_foretold_89 : decode cX9_foretold 89 = .ok (.getfield 67, 3) := by decide +kernel
theorem dX9_foretold_92 : decode cX9_foretold 92 = .ok (.iload 6, 2) := by decide +kernel
theorem dX9_foretold_94 : decode cX9_foretold 94 = .ok (.iaload, 1) := by decide +kernel
theorem dX9_foretold_95 : decode cX9_foretold 95 = .ok (.i2l, 1) := by decide +kernel
theorem dX9_foretold_96 : decode cX9_foretold 96 = .ok (.aload_n 0, 1) := by decide +kernel
theorem dX9_foretold_97 : decode cX9_foretold 97 = .ok (.getfield 64, 3) := by decide +kernel
theorem dX9_foretold_100 : decode cX9_foretold 100 = .ok (.sipush 256, 3) := by decide +kernel
theorem dX9_foretold_103 : decode cX9_foretold 103 = .ok (.iload_n 1, 1) := by decide +kernel
theorem dX9_foretold_104 : decode cX9_foretold 104 = .ok (.imul, 1) := by decide +kernel
theorem dX9_foretold_105 : decode cX9_foretold 105 = .ok (.iload_n 2, 1) := by decide +kernel
theorem dX9_foretold_106 : decode cX9_foretold 106 = .ok (.iadd, 1) := by decide +kernel
theorem dX9_foretold_107 : decode cX9_foretold 107 = .ok (.iconst 1, 1) := by decide +kernel
theorem dX9_foretold_108 : decode cX9_foretold 108 = .ok (.isub, 1) := by decide +kernel
theorem dX9_foretold_109 : decode cX9_foretold 109 = .ok (.iload 6, 2) := by decide +kernel
theorem dX9_foretold_111 : decode cX9_foretold 111 = .ok (.isub, 1) := by decide +kernel
theorem dX9_foretold_112 : decode cX9_foretold 112 = .ok (.laload, 1) := by decide +kernel
theorem dX9_foretold_113 : decode cX9_foretold 113 = .ok (.lmul, 1) := by decide +kernel
theorem dX9_foretold_114 : decode cX9_foretold 114 = .ok (.ladd, 1) := by decide +kernel
theorem dX9_foretold_115 : decode cX9_foretold 115 = .ok (.lstore 4, 2) := by decide +kernel
theorem dX9_foretold_117 : decode cX9_foretold 117 = .ok (.iinc 6 1, 3) := by decide +kernel
theorem dX9_foretold_120 : decode cX9_foretold 120 = .ok (.goto (-43), 3) := by decide +kernel
theorem dX9_foretold_123 : decode cX9_foretold 123 = .ok (.lload 4, 2) := by decide +kernel
theorem dX9_foretold_125 : decode cX9_foretold 125 = .ok (.aload_n 0, 1) := by decide +kernel
theorem dX9_foretold_126 : decode cX9_foretold 126 = .ok (.getfield 358, 3) := by decide +kernel
theorem dX9_foretold_129 : decode cX9_foretold 129 = .ok (.lshr, 1) := by decide +kernel
theorem dX9_foretold_130 : decode cX9_foretold 130 = .ok (.lreturn, 1) := by decide +kernel
theorem dX9_readLeft_0 : decode cX9_readLeft 0 = .ok (.iload 4, 2) := by decide +kernel
theorem dX9_readLeft_2 : decode cX9_readLeft 2 = .ok (.invokestatic 117, 3) := by decide +kernel
theorem dX9_readLeft_5 : decode cX9_readLeft 5 = .ok (.istore 5, 2) := by decide +kernel
theorem dX9_readLeft_7 : decode cX9_readLeft 7 = .ok (.iload 4, 2) := by decide +kernel
theorem dX9_readLeft_9 : decode cX9_readLeft 9 = .ok (.bipush 31, 2) := by decide +kernel
theorem dX9_readLeft_11 : decode cX9_readLeft 11 = .ok (.if_icmp .le 9, 3) := by decide +kernel
theorem dX9_readLeft_14 : decode cX9_readLeft 14 = .ok (.aload_n 0, 1) := by decide +kernel
theorem dX9_readLeft_15 : decode cX9_readLeft 15 = .ok (.iload 5, 2) := by decide +kernel
theorem dX9_readLeft_17 : decode cX9_readLeft 17 = .ok (.invokevirtual 361, 3) := by decide +kernel
theorem dX9_readLeft_20 : decode cX9_readLeft 20 = .ok (.aload_n 0, 1) := by decide +kernel
theorem dX9_readLeft_21 : decode cX9_readLeft 21 = .ok (.iconst 2, 1) := by decide +kernel
theorem dX9_readLeft_22 : decode cX9_readLeft 22 = .ok (.lconst 0, 1) := by decide +kernel
theorem dX9_readLeft_23 : decode cX9_readLeft 23 = .ok (.lconst 1, 1) := by decide +kernel
theorem dX9_readLeft_24 : decode cX9_readLeft 24 = .ok (.invokevirtual 280, 3) := by decide +kernel
theorem dX9_readLeft_27 : decode cX9_readLeft 27 = .ok (.lconst 1, 1) := by decide +kernel
theorem dX9_readLeft_28 : decode cX9_readLeft 28 = .ok (.lcmp, 1) := by decide +kernel
theorem dX9_readLeft_29 : decode cX9_readLeft 29 = .ok (.ifCond .ne 7, 3) := by decide +kernel
theorem dX9_readLeft_32 : decode cX9_readLeft 32 = .ok (.iconst 5, 1) := by decide +kernel
theorem dX9_readLeft_33 : decode cX9_readLeft 33 = .ok (.goto 4, 3) := by decide +kernel
theorem dX9_readLeft_36 : decode cX9_readLeft 36 = .ok (.iconst 4, 1) := by decide +kernel
theorem dX9_readLeft_37 : decode cX9_readLeft 37 = .ok (.istore 6, 2) := by decide +kernel
theorem dX9_readLeft_39 : decode cX9_readLeft 39 = .ok (.aload_n 0, 1) := by decide +kernel
theorem dX9_readLeft_40 : decode cX9_readLeft 40 = .ok (.getfield 267, 3) := by decide +kernel
theorem dX9_readLeft_43 : decode cX9_readLeft 43 = .ok (.lstore 7, 2) := by decide +kernel
theorem dX9_readLeft_45 : decode cX9_readLeft 45 = .ok (.aload_n 0, 1) := by decide +kernel
theorem dX9_readLeft_46 : decode cX9_readLeft 46 = .ok (.iconst 4, 1) := by decide +kernel
theorem dX9_readLeft_47 : decode cX9_readLeft 47 = .ok (.invokevirtual 277, 3) := by decide +kernel
theorem dX9_readLeft_50 : decode cX9_readLeft 50 = .ok (.l2i, 1) := by decide +kernel
theorem dX9_readLeft_51 : decode cX9_readLeft 51 = .ok (.istore 9, 2) := by decide +kernel
theorem dX9_readLeft_53 : decode cX9_readLeft 53 = .ok (.aload_n 0, 1) := by decide +kernel
theorem dX9_readLeft_54 : decode cX9_readLeft 54 = .ok (.getfield 264, 3) := by decide +kernel
theorem dX9_readLeft_57 : decode cX9_readLeft 57 = .ok (.ifCond .ne 30, 3) := by decide +kernel
theorem dX9_readLeft_60 : decode cX9_readLeft 60 = .ok (.iload_n 2, 1) := by decide +kernel
theorem dX9_readLeft_61 : decode cX9_readLeft 61 = .ok (.iconst 1, 1) := by decide +kernel
theorem dX9_readLeft_62 : decode cX9_readLeft 62 = .ok (.iload 9, 2) := by decide +kernel
theorem dX9_readLeft_64 : decode cX9_readLeft 64 = .ok (.ishl, 1) := by decide +kernel
theorem dX9_readLeft_65 : decode cX9_readLeft 65 = .ok (.irem, 1) := by decide +kernel
theorem dX9_readLeft_66 : decode cX9_readLeft 66 = .ok (.ifCond .ne 12, 3) := by decide +kernel
theorem dX9_readLeft_69 : decode cX9_readLeft 69 = .ok (.iload_n 2, 1) := by decide +kernel
theorem dX9_readLeft_70 : decode cX9_readLeft 70 = .ok (.iload 9, 2) := by decide +kernel
theorem dX9_readLeft_72 : decode cX9_readLeft 72 = .ok (.ishr, 1) := by decide +kernel
theorem dX9_readLeft_73 : decode cX9_readLeft 73 = .ok (.iload 5, 2) := by decide +kernel
theorem dX9_readLeft_75 : decode cX9_readLeft 75 = .ok (.if_icmp .ge 12, 3) := by decide +kernel
theorem dX9_readLeft_78 : decode cX9_readLeft 78 = .ok (.aload_n 0, 1) := by decide +kernel
theorem dX9_readLeft_79 : decode cX9_readLeft 79 = .ok (.iconst 2, 1) := by decide +kernel
theorem dX9_readLeft_80 : decode cX9_readLeft 80 = .ok (.lload 7, 2) := by decide +kernel
theorem dX9_readLeft_82 : decode cX9_readLeft 82 = .ok (.invokevirtual 273, 3) := by decide +kernel
theorem dX9_readLeft_85 : decode cX9_readLeft 85 = .ok (.istore 10, 2) := by decide +kernel
theorem dX9_readLeft_87 : decode cX9_readLeft 87 = .ok (.iload_n 2, 1) := by decide +kernel
theorem dX9_readLeft_88 : decode cX9_readLeft 88 = .ok (.iload 9, 2) := by decide +kernel
theorem dX9_readLeft_90 : decode cX9_readLeft 90 = .ok (.ishr, 1) := by decide +kernel
theorem dX9_readLeft_91 : decode cX9_readLeft 91 = .ok (.istore 10, 2) := by decide +kernel
theorem dX9_readLeft_93 : decode cX9_readLeft 93 = .ok (.iconst 0, 1) := by decide +kernel
theorem dX9_readLeft_94 : decode cX9_readLeft 94 = .ok (.istore 11, 2) := by decide +kernel
theorem dX9_readLeft_96 : decode cX9_readLeft 96 = .ok (.iload 11, 2) := by decide +kernel
theorem dX9_readLeft_98 : decode cX9_readLeft 98 = .ok (.iconst 1, 1) := by decide +kernel
theorem dX9_readLeft_99 : decode cX9_readLeft 99 = .ok (.iload 9, 2) := by decide +kernel
theorem dX9_readLeft_101 : decode cX9_readLeft 101 = .ok (.ishl, 1) := by decide +kernel
theorem dX9_readLeft_102 : decode cX9_readLeft 102 = .ok (.if_icmp .ge 191, 3) := by decide +kernel
theorem dX9_readLeft_105 : decode cX9_readLeft 105 = .ok (.aload_n 0, 1) := by decide +kernel
theorem dX9_readLeft_106 : decode cX9_readLeft 106 = .ok (.getfield 264, 3) := by decide +kernel
theorem dX9_readLeft_109 : decode cX9_readLeft 109 = .ok (.ifCond .ne 184, 3) := by decide +kernel
theorem dX9_readLeft_112 : decode cX9_readLeft 112 = .ok (.aload_n 0, 1) := by decide +kernel
theorem dX9_readLeft_113 : decode cX9_readLeft 113 = .ok (.iload 6, 2) := by decide +kernel
theorem dX9_readLeft_115 : decode cX9_readLeft 115 = .ok (.invokevirtual 277, 3) := by decide +kernel
theorem dX9_readLeft_118 : decode cX9_readLeft 118 = .ok (.l2i, 1) := by decide +kernel
theorem dX9_readLeft_119 : decode cX9_readLeft 119 = .ok (.istore 12, 2) := by decide +kernel
theorem dX9_readLeft_121 : decode cX9_readLeft 121 = .ok (.iload 12, 2) := by decide +kernel
theorem dX9_readLeft_123 : decode cX9_readLeft 123 = .ok (.iconst 1, 1) := by decide +kernel
theorem dX9_readLeft_124 : decode cX9_readLeft 124 = .ok (.iload 6, 2) := by decide +kernel
theorem dX9_readLeft_126 : decode cX9_readLeft 126 = .ok (.ishl, 1) := by decide +kernel
theorem dX9_readLeft_127 : decode cX9_readLeft 127 = .ok (.iconst 1, 1) := by decide +kernel
theorem dX9_readLeft_128 : decode cX9_readLeft 128 = .ok (.isub, 1) := by decide +kernel
theorem dX9_readLeft_129 : decode cX9_readLeft 129 = .ok (.if_icmp .ne 7, 3) := by decide +kernel
theorem dX9_readLeft_132 : decode cX9_readLeft 132 = .ok (.iconst 1, 1) := by decide +kernel
theorem dX9_readLeft_133 : decode cX9_readLeft 133 = .ok (.goto 4, 3) := by decide +kernel
theorem dX9_readLeft_136 : decode cX9_readLeft 136 = .ok (.iconst 0, 1) := by decide +kernel
theorem dX9_readLeft_137 : decode cX9_readLeft 137 = .ok (.istore 13, 2) := by decide +kernel
theorem dX9_readLeft_139 : decode cX9_readLeft 139 = .ok (.iload 13, 2) := by decide +kernel
theorem dX9_readLeft_141 : decode cX9_readLeft 141 = .ok (.ifCond .eq 12, 3) := by decide +kernel
theorem dX9_readLeft_144 : decode cX9_readLeft 144 = .ok (.aload_n 0, 1) := by decide +kernel
theorem dX9_readLeft_145 : decode cX9_readLeft 145 = .ok (.iconst 5, 1) := by decide +kernel
theorem dX9_readLeft_146 : decode cX9_readLeft 146 = .ok (.invokevirtual 277, 3) := by decide +kernel
theorem dX9_readLeft_149 : decode cX9_readLeft 149 = .ok (.l2i, 1) := by decide +kernel
theorem dX9_readLeft_150 : decode cX9_readLeft 150 = .ok (.goto 4, 3) := by decide +kernel
theorem dX9_readLeft_153 : decode cX9_readLeft 153 = .ok (.iconst 0, 1) := by decide +kernel
theorem dX9_readLeft_154 : decode cX9_readLeft 154 = .ok (.istore 14, 2) := by decide +kernel
theorem dX9_readLeft_156 : decode cX9_readLeft 156 = .ok (.iload 11, 2) := by decide +kernel
theorem dX9_readLeft_158 : decode cX9_readLeft 158 = .ok (.ifCond .ne 8, 3) := by decide +kernel
theorem dX9_readLeft_161 : decode cX9_readLeft 161 = .ok (.iload 5, 2) := by decide +kernel
theorem dX9_readLeft_163 : decode cX9_readLeft 163 = .ok (.goto 8, 3) := by decide +kernel
theorem dX9_readLeft_166 : decode cX9_readLeft 166 = .ok (.iload 11, 2) := by decide +kernel
theorem dX9_readLeft_168 : decode cX9_readLeft 168 = .ok (.iload 10, 2) := by decide +kernel
theorem dX9_readLeft_170 : decode cX9_readLeft 170 = .ok (.imul, 1) := by decide +kernel
theorem dX9_readLeft_171 : decode cX9_readLeft 171 = .ok (.istore 15, 2) := by decide +kernel
theorem dX9_readLeft_173 : decode cX9_readLeft 173 = .ok (.iload 15, 2) := by decide +kernel
theorem dX9_readLeft_175 : decode cX9_readLeft 175 = .ok (.iload 11, 2) := by decide +kernel
theorem dX9_readLeft_177 : decode cX9_readLeft 177 = .ok (.iconst 1, 1) := by decide +kernel
theorem dX9_readLeft_178 : decode cX9_readLeft 178 = .ok (.iadd, 1) := by decide +kernel
theorem dX9_readLeft_179 : decode cX9_readLeft 179 = .ok (.iload 10, 2) := by decide +kernel
theorem dX9_readLeft_181 : decode cX9_readLeft 181 = .ok (.imul, 1) := by decide +kernel
theorem dX9_readLeft_182 : decode cX9_readLeft 182 = .ok (.if_icmp .ge 105, 3) := by decide +kernel
theorem dX9_readLeft_185 : decode cX9_readLeft 185 = .ok (.aload_n 0, 1) := by decide +kernel
theorem dX9_readLeft_186 : decode cX9_readLeft 186 = .ok (.getfield 264, 3) := by decide +kernel
theorem dX9_readLeft_189 : decode cX9_readLeft 189 = .ok (.ifCond .ne 98, 3) := by decide +kernel
theorem dX9_readLeft_192 : decode cX9_readLeft 192 = .ok (.aload_n 0, 1) := by decide +kernel
theorem dX9_readLeft_193 : decode cX9_readLeft 193 = .ok (.getfield 267, 3) := by decide +kernel
theorem dX9_readLeft_196 : decode cX9_readLeft 196 = .ok (.lstore 7, 2) := by decide +kernel
theorem dX9_readLeft_198 : decode cX9_readLeft 198 = .ok (.iload 13, 2) := by decide +kernel
theorem dX9_readLeft_200 : decode cX9_readLeft 200 = .ok (.ifCond .eq 12, 3) := by decide +kernel
theorem dX9_readLeft_203 : decode cX9_readLeft 203 = .ok (.aload_n 0, 1) := by decide +kernel
theorem dX9_readLeft_204 : decode cX9_readLeft 204 = .ok (.iload 14, 2) := by decide +kernel
theorem dX9_readLeft_206 : decode cX9_readLeft 206 = .ok (.invokevirtual 351, 3) := by decide +kernel
theorem dX9_readLeft_209 : decode cX9_readLeft 209 = .ok (.goto 9, 3) := by decide +kernel
theorem dX9_readLeft_212 : decode cX9_readLeft 212 = .ok (.aload_n 0, 1) := by decide +kernel
theorem dX9_readLeft_213 : decode cX9_readLeft 213 = .ok (.iload 12, 2) := by decide +kernel
theorem dX9_readLeft_215 : decode cX9_readLeft 215 = .ok (.invokevirtual 364, 3) := by decide +kernel
theorem dX9_readLeft_218 : decode cX9_readLeft 218 = .ok (.lstore 16, 2) := by decide +kernel
theorem dX9_readLeft_220 : decode cX9_readLeft 220 = .ok (.aload_n 0, 1) := by decide +kernel
theorem dX9_readLeft_221 : decode cX9_readLeft 221 = .ok (.getfield 64, 3) := by decide +kernel
theorem dX9_readLeft_224 : decode cX9_readLeft 224 = .ok (.sipush 256, 3) := by decide +kernel
theorem dX9_readLeft_227 : decode cX9_readLeft 227 = .ok (.iload_n 1, 1) := by decide +kernel
theorem dX9_readLeft_228 : decode cX9_readLeft 228 = .ok (.imul, 1) := by decide +kernel
theorem dX9_readLeft_229 : decode cX9_readLeft 229 = .ok (.iload 15, 2) := by decide +kernel
theorem dX9_readLeft_231 : decode cX9_readLeft 231 = .ok (.iadd, 1) := by decide +kernel
theorem dX9_readLeft_232 : decode cX9_readLeft 232 = .ok (.aload_n 0, 1) := by decide +kernel
theorem dX9_readLeft_233 : decode cX9_readLeft 233 = .ok (.iload_n 1, 1) := by decide +kernel
theorem dX9_readLeft_234 : decode cX9_readLeft 234 = .ok (.iload 15, 2) := by decide +kernel
theorem dX9_readLeft_236 : decode cX9_readLeft 236 = .ok (.iload 4, 2) := by decide +kernel
theorem dX9_readLeft_238 : decode cX9_readLeft 238 = .ok (.invokevirtual 367, 3) := by decide +kernel
theorem dX9_readLeft_241 : decode cX9_readLeft 241 = .ok (.lload 16, 2) := by decide +kernel
theorem dX9_readLeft_243 : decode cX9_readLeft 243 = .ok (.ladd, 1) := by decide +kernel
theorem dX9_readLeft_244 : decode cX9_readLeft 244 = .ok (.lastore, 1) := by decide +kernel
theorem dX9_readLeft_245 : decode cX9_readLeft 245 = .ok (.aload_n 0, 1) := by decide +kernel
theorem dX9_readLeft_246 : decode cX9_readLeft 246 = .ok (.getfield 264, 3) := by decide +kernel
theorem dX9_readLeft_249 : decode cX9_readLeft 249 = .ok (.ifCond .ne 32, 3) := by decide +kernel
theorem dX9_readLeft_252 : decode cX9_readLeft 252 = .ok (.aload_n 0, 1) := by decide +kernel
theorem dX9_readLeft_253 : decode cX9_readLeft 253 = .ok (.getfield 64, 3) := by decide +kernel
theorem dX9_readLeft_256 : decode cX9_readLeft 256 = .ok (.sipush 256, 3) := by decide +kernel
theorem dX9_readLeft_259 : decode cX9_readLeft 259 = .ok (.iload_n 1, 1) := by decide +kernel
theorem dX9_readLeft_260 : decode cX9_readLeft 260 = .ok (.imul, 1) := by decide +kernel
theorem dX9_readLeft_261 : decode cX9_readLeft 261 = .ok (.iload 15, 2) := by decide +kernel
theorem dX9_readLeft_263 : decode cX9_readLeft 263 = .ok (.iadd, 1) := by decide +kernel
theorem dX9_readLeft_264 : decode cX9_readLeft 264 = .ok (.laload, 1) := by decide +kernel
theorem dX9_readLeft_265 : decode cX9_readLeft 265 = .ok (.iload_n 3, 1) := by decide +kernel
theorem dX9_readLeft_266 : decode cX9_readLeft 266 = .ok (.invokestatic 104, 3) := by decide +kernel
theorem dX9_readLeft_269 : decode cX9_readLeft 269 = .ok (.ifCond .ne 12, 3) := by decide +kernel
theorem dX9_readLeft_272 : decode cX9_readLeft 272 = .ok (.aload_n 0, 1) := by decide +kernel
theorem dX9_readLeft_273 : decode cX9_readLeft 273 = .ok (.iconst 2, 1) := by decide +kernel
theorem dX9_readLeft_274 : decode cX9_readLeft 274 = .ok (.lload 7, 2) := by decide +kernel
theorem dX9_readLeft_276 : decode cX9_readLeft 276 = .ok (.invokevirtual 273, 3) := by decide +kernel
theorem dX9_readLeft_279 : decode cX9_readLeft 279 = .ok (.istore 18, 2) := by decide +kernel
theorem dX9_readLeft_281 : decode cX9_readLeft 281 = .ok (.iinc 15 1, 3) := by decide +kernel
theorem dX9_readLeft_284 : decode cX9_readLeft 284 = .ok (.goto (-111), 3) := by decide +kernel
theorem dX9_readLeft_287 : decode cX9_readLeft 287 = .ok (.iinc 11 1, 3) := by decide +kernel
theorem dX9_readLeft_290 : decode cX9_readLeft 290 = .ok (.goto (-194), 3) := by decide +kernel
theorem dX9_readLeft_293 : decode cX9_readLeft 293 = .ok (.return_, 1) := by decide +kernel
theorem dX9_unfolded_0 : decode cX9_unfolded 0 = .ok (.aload_n 0, 1) := by decide +kernel
theorem dX9_unfolded_1 : decode cX9_unfolded 1 = .ok (.invokevirtual 347, 3) := by decide +kernel
theorem dX9_unfolded_4 : decode cX9_unfolded 4 = .ok (.iload_n 1, 1) := by decide +kernel
theorem dX9_unfolded_5 : decode cX9_unfolded 5 = .ok (.lshl, 1) := by decide +kernel
theorem dX9_unfolded_6 : decode cX9_unfolded 6 = .ok (.lstore_n 2, 1) := by decide +kernel
theorem dX9_unfolded_7 : decode cX9_unfolded 7 = .ok (.lload_n 2, 1) := by decide +kernel
theorem dX9_unfolded_8 : decode cX9_unfolded 8 = .ok (.aload_n 0, 1) := by decide +kernel
theorem dX9_unfolded_9 : decode cX9_unfolded 9 = .ok (.iload_n 1, 1) := by decide +kernel
theorem dX9_unfolded_10 : decode cX9_unfolded 10 = .ok (.invokevirtual 277, 3) := by decide +kernel
theorem dX9_unfolded_13 : decode cX9_unfolded 13 = .ok (.lor, 1) := by decide +kernel
theorem dX9_unfolded_14 : decode cX9_unfolded 14 = .ok (.lstore_n 2, 1) := by decide +kernel
theorem dX9_unfolded_15 : decode cX9_unfolded 15 = .ok (.lload_n 2, 1) := by decide +kernel
theorem dX9_unfolded_16 : decode cX9_unfolded 16 = .ok (.ldc2_w 111, 3) := by decide +kernel
theorem dX9_unfolded_19 : decode cX9_unfolded 19 = .ok (.lrem, 1) := by decide +kernel
theorem dX9_unfolded_20 : decode cX9_unfolded 20 = .ok (.lconst 0, 1) := by decide +kernel
theorem dX9_unfolded_21 : decode cX9_unfolded 21 = .ok (.lcmp, 1) := by decide +kernel
theorem dX9_unfolded_22 : decode cX9_unfolded 22 = .ok (.ifCond .ne 11, 3) := by decide +kernel
theorem dX9_unfolded_25 : decode cX9_unfolded 25 = .ok (.lload_n 2, 1) := by decide +kernel
theorem dX9_unfolded_26 : decode cX9_unfolded 26 = .ok (.ldc2_w 111, 3) := by decide +kernel
theorem dX9_unfolded_29 : decode cX9_unfolded 29 = .ok (.ldiv, 1) := by decide +kernel
theorem dX9_unfolded_30 : decode cX9_unfolded 30 = .ok (.goto 11, 3) := by decide +kernel
theorem dX9_unfolded_33 : decode cX9_unfolded 33 = .ok (.lload_n 2, 1) := by decide +kernel
theorem dX9_unfolded_34 : decode cX9_unfolded 34 = .ok (.ldc2_w 111, 3) := by decide +kernel
theorem dX9_unfolded_37 : decode cX9_unfolded 37 = .ok (.ldiv, 1) := by decide +kernel
theorem dX9_unfolded_38 : decode cX9_unfolded 38 = .ok (.lneg, 1) := by decide +kernel
theorem dX9_unfolded_39 : decode cX9_unfolded 39 = .ok (.lconst 1, 1) := by decide +kernel
theorem dX9_unfolded_40 : decode cX9_unfolded 40 = .ok (.lsub, 1) := by decide +kernel
theorem dX9_unfolded_41 : decode cX9_unfolded 41 = .ok (.lreturn, 1) := by decide +kernel
theorem dX9_read_0 : decode cX9_read 0 = .ok (.aload_n 0, 1) := by decide +kernel
theorem dX9_read_1 : decode cX9_read 1 = .ok (.iconst 0, 1) := by decide +kernel
theorem dX9_read_2 : decode cX9_read 2 = .ok (.putfield 70, 3) := by decide +kernel
theorem dX9_read_5 : decode cX9_read 5 = .ok (.aload_n 0, 1) := by decide +kernel
theorem dX9_read_6 : decode cX9_read 6 = .ok (.iconst 0, 1) := by decide +kernel
theorem dX9_read_7 : decode cX9_read 7 = .ok (.putfield 264, 3) := by decide +kernel
theorem dX9_read_10 : decode cX9_read 10 = .ok (.aload_n 0, 1) := by decide +kernel
theorem dX9_read_11 : decode cX9_read 11 = .ok (.iconst (-1), 1) := by decide +kernel
theorem dX9_read_12 : decode cX9_read 12 = .ok (.putfield 52, 3) := by decide +kernel
theorem dX9_read_15 : decode cX9_read 15 = .ok (.aload_n 0, 1) := by decide +kernel
theorem dX9_read_16 : decode cX9_read 16 = .ok (.lconst 0, 1) := by decide +kernel
theorem dX9_read_17 : decode cX9_read 17 = .ok (.putfield 267, 3) := by decide +kernel
theorem dX9_read_20 : decode cX9_read 20 = .ok (.aload_n 0, 1) := by decide +kernel
theorem dX9_read_21 : decode cX9_read 21 = .ok (.ldc2_w 73, 3) := by decide +kernel
theorem dX9_read_24 : decode cX9_read 24 = .ok (.aload_n 0, 1) := by decide +kernel
theorem dX9_read_25 : decode cX9_read 25 = .ok (.getfield 259, 3) := by decide +kernel
theorem dX9_read_28 : decode cX9_read 28 = .ok (.i2l, 1) := by decide +kernel
theorem dX9_read_29 : decode cX9_read 29 = .ok (.lmul, 1) := by decide +kernel
theorem dX9_read_30 : decode cX9_read 30 = .ok (.putfield 270, 3) := by decide +kernel
theorem dX9_read_33 : decode cX9_read 33 = .ok (.aload_n 0, 1) := by decide +kernel
theorem dX9_read_34 : decode cX9_read 34 = .ok (.iconst 0, 1) := by decide +kernel
theorem dX9_read_35 : decode cX9_read 35 = .ok (.putfield 259, 3) := by decide +kernel
theorem dX9_read_38 : decode cX9_read 38 = .ok (.aload_n 0, 1) := by decide +kernel
theorem dX9_read_39 : decode cX9_read 39 = .ok (.iconst 0, 1) := by decide +kernel
theorem dX9_read_40 : decode cX9_read 40 = .ok (.putfield 342, 3) := by decide +kernel
theorem dX9_read_43 : decode cX9_read 43 = .ok (.aload_n 0, 1) := by decide +kernel
theorem dX9_read_44 : decode cX9_read 44 = .ok (.invokevirtual 370, 3) := by decide +kernel
theorem dX9_read_47 : decode cX9_read 47 = .ok (.iconst 0, 1) := by decide +kernel
theorem dX9_read_48 : decode cX9_read 48 = .ok (.istore_n 1, 1) := by decide +kernel
theorem dX9_read_49 : decode cX9_read 49 = .ok (.lconst 0, 1) := by decide +kernel
theorem dX9_read_50 : decode cX9_read 50 = .ok (.lstore_n 2, 1) := by decide +kernel
theorem dX9_read_51 : decode cX9_read 51 = .ok (.lload_n 2, 1) := by decide +kernel
theorem dX9_read_52 : decode cX9_read 52 = .ok (.aload_n 0, 1) := by decide +kernel
theorem dX9_read_53 : decode cX9_read 53 = .ok (.getfield 298, 3) := by decide +kernel
theorem dX9_read_56 : decode cX9_read 56 = .ok (.lcmp, 1) := by decide +kernel
theorem dX9_read_57 : decode cX9_read 57 = .ok (.ifCond .ge 59, 3) := by decide +kernel
theorem dX9_read_60 : decode cX9_read 60 = .ok (.aload_n 0, 1) := by decide +kernel
theorem dX9_read_61 : decode cX9_read 61 = .ok (.getfield 264, 3) := by decide +kernel
theorem dX9_read_64 : decode cX9_read 64 = .ok (.ifCond .ne 52, 3) := by decide +kernel
theorem dX9_read_67 : decode cX9_read 67 = .ok (.aload_n 0, 1) := by decide +kernel
theorem dX9_read_68 : decode cX9_read 68 = .ok (.iload_n 1, 1) := by decide +kernel
theorem dX9_read_69 : decode cX9_read 69 = .ok (.aload_n 0, 1) := by decide +kernel
theorem dX9_read_70 : decode cX9_read 70 = .ok (.getfield 298, 3) := by decide +kernel
theorem dX9_read_73 : decode cX9_read 73 = .ok (.lload_n 2, 1) := by decide +kernel
theorem dX9_read_74 : decode cX9_read 74 = .ok (.lsub, 1) := by decide +kernel
theorem dX9_read_75 : decode cX9_read 75 = .ok (.aload_n 0, 1) := by decide +kernel
theorem dX9_read_76 : decode cX9_read 76 = .ok (.getfield 284, 3) := by decide +kernel
theorem dX9_read_79 : decode cX9_read 79 = .ok (.i2l, 1) := by decide +kernel
theorem dX9_read_80 : decode cX9_read 80 = .ok (.lcmp, 1) := by decide +kernel
theorem dX9_read_81 : decode cX9_read 81 = .ok (.ifCond .ge 12, 3) := by decide +kernel
theorem dX9_read_84 : decode cX9_read 84 = .ok (.aload_n 0, 1) := by decide +kernel
theorem dX9_read_85 : decode cX9_read 85 = .ok (.getfield 298, 3) := by decide +kernel
theorem dX9_read_88 : decode cX9_read 88 = .ok (.lload_n 2, 1) := by decide +kernel
theorem dX9_read_89 : decode cX9_read 89 = .ok (.lsub, 1) := by decide +kernel
theorem dX9_read_90 : decode cX9_read 90 = .ok (.goto 8, 3) := by decide +kernel
theorem dX9_read_93 : decode cX9_read 93 = .ok (.aload_n 0, 1) := by decide +kernel
theorem dX9_read_94 : decode cX9_read 94 = .ok (.getfield 284, 3) := by decide +kernel
theorem dX9_read_97 : decode cX9_read 97 = .ok (.i2l, 1) := by decide +kernel
theorem dX9_read_98 : decode cX9_read 98 = .ok (.l2i, 1) := by decide +kernel
theorem dX9_read_99 : decode cX9_read 99 = .ok (.invokevirtual 373, 3) := by decide +kernel
theorem dX9_read_102 : decode cX9_read 102 = .ok (.iinc 1 1, 3) := by decide +kernel
theorem dX9_read_105 : decode cX9_read 105 = .ok (.lload_n 2, 1) := by decide +kernel
theorem dX9_read_106 : decode cX9_read 106 = .ok (.aload_n 0, 1) := by decide +kernel
theorem dX9_read_107 : decode cX9_read 107 = .ok (.getfield 284, 3) := by decide +kernel
theorem dX9_read_110 : decode cX9_read 110 = .ok (.i2l, 1) := by decide +kernel
theorem dX9_read_111 : decode cX9_read 111 = .ok (.ladd, 1) := by decide +kernel
theorem dX9_read_112 : decode cX9_read 112 = .ok (.lstore_n 2, 1) := by decide +kernel
theorem dX9_read_113 : decode cX9_read 113 = .ok (.goto (-62), 3) := by decide +kernel
theorem dX9_read_116 : decode cX9_read 116 = .ok (.aload_n 0, 1) := by decide +kernel
theorem dX9_read_117 : decode cX9_read 117 = .ok (.getfield 264, 3) := by decide +kernel
theorem dX9_read_120 : decode cX9_read 120 = .ok (.ifCond .ne 25, 3) := by decide +kernel
theorem dX9_read_123 : decode cX9_read 123 = .ok (.aload_n 0, 1) := by decide +kernel
theorem dX9_read_124 : decode cX9_read 124 = .ok (.getfield 267, 3) := by decide +kernel
theorem dX9_read_127 : decode cX9_read 127 = .ok (.aload_n 0, 1) := by decide +kernel
theorem dX9_read_128 : decode cX9_read 128 = .ok (.getfield 270, 3) := by decide +kernel
theorem dX9_read_131 : decode cX9_read 131 = .ok (.lcmp, 1) := by decide +kernel
theorem dX9_read_132 : decode cX9_read 132 = .ok (.ifCond .ge 13, 3) := by decide +kernel
theorem dX9_read_135 : decode cX9_read 135 = .ok (.aload_n 0, 1) := by decide +kernel
theorem dX9_read_136 : decode cX9_read 136 = .ok (.iconst 2, 1) := by decide +kernel
theorem dX9_read_137 : decode cX9_read 137 = .ok (.aload_n 0, 1) := by decide +kernel
theorem dX9_read_138 : decode cX9_read 138 = .ok (.getfield 267, 3) := by decide +kernel
theorem dX9_read_141 : decode cX9_read 141 = .ok (.invokevirtual 273, 3) := by decide +kernel
theorem dX9_read_144 : decode cX9_read 144 = .ok (.istore_n 2, 1) := by decide +kernel
theorem dX9_read_145 : decode cX9_read 145 = .ok (.aload_n 0, 1) := by decide +kernel
theorem dX9_read_146 : decode cX9_read 146 = .ok (.aload_n 0, 1) := by decide +kernel
theorem dX9_read_147 : decode cX9_read 147 = .ok (.getfield 264, 3) := by decide +kernel
theorem dX9_read_150 : decode cX9_read 150 = .ok (.ifCond .le 7, 3) := by decide +kernel
theorem dX9_read_153 : decode cX9_read 153 = .ok (.iconst 1, 1) := by decide +kernel
theorem dX9_read_154 : decode cX9_read 154 = .ok (.goto 4, 3) := by decide +kernel
theorem dX9_read_157 : decode cX9_read 157 = .ok (.iconst 0, 1) := by decide +kernel
theorem dX9_read_158 : decode cX9_read 158 = .ok (.putfield 70, 3) := by decide +kernel
theorem dX9_read_161 : decode cX9_read 161 = .ok (.aload_n 0, 1) := by decide +kernel
theorem dX9_read_162 : decode cX9_read 162 = .ok (.getfield 70, 3) := by decide +kernel
theorem dX9_read_165 : decode cX9_read 165 = .ok (.ifCond .le 5, 3) := by decide +kernel
theorem dX9_read_168 : decode cX9_read 168 = .ok (.iconst 0, 1) := by decide +kernel
theorem dX9_read_169 : decode cX9_read 169 = .ok (.ireturn, 1) := by decide +kernel
theorem dX9_read_170 : decode cX9_read 170 = .ok (.aload_n 0, 1) := by decide +kernel
theorem dX9_read_171 : decode cX9_read 171 = .ok (.aload_n 0, 1) := by decide +kernel
theorem dX9_read_172 : decode cX9_read 172 = .ok (.getfield 290, 3) := by decide +kernel
theorem dX9_read_175 : decode cX9_read 175 = .ok (.putfield 7, 3) := by decide +kernel
theorem dX9_read_178 : decode cX9_read 178 = .ok (.aload_n 0, 1) := by decide +kernel
theorem dX9_read_179 : decode cX9_read 179 = .ok (.aload_n 0, 1) := by decide +kernel
theorem dX9_read_180 : decode cX9_read 180 = .ok (.getfield 295, 3) := by decide +kernel
theorem dX9_read_183 : decode cX9_read 183 = .ok (.putfield 13, 3) := by decide +kernel
theorem dX9_read_186 : decode cX9_read 186 = .ok (.aload_n 0, 1) := by decide +kernel
theorem dX9_read_187 : decode cX9_read 187 = .ok (.aload_n 0, 1) := by decide +kernel
theorem dX9_read_188 : decode cX9_read 188 = .ok (.getfield 284, 3) := by decide +kernel
theorem dX9_read_191 : decode cX9_read 191 = .ok (.putfield 16, 3) := by decide +kernel
theorem dX9_read_194 : decode cX9_read 194 = .ok (.aload_n 0, 1) := by decide +kernel
theorem dX9_read_195 : decode cX9_read 195 = .ok (.aload_n 0, 1) := by decide +kernel
theorem dX9_read_196 : decode cX9_read 196 = .ok (.getfield 287, 3) := by decide +kernel
theorem dX9_read_199 : decode cX9_read 199 = .ok (.putfield 20, 3) := by decide +kernel
theorem dX9_read_202 : decode cX9_read 202 = .ok (.aload_n 0, 1) := by decide +kernel
theorem dX9_read_203 : decode cX9_read 203 = .ok (.aload_n 0, 1) := by decide +kernel
theorem dX9_read_204 : decode cX9_read 204 = .ok (.getfield 342, 3) := by decide +kernel
theorem dX9_read_207 : decode cX9_read 207 = .ok (.putfield 89, 3) := by decide +kernel
theorem dX9_read_210 : decode cX9_read 210 = .ok (.iconst 0, 1) := by decide +kernel
theorem dX9_read_211 : decode cX9_read 211 = .ok (.istore_n 2, 1) := by decide +kernel
theorem dX9_read_212 : decode cX9_read 212 = .ok (.iload_n 2, 1) := by decide +kernel
theorem dX9_read_213 : decode cX9_read 213 = .ok (.aload_n 0, 1) := by decide +kernel
theorem dX9_read_214 : decode cX9_read 214 = .ok (.getfield 342, 3) := by decide +kernel
theorem dX9_read_217 : decode cX9_read 217 = .ok (.if_icmp .ge 21, 3) := by decide +kernel
theorem dX9_read_220 : decode cX9_read 220 = .ok (.aload_n 0, 1) := by decide +kernel
theorem dX9_read_221 : decode cX9_read 221 = .ok (.getfield 27, 3) := by decide +kernel
theorem dX9_read_224 : decode cX9_read 224 = .ok (.iload_n 2, 1) := by decide +kernel
theorem dX9_read_225 : decode cX9_read 225 = .ok (.aload_n 0, 1) := by decide +kernel
theorem dX9_read_226 : decode cX9_read 226 = .ok (.getfield 61, 3) := by decide +kernel
theorem dX9_read_229 : decode cX9_read 229 = .ok (.iload_n 2, 1) := by decide +kernel
theorem dX9_read_230 : decode cX9_read 230 = .ok (.iaload, 1) := by decide +kernel
theorem dX9_read_231 : decode cX9_read 231 = .ok (.iastore, 1) := by decide +kernel
theorem dX9_read_232 : decode cX9_read 232 = .ok (.iinc 2 1, 3) := by decide +kernel
theorem dX9_read_235 : decode cX9_read 235 = .ok (.goto (-23), 3) := by decide +kernel
theorem dX9_read_238 : decode cX9_read 238 = .ok (.aload_n 0, 1) := by decide +kernel
theorem dX9_read_239 : decode cX9_read 239 = .ok (.getfield 89, 3) := by decide +kernel
theorem dX9_read_242 : decode cX9_read 242 = .ok (.ireturn, 1) := by decide +kernel
theorem dX9_fault_0 : decode cX9_fault 0 = .ok (.aload_n 0, 1) := by decide +kernel
theorem dX9_fault_1 : decode cX9_fault 1 = .ok (.iconst 0, 1) := by decide +kernel
theorem dX9_fault_2 : decode cX9_fault 2 = .ok (.putfield 70, 3) := by decide +kernel
theorem dX9_fault_5 : decode cX9_fault 5 = .ok (.aload_n 0, 1) := by decide +kernel
theorem dX9_fault_6 : decode cX9_fault 6 = .ok (.getfield 264, 3) := by decide +kernel
theorem dX9_fault_9 : decode cX9_fault 9 = .ok (.ireturn, 1) := by decide +kernel
theorem dX9_place_0 : decode cX9_place 0 = .ok (.aload_n 0, 1) := by decide +kernel
theorem dX9_place_1 : decode cX9_place 1 = .ok (.iconst 0, 1) := by decide +kernel
theorem dX9_place_2 : decode cX9_place 2 = .ok (.putfield 70, 3) := by decide +kernel
theorem dX9_place_5 : decode cX9_place 5 = .ok (.aload_n 0, 1) := by decide +kernel
theorem dX9_place_6 : decode cX9_place 6 = .ok (.getfield 52, 3) := by decide +kernel
theorem dX9_place_9 : decode cX9_place 9 = .ok (.ireturn, 1) := by decide +kernel
theorem dX9_sample_0 : decode cX9_sample 0 = .ok (.aload_n 0, 1) := by decide +kernel
theorem dX9_sample_1 : decode cX9_sample 1 = .ok (.iload_n 1, 1) := by decide +kernel
theorem dX9_sample_2 : decode cX9_sample 2 = .ok (.i2l, 1) := by decide +kernel
theorem dX9_sample_3 : decode cX9_sample 3 = .ok (.lconst 0, 1) := by decide +kernel
theorem dX9_sample_4 : decode cX9_sample 4 = .ok (.aload_n 0, 1) := by decide +kernel
theorem dX9_sample_5 : decode cX9_sample 5 = .ok (.getfield 89, 3) := by decide +kernel
theorem dX9_sample_8 : decode cX9_sample 8 = .ok (.iconst 1, 1) := by decide +kernel
theorem dX9_sample_9 : decode cX9_sample 9 = .ok (.isub, 1) := by decide +kernel
theorem dX9_sample_10 : decode cX9_sample 10 = .ok (.i2l, 1) := by decide +kernel
theorem dX9_sample_11 : decode cX9_sample 11 = .ok (.invokestatic 75, 3) := by decide +kernel
theorem dX9_sample_14 : decode cX9_sample 14 = .ok (.ifCond .eq 7, 3) := by decide +kernel
theorem dX9_sample_17 : decode cX9_sample 17 = .ok (.iconst 0, 1) := by decide +kernel
theorem dX9_sample_18 : decode cX9_sample 18 = .ok (.goto 4, 3) := by decide +kernel
theorem dX9_sample_21 : decode cX9_sample 21 = .ok (.iconst 1, 1) := by decide +kernel
theorem dX9_sample_22 : decode cX9_sample 22 = .ok (.putfield 70, 3) := by decide +kernel
theorem dX9_sample_25 : decode cX9_sample 25 = .ok (.aload_n 0, 1) := by decide +kernel
theorem dX9_sample_26 : decode cX9_sample 26 = .ok (.getfield 70, 3) := by decide +kernel
theorem dX9_sample_29 : decode cX9_sample 29 = .ok (.ifCond .le 7, 3) := by decide +kernel
theorem dX9_sample_32 : decode cX9_sample 32 = .ok (.iconst 0, 1) := by decide +kernel
theorem dX9_sample_33 : decode cX9_sample 33 = .ok (.goto 9, 3) := by decide +kernel
theorem dX9_sample_36 : decode cX9_sample 36 = .ok (.aload_n 0, 1) := by decide +kernel
theorem dX9_sample_37 : decode cX9_sample 37 = .ok (.getfield 27, 3) := by decide +kernel
theorem dX9_sample_40 : decode cX9_sample 40 = .ok (.iload_n 1, 1) := by decide +kernel
theorem dX9_sample_41 : decode cX9_sample 41 = .ok (.iaload, 1) := by decide +kernel
theorem dX9_sample_42 : decode cX9_sample 42 = .ok (.ireturn, 1) := by decide +kernel
theorem dX9_count_0 : decode cX9_count 0 = .ok (.aload_n 0, 1) := by decide +kernel
theorem dX9_count_1 : decode cX9_count 1 = .ok (.iconst 0, 1) := by decide +kernel
theorem dX9_count_2 : decode cX9_count 2 = .ok (.putfield 70, 3) := by decide +kernel
theorem dX9_count_5 : decode cX9_count 5 = .ok (.iload_n 1, 1) := by decide +kernel
theorem dX9_count_6 : decode cX9_count 6 = .ok (.tableswitch 95 0 8 #[50, 55, 60, 65, 70, 75, 80, 85, 90], 50) := by decide +kernel
theorem dX9_count_56 : decode cX9_count 56 = .ok (.aload_n 0, 1) := by decide +kernel
theorem dX9_count_57 : decode cX9_count 57 = .ok (.getfield 89, 3) := by decide +kernel
theorem dX9_count_60 : decode cX9_count 60 = .ok (.ireturn, 1) := by decide +kernel
theorem dX9_count_61 : decode cX9_count 61 = .ok (.aload_n 0, 1) := by decide +kernel
theorem dX9_count_62 : decode cX9_count 62 = .ok (.getfield 7, 3) := by decide +kernel
theorem dX9_count_65 : decode cX9_count 65 = .ok (.ireturn, 1) := by decide +kernel
theorem dX9_count_66 : decode cX9_count 66 = .ok (.aload_n 0, 1) := by decide +kernel
theorem dX9_count_67 : decode cX9_count 67 = .ok (.getfield 13, 3) := by decide +kernel
theorem dX9_count_70 : decode cX9_count 70 = .ok (.ireturn, 1) := by decide +kernel
theorem dX9_count_71 : decode cX9_count 71 = .ok (.aload_n 0, 1) := by decide +kernel
theorem dX9_count_72 : decode cX9_count 72 = .ok (.getfield 16, 3) := by decide +kernel
theorem dX9_count_75 : decode cX9_count 75 = .ok (.ireturn, 1) := by decide +kernel
theorem dX9_count_76 : decode cX9_count 76 = .ok (.aload_n 0, 1) := by decide +kernel
theorem dX9_count_77 : decode cX9_count 77 = .ok (.getfield 20, 3) := by decide +kernel
theorem dX9_count_80 : decode cX9_count 80 = .ok (.ireturn, 1) := by decide +kernel
theorem dX9_count_81 : decode cX9_count 81 = .ok (.aload_n 0, 1) := by decide +kernel
theorem dX9_count_82 : decode cX9_count 82 = .ok (.getfield 256, 3) := by decide +kernel
theorem dX9_count_85 : decode cX9_count 85 = .ok (.ireturn, 1) := by decide +kernel
theorem dX9_count_86 : decode cX9_count 86 = .ok (.aload_n 0, 1) := by decide +kernel
theorem dX9_count_87 : decode cX9_count 87 = .ok (.getfield 246, 3) := by decide +kernel
theorem dX9_count_90 : decode cX9_count 90 = .ok (.ireturn, 1) := by decide +kernel
theorem dX9_count_91 : decode cX9_count 91 = .ok (.aload_n 0, 1) := by decide +kernel
theorem dX9_count_92 : decode cX9_count 92 = .ok (.getfield 259, 3) := by decide +kernel
theorem dX9_count_95 : decode cX9_count 95 = .ok (.ireturn, 1) := by decide +kernel
theorem dX9_count_96 : decode cX9_count 96 = .ok (.aload_n 0, 1) := by decide +kernel
theorem dX9_count_97 : decode cX9_count 97 = .ok (.getfield 97, 3) := by decide +kernel
theorem dX9_count_100 : decode cX9_count 100 = .ok (.ireturn, 1) := by decide +kernel
theorem dX9_count_101 : decode cX9_count 101 = .ok (.iconst (-1), 1) := by decide +kernel
theorem dX9_count_102 : decode cX9_count 102 = .ok (.ireturn, 1) := by decide +kernel
theorem dJ9_max_7cf53_0 : decode cJ9_max_7cf53 0 = .ok (.iload_n 0, 1) := by decide +kernel
theorem dJ9_max_7cf53_1 : decode cJ9_max_7cf53 1 = .ok (.iload_n 1, 1) := by decide +kernel
theorem dJ9_max_7cf53_2 : decode cJ9_max_7cf53 2 = .ok (.if_icmp .lt 7, 3) := by decide +kernel
theorem dJ9_max_7cf53_5 : decode cJ9_max_7cf53 5 = .ok (.iload_n 0, 1) := by decide +kernel
theorem dJ9_max_7cf53_6 : decode cJ9_max_7cf53 6 = .ok (.goto 4, 3) := by decide +kernel
theorem dJ9_max_7cf53_9 : decode cJ9_max_7cf53 9 = .ok (.iload_n 1, 1) := by decide +kernel
theorem dJ9_max_7cf53_10 : decode cJ9_max_7cf53 10 = .ok (.ireturn, 1) := by decide +kernel
theorem dJ9_min_7cf53_0 : decode cJ9_min_7cf53 0 = .ok (.iload_n 0, 1) := by decide +kernel
theorem dJ9_min_7cf53_1 : decode cJ9_min_7cf53 1 = .ok (.iload_n 1, 1) := by decide +kernel
theorem dJ9_min_7cf53_2 : decode cJ9_min_7cf53 2 = .ok (.if_icmp .gt 7, 3) := by decide +kernel
theorem dJ9_min_7cf53_5 : decode cJ9_min_7cf53 5 = .ok (.iload_n 0, 1) := by decide +kernel
theorem dJ9_min_7cf53_6 : decode cJ9_min_7cf53 6 = .ok (.goto 4, 3) := by decide +kernel
theorem dJ9_min_7cf53_9 : decode cJ9_min_7cf53 9 = .ok (.iload_n 1, 1) := by decide +kernel
theorem dJ9_min_7cf53_10 : decode cJ9_min_7cf53 10 = .ok (.ireturn, 1) := by decide +kernel
theorem dJ7_rangeCheck_23922_0 : decode cJ7_rangeCheck_23922 0 = .ok (.iload_n 1, 1) := by decide +kernel
theorem dJ7_rangeCheck_23922_1 : decode cJ7_rangeCheck_23922 1 = .ok (.iload_n 2, 1) := by decide +kernel
theorem dJ7_rangeCheck_23922_2 : decode cJ7_rangeCheck_23922 2 = .ok (.if_icmp .le 44, 3) := by decide +kernel
theorem dJ7_rangeCheck_23922_5 : decode cJ7_rangeCheck_23922 5 = .ok (.new 43, 3) := by decide +kernel
theorem dJ7_rangeCheck_23922_8 : decode cJ7_rangeCheck_23922 8 = .ok (.dup, 1) := by decide +kernel
theorem dJ7_rangeCheck_23922_9 : decode cJ7_rangeCheck_23922 9 = .ok (.new 45, 3) := by decide +kernel
theorem dJ7_rangeCheck_23922_12 : decode cJ7_rangeCheck_23922 12 = .ok (.dup, 1) := by decide +kernel
theorem dJ7_rangeCheck_23922_13 : decode cJ7_rangeCheck_23922 13 = .ok (.invokespecial 47, 3) := by decide +kernel
theorem dJ7_rangeCheck_23922_16 : decode cJ7_rangeCheck_23922 16 = .ok (.ldc 48, 2) := by decide +kernel
theorem dJ7_rangeCheck_23922_18 : decode cJ7_rangeCheck_23922 18 = .ok (.invokevirtual 50, 3) := by decide +kernel
theorem dJ7_rangeCheck_23922_21 : decode cJ7_rangeCheck_23922 21 = .ok (.iload_n 1, 1) := by decide +kernel
theorem dJ7_rangeCheck_23922_22 : decode cJ7_rangeCheck_23922 22 = .ok (.invokevirtual 54, 3) := by decide +kernel
theorem dJ7_rangeCheck_23922_25 : decode cJ7_rangeCheck_23922 25 = .ok (.ldc 57, 2) := by decide +kernel
theorem dJ7_rangeCheck_23922_27 : decode cJ7_rangeCheck_23922 27 = .ok (.invokevirtual 50, 3) := by decide +kernel
theorem dJ7_rangeCheck_23922_30 : decode cJ7_rangeCheck_23922 30 = .ok (.iload_n 2, 1) := by decide +kernel
theorem dJ7_rangeCheck_23922_31 : decode cJ7_rangeCheck_23922 31 = .ok (.invokevirtual 54, 3) := by decide +kernel
theorem dJ7_rangeCheck_23922_34 : decode cJ7_rangeCheck_23922 34 = .ok (.ldc 59, 2) := by decide +kernel
theorem dJ7_rangeCheck_23922_36 : decode cJ7_rangeCheck_23922 36 = .ok (.invokevirtual 50, 3) := by decide +kernel
theorem dJ7_rangeCheck_23922_39 : decode cJ7_rangeCheck_23922 39 = .ok (.invokevirtual 61, 3) := by decide +kernel
theorem dJ7_rangeCheck_23922_42 : decode cJ7_rangeCheck_23922 42 = .ok (.invokespecial 65, 3) := by decide +kernel
theorem dJ7_rangeCheck_23922_45 : decode cJ7_rangeCheck_23922 45 = .ok (.athrow, 1) := by decide +kernel
theorem dJ7_rangeCheck_23922_46 : decode cJ7_rangeCheck_23922 46 = .ok (.iload_n 1, 1) := by decide +kernel
theorem dJ7_rangeCheck_23922_47 : decode cJ7_rangeCheck_23922 47 = .ok (.ifCond .ge 12, 3) := by decide +kernel
theorem dJ7_rangeCheck_23922_50 : decode cJ7_rangeCheck_23922 50 = .ok (.new 68, 3) := by decide +kernel
theorem dJ7_rangeCheck_23922_53 : decode cJ7_rangeCheck_23922 53 = .ok (.dup, 1) := by decide +kernel
theorem dJ7_rangeCheck_23922_54 : decode cJ7_rangeCheck_23922 54 = .ok (.iload_n 1, 1) := by decide +kernel
theorem dJ7_rangeCheck_23922_55 : decode cJ7_rangeCheck_23922 55 = .ok (.invokespecial 70, 3) := by decide +kernel
theorem dJ7_rangeCheck_23922_58 : decode cJ7_rangeCheck_23922 58 = .ok (.athrow, 1) := by decide +kernel
theorem dJ7_rangeCheck_23922_59 : decode cJ7_rangeCheck_23922 59 = .ok (.iload_n 2, 1) := by decide +kernel
theorem dJ7_rangeCheck_23922_60 : decode cJ7_rangeCheck_23922 60 = .ok (.iload_n 0, 1) := by decide +kernel
theorem dJ7_rangeCheck_23922_61 : decode cJ7_rangeCheck_23922 61 = .ok (.if_icmp .le 12, 3) := by decide +kernel
theorem dJ7_rangeCheck_23922_64 : decode cJ7_rangeCheck_23922 64 = .ok (.new 68, 3) := by decide +kernel
theorem dJ7_rangeCheck_23922_67 : decode cJ7_rangeCheck_23922 67 = .ok (.dup, 1) := by decide +kernel
theorem dJ7_rangeCheck_23922_68 : decode cJ7_rangeCheck_23922 68 = .ok (.iload_n 2, 1) := by decide +kernel
theorem dJ7_rangeCheck_23922_69 : decode cJ7_rangeCheck_23922 69 = .ok (.invokespecial 70, 3) := by decide +kernel
theorem dJ7_rangeCheck_23922_72 : decode cJ7_rangeCheck_23922 72 = .ok (.athrow, 1) := by decide +kernel
theorem dJ7_rangeCheck_23922_73 : decode cJ7_rangeCheck_23922 73 = .ok (.return_, 1) := by decide +kernel
theorem dJ7_fill_d0a16_0 : decode cJ7_fill_d0a16 0 = .ok (.iconst 0, 1) := by decide +kernel
theorem dJ7_fill_d0a16_1 : decode cJ7_fill_d0a16 1 = .ok (.istore_n 3, 1) := by decide +kernel
theorem dJ7_fill_d0a16_2 : decode cJ7_fill_d0a16 2 = .ok (.aload_n 0, 1) := by decide +kernel
theorem dJ7_fill_d0a16_3 : decode cJ7_fill_d0a16 3 = .ok (.arraylength, 1) := by decide +kernel
theorem dJ7_fill_d0a16_4 : decode cJ7_fill_d0a16 4 = .ok (.istore 4, 2) := by decide +kernel
theorem dJ7_fill_d0a16_6 : decode cJ7_fill_d0a16 6 = .ok (.iload_n 3, 1) := by decide +kernel
theorem dJ7_fill_d0a16_7 : decode cJ7_fill_d0a16 7 = .ok (.iload 4, 2) := by decide +kernel
theorem dJ7_fill_d0a16_9 : decode cJ7_fill_d0a16 9 = .ok (.if_icmp .ge 13, 3) := by decide +kernel
theorem dJ7_fill_d0a16_12 : decode cJ7_fill_d0a16 12 = .ok (.aload_n 0, 1) := by decide +kernel
theorem dJ7_fill_d0a16_13 : decode cJ7_fill_d0a16 13 = .ok (.iload_n 3, 1) := by decide +kernel
theorem dJ7_fill_d0a16_14 : decode cJ7_fill_d0a16 14 = .ok (.lload_n 1, 1) := by decide +kernel
theorem dJ7_fill_d0a16_15 : decode cJ7_fill_d0a16 15 = .ok (.lastore, 1) := by decide +kernel
theorem dJ7_fill_d0a16_16 : decode cJ7_fill_d0a16 16 = .ok (.iinc 3 1, 3) := by decide +kernel
theorem dJ7_fill_d0a16_19 : decode cJ7_fill_d0a16 19 = .ok (.goto (-13), 3) := by decide +kernel
theorem dJ7_fill_d0a16_22 : decode cJ7_fill_d0a16 22 = .ok (.return_, 1) := by decide +kernel
theorem dJ7_fill_fda19_0 : decode cJ7_fill_fda19 0 = .ok (.aload_n 0, 1) := by decide +kernel
theorem dJ7_fill_fda19_1 : decode cJ7_fill_fda19 1 = .ok (.arraylength, 1) := by decide +kernel
theorem dJ7_fill_fda19_2 : decode cJ7_fill_fda19 2 = .ok (.iload_n 1, 1) := by decide +kernel
theorem dJ7_fill_fda19_3 : decode cJ7_fill_fda19 3 = .ok (.iload_n 2, 1) := by decide +kernel
theorem dJ7_fill_fda19_4 : decode cJ7_fill_fda19 4 = .ok (.invokestatic 13, 3) := by decide +kernel
theorem dJ7_fill_fda19_7 : decode cJ7_fill_fda19 7 = .ok (.iload_n 1, 1) := by decide +kernel
theorem dJ7_fill_fda19_8 : decode cJ7_fill_fda19 8 = .ok (.istore 4, 2) := by decide +kernel
theorem dJ7_fill_fda19_10 : decode cJ7_fill_fda19 10 = .ok (.iload 4, 2) := by decide +kernel
theorem dJ7_fill_fda19_12 : decode cJ7_fill_fda19 12 = .ok (.iload_n 2, 1) := by decide +kernel
theorem dJ7_fill_fda19_13 : decode cJ7_fill_fda19 13 = .ok (.if_icmp .ge 14, 3) := by decide +kernel
theorem dJ7_fill_fda19_16 : decode cJ7_fill_fda19 16 = .ok (.aload_n 0, 1) := by decide +kernel
theorem dJ7_fill_fda19_17 : decode cJ7_fill_fda19 17 = .ok (.iload 4, 2) := by decide +kernel
theorem dJ7_fill_fda19_19 : decode cJ7_fill_fda19 19 = .ok (.iload_n 3, 1) := by decide +kernel
theorem dJ7_fill_fda19_20 : decode cJ7_fill_fda19 20 = .ok (.iastore, 1) := by decide +kernel
theorem dJ7_fill_fda19_21 : decode cJ7_fill_fda19 21 = .ok (.iinc 4 1, 3) := by decide +kernel
theorem dJ7_fill_fda19_24 : decode cJ7_fill_fda19 24 = .ok (.goto (-14), 3) := by decide +kernel
theorem dJ7_fill_fda19_27 : decode cJ7_fill_fda19 27 = .ok (.return_, 1) := by decide +kernel
theorem dJ7_fill_eb02e_0 : decode cJ7_fill_eb02e 0 = .ok (.aload_n 0, 1) := by decide +kernel
theorem dJ7_fill_eb02e_1 : decode cJ7_fill_eb02e 1 = .ok (.arraylength, 1) := by decide +kernel
theorem dJ7_fill_eb02e_2 : decode cJ7_fill_eb02e 2 = .ok (.iload_n 1, 1) := by decide +kernel
theorem dJ7_fill_eb02e_3 : decode cJ7_fill_eb02e 3 = .ok (.iload_n 2, 1) := by decide +kernel
theorem dJ7_fill_eb02e_4 : decode cJ7_fill_eb02e 4 = .ok (.invokestatic 13, 3) := by decide +kernel
theorem dJ7_fill_eb02e_7 : decode cJ7_fill_eb02e 7 = .ok (.iload_n 1, 1) := by decide +kernel
theorem dJ7_fill_eb02e_8 : decode cJ7_fill_eb02e 8 = .ok (.istore 4, 2) := by decide +kernel
theorem dJ7_fill_eb02e_10 : decode cJ7_fill_eb02e 10 = .ok (.iload 4, 2) := by decide +kernel
theorem dJ7_fill_eb02e_12 : decode cJ7_fill_eb02e 12 = .ok (.iload_n 2, 1) := by decide +kernel
theorem dJ7_fill_eb02e_13 : decode cJ7_fill_eb02e 13 = .ok (.if_icmp .ge 14, 3) := by decide +kernel
theorem dJ7_fill_eb02e_16 : decode cJ7_fill_eb02e 16 = .ok (.aload_n 0, 1) := by decide +kernel
theorem dJ7_fill_eb02e_17 : decode cJ7_fill_eb02e 17 = .ok (.iload 4, 2) := by decide +kernel
theorem dJ7_fill_eb02e_19 : decode cJ7_fill_eb02e 19 = .ok (.iload_n 3, 1) := by decide +kernel
theorem dJ7_fill_eb02e_20 : decode cJ7_fill_eb02e 20 = .ok (.bastore, 1) := by decide +kernel
theorem dJ7_fill_eb02e_21 : decode cJ7_fill_eb02e 21 = .ok (.iinc 4 1, 3) := by decide +kernel
theorem dJ7_fill_eb02e_24 : decode cJ7_fill_eb02e 24 = .ok (.goto (-14), 3) := by decide +kernel
theorem dJ7_fill_eb02e_27 : decode cJ7_fill_eb02e 27 = .ok (.return_, 1) := by decide +kernel
theorem dL_shape_0 : decode cL_shape 0 = .ok (.aload_n 0, 1) := by decide +kernel
theorem dL_shape_1 : decode cL_shape 1 = .ok (.iload_n 1, 1) := by decide +kernel
theorem dL_shape_2 : decode cL_shape 2 = .ok (.iload_n 2, 1) := by decide +kernel
theorem dL_shape_3 : decode cL_shape 3 = .ok (.iload_n 3, 1) := by decide +kernel
theorem dL_shape_4 : decode cL_shape 4 = .ok (.iload 4, 2) := by decide +kernel
theorem dL_shape_6 : decode cL_shape 6 = .ok (.invokevirtual 7, 3) := by decide +kernel
theorem dL_shape_9 : decode cL_shape 9 = .ok (.goto 7, 3) := by decide +kernel
theorem dL_shape_12 : decode cL_shape 12 = .ok (.astore 5, 2) := by decide +kernel
theorem dL_shape_14 : decode cL_shape 14 = .ok (.iconst 1, 1) := by decide +kernel
theorem dL_shape_15 : decode cL_shape 15 = .ok (.ireturn, 1) := by decide +kernel
theorem dL_shape_16 : decode cL_shape 16 = .ok (.iconst 0, 1) := by decide +kernel
theorem dL_shape_17 : decode cL_shape 17 = .ok (.ireturn, 1) := by decide +kernel
theorem dL_predict_0 : decode cL_predict 0 = .ok (.aload_n 0, 1) := by decide +kernel
theorem dL_predict_1 : decode cL_predict 1 = .ok (.iload_n 1, 1) := by decide +kernel
theorem dL_predict_2 : decode cL_predict 2 = .ok (.invokevirtual 15, 3) := by decide +kernel
theorem dL_predict_5 : decode cL_predict 5 = .ok (.goto 6, 3) := by decide +kernel
theorem dL_predict_8 : decode cL_predict 8 = .ok (.astore_n 2, 1) := by decide +kernel
theorem dL_predict_9 : decode cL_predict 9 = .ok (.iconst 1, 1) := by decide +kernel
theorem dL_predict_10 : decode cL_predict 10 = .ok (.ireturn, 1) := by decide +kernel
theorem dL_predict_11 : decode cL_predict 11 = .ok (.iconst 0, 1) := by decide +kernel
theorem dL_predict_12 : decode cL_predict 12 = .ok (.ireturn, 1) := by decide +kernel
theorem dL_coefficient_0 : decode cL_coefficient 0 = .ok (.aload_n 0, 1) := by decide +kernel
theorem dL_coefficient_1 : decode cL_coefficient 1 = .ok (.iload_n 1, 1) := by decide +kernel
theorem dL_coefficient_2 : decode cL_coefficient 2 = .ok (.invokevirtual 19, 3) := by decide +kernel
theorem dL_coefficient_5 : decode cL_coefficient 5 = .ok (.goto 9, 3) := by decide +kernel
theorem dL_coefficient_8 : decode cL_coefficient 8 = .ok (.astore_n 2, 1) := by decide +kernel
theorem dL_coefficient_9 : decode cL_coefficient 9 = .ok (.iconst 1, 1) := by decide +kernel
theorem dL_coefficient_10 : decode cL_coefficient 10 = .ok (.ireturn, 1) := by decide +kernel
theorem dL_coefficient_11 : decode cL_coefficient 11 = .ok (.astore_n 2, 1) := by decide +kernel
theorem dL_coefficient_12 : decode cL_coefficient 12 = .ok (.iconst 2, 1) := by decide +kernel
theorem dL_coefficient_13 : decode cL_coefficient 13 = .ok (.ireturn, 1) := by decide +kernel
theorem dL_coefficient_14 : decode cL_coefficient 14 = .ok (.iconst 0, 1) := by decide +kernel
theorem dL_coefficient_15 : decode cL_coefficient 15 = .ok (.ireturn, 1) := by decide +kernel
theorem dL_push_0 : decode cL_push 0 = .ok (.aload_n 0, 1) := by decide +kernel
theorem dL_push_1 : decode cL_push 1 = .ok (.iload_n 1, 1) := by decide +kernel
theorem dL_push_2 : decode cL_push 2 = .ok (.invokevirtual 24, 3) := by decide +kernel
theorem dL_push_5 : decode cL_push 5 = .ok (.goto 9, 3) := by decide +kernel
theorem dL_push_8 : decode cL_push 8 = .ok (.astore_n 2, 1) := by decide +kernel
theorem dL_push_9 : decode cL_push 9 = .ok (.iconst 1, 1) := by decide +kernel
theorem dL_push_10 : decode cL_push 10 = .ok (.ireturn, 1) := by decide +kernel
theorem dL_push_11 : decode cL_push 11 = .ok (.astore_n 2, 1) := by decide +kernel
theorem dL_push_12 : decode cL_push 12 = .ok (.iconst 2, 1) := by decide +kernel
theorem dL_push_13 : decode cL_push 13 = .ok (.ireturn, 1) := by decide +kernel
theorem dL_push_14 : decode cL_push 14 = .ok (.iconst 0, 1) := by decide +kernel
theorem dL_push_15 : decode cL_push 15 = .ok (.ireturn, 1) := by decide +kernel
theorem dL_make_0 : decode cL_make 0 = .ok (.aload_n 1, 1) := by decide +kernel
theorem dL_make_1 : decode cL_make 1 = .ok (.iconst 0, 1) := by decide +kernel
theorem dL_make_2 : decode cL_make 2 = .ok (.aload_n 0, 1) := by decide +kernel
theorem dL_make_3 : decode cL_make 3 = .ok (.invokevirtual 27, 3) := by decide +kernel
theorem dL_make_6 : decode cL_make 6 = .ok (.i2l, 1) := by decide +kernel
theorem dL_make_7 : decode cL_make 7 = .ok (.lastore, 1) := by decide +kernel
theorem dL_make_8 : decode cL_make 8 = .ok (.goto 6, 3) := by decide +kernel
theorem dL_make_11 : decode cL_make 11 = .ok (.astore_n 2, 1) := by decide +kernel
theorem dL_make_12 : decode cL_make 12 = .ok (.iconst 1, 1) := by decide +kernel
theorem dL_make_13 : decode cL_make 13 = .ok (.ireturn, 1) := by decide +kernel
theorem dL_make_14 : decode cL_make 14 = .ok (.iconst 0, 1) := by decide +kernel
theorem dL_make_15 : decode cL_make 15 = .ok (.ireturn, 1) := by decide +kernel
theorem dL_way_0 : decode cL_way 0 = .ok (.aload 4, 2) := by decide +kernel
theorem dL_way_2 : decode cL_way 2 = .ok (.iconst 0, 1) := by decide +kernel
theorem dL_way_3 : decode cL_way 3 = .ok (.aload_n 0, 1) := by decide +kernel
theorem dL_way_4 : decode cL_way 4 = .ok (.iload_n 1, 1) := by decide +kernel
theorem dL_way_5 : decode cL_way 5 = .ok (.iload_n 2, 1) := by decide +kernel
theorem dL_way_6 : decode cL_way 6 = .ok (.iload_n 3, 1) := by decide +kernel
theorem dL_way_7 : decode cL_way 7 = .ok (.invokevirtual 31, 3) := by decide +kernel
theorem dL_way_10 : decode cL_way 10 = .ok (.i2l, 1) := by decide +kernel
theorem dL_way_11 : decode cL_way 11 = .ok (.lastore, 1) := by decide +kernel
theorem dL_way_12 : decode cL_way 12 = .ok (.goto 7, 3) := by decide +kernel
theorem dL_way_15 : decode cL_way 15 = .ok (.astore 5, 2) := by decide +kernel
theorem dL_way_17 : decode cL_way 17 = .ok (.iconst 1, 1) := by decide +kernel
theorem dL_way_18 : decode cL_way 18 = .ok (.ireturn, 1) := by decide +kernel
theorem dL_way_19 : decode cL_way 19 = .ok (.iconst 0, 1) := by decide +kernel
theorem dL_way_20 : decode cL_way 20 = .ok (.ireturn, 1) := by decide +kernel
theorem dL_read_0 : decode cL_read 0 = .ok (.aload_n 1, 1) := by decide +kernel
theorem dL_read_1 : decode cL_read 1 = .ok (.iconst 0, 1) := by decide +kernel
theorem dL_read_2 : decode cL_read 2 = .ok (.aload_n 0, 1) := by decide +kernel
theorem dL_read_3 : decode cL_read 3 = .ok (.invokevirtual 35, 3) := by decide +kernel
theorem dL_read_6 : decode cL_read 6 = .ok (.i2l, 1) := by decide +kernel
theorem dL_read_7 : decode cL_read 7 = .ok (.lastore, 1) := by decide +kernel
theorem dL_read_8 : decode cL_read 8 = .ok (.goto 6, 3) := by decide +kernel
theorem dL_read_11 : decode cL_read 11 = .ok (.astore_n 2, 1) := by decide +kernel
theorem dL_read_12 : decode cL_read 12 = .ok (.iconst 1, 1) := by decide +kernel
theorem dL_read_13 : decode cL_read 13 = .ok (.ireturn, 1) := by decide +kernel
theorem dL_read_14 : decode cL_read 14 = .ok (.iconst 0, 1) := by decide +kernel
theorem dL_read_15 : decode cL_read 15 = .ok (.ireturn, 1) := by decide +kernel
theorem dL_sample_0 : decode cL_sample 0 = .ok (.aload_n 2, 1) := by decide +kernel
theorem dL_sample_1 : decode cL_sample 1 = .ok (.iconst 0, 1) := by decide +kernel
theorem dL_sample_2 : decode cL_sample 2 = .ok (.aload_n 0, 1) := by decide +kernel
theorem dL_sample_3 : decode cL_sample 3 = .ok (.iload_n 1, 1) := by decide +kernel
theorem dL_sample_4 : decode cL_sample 4 = .ok (.invokevirtual 38, 3) := by decide +kernel
theorem dL_sample_7 : decode cL_sample 7 = .ok (.i2l, 1) := by decide +kernel
theorem dL_sample_8 : decode cL_sample 8 = .ok (.lastore, 1) := by decide +kernel
theorem dL_sample_9 : decode cL_sample 9 = .ok (.goto 6, 3) := by decide +kernel
theorem dL_sample_12 : decode cL_sample 12 = .ok (.astore_n 3, 1) := by decide +kernel
theorem dL_sample_13 : decode cL_sample 13 = .ok (.iconst 1, 1) := by decide +kernel
theorem dL_sample_14 : decode cL_sample 14 = .ok (.ireturn, 1) := by decide +kernel
theorem dL_sample_15 : decode cL_sample 15 = .ok (.iconst 0, 1) := by decide +kernel
theorem dL_sample_16 : decode cL_sample 16 = .ok (.ireturn, 1) := by decide +kernel
theorem dL_law_0 : decode cL_law 0 = .ok (.new 8, 3) := by decide +kernel
theorem dL_law_3 : decode cL_law 3 = .ok (.dup, 1) := by decide +kernel
theorem dL_law_4 : decode cL_law 4 = .ok (.invokespecial 42, 3) := by decide +kernel
theorem dL_law_7 : decode cL_law 7 = .ok (.astore_n 1, 1) := by decide +kernel
theorem dL_law_8 : decode cL_law 8 = .ok (.new 43, 3) := by decide +kernel
theorem dL_law_11 : decode cL_law 11 = .ok (.dup, 1) := by decide +kernel
theorem dL_law_12 : decode cL_law 12 = .ok (.invokespecial 45, 3) := by decide +kernel
theorem dL_law_15 : decode cL_law 15 = .ok (.astore_n 2, 1) := by decide +kernel
theorem dL_law_16 : decode cL_law 16 = .ok (.iconst 1, 1) := by decide +kernel
theorem dL_law_17 : decode cL_law 17 = .ok (.newarray .long, 2) := by decide +kernel
theorem dL_law_19 : decode cL_law 19 = .ok (.astore_n 3, 1) := by decide +kernel
theorem dL_law_20 : decode cL_law 20 = .ok (.iconst 0, 1) := by decide +kernel
theorem dL_law_21 : decode cL_law 21 = .ok (.istore 4, 2) := by decide +kernel
theorem dL_law_23 : decode cL_law 23 = .ok (.iload 4, 2) := by decide +kernel
theorem dL_law_25 : decode cL_law 25 = .ok (.aload_n 0, 1) := by decide +kernel
theorem dL_law_26 : decode cL_law 26 = .ok (.arraylength, 1) := by decide +kernel
theorem dL_law_27 : decode cL_law 27 = .ok (.iconst 5, 1) := by decide +kernel
theorem dL_law_28 : decode cL_law 28 = .ok (.isub, 1) := by decide +kernel
theorem dL_law_29 : decode cL_law 29 = .ok (.if_icmp .gt 647, 3) := by decide +kernel
theorem dL_law_32 : decode cL_law 32 = .ok (.aload_n 0, 1) := by decide +kernel
theorem dL_law_33 : decode cL_law 33 = .ok (.iload 4, 2) := by decide +kernel
theorem dL_law_35 : decode cL_law 35 = .ok (.iaload, 1) := by decide +kernel
theorem dL_law_36 : decode cL_law 36 = .ok (.bipush 15, 2) := by decide +kernel
theorem dL_law_38 : decode cL_law 38 = .ok (.iand, 1) := by decide +kernel
theorem dL_law_39 : decode cL_law 39 = .ok (.tableswitch 631 0 13 #[69, 141, 177, 213, 249, 293, 318, 398, 467, 480, 524, 537, 550, 606], 69) := by decide +kernel
theorem dL_law_108 : decode cL_law 108 = .ok (.aload_n 1, 1) := by decide +kernel
theorem dL_law_109 : decode cL_law 109 = .ok (.aload_n 0, 1) := by decide +kernel
theorem dL_law_110 : decode cL_law 110 = .ok (.iload 4, 2) := by decide +kernel
theorem dL_law_112 : decode cL_law 112 = .ok (.iconst 1, 1) := by decide +kernel
theorem dL_law_113 : decode cL_law 113 = .ok (.iadd, 1) := by decide +kernel
theorem dL_law_114 : decode cL_law 114 = .ok (.iaload, 1) := by decide +kernel
theorem dL_law_115 : decode cL_law 115 = .ok (.aload_n 0, 1) := by decide +kernel
theorem dL_law_116 : decode cL_law 116 = .ok (.iload 4, 2) := by decide +kernel
theorem dL_law_118 : decode cL_law 118 = .ok (.iconst 2, 1) := by decide +kernel
theorem dL_law_119 : decode cL_law 119 = .ok (.iadd, 1) := by decide +kernel
theorem dL_law_120 : decode cL_law 120 = .ok (.iaload, 1) := by decide +kernel
theorem dL_law_121 : decode cL_law 121 = .ok (.aload_n 0, 1) := by decide +kernel
theorem dL_law_122 : decode cL_law 122 = .ok (.iload 4, 2) := by decide +kernel
theorem dL_law_124 : decode cL_law 124 = .ok (.iconst 3, 1) := by decide +kernel
theorem dL_law_125 : decode cL_law 125 = .ok (.iadd, 1) := by decide +kernel
theorem dL_law_126 : decode cL_law 126 = .ok (.iaload, 1) := by decide +kernel
theorem dL_law_127 : decode cL_law 127 = .ok (.aload_n 0, 1) := by decide +kernel
theorem dL_law_128 : decode cL_law 128 = .ok (.iload 4, 2) := by decide +kernel
theorem dL_law_130 : decode cL_law 130 = .ok (.iconst 4, 1) := by decide +kernel
theorem dL_law_131 : decode cL_law 131 = .ok (.iadd, 1) := by decide +kernel
theorem dL_law_132 : decode cL_law 132 = .ok (.iaload, 1) := by decide +kernel
theorem dL_law_133 : decode cL_law 133 = .ok (.invokestatic 46, 3) := by decide +kernel
theorem dL_law_136 : decode cL_law 136 = .ok (.istore 5, 2) := by decide +kernel
theorem dL_law_138 : decode cL_law 138 = .ok (.aload_n 2, 1) := by decide +kernel
theorem dL_law_139 : decode cL_law 139 = .ok (.aload_n 0, 1) := by decide +kernel
theorem dL_law_140 : decode cL_law 140 = .ok (.iload 4, 2) := by decide +kernel
theorem dL_law_142 : decode cL_law 142 = .ok (.iconst 1, 1) := by decide +kernel
theorem dL_law_143 : decode cL_law 143 = .ok (.iadd, 1) := by decide +kernel
theorem dL_law_144 : decode cL_law 144 = .ok (.iaload, 1) := by decide +kernel
theorem dL_law_145 : decode cL_law 145 = .ok (.aload_n 0, 1) := by decide +kernel
theorem dL_law_146 : decode cL_law 146 = .ok (.iload 4, 2) := by decide +kernel
theorem dL_law_148 : decode cL_law 148 = .ok (.iconst 2, 1) := by decide +kernel
theorem dL_law_149 : decode cL_law 149 = .ok (.iadd, 1) := by decide +kernel
theorem dL_law_150 : decode cL_law 150 = .ok (.iaload, 1) := by decide +kernel
theorem dL_law_151 : decode cL_law 151 = .ok (.aload_n 0, 1) := by decide +kernel
theorem dL_law_152 : decode cL_law 152 = .ok (.iload 4, 2) := by decide +kernel
theorem dL_law_154 : decode cL_law 154 = .ok (.iconst 3, 1) := by decide +kernel
theorem dL_law_155 : decode cL_law 155 = .ok (.iadd, 1) := by decide +kernel
theorem dL_law_156 : decode cL_law 156 = .ok (.iaload, 1) := by decide +kernel
theorem dL_law_157 : decode cL_law 157 = .ok (.aload_n 0, 1) := by decide +kernel
theorem dL_law_158 : decode cL_law 158 = .ok (.iload 4, 2) := by decide +kernel
theorem dL_law_160 : decode cL_law 160 = .ok (.iconst 4, 1) := by decide +kernel
theorem dL_law_161 : decode cL_law 161 = .ok (.iadd, 1) := by decide +kernel
theorem dL_law_162 : decode cL_law 162 = .ok (.iaload, 1) := by decide +kernel
theorem dL_law_163 : decode cL_law 163 = .ok (.invokevirtual 51, 3) := by decide +kernel
theorem dL_law_166 : decode cL_law 166 = .ok (.aload_n 2, 1) := by decide +kernel
theorem dL_law_167 : decode cL_law 167 = .ok (.invokevirtual 52, 3) := by decide +kernel
theorem dL_law_170 : decode cL_law 170 = .ok (.iload 5, 2) := by decide +kernel
theorem dL_law_172 : decode cL_law 172 = .ok (.if_icmp .eq 5, 3) := by decide +kernel
theorem dL_law_175 : decode cL_law 175 = .ok (.iconst 0, 1) := by decide +kernel
theorem dL_law_176 : decode cL_law 176 = .ok (.ireturn, 1) := by decide +kernel
theorem dL_law_177 : decode cL_law 177 = .ok (.goto 493, 3) := by decide +kernel
theorem dL_law_180 : decode cL_law 180 = .ok (.aload_n 1, 1) := by decide +kernel
theorem dL_law_181 : decode cL_law 181 = .ok (.aload_n 0, 1) := by decide +kernel
theorem dL_law_182 : decode cL_law 182 = .ok (.iload 4, 2) := by decide +kernel
theorem dL_law_184 : decode cL_law 184 = .ok (.iconst 1, 1) := by decide +kernel
theorem dL_law_185 : decode cL_law 185 = .ok (.iadd, 1) := by decide +kernel
theorem dL_law_186 : decode cL_law 186 = .ok (.iaload, 1) := by decide +kernel
theorem dL_law_187 : decode cL_law 187 = .ok (.invokestatic 55, 3) := by decide +kernel
theorem dL_law_190 : decode cL_law 190 = .ok (.istore 5, 2) := by decide +kernel
theorem dL_law_192 : decode cL_law 192 = .ok (.aload_n 2, 1) := by decide +kernel
theorem dL_law_193 : decode cL_law 193 = .ok (.aload_n 0, 1) := by decide +kernel
theorem dL_law_194 : decode cL_law 194 = .ok (.iload 4, 2) := by decide +kernel
theorem dL_law_196 : decode cL_law 196 = .ok (.iconst 1, 1) := by decide +kernel
theorem dL_law_197 : decode cL_law 197 = .ok (.iadd, 1) := by decide +kernel
theorem dL_law_198 : decode cL_law 198 = .ok (.iaload, 1) := by decide +kernel
theorem dL_law_199 : decode cL_law 199 = .ok (.invokevirtual 58, 3) := by decide +kernel
theorem dL_law_202 : decode cL_law 202 = .ok (.aload_n 2, 1) := by decide +kernel
theorem dL_law_203 : decode cL_law 203 = .ok (.invokevirtual 52, 3) := by decide +kernel
theorem dL_law_206 : decode cL_law 206 = .ok (.iload 5, 2) := by decide +kernel
theorem dL_law_208 : decode cL_law 208 = .ok (.if_icmp .eq 5, 3) := by decide +kernel
theorem dL_law_211 : decode cL_law 211 = .ok (.iconst 0, 1) := by decide +kernel
theorem dL_law_212 : decode cL_law 212 = .ok (.ireturn, 1) := by decide +kernel
theorem dL_law_213 : decode cL_law 213 = .ok (.goto 457, 3) := by decide +kernel
theorem dL_law_216 : decode cL_law 216 = .ok (.aload_n 1, 1) := by decide +kernel
theorem dL_law_217 : decode cL_law 217 = .ok (.aload_n 0, 1) := by decide +kernel
theorem dL_law_218 : decode cL_law 218 = .ok (.iload 4, 2) := by decide +kernel
theorem dL_law_220 : decode cL_law 220 = .ok (.iconst 1, 1) := by decide +kernel
theorem dL_law_221 : decode cL_law 221 = .ok (.iadd, 1) := by decide +kernel
theorem dL_law_222 : decode cL_law 222 = .ok (.iaload, 1) := by decide +kernel
theorem dL_law_223 : decode cL_law 223 = .ok (.invokestatic 59, 3) := by decide +kernel
theorem dL_law_226 : decode cL_law 226 = .ok (.istore 5, 2) := by decide +kernel
theorem dL_law_228 : decode cL_law 228 = .ok (.aload_n 2, 1) := by decide +kernel
theorem dL_law_229 : decode cL_law 229 = .ok (.aload_n 0, 1) := by decide +kernel
theorem dL_law_230 : decode cL_law 230 = .ok (.iload 4, 2) := by decide +kernel
theorem dL_law_232 : decode cL_law 232 = .ok (.iconst 1, 1) := by decide +kernel
theorem dL_law_233 : decode cL_law 233 = .ok (.iadd, 1) := by decide +kernel
theorem dL_law_234 : decode cL_law 234 = .ok (.iaload, 1) := by decide +kernel
theorem dL_law_235 : decode cL_law 235 = .ok (.invokevirtual 61, 3) := by decide +kernel
theorem dL_law_238 : decode cL_law 238 = .ok (.aload_n 2, 1) := by decide +kernel
theorem dL_law_239 : decode cL_law 239 = .ok (.invokevirtual 52, 3) := by decide +kernel
theorem dL_law_242 : decode cL_law 242 = .ok (.iload 5, 2) := by decide +kernel
theorem dL_law_244 : decode cL_law 244 = .ok (.if_icmp .eq 5, 3) := by decide +kernel
theorem dL_law_247 : decode cL_law 247 = .ok (.iconst 0, 1) := by decide +kernel
theorem dL_law_248 : decode cL_law 248 = .ok (.ireturn, 1) := by decide +kernel
theorem dL_law_249 : decode cL_law 249 = .ok (.goto 421, 3) := by decide +kernel
theorem dL_law_252 : decode cL_law 252 = .ok (.aload_n 1, 1) := by decide +kernel
theorem dL_law_253 : decode cL_law 253 = .ok (.aload_n 0, 1) := by decide +kernel
theorem dL_law_254 : decode cL_law 254 = .ok (.iload 4, 2) := by decide +kernel
theorem dL_law_256 : decode cL_law 256 = .ok (.iconst 1, 1) := by decide +kernel
theorem dL_law_257 : decode cL_law 257 = .ok (.iadd, 1) := by decide +kernel
theorem dL_law_258 : decode cL_law 258 = .ok (.iaload, 1) := by decide +kernel
theorem dL_law_259 : decode cL_law 259 = .ok (.invokestatic 62, 3) := by decide +kernel
theorem dL_law_262 : decode cL_law 262 = .ok (.istore 5, 2) := by decide +kernel
theorem dL_law_264 : decode cL_law 264 = .ok (.aload_n 2, 1) := by decide +kernel
theorem dL_law_265 : decode cL_law 265 = .ok (.aload_n 0, 1) := by decide +kernel
theorem dL_law_266 : decode cL_law 266 = .ok (.iload 4, 2) := by decide +kernel
theorem dL_law_268 : decode cL_law 268 = .ok (.iconst 1, 1) := by decide +kernel
theorem dL_law_269 : decode cL_law 269 = .ok (.iadd, 1) := by decide +kernel
theorem dL_law_270 : decode cL_law 270 = .ok (.iaload, 1) := by decide +kernel
theorem dL_law_271 : decode cL_law 271 = .ok (.invokevirtual 64, 3) := by decide +kernel
theorem dL_law_274 : decode cL_law 274 = .ok (.aload_n 2, 1) := by decide +kernel
theorem dL_law_275 : decode cL_law 275 = .ok (.invokevirtual 52, 3) := by decide +kernel
theorem dL_law_278 : decode cL_law 278 = .ok (.iload 5, 2) := by decide +kernel
theorem dL_law_280 : decode cL_law 280 = .ok (.if_icmp .eq 5, 3) := by decide +kernel
theorem dL_law_283 : decode cL_law 283 = .ok (.iconst 0, 1) := by decide +kernel
theorem dL_law_284 : decode cL_law 284 = .ok (.ireturn, 1) := by decide +kernel
theorem dL_law_285 : decode cL_law 285 = .ok (.goto 385, 3) := by decide +kernel
theorem dL_law_288 : decode cL_law 288 = .ok (.aload_n 1, 1) := by decide +kernel
theorem dL_law_289 : decode cL_law 289 = .ok (.aload_n 3, 1) := by decide +kernel
theorem dL_law_290 : decode cL_law 290 = .ok (.invokestatic 65, 3) := by decide +kernel
theorem dL_law_293 : decode cL_law 293 = .ok (.istore 5, 2) := by decide +kernel
theorem dL_law_295 : decode cL_law 295 = .ok (.aload_n 2, 1) := by decide +kernel
theorem dL_law_296 : decode cL_law 296 = .ok (.invokevirtual 68, 3) := by decide +kernel
theorem dL_law_299 : decode cL_law 299 = .ok (.istore 6, 2) := by decide +kernel
theorem dL_law_301 : decode cL_law 301 = .ok (.aload_n 2, 1) := by decide +kernel
theorem dL_law_302 : decode cL_law 302 = .ok (.invokevirtual 52, 3) := by decide +kernel
theorem dL_law_305 : decode cL_law 305 = .ok (.iload 5, 2) := by decide +kernel
theorem dL_law_307 : decode cL_law 307 = .ok (.if_icmp .eq 5, 3) := by decide +kernel
theorem dL_law_310 : decode cL_law 310 = .ok (.iconst 0, 1) := by decide +kernel
theorem dL_law_311 : decode cL_law 311 = .ok (.ireturn, 1) := by decide +kernel
theorem dL_law_312 : decode cL_law 312 = .ok (.iload 5, 2) := by decide +kernel
theorem dL_law_314 : decode cL_law 314 = .ok (.ifCond .ne 15, 3) := by decide +kernel
theorem dL_law_317 : decode cL_law 317 = .ok (.aload_n 3, 1) := by decide +kernel
theorem dL_law_318 : decode cL_law 318 = .ok (.iconst 0, 1) := by decide +kernel
theorem dL_law_319 : decode cL_law 319 = .ok (.laload, 1) := by decide +kernel
theorem dL_law_320 : decode cL_law 320 = .ok (.iload 6, 2) := by decide +kernel
theorem dL_law_322 : decode cL_law 322 = .ok (.i2l, 1) := by decide +kernel
theorem dL_law_323 : decode cL_law 323 = .ok (.lcmp, 1) := by decide +kernel
theorem dL_law_324 : decode cL_law 324 = .ok (.ifCond .eq 5, 3) := by decide +kernel
theorem dL_law_327 : decode cL_law 327 = .ok (.iconst 0, 1) := by decide +kernel
theorem dL_law_328 : decode cL_law 328 = .ok (.ireturn, 1) := by decide +kernel
theorem dL_law_329 : decode cL_law 329 = .ok (.goto 341, 3) := by decide +kernel
theorem dL_law_332 : decode cL_law 332 = .ok (.aload_n 1, 1) := by decide +kernel
theorem dL_law_333 : decode cL_law 333 = .ok (.aload_n 0, 1) := by decide +kernel
theorem dL_law_334 : decode cL_law 334 = .ok (.iload 4, 2) := by decide +kernel
theorem dL_law_336 : decode cL_law 336 = .ok (.iconst 1, 1) := by decide +kernel
theorem dL_law_337 : decode cL_law 337 = .ok (.iadd, 1) := by decide +kernel
theorem dL_law_338 : decode cL_law 338 = .ok (.iaload, 1) := by decide +kernel
theorem dL_law_339 : decode cL_law 339 = .ok (.invokevirtual 69, 3) := by decide +kernel
theorem dL_law_342 : decode cL_law 342 = .ok (.aload_n 2, 1) := by decide +kernel
theorem dL_law_343 : decode cL_law 343 = .ok (.aload_n 0, 1) := by decide +kernel
theorem dL_law_344 : decode cL_law 344 = .ok (.iload 4, 2) := by decide +kernel
theorem dL_law_346 : decode cL_law 346 = .ok (.iconst 1, 1) := by decide +kernel
theorem dL_law_347 : decode cL_law 347 = .ok (.iadd, 1) := by decide +kernel
theorem dL_law_348 : decode cL_law 348 = .ok (.iaload, 1) := by decide +kernel
theorem dL_law_349 : decode cL_law 349 = .ok (.invokevirtual 72, 3) := by decide +kernel
theorem dL_law_352 : decode cL_law 352 = .ok (.if_icmp .eq 318, 3) := by decide +kernel
theorem dL_law_355 : decode cL_law 355 = .ok (.iconst 0, 1) := by decide +kernel
theorem dL_law_356 : decode cL_law 356 = .ok (.ireturn, 1) := by decide +kernel
theorem dL_law_357 : decode cL_law 357 = .ok (.aload_n 1, 1) := by decide +kernel
theorem dL_law_358 : decode cL_law 358 = .ok (.aload_n 0, 1) := by decide +kernel
theorem dL_law_359 : decode cL_law 359 = .ok (.iload 4, 2) := by decide +kernel
theorem dL_law_361 : decode cL_law 361 = .ok (.iconst 1, 1) := by decide +kernel
theorem dL_law_362 : decode cL_law 362 = .ok (.iadd, 1) := by decide +kernel
theorem dL_law_363 : decode cL_law 363 = .ok (.iaload, 1) := by decide +kernel
theorem dL_law_364 : decode cL_law 364 = .ok (.aload_n 0, 1) := by decide +kernel
theorem dL_law_365 : decode cL_law 365 = .ok (.iload 4, 2) := by decide +kernel
theorem dL_law_367 : decode cL_law 367 = .ok (.iconst 2, 1) := by decide +kernel
theorem dL_law_368 : decode cL_law 368 = .ok (.iadd, 1) := by decide +kernel
theorem dL_law_369 : decode cL_law 369 = .ok (.iaload, 1) := by decide +kernel
theorem dL_law_370 : decode cL_law 370 = .ok (.aload_n 0, 1) := by decide +kernel
theorem dL_law_371 : decode cL_law 371 = .ok (.iload 4, 2) := by decide +kernel
theorem dL_law_373 : decode cL_law 373 = .ok (.iconst 3, 1) := by decide +kernel
theorem dL_law_374 : decode cL_law 374 = .ok (.iadd, 1) := by decide +kernel
theorem dL_law_375 : decode cL_law 375 = .ok (.iaload, 1) := by decide +kernel
theorem dL_law_376 : decode cL_law 376 = .ok (.aload_n 3, 1) := by decide +kernel
theorem dL_law_377 : decode cL_law 377 = .ok (.invokestatic 73, 3) := by decide +kernel
theorem dL_law_380 : decode cL_law 380 = .ok (.istore 5, 2) := by decide +kernel
theorem dL_law_382 : decode cL_law 382 = .ok (.aload_n 2, 1) := by decide +kernel
theorem dL_law_383 : decode cL_law 383 = .ok (.aload_n 0, 1) := by decide +kernel
theorem dL_law_384 : decode cL_law 384 = .ok (.iload 4, 2) := by decide +kernel
theorem dL_law_386 : decode cL_law 386 = .ok (.iconst 1, 1) := by decide +kernel
theorem dL_law_387 : decode cL_law 387 = .ok (.iadd, 1) := by decide +kernel
theorem dL_law_388 : decode cL_law 388 = .ok (.iaload, 1) := by decide +kernel
theorem dL_law_389 : decode cL_law 389 = .ok (.aload_n 0, 1) := by decide +kernel
theorem dL_law_390 : decode cL_law 390 = .ok (.iload 4, 2) := by decide +kernel
theorem dL_law_392 : decode cL_law 392 = .ok (.iconst 2, 1) := by decide +kernel
theorem dL_law_393 : decode cL_law 393 = .ok (.iadd, 1) := by decide +kernel
theorem dL_law_394 : decode cL_law 394 = .ok (.iaload, 1) := by decide +kernel
theorem dL_law_395 : decode cL_law 395 = .ok (.aload_n 0, 1) := by decide +kernel
theorem dL_law_396 : decode cL_law 396 = .ok (.iload 4, 2) := by decide +kernel
theorem dL_law_398 : decode cL_law 398 = .ok (.iconst 3, 1) := by decide +kernel
theorem dL_law_399 : decode cL_law 399 = .ok (.iadd, 1) := by decide +kernel
theorem dL_law_400 : decode cL_law 400 = .ok (.iaload, 1) := by decide +kernel
theorem dL_law_401 : decode cL_law 401 = .ok (.invokevirtual 76, 3) := by decide +kernel
theorem dL_law_404 : decode cL_law 404 = .ok (.istore 6, 2) := by decide +kernel
theorem dL_law_406 : decode cL_law 406 = .ok (.aload_n 2, 1) := by decide +kernel
theorem dL_law_407 : decode cL_law 407 = .ok (.invokevirtual 52, 3) := by decide +kernel
theorem dL_law_410 : decode cL_law 410 = .ok (.iload 5, 2) := by decide +kernel
theorem dL_law_412 : decode cL_law 412 = .ok (.if_icmp .eq 5, 3) := by decide +kernel
theorem dL_law_415 : decode cL_law 415 = .ok (.iconst 0, 1) := by decide +kernel
theorem dL_law_416 : decode cL_law 416 = .ok (.ireturn, 1) := by decide +kernel
theorem dL_law_417 : decode cL_law 417 = .ok (.iload 5, 2) := by decide +kernel
theorem dL_law_419 : decode cL_law 419 = .ok (.ifCond .ne 15, 3) := by decide +kernel
theorem dL_law_422 : decode cL_law 422 = .ok (.aload_n 3, 1) := by decide +kernel
theorem dL_law_423 : decode cL_law 423 = .ok (.iconst 0, 1) := by decide +kernel
theorem dL_law_424 : decode cL_law 424 = .ok (.laload, 1) := by decide +kernel
theorem dL_law_425 : decode cL_law 425 = .ok (.iload 6, 2) := by decide +kernel
theorem dL_law_427 : decode cL_law 427 = .ok (.i2l, 1) := by decide +kernel
theorem dL_law_428 : decode cL_law 428 = .ok (.lcmp, 1) := by decide +kernel
theorem dL_law_429 : decode cL_law 429 = .ok (.ifCond .eq 5, 3) := by decide +kernel
theorem dL_law_432 : decode cL_law 432 = .ok (.iconst 0, 1) := by decide +kernel
theorem dL_law_433 : decode cL_law 433 = .ok (.ireturn, 1) := by decide +kernel
theorem dL_law_434 : decode cL_law 434 = .ok (.goto 236, 3) := by decide +kernel
theorem dL_law_437 : decode cL_law 437 = .ok (.aload_n 1, 1) := by decide +kernel
theorem dL_law_438 : decode cL_law 438 = .ok (.aload_n 0, 1) := by decide +kernel
theorem dL_law_439 : decode cL_law 439 = .ok (.iload 4, 2) := by decide +kernel
theorem dL_law_441 : decode cL_law 441 = .ok (.iconst 1, 1) := by decide +kernel
theorem dL_law_442 : decode cL_law 442 = .ok (.iadd, 1) := by decide +kernel
theorem dL_law_443 : decode cL_law 443 = .ok (.iaload, 1) := by decide +kernel
theorem dL_law_444 : decode cL_law 444 = .ok (.i2l, 1) := by decide +kernel
theorem dL_law_445 : decode cL_law 445 = .ok (.bipush 32, 2) := by decide +kernel
theorem dL_law_447 : decode cL_law 447 = .ok (.lshl, 1) := by decide +kernel
theorem dL_law_448 : decode cL_law 448 = .ok (.aload_n 0, 1) := by decide +kernel
theorem dL_law_449 : decode cL_law 449 = .ok (.iload 4, 2) := by decide +kernel
theorem dL_law_451 : decode cL_law 451 = .ok (.iconst 2, 1) := by decide +kernel
theorem dL_law_452 : decode cL_law 452 = .ok (.iadd, 1) := by decide +kernel
theorem dL_law_453 : decode cL_law 453 = .ok (.iaload, 1) := by decide +kernel
theorem dL_law_454 : decode cL_law 454 = .ok (.i2l, 1) := by decide +kernel
theorem dL_law_455 : decode cL_law 455 = .ok (.ldc2_w 77, 3) := by decide +kernel
theorem dL_law_458 : decode cL_law 458 = .ok (.land, 1) := by decide +kernel
theorem dL_law_459 : decode cL_law 459 = .ok (.lor, 1) := by decide +kernel
theorem dL_law_460 : decode cL_law 460 = .ok (.aload_n 0, 1) := by decide +kernel
theorem dL_law_461 : decode cL_law 461 = .ok (.iload 4, 2) := by decide +kernel
theorem dL_law_463 : decode cL_law 463 = .ok (.iconst 3, 1) := by decide +kernel
theorem dL_law_464 : decode cL_law 464 = .ok (.iadd, 1) := by decide +kernel
theorem dL_law_465 : decode cL_law 465 = .ok (.iaload, 1) := by decide +kernel
theorem dL_law_466 : decode cL_law 466 = .ok (.invokevirtual 79, 3) := by decide +kernel
theorem dL_law_469 : decode cL_law 469 = .ok (.aload_n 2, 1) := by decide +kernel
theorem dL_law_470 : decode cL_law 470 = .ok (.aload_n 0, 1) := by decide +kernel
theorem dL_law_471 : decode cL_law 471 = .ok (.iload 4, 2) := by decide +kernel
theorem dL_law_473 : decode cL_law 473 = .ok (.iconst 1, 1) := by decide +kernel
theorem dL_law_474 : decode cL_law 474 = .ok (.iadd, 1) := by decide +kernel
theorem dL_law_475 : decode cL_law 475 = .ok (.iaload, 1) := by decide +kernel
theorem dL_law_476 : decode cL_law 476 = .ok (.i2l, 1) := by decide +kernel
theorem dL_law_477 : decode cL_law 477 = .ok (.bipush 32, 2) := by decide +kernel
theorem dL_law_479 : decode cL_law 479 = .ok (.lshl, 1) := by decide +kernel
theorem dL_law_480 : decode cL_law 480 = .ok (.aload_n 0, 1) := by decide +kernel
theorem dL_law_481 : decode cL_law 481 = .ok (.iload 4, 2) := by decide +kernel
theorem dL_law_483 : decode cL_law 483 = .ok (.iconst 2, 1) := by decide +kernel
theorem dL_law_484 : decode cL_law 484 = .ok (.iadd, 1) := by decide +kernel
theorem dL_law_485 : decode cL_law 485 = .ok (.iaload, 1) := by decide +kernel
theorem dL_law_486 : decode cL_law 486 = .ok (.i2l, 1) := by decide +kernel
theorem dL_law_487 : decode cL_law 487 = .ok (.ldc2_w 77, 3) := by decide +kernel
theorem dL_law_490 : decode cL_law 490 = .ok (.land, 1) := by decide +kernel
theorem dL_law_491 : decode cL_law 491 = .ok (.lor, 1) := by decide +kernel
theorem dL_law_492 : decode cL_law 492 = .ok (.aload_n 0, 1) := by decide +kernel
theorem dL_law_493 : decode cL_law 493 = .ok (.iload 4, 2) := by decide +kernel
theorem dL_law_495 : decode cL_law 495 = .ok (.iconst 3, 1) := by decide +kernel
theorem dL_law_496 : decode cL_law 496 = .ok (.iadd, 1) := by decide +kernel
theorem dL_law_497 : decode cL_law 497 = .ok (.iaload, 1) := by decide +kernel
theorem dL_law_498 : decode cL_law 498 = .ok (.invokevirtual 83, 3) := by decide +kernel
theorem dL_law_501 : decode cL_law 501 = .ok (.if_icmp .eq 169, 3) := by decide +kernel
theorem dL_law_504 : decode cL_law 504 = .ok (.iconst 0, 1) := by decide +kernel
theorem dL_law_505 : decode cL_law 505 = .ok (.ireturn, 1) := by decide +kernel
theorem dL_law_506 : decode cL_law 506 = .ok (.aload_n 1, 1) := by decide +kernel
theorem dL_law_507 : decode cL_law 507 = .ok (.invokevirtual 84, 3) := by decide +kernel
theorem dL_law_510 : decode cL_law 510 = .ok (.aload_n 2, 1) := by decide +kernel
theorem dL_law_511 : decode cL_law 511 = .ok (.invokevirtual 87, 3) := by decide +kernel
theorem dL_law_514 : decode cL_law 514 = .ok (.if_icmp .eq 156, 3) := by decide +kernel
theorem dL_law_517 : decode cL_law 517 = .ok (.iconst 0, 1) := by decide +kernel
theorem dL_law_518 : decode cL_law 518 = .ok (.ireturn, 1) := by decide +kernel
theorem dL_law_519 : decode cL_law 519 = .ok (.aload_n 1, 1) := by decide +kernel
theorem dL_law_520 : decode cL_law 520 = .ok (.aload_n 3, 1) := by decide +kernel
theorem dL_law_521 : decode cL_law 521 = .ok (.invokestatic 88, 3) := by decide +kernel
theorem dL_law_524 : decode cL_law 524 = .ok (.istore 5, 2) := by decide +kernel
theorem dL_law_526 : decode cL_law 526 = .ok (.aload_n 2, 1) := by decide +kernel
theorem dL_law_527 : decode cL_law 527 = .ok (.invokevirtual 90, 3) := by decide +kernel
theorem dL_law_530 : decode cL_law 530 = .ok (.istore 6, 2) := by decide +kernel
theorem dL_law_532 : decode cL_law 532 = .ok (.aload_n 2, 1) := by decide +kernel
theorem dL_law_533 : decode cL_law 533 = .ok (.invokevirtual 52, 3) := by decide +kernel
theorem dL_law_536 : decode cL_law 536 = .ok (.iload 5, 2) := by decide +kernel
theorem dL_law_538 : decode cL_law 538 = .ok (.if_icmp .eq 5, 3) := by decide +kernel
theorem dL_law_541 : decode cL_law 541 = .ok (.iconst 0, 1) := by decide +kernel
theorem dL_law_542 : decode cL_law 542 = .ok (.ireturn, 1) := by decide +kernel
theorem dL_law_543 : decode cL_law 543 = .ok (.iload 5, 2) := by decide +kernel
theorem dL_law_545 : decode cL_law 545 = .ok (.ifCond .ne 15, 3) := by decide +kernel
theorem dL_law_548 : decode cL_law 548 = .ok (.aload_n 3, 1) := by decide +kernel
theorem dL_law_549 : decode cL_law 549 = .ok (.iconst 0, 1) := by decide +kernel
theorem dL_law_550 : decode cL_law 550 = .ok (.laload, 1) := by decide +kernel
theorem dL_law_551 : decode cL_law 551 = .ok (.iload 6, 2) := by decide +kernel
theorem dL_law_553 : decode cL_law 553 = .ok (.i2l, 1) := by decide +kernel
theorem dL_law_554 : decode cL_law 554 = .ok (.lcmp, 1) := by decide +kernel
theorem dL_law_555 : decode cL_law 555 = .ok (.ifCond .eq 5, 3) := by decide +kernel
theorem dL_law_558 : decode cL_law 558 = .ok (.iconst 0, 1) := by decide +kernel
theorem dL_law_559 : decode cL_law 559 = .ok (.ireturn, 1) := by decide +kernel
theorem dL_law_560 : decode cL_law 560 = .ok (.goto 110, 3) := by decide +kernel
theorem dL_law_563 : decode cL_law 563 = .ok (.aload_n 1, 1) := by decide +kernel
theorem dL_law_564 : decode cL_law 564 = .ok (.invokevirtual 91, 3) := by decide +kernel
theorem dL_law_567 : decode cL_law 567 = .ok (.aload_n 2, 1) := by decide +kernel
theorem dL_law_568 : decode cL_law 568 = .ok (.invokevirtual 94, 3) := by decide +kernel
theorem dL_law_571 : decode cL_law 571 = .ok (.if_icmp .eq 99, 3) := by decide +kernel
theorem dL_law_574 : decode cL_law 574 = .ok (.iconst 0, 1) := by decide +kernel
theorem dL_law_575 : decode cL_law 575 = .ok (.ireturn, 1) := by decide +kernel
theorem dL_law_576 : decode cL_law 576 = .ok (.aload_n 1, 1) := by decide +kernel
theorem dL_law_577 : decode cL_law 577 = .ok (.invokevirtual 95, 3) := by decide +kernel
theorem dL_law_580 : decode cL_law 580 = .ok (.aload_n 2, 1) := by decide +kernel
theorem dL_law_581 : decode cL_law 581 = .ok (.invokevirtual 98, 3) := by decide +kernel
theorem dL_law_584 : decode cL_law 584 = .ok (.if_icmp .eq 86, 3) := by decide +kernel
theorem dL_law_587 : decode cL_law 587 = .ok (.iconst 0, 1) := by decide +kernel
theorem dL_law_588 : decode cL_law 588 = .ok (.ireturn, 1) := by decide +kernel
theorem dL_law_589 : decode cL_law 589 = .ok (.aload_n 1, 1) := by decide +kernel
theorem dL_law_590 : decode cL_law 590 = .ok (.aload_n 0, 1) := by decide +kernel
theorem dL_law_591 : decode cL_law 591 = .ok (.iload 4, 2) := by decide +kernel
theorem dL_law_593 : decode cL_law 593 = .ok (.iconst 1, 1) := by decide +kernel
theorem dL_law_594 : decode cL_law 594 = .ok (.iadd, 1) := by decide +kernel
theorem dL_law_595 : decode cL_law 595 = .ok (.iaload, 1) := by decide +kernel
theorem dL_law_596 : decode cL_law 596 = .ok (.aload_n 3, 1) := by decide +kernel
theorem dL_law_597 : decode cL_law 597 = .ok (.invokestatic 99, 3) := by decide +kernel
theorem dL_law_600 : decode cL_law 600 = .ok (.istore 5, 2) := by decide +kernel
theorem dL_law_602 : decode cL_law 602 = .ok (.aload_n 2, 1) := by decide +kernel
theorem dL_law_603 : decode cL_law 603 = .ok (.aload_n 0, 1) := by decide +kernel
theorem dL_law_604 : decode cL_law 604 = .ok (.iload 4, 2) := by decide +kernel
theorem dL_law_606 : decode cL_law 606 = .ok (.iconst 1, 1) := by decide +kernel
theorem dL_law_607 : decode cL_law 607 = .ok (.iadd, 1) := by decide +kernel
theorem dL_law_608 : decode cL_law 608 = .ok (.iaload, 1) := by decide +kernel
theorem dL_law_609 : decode cL_law 609 = .ok (.invokevirtual 102, 3) := by decide +kernel
theorem dL_law_612 : decode cL_law 612 = .ok (.istore 6, 2) := by decide +kernel
theorem dL_law_614 : decode cL_law 614 = .ok (.aload_n 2, 1) := by decide +kernel
theorem dL_law_615 : decode cL_law 615 = .ok (.invokevirtual 52, 3) := by decide +kernel
theorem dL_law_618 : decode cL_law 618 = .ok (.iload 5, 2) := by decide +kernel
theorem dL_law_620 : decode cL_law 620 = .ok (.if_icmp .eq 5, 3) := by decide +kernel
theorem dL_law_623 : decode cL_law 623 = .ok (.iconst 0, 1) := by decide +kernel
theorem dL_law_624 : decode cL_law 624 = .ok (.ireturn, 1) := by decide +kernel
theorem dL_law_625 : decode cL_law 625 = .ok (.iload 5, 2) := by decide +kernel
theorem dL_law_627 : decode cL_law 627 = .ok (.ifCond .ne 15, 3) := by decide +kernel
theorem dL_law_630 : decode cL_law 630 = .ok (.aload_n 3, 1) := by decide +kernel
theorem dL_law_631 : decode cL_law 631 = .ok (.iconst 0, 1) := by decide +kernel
theorem dL_law_632 : decode cL_law 632 = .ok (.laload, 1) := by decide +kernel
theorem dL_law_633 : decode cL_law 633 = .ok (.iload 6, 2) := by decide +kernel
theorem dL_law_635 : decode cL_law 635 = .ok (.i2l, 1) := by decide +kernel
theorem dL_law_636 : decode cL_law 636 = .ok (.lcmp, 1) := by decide +kernel
theorem dL_law_637 : decode cL_law 637 = .ok (.ifCond .eq 5, 3) := by decide +kernel
theorem dL_law_640 : decode cL_law 640 = .ok (.iconst 0, 1) := by decide +kernel
theorem dL_law_641 : decode cL_law 641 = .ok (.ireturn, 1) := by decide +kernel
theorem dL_law_642 : decode cL_law 642 = .ok (.goto 28, 3) := by decide +kernel
theorem dL_law_645 : decode cL_law 645 = .ok (.aload_n 1, 1) := by decide +kernel
theorem dL_law_646 : decode cL_law 646 = .ok (.aload_n 0, 1) := by decide +kernel
theorem dL_law_647 : decode cL_law 647 = .ok (.iload 4, 2) := by decide +kernel
theorem dL_law_649 : decode cL_law 649 = .ok (.iconst 1, 1) := by decide +kernel
theorem dL_law_650 : decode cL_law 650 = .ok (.iadd, 1) := by decide +kernel
theorem dL_law_651 : decode cL_law 651 = .ok (.iaload, 1) := by decide +kernel
theorem dL_law_652 : decode cL_law 652 = .ok (.invokevirtual 103, 3) := by decide +kernel
theorem dL_law_655 : decode cL_law 655 = .ok (.aload_n 2, 1) := by decide +kernel
theorem dL_law_656 : decode cL_law 656 = .ok (.aload_n 0, 1) := by decide +kernel
theorem dL_law_657 : decode cL_law 657 = .ok (.iload 4, 2) := by decide +kernel
theorem dL_law_659 : decode cL_law 659 = .ok (.iconst 1, 1) := by decide +kernel
theorem dL_law_660 : decode cL_law 660 = .ok (.iadd, 1) := by decide +kernel
theorem dL_law_661 : decode cL_law 661 = .ok (.iaload, 1) := by decide +kernel
theorem dL_law_662 : decode cL_law 662 = .ok (.invokevirtual 106, 3) := by decide +kernel
theorem dL_law_665 : decode cL_law 665 = .ok (.if_icmp .eq 5, 3) := by decide +kernel
theorem dL_law_668 : decode cL_law 668 = .ok (.iconst 0, 1) := by decide +kernel
theorem dL_law_669 : decode cL_law 669 = .ok (.ireturn, 1) := by decide +kernel
theorem dL_law_670 : decode cL_law 670 = .ok (.iinc 4 5, 3) := by decide +kernel
theorem dL_law_673 : decode cL_law 673 = .ok (.goto (-650), 3) := by decide +kernel
theorem dL_law_676 : decode cL_law 676 = .ok (.iconst 1, 1) := by decide +kernel
theorem dL_law_677 : decode cL_law 677 = .ok (.ireturn, 1) := by decide +kernel
end
section
/-! ===== the world of the system as one shape, its numbers as two functions; a judgement Z over it (no cell is named by its address) ===== -/
/-- the numbers of the system: ints (also bytes) and longs, by cell and by place in it -/
abbrev zD : Type := (Nat → Nat → Int32) × (Nat → Nat → Int64)
/-- a cell's shape: 0, 1, 2: an array of ints, longs, bytes, of so many; 3, 4: an array of references to these cells; 5: an object of this class, its fields 0: int, 1: long, r + 2: a reference to cell r -/
abbrev zS : Type := Nat × Nat × List Nat
abbrev zcl : List vw_C := [(RX0, TX0, 2), (RX1, TX1, 7), (RX2, TX2, 2), (RX3, TX3, 3), (RX4, TX4, 11), (RX5, TX5, 8), (RX6, TX6, 4), (RX7, TX7, 7), (RX8, TX8, 6), (RX9, TX9, 44)]
def zSH : List zS := [
  (5, 8, [3, 4, 6, 0, 7, 39]), (5, 6, [0, 0, 0, 0]), (5, 3, [5, 0, 0]), (0, 8, []), (0, 4096, []),
  (5, 1, [8, 0, 0, 10, 11, 12, 22]), (5, 2, [9, 0]), (2, 20000, []), (0, 256, []), (0, 1056, []),
  (5, 0, [13, 15]), (5, 3, [14, 0, 0]), (0, 4, []), (5, 5, [16, 0, 0, 17, 18, 19, 0, 1]), (1, 256, []),
  (1, 120, []), (0, 8, []), (0, 8, []), (1, 1, []), (5, 9, [0, 0, 0, 0, 0, 0, 0, 54, 0, 55, 0, 56, 1, 0, 0, 57, 58, 59, 60, 61, 0, 62, 0, 0, 0, 63, 64, 0, 0, 0, 1, 0, 1, 1, 0, 0, 0, 0, 1, 0, 65, 66, 67, 0]),
  (4, 8, [21, 23, 25, 27, 29, 31, 33, 35]),
  (5, 7, [24, 0, 0, 0, 0, 0, 1]), (0, 256, []), (5, 7, [26, 0, 0, 0, 0, 0, 1]), (0, 256, []), (5, 7, [28, 0, 0, 0, 0, 0, 1]), (0, 256, []), (5, 7, [30, 0, 0, 0, 0, 0, 1]), (0, 256, []),
  (5, 7, [32, 0, 0, 0, 0, 0, 1]), (0, 256, []), (5, 7, [34, 0, 0, 0, 0, 0, 1]), (0, 256, []), (5, 7, [36, 0, 0, 0, 0, 0, 1]), (0, 256, []), (5, 7, [38, 0, 0, 0, 0, 0, 1]), (0, 256, []),
  (5, 4, [40, 0, 0, 0, 41, 0, 42, 0, 0, 43, 52]), (2, 20000, []), (5, 6, [0, 0, 0, 0]), (0, 4096, []), (3, 8, [42, 43, 44, 45, 46, 47, 48, 49]),
  (0, 256, []), (0, 256, []), (0, 256, []), (0, 256, []), (0, 256, []), (0, 256, []), (0, 256, []), (0, 256, []), (5, 3, [53, 0, 0]), (0, 32, []),
  (0, 8, []), (0, 4096, []), (1, 2500, []), (0, 264, []), (0, 264, []), (0, 264, []), (0, 264, []), (0, 256, []), (1, 2500, []), (1, 256, []), (1, 256, []), (0, 4096, []), (1, 2048, []), (0, 32, [])]
def zv (ad : Nat → Nat) : Value → Value
  | .ref k => .ref (ad k)
  | v => v
def zfv (ad : Nat → Nat) (D : zD) (a k c : Nat) : Value := match c with
  | 0 => .int (D.1 a k)
  | 1 => .long (D.2 a k)
  | r + 2 => .ref (ad r)
def zcell (ad : Nat → Nat) (cA : Nat → ClassId) (D : zD) (a : Nat) (sh : zS) : va_E := match sh.1 with
  | 0 => .inl (cA 0, sh.2.1, .inl (D.1 a))
  | 1 => .inl (cA 1, sh.2.1, .inr (.inl (D.2 a)))
  | 2 => .inl (cA 2, sh.2.1, .inl (D.1 a))
  | 3 => .inl (cA 3, sh.2.1, .inr (.inr (.inr (.inr (fun i => (sh.2.2[i]?).map ad)))))
  | 4 => .inl (cA 4, sh.2.1, .inr (.inr (.inr (.inr (fun i => (sh.2.2[i]?).map ad)))))
  | _ => .inr (sh.2.1, sh.2.2.mapIdx (fun k c => zfv ad D a k c))
def zws (ad : Nat → Nat) (cA : Nat → ClassId) (D : zD) : va_W := zSH.mapIdx (fun a sh => (ad a, zcell ad cA D a sh))
abbrev ztys (cA : Nat → ClassId) : List (ClassId × FieldType) := [(cA 0, .int), (cA 1, .long), (cA 2, .byte), (cA 3, .array .int), (cA 4, .object "SoundPacker$Subframe")]
def zuI (D : zD) (a k : Nat) (v : Int32) : zD := (fun b => if b = a then upd (D.1 a) k v else D.1 b, D.2)
def zuL (D : zD) (a k : Nat) (v : Int64) : zD := (D.1, fun b => if b = a then vp_updL (D.2 a) k v else D.2 b)
/-- a whole row of ints anew -/
def zuR (D : zD) (a : Nat) (f : Nat → Int32) : zD := (fun b => if b = a then f else D.1 b, D.2)
def zuM (D : zD) (a : Nat) (f : Nat → Int64) : zD := (D.1, fun b => if b = a then f else D.2 b)
theorem zws_at {ad : Nat → Nat} {cA : Nat → ClassId} {D : zD} {a : Nat} {sh : zS} (h : zSH[a]? = some sh) : (zws ad cA D)[a]? = some (ad a, zcell ad cA D a sh) := by
  unfold zws
  rw [List.getElem?_mapIdx, h]
  rfl
theorem zws_set {ad : Nat → Nat} {cA : Nat → ClassId} {D D' : zD} {a : Nat} {sh : zS} {e : va_E} (h : zSH[a]? = some sh) (he : zcell ad cA D' a sh = e) (h1 : ∀ b, b ≠ a → D'.1 b = D.1 b) (h2 : ∀ b, b ≠ a → D'.2 b = D.2 b) : (zws ad cA D).set a (ad a, e) = zws ad cA D' := by
  apply List.ext_getElem?
  intro j
  unfold zws
  by_cases hj : j = a
  · subst hj
    have hl : j < (List.mapIdx (fun a sh => (ad a, zcell ad cA D a sh)) zSH).length := by
      rw [List.length_mapIdx]
      exact (List.getElem?_eq_some_iff.mp h).1
    rw [List.getElem?_set_self hl, List.getElem?_mapIdx, h]
    show _ = some (ad j, zcell ad cA D' j sh)
    rw [he]
  · rw [List.getElem?_set_ne (Ne.symm hj), List.getElem?_mapIdx, List.getElem?_mapIdx]
    congr 1
    funext sh'
    have e1 : zcell ad cA D' j sh' = zcell ad cA D j sh' := by
      unfold zcell zfv
      rw [h1 j hj, h2 j hj]
    rw [e1]
theorem zws_uI {ad : Nat → Nat} {cA : Nat → ClassId} {D : zD} {a k ci : Nat} {fl : List Nat} {v : Int32} (h : zSH[a]? = some (5, ci, fl)) (hk : fl[k]? = some 0) : (zws ad cA D).set a (ad a, .inr (ci, (fl.mapIdx (fun k c => zfv ad D a k c)).set k (.int v))) = zws ad cA (zuI D a k v) := by
  refine zws_set h ?_ (fun b hb => if_neg hb) (fun _ _ => rfl)
  show (Sum.inr (ci, fl.mapIdx (fun j c => zfv ad (zuI D a k v) a j c)) : va_E) = _
  congr 2
  apply List.ext_getElem?
  intro j
  have hlk : k < fl.length := (List.getElem?_eq_some_iff.mp hk).1
  by_cases hj : j = k
  · subst hj
    rw [List.getElem?_set_self (by rw [List.length_mapIdx]; exact hlk), List.getElem?_mapIdx, hk]
    simp [zfv, zuI, upd]
  · rw [List.getElem?_set_ne (Ne.symm hj), List.getElem?_mapIdx, List.getElem?_mapIdx]
    congr 1
    funext c
    unfold zfv
    simp [zuI, upd, hj]
theorem zws_uL {ad : Nat → Nat} {cA : Nat → ClassId} {D : zD} {a k ci : Nat} {fl : List Nat} {v : Int64} (h : zSH[a]? = some (5, ci, fl)) (hk : fl[k]? = some 1) : (zws ad cA D).set a (ad a, .inr (ci, (fl.mapIdx (fun k c => zfv ad D a k c)).set k (.long v))) = zws ad cA (zuL D a k v) := by
  refine zws_set h ?_ (fun _ _ => rfl) (fun b hb => if_neg hb)
  show (Sum.inr (ci, fl.mapIdx (fun j c => zfv ad (zuL D a k v) a j c)) : va_E) = _
  congr 2
  apply List.ext_getElem?
  intro j
  have hlk : k < fl.length := (List.getElem?_eq_some_iff.mp hk).1
  by_cases hj : j = k
  · subst hj
    rw [List.getElem?_set_self (by rw [List.length_mapIdx]; exact hlk), List.getElem?_mapIdx, hk]
    simp [zfv, zuL, vp_updL]
  · rw [List.getElem?_set_ne (Ne.symm hj), List.getElem?_mapIdx, List.getElem?_mapIdx]
    congr 1
    funext c
    unfold zfv
    simp [zuL, vp_updL, hj]
/-- locals: what is known of them, by place -/
abbrev zLo : Type := Nat → Option Value
def zno2 : Option Value → Option Value
  | some (.long _) => none
  | some (.double _) => none
  | x => x
def zset (L : zLo) (i : Nat) (v : Value) : zLo := fun j => if j = i then some v else if j + 1 = i then zno2 (L j) else L j
def zset2 (L : zLo) (i : Nat) (v : Value) : zLo := fun j => if j = i then some v else if j = i + 1 then none else if j + 1 = i then zno2 (L j) else L j
/-- a local forgotten (a caught exception lies there) -/
def zdel (L : zLo) (i : Nat) : zLo := fun j => if j = i then none else if j + 1 = i then zno2 (L j) else L j
def zL (ad : Nat → Nat) (L : zLo) (nL : Nat) (ls : Array Slot) : Prop := ls.size = nL ∧ lv_wf ls ∧ ∀ (i : Nat) (v : Value), L i = some v → ls[i]? = some (.val (zv ad v))
def zlist (ad : Nat → Nat) (L : zLo) (nL : Nat) : List (Nat × Value) := (List.range nL).filterMap (fun i => (L i).map (fun v => (i, zv ad v)))
theorem zlist_mem {ad : Nat → Nat} {L : zLo} {nL i : Nat} {w : Value} : (i, w) ∈ zlist ad L nL ↔ i < nL ∧ ∃ v, L i = some v ∧ w = zv ad v := by
  unfold zlist
  rw [List.mem_filterMap]
  constructor
  · rintro ⟨j, hj, he⟩
    cases hL : L j with
    | none => rw [hL] at he; cases he
    | some v =>
      rw [hL] at he
      cases he
      exact ⟨List.mem_range.mp hj, v, hL, rfl⟩
  · rintro ⟨hi, v, hv, rfl⟩
    exact ⟨i, List.mem_range.mpr hi, by rw [hv]; rfl⟩
theorem zL.has {ad : Nat → Nat} {L : zLo} {nL : Nat} {ls : Array Slot} (h : zL ad L nL ls) : lv_has ls nL (zlist ad L nL) :=
  ⟨h.1, h.2.1, fun q hq => by
    obtain ⟨i, w⟩ := q
    obtain ⟨-, v, hv, rfl⟩ := zlist_mem.mp hq
    exact h.2.2 i v hv⟩
theorem zL.lt {ad : Nat → Nat} {L : zLo} {nL : Nat} {ls : Array Slot} (h : zL ad L nL ls) {i : Nat} {v : Value} (hv : L i = some v) : i < nL := by
  rw [← h.1]
  exact lv_lt (h.2.2 i v hv)
theorem zv_cat (ad : Nat → Nat) (v : Value) : (zv ad v).category = v.category := by cases v <;> rfl
theorem zno2_some {o : Option Value} {v : Value} (h : zno2 o = some v) : o = some v ∧ ¬ v.category = 2 := by
  cases o with
  | none => cases h
  | some w => cases w <;> first | (cases h; done) | (cases h; exact ⟨rfl, by simp [Value.category]⟩)
theorem zset_has {ad : Nat → Nat} {L : zLo} {nL i : Nat} {v : Value} {ls ls' : Array Slot} (h0 : zL ad L nL ls)
    (h : lv_has ls' nL ((i, zv ad v) :: (zlist ad L nL).filter (fun q => !(q.1 == i) && !(q.1 + 1 == i && q.2.category == 2)))) : zL ad (zset L i v) nL ls' := by
  refine ⟨h.1, h.2.1, fun j w hj => ?_⟩
  unfold zset at hj
  by_cases e1 : j = i
  · rw [if_pos e1] at hj
    cases hj
    rw [e1]
    exact h.2.2 (i, zv ad v) List.mem_cons_self
  · rw [if_neg e1] at hj
    have key : L j = some w ∧ (j + 1 = i → ¬ w.category = 2) := by
      by_cases e2 : j + 1 = i
      · rw [if_pos e2] at hj
        exact ⟨(zno2_some hj).1, fun _ => (zno2_some hj).2⟩
      · rw [if_neg e2] at hj
        exact ⟨hj, fun q => absurd q e2⟩
    refine h.2.2 (j, zv ad w) (List.mem_cons_of_mem _ (List.mem_filter.mpr ⟨zlist_mem.mpr ⟨h0.lt key.1, w, key.1, rfl⟩, ?_⟩))
    by_cases e2 : j + 1 = i
    · have := key.2 e2
      simp [e1, e2, zv_cat, this]
    · simp [e1, e2]
theorem zset2_has {ad : Nat → Nat} {L : zLo} {nL i : Nat} {v : Value} {ls ls' : Array Slot} (h0 : zL ad L nL ls)
    (h : lv_has ls' nL ((i, zv ad v) :: (zlist ad L nL).filter (fun q => !(q.1 == i) && (!(q.1 == i + 1) && !(q.1 + 1 == i && q.2.category == 2))))) : zL ad (zset2 L i v) nL ls' := by
  refine ⟨h.1, h.2.1, fun j w hj => ?_⟩
  unfold zset2 at hj
  by_cases e1 : j = i
  · rw [if_pos e1] at hj
    cases hj
    rw [e1]
    exact h.2.2 (i, zv ad v) List.mem_cons_self
  · rw [if_neg e1] at hj
    by_cases e3 : j = i + 1
    · rw [if_pos e3] at hj
      cases hj
    rw [if_neg e3] at hj
    have key : L j = some w ∧ (j + 1 = i → ¬ w.category = 2) := by
      by_cases e2 : j + 1 = i
      · rw [if_pos e2] at hj
        exact ⟨(zno2_some hj).1, fun _ => (zno2_some hj).2⟩
      · rw [if_neg e2] at hj
        exact ⟨hj, fun q => absurd q e2⟩
    refine h.2.2 (j, zv ad w) (List.mem_cons_of_mem _ (List.mem_filter.mpr ⟨zlist_mem.mpr ⟨h0.lt key.1, w, key.1, rfl⟩, ?_⟩))
    by_cases e2 : j + 1 = i
    · have := key.2 e2
      simp [e1, e2, e3, zv_cat, this]
    · simp [e1, e2, e3]
theorem zdel_has {ad : Nat → Nat} {L : zLo} {nL i : Nat} {x : Value} {ls ls' : Array Slot} (h0 : zL ad L nL ls)
    (h : lv_has ls' nL ((i, x) :: (zlist ad L nL).filter (fun q => !(q.1 == i) && !(q.1 + 1 == i && q.2.category == 2)))) : zL ad (zdel L i) nL ls' := by
  refine ⟨h.1, h.2.1, fun j w hj => ?_⟩
  unfold zdel at hj
  by_cases e1 : j = i
  · rw [if_pos e1] at hj
    cases hj
  · rw [if_neg e1] at hj
    have key : L j = some w ∧ (j + 1 = i → ¬ w.category = 2) := by
      by_cases e2 : j + 1 = i
      · rw [if_pos e2] at hj
        exact ⟨(zno2_some hj).1, fun _ => (zno2_some hj).2⟩
      · rw [if_neg e2] at hj
        exact ⟨hj, fun q => absurd q e2⟩
    refine h.2.2 (j, zv ad w) (List.mem_cons_of_mem _ (List.mem_filter.mpr ⟨zlist_mem.mpr ⟨h0.lt key.1, w, key.1, rfl⟩, ?_⟩))
    by_cases e2 : j + 1 = i
    · have := key.2 e2
      simp [e1, e2, zv_cat, this]
    · simp [e1, e2]
/-- a method: the owner's name, its bytes, its locals, what it answers, its table of handlers; how deep calls below it go; how many exceptions it may make; the cells and slots that were there -/
abbrev zM : Type := String × ByteArray × Nat × Option FieldType × List (Nat × Nat × Nat × Nat) × Nat × Nat × Nat × Nat
abbrev zown (M : zM) : String := M.1
abbrev zcc (M : zM) : ByteArray := M.2.1
abbrev znL (M : zM) : Nat := M.2.2.1
abbrev zret (M : zM) : Option FieldType := M.2.2.2.1
abbrev zhh (M : zM) : List (Nat × Nat × Nat × Nat) := M.2.2.2.2.1
abbrev zdep (M : zM) : Nat := M.2.2.2.2.2.1
abbrev zcap (M : zM) : Nat := M.2.2.2.2.2.2.1
abbrev zb1 (M : zM) : Nat := M.2.2.2.2.2.2.2.1
abbrev zb2 (M : zM) : Nat := M.2.2.2.2.2.2.2.2
/-- how a method ends: it answers, or throws an object of a class; with so many exceptions made, and these numbers -/
abbrev zQ : Type := Option Value ⊕ String → Nat → zD → Prop
def zfix (j : Nat) : Value := .int (([1, 2, -1, 3, -3, 1, 4, -6, 4, -1] : List Int32).getD j 0)
abbrev zIAE : String := "java/lang/IllegalArgumentException"
abbrev zISE : String := "java/lang/IllegalStateException"
end
section
/-! ===== the judgement, its context, its end ===== -/
/-- the nest links that calls of the outer class's own static methods go by -/
def znest : List Cond := lw_tbl.filter (fun w => match w with
  | .methodLinkNest .. => true
  | _ => false)
/-- what else holds of the machine: the two statics that an exception's constructor reads, the classes of exceptions, the nest links, the static row of fixed coefficients -/
def zO (A : Nat → Prop) (ad : Nat → Nat) (s : State) (H : Heap) : Prop :=
  vx_Zq Bundle.tN "UNASSIGNED_STACK" Bundle.steD A s H ∧ vx_Zq Bundle.tN "SUPPRESSED_SENTINEL" Bundle.listD A s H ∧
  va_Nw (.castable zIAE zIAE) s ∧ va_Nw (.castable zISE zISE) s ∧ va_Nc zISE zIAE s ∧ (∀ w ∈ znest, va_Nw w s) ∧
  va_Z RX3 "FIXED_COEFFICIENTS" "[I" (.ref (ad 66)) A s H ∧ va_T .int (ad 66) 10 zfix A s H
theorem znest_is {w : Cond} (h : w ∈ znest) : ∃ a i x b, w = .methodLinkNest a i x b := by
  have h1 := (List.mem_filter.mp h).2
  cases w <;> first | (cases h1; done) | exact ⟨_, _, _, _, rfl⟩
theorem zO.warm {A : Nat → Prop} {ad : Nat → Nat} {s U : State} {H : Heap} (h : zO A ad s H) (hW : s.WarmedH U.vm) : zO A ad U H := by
  obtain ⟨h1, h2, h3, h4, h5, h6, h7, h8⟩ := h
  refine ⟨h1.moved hW.alike, h2.moved hW.alike, va_Nw.warmC hW h3, va_Nw.warmC hW h4, h5.moved hW.alike, fun w hw => ?_, h7.moved hW.alike, h8.moved hW.alike⟩
  obtain ⟨a, i, x, b, rfl⟩ := znest_is hw
  exact va_Nw.warmM hW (h6 _ hw)
theorem zO.same {A : Nat → Prop} {ad : Nat → Nat} {s U : State} {H : Heap} (h : zO A ad s H) (hv : s.vm = U.vm) : zO A ad U H := by
  obtain ⟨h1, h2, h3, h4, h5, h6, h7, h8⟩ := h
  have hal : s.vm.Alike U.vm := by rw [hv]; exact Vm.Alike.refl _
  refine ⟨h1.moved hal, h2.moved hal, va_Nw.same rfl hv h3, va_Nw.same rfl hv h4, h5.moved hal, fun w hw => ?_, h7.moved hal, h8.moved hal⟩
  have h9 := h6 w hw
  obtain ⟨a, i, x, b, rfl⟩ := znest_is hw
  exact va_Nw.same rfl hv h9
theorem zO.kept {A : Nat → Prop} {ad : Nat → Nat} {s : State} {H H1 : Heap} (h : zO A ad s H) (hq : ∀ a : Nat, a < H.size → ¬ A a → H1[a]? = H[a]?) : zO A ad s H1 := by
  obtain ⟨h1, h2, h3, h4, h5, h6, h7, h8⟩ := h
  exact ⟨h1.kept hq, h2.kept hq, h3, h4, h5, h6, h7.kept hq, h8.kept hq⟩
theorem zO.narrow {A B : Nat → Prop} {ad : Nat → Nat} {s : State} {H : Heap} (h : zO A ad s H) (hAB : ∀ q, B q → A q) : zO B ad s H := by
  obtain ⟨h1, h2, h3, h4, h5, h6, h7, h8⟩ := h
  exact ⟨h1.narrow hAB, h2.narrow hAB, h3, h4, h5, h6, h7.narrow hAB, h8.narrow hAB⟩
def zG (l : Launch) (ad : Nat → Nat) (cA : Nat → ClassId) (G : va_G) (A : Nat → Prop) (args : Array Value) (s : State) : Prop :=
  (∀ w ∈ lw_tbl, goodWord w = true → w.before args s = true) ∧ l.stackTraces = false ∧ va_K G zcl (ztys cA) s ∧ zO A ad s s.heap ∧ (∀ q, s.heap.size ≤ q → A q)
def zC (p : Program) (l : Launch) (R : Room) (s : State) (m : MethodId) (args : Array Value) (meth : Method) (c : Code) (ad : Nat → Nat) (cA : Nat → ClassId) (G : va_G) (A : Nat → Prop) (M : zM) : Prop :=
  p.tables.exec = Jvm.exec ∧ c.code = zcc M ∧ meth.sig.returnType = zret M ∧ c.maxLocals = znL M ∧ c.exceptionTable.toList = tableOf (zhh M) ∧ meth.locks = false ∧ s.vm.findClass (zown M) = some m.cls ∧
  (zdep M + 8 ≤ R.frames ∧ 64 * zdep M + 150 ≤ R.locals ∧ zb1 M + zcap M ≤ R.cells ∧ zb2 M + 6 * zcap M ≤ R.slots) ∧ zG l ad cA G A args s
def zH (ad : Nat → Nat) (cA : Nat → ClassId) (G : va_G) (A : Nat → Prop) (s : State) (D : zD) (H : Heap) (locs : List Loc) : Prop :=
  va_P G zcl (zws ad cA D) H ∧ va_D A (zws ad cA D) ∧ va_S A s.heap H locs
def zOut (ad : Nat → Nat) (s t : State) (Q : zQ) (o : Outcome) (k : Nat) (D : zD) : Prop :=
  (∃ v : Option Value, o = .returned (v.map (zv ad)) ∧ Q (.inl v) k D) ∨
  (∃ (q : Addr) (E : String) (ce : Cell), o = .threw q ∧ t.heap[q]? = some ce ∧ ce.vm = .none ∧ s.vm.findClass E = some ce.cls ∧ Q (.inr E) k D)
def zPost (ad : Nat → Nat) (cA : Nat → ClassId) (G : va_G) (A : Nat → Prop) (b1 b2 : Nat) (Q : zQ) : Array Value → State → Outcome → State → Prop := fun _ s o t =>
  ∃ (k : Nat) (D : zD) (L : List Loc), zOut ad s t Q o k D ∧ va_P G zcl (zws ad cA D) t.heap ∧ va_D A (zws ad cA D) ∧ va_F A s t ∧ s.WarmedH t.vm ∧ s.sameButNew ({ t with vm := s.vm } : State) L (b1 + k) (b2 + 6 * k) ∧ ∀ z ∈ L, A z.base
def zEnd (below : List Frame) (args : Array Value) (s : State) (ad : Nat → Nat) (cA : Nat → ClassId) (G : va_G) (A : Nat → Prop) (M : zM) (Q : zQ) : State → Prop := fun t =>
  ∃ o, t.status = .running ∧ Ended t below o ∧ zPost ad cA G A (zb1 M) (zb2 M) Q args s o t
/-- from pc on, with these locals, this stack and these numbers, k exceptions made so far: the method ends, and Q -/
def Z (M : zM) (k pc : Nat) (L : zLo) (st : List Value) (D : zD) (Q : zQ) : Prop :=
  ∀ (p : Program) (l : Launch) (e : Env) (R : Room) (s : State) (m : MethodId) (args : Array Value) (below : List Frame) (meth : Method) (c : Code) (ad : Nat → Nat) (cA : Nat → ClassId) (G : va_G) (A : Nat → Prop) (H : Heap) (locs : List Loc) (ls : Array Slot),
    zC p l R s m args meth c ad cA G A M → zH ad cA G A s D H locs → zL ad L (znL M) ls →
    W p l e R s m args below meth c H locs (zb1 M + k) (zb2 M + 6 * k) (zEnd below args s ad cA G A M Q) (F0 m pc ls (st.map (zv ad)))
/-- .. and with an exception of class E over its frame -/
def ZX (M : zM) (k pc : Nat) (L : zLo) (E : String) (D : zD) (Q : zQ) : Prop :=
  ∀ (p : Program) (l : Launch) (e : Env) (R : Room) (s : State) (m : MethodId) (args : Array Value) (below : List Frame) (meth : Method) (c : Code) (ad : Nat → Nat) (cA : Nat → ClassId) (G : va_G) (A : Nat → Prop) (H : Heap) (locs : List Loc) (ls : Array Slot) (rest : List Value) (q : Addr) (ce : Cell),
    zC p l R s m args meth c ad cA G A M → zH ad cA G A s D H locs → zL ad L (znL M) ls → H[q]? = some ce → ce.vm = .none → s.vm.findClass E = some ce.cls →
    vx_W p l e R s m args below meth c H locs (zb1 M + k) (zb2 M + 6 * k) (zEnd below args s ad cA G A M Q) (F0 m pc ls rest) q
theorem W.mono {p : Program} {l : Launch} {e : Env} {R : Room} {s : State} {m : MethodId} {args : Array Value} {below : List Frame} {meth : Method} {c : Code} {H : Heap} {locs : List Loc} {cells slots : Nat} {Q Q' : State → Prop} {g : JFrame} (h : W p l e R s m args below meth c H locs cells slots Q g) (hq : ∀ t, Q t → Q' t) : W p l e R s m args below meth c H locs cells slots Q' g := fun T hT X => by
  obtain ⟨t, h1, h2⟩ := h T hT X
  exact ⟨t, h1, hq t h2⟩
theorem z_mono {M : zM} {k pc : Nat} {L : zLo} {st : List Value} {D : zD} {Q Q' : zQ} (h : Z M k pc L st D Q) (hq : ∀ o k D, Q o k D → Q' o k D) : Z M k pc L st D Q' := by
  intro p l e R s m args below meth c ad cA G A H locs ls C hH hl
  refine (h p l e R s m args below meth c ad cA G A H locs ls C hH hl).mono (fun t ht => ?_)
  obtain ⟨o, h1, h2, k', D', L', hO, hr⟩ := ht
  refine ⟨o, h1, h2, k', D', L', ?_, hr⟩
  rcases hO with ⟨v, a1, a2⟩ | ⟨q, E, ce, a1, a2, a3, a4, a5⟩
  · exact Or.inl ⟨v, a1, hq _ _ _ a2⟩
  · exact Or.inr ⟨q, E, ce, a1, a2, a3, a4, hq _ _ _ a5⟩
/-- fewer locals known -/
theorem z_loc {M : zM} {k pc : Nat} {L L' : zLo} {st : List Value} {D : zD} {Q : zQ} (h : Z M k pc L' st D Q) (hL : ∀ i v, L' i = some v → L i = some v) : Z M k pc L st D Q := by
  intro p l e R s m args below meth c ad cA G A H locs ls C hH hl
  exact h p l e R s m args below meth c ad cA G A H locs ls C hH ⟨hl.1, hl.2.1, fun i v hv => hl.2.2 i v (hL i v hv)⟩
end
section
/-! ===== an instruction, a row ===== -/
theorem z_iadd {M : zM} {k pc : Nat} {L : zLo} {st : List Value} {D : zD} {Q : zQ} {x y : Int32} (hd : decode (zcc M) pc = .ok (.iadd, 1))  (kk : Z M k (pc + 1) L (.int (x + y) :: st) D Q) : Z M k pc L (.int y :: .int x :: st) D Q := fun p l e R s m args below meth c ad cA G A H locs ls C hH hl => lv_iadd C.1 C.2.1 hd (kk p l e R s m args below meth c ad cA G A H locs ls C hH hl)
theorem z_isub {M : zM} {k pc : Nat} {L : zLo} {st : List Value} {D : zD} {Q : zQ} {x y : Int32} (hd : decode (zcc M) pc = .ok (.isub, 1))  (kk : Z M k (pc + 1) L (.int (x - y) :: st) D Q) : Z M k pc L (.int y :: .int x :: st) D Q := fun p l e R s m args below meth c ad cA G A H locs ls C hH hl => lv_isub C.1 C.2.1 hd (kk p l e R s m args below meth c ad cA G A H locs ls C hH hl)
theorem z_imul {M : zM} {k pc : Nat} {L : zLo} {st : List Value} {D : zD} {Q : zQ} {x y : Int32} (hd : decode (zcc M) pc = .ok (.imul, 1))  (kk : Z M k (pc + 1) L (.int (x * y) :: st) D Q) : Z M k pc L (.int y :: .int x :: st) D Q := fun p l e R s m args below meth c ad cA G A H locs ls C hH hl => lv_imul C.1 C.2.1 hd (kk p l e R s m args below meth c ad cA G A H locs ls C hH hl)
theorem z_iand {M : zM} {k pc : Nat} {L : zLo} {st : List Value} {D : zD} {Q : zQ} {x y : Int32} (hd : decode (zcc M) pc = .ok (.iand, 1))  (kk : Z M k (pc + 1) L (.int (x &&& y) :: st) D Q) : Z M k pc L (.int y :: .int x :: st) D Q := fun p l e R s m args below meth c ad cA G A H locs ls C hH hl => lv_iand C.1 C.2.1 hd (kk p l e R s m args below meth c ad cA G A H locs ls C hH hl)
theorem z_ior {M : zM} {k pc : Nat} {L : zLo} {st : List Value} {D : zD} {Q : zQ} {x y : Int32} (hd : decode (zcc M) pc = .ok (.ior, 1))  (kk : Z M k (pc + 1) L (.int (x ||| y) :: st) D Q) : Z M k pc L (.int y :: .int x :: st) D Q := fun p l e R s m args below meth c ad cA G A H locs ls C hH hl => lv_ior C.1 C.2.1 hd (kk p l e R s m args below meth c ad cA G A H locs ls C hH hl)
theorem z_ixor {M : zM} {k pc : Nat} {L : zLo} {st : List Value} {D : zD} {Q : zQ} {x y : Int32} (hd : decode (zcc M) pc = .ok (.ixor, 1))  (kk : Z M k (pc + 1) L (.int (x ^^^ y) :: st) D Q) : Z M k pc L (.int y :: .int x :: st) D Q := fun p l e R s m args below meth c ad cA G A H locs ls C hH hl => lv_ixor C.1 C.2.1 hd (kk p l e R s m args below meth c ad cA G A H locs ls C hH hl)
theorem z_ishl {M : zM} {k pc : Nat} {L : zLo} {st : List Value} {D : zD} {Q : zQ} {x y : Int32} (hd : decode (zcc M) pc = .ok (.ishl, 1))  (kk : Z M k (pc + 1) L (.int (x <<< (y &&& 31)) :: st) D Q) : Z M k pc L (.int y :: .int x :: st) D Q := fun p l e R s m args below meth c ad cA G A H locs ls C hH hl => lv_ishl C.1 C.2.1 hd (kk p l e R s m args below meth c ad cA G A H locs ls C hH hl)
theorem z_ishr {M : zM} {k pc : Nat} {L : zLo} {st : List Value} {D : zD} {Q : zQ} {x y : Int32} (hd : decode (zcc M) pc = .ok (.ishr, 1))  (kk : Z M k (pc + 1) L (.int (x >>> (y &&& 31)) :: st) D Q) : Z M k pc L (.int y :: .int x :: st) D Q := fun p l e R s m args below meth c ad cA G A H locs ls C hH hl => lv_ishr C.1 C.2.1 hd (kk p l e R s m args below meth c ad cA G A H locs ls C hH hl)
theorem z_ladd {M : zM} {k pc : Nat} {L : zLo} {st : List Value} {D : zD} {Q : zQ} {x y : Int64} (hd : decode (zcc M) pc = .ok (.ladd, 1))  (kk : Z M k (pc + 1) L (.long (x + y) :: st) D Q) : Z M k pc L (.long y :: .long x :: st) D Q := fun p l e R s m args below meth c ad cA G A H locs ls C hH hl => lv_ladd C.1 C.2.1 hd (kk p l e R s m args below meth c ad cA G A H locs ls C hH hl)
theorem z_lsub {M : zM} {k pc : Nat} {L : zLo} {st : List Value} {D : zD} {Q : zQ} {x y : Int64} (hd : decode (zcc M) pc = .ok (.lsub, 1))  (kk : Z M k (pc + 1) L (.long (x - y) :: st) D Q) : Z M k pc L (.long y :: .long x :: st) D Q := fun p l e R s m args below meth c ad cA G A H locs ls C hH hl => lv_lsub C.1 C.2.1 hd (kk p l e R s m args below meth c ad cA G A H locs ls C hH hl)
theorem z_lmul {M : zM} {k pc : Nat} {L : zLo} {st : List Value} {D : zD} {Q : zQ} {x y : Int64} (hd : decode (zcc M) pc = .ok (.lmul, 1))  (kk : Z M k (pc + 1) L (.long (x * y) :: st) D Q) : Z M k pc L (.long y :: .long x :: st) D Q := fun p l e R s m args below meth c ad cA G A H locs ls C hH hl => lv_lmul C.1 C.2.1 hd (kk p l e R s m args below meth c ad cA G A H locs ls C hH hl)
theorem z_land {M : zM} {k pc : Nat} {L : zLo} {st : List Value} {D : zD} {Q : zQ} {x y : Int64} (hd : decode (zcc M) pc = .ok (.land, 1))  (kk : Z M k (pc + 1) L (.long (x &&& y) :: st) D Q) : Z M k pc L (.long y :: .long x :: st) D Q := fun p l e R s m args below meth c ad cA G A H locs ls C hH hl => lv_land C.1 C.2.1 hd (kk p l e R s m args below meth c ad cA G A H locs ls C hH hl)
theorem z_lor {M : zM} {k pc : Nat} {L : zLo} {st : List Value} {D : zD} {Q : zQ} {x y : Int64} (hd : decode (zcc M) pc = .ok (.lor, 1))  (kk : Z M k (pc + 1) L (.long (x ||| y) :: st) D Q) : Z M k pc L (.long y :: .long x :: st) D Q := fun p l e R s m args below meth c ad cA G A H locs ls C hH hl => lv_lor C.1 C.2.1 hd (kk p l e R s m args below meth c ad cA G A H locs ls C hH hl)
theorem z_lxor {M : zM} {k pc : Nat} {L : zLo} {st : List Value} {D : zD} {Q : zQ} {x y : Int64} (hd : decode (zcc M) pc = .ok (.lxor, 1))  (kk : Z M k (pc + 1) L (.long (x ^^^ y) :: st) D Q) : Z M k pc L (.long y :: .long x :: st) D Q := fun p l e R s m args below meth c ad cA G A H locs ls C hH hl => lv_lxor C.1 C.2.1 hd (kk p l e R s m args below meth c ad cA G A H locs ls C hH hl)
theorem z_idiv {M : zM} {k pc : Nat} {L : zLo} {st : List Value} {D : zD} {Q : zQ} {x y : Int32} (hd : decode (zcc M) pc = .ok (.idiv, 1)) (hne : ¬ y = 0) (kk : Z M k (pc + 1) L (.int (x / y) :: st) D Q) : Z M k pc L (.int y :: .int x :: st) D Q := fun p l e R s m args below meth c ad cA G A H locs ls C hH hl => lv_idiv C.1 C.2.1 hd hne (kk p l e R s m args below meth c ad cA G A H locs ls C hH hl)
theorem z_irem {M : zM} {k pc : Nat} {L : zLo} {st : List Value} {D : zD} {Q : zQ} {x y : Int32} (hd : decode (zcc M) pc = .ok (.irem, 1)) (hne : ¬ y = 0) (kk : Z M k (pc + 1) L (.int (x - x / y * y) :: st) D Q) : Z M k pc L (.int y :: .int x :: st) D Q := fun p l e R s m args below meth c ad cA G A H locs ls C hH hl => lv_irem C.1 C.2.1 hd hne (kk p l e R s m args below meth c ad cA G A H locs ls C hH hl)
theorem z_ldiv {M : zM} {k pc : Nat} {L : zLo} {st : List Value} {D : zD} {Q : zQ} {x y : Int64} (hd : decode (zcc M) pc = .ok (.ldiv, 1)) (hne : ¬ y = 0) (kk : Z M k (pc + 1) L (.long (x / y) :: st) D Q) : Z M k pc L (.long y :: .long x :: st) D Q := fun p l e R s m args below meth c ad cA G A H locs ls C hH hl => lv_ldiv C.1 C.2.1 hd hne (kk p l e R s m args below meth c ad cA G A H locs ls C hH hl)
theorem z_lrem {M : zM} {k pc : Nat} {L : zLo} {st : List Value} {D : zD} {Q : zQ} {x y : Int64} (hd : decode (zcc M) pc = .ok (.lrem, 1)) (hne : ¬ y = 0) (kk : Z M k (pc + 1) L (.long (x - x / y * y) :: st) D Q) : Z M k pc L (.long y :: .long x :: st) D Q := fun p l e R s m args below meth c ad cA G A H locs ls C hH hl => lv_lrem C.1 C.2.1 hd hne (kk p l e R s m args below meth c ad cA G A H locs ls C hH hl)
theorem z_ineg {M : zM} {k pc : Nat} {L : zLo} {st : List Value} {D : zD} {Q : zQ} {x : Int32} (hd : decode (zcc M) pc = .ok (.ineg, 1))  (kk : Z M k (pc + 1) L (.int (-x) :: st) D Q) : Z M k pc L (.int x :: st) D Q := fun p l e R s m args below meth c ad cA G A H locs ls C hH hl => lv_ineg C.1 C.2.1 hd (kk p l e R s m args below meth c ad cA G A H locs ls C hH hl)
theorem z_lneg {M : zM} {k pc : Nat} {L : zLo} {st : List Value} {D : zD} {Q : zQ} {x : Int64} (hd : decode (zcc M) pc = .ok (.lneg, 1))  (kk : Z M k (pc + 1) L (.long (-x) :: st) D Q) : Z M k pc L (.long x :: st) D Q := fun p l e R s m args below meth c ad cA G A H locs ls C hH hl => lv_lneg C.1 C.2.1 hd (kk p l e R s m args below meth c ad cA G A H locs ls C hH hl)
theorem z_i2l {M : zM} {k pc : Nat} {L : zLo} {st : List Value} {D : zD} {Q : zQ} {x : Int32} (hd : decode (zcc M) pc = .ok (.i2l, 1))  (kk : Z M k (pc + 1) L (.long x.toInt64 :: st) D Q) : Z M k pc L (.int x :: st) D Q := fun p l e R s m args below meth c ad cA G A H locs ls C hH hl => lv_i2l C.1 C.2.1 hd rfl (kk p l e R s m args below meth c ad cA G A H locs ls C hH hl)
theorem z_l2i {M : zM} {k pc : Nat} {L : zLo} {st : List Value} {D : zD} {Q : zQ} {x : Int64} (hd : decode (zcc M) pc = .ok (.l2i, 1))  (kk : Z M k (pc + 1) L (.int x.toInt32 :: st) D Q) : Z M k pc L (.long x :: st) D Q := fun p l e R s m args below meth c ad cA G A H locs ls C hH hl => lv_l2i C.1 C.2.1 hd rfl (kk p l e R s m args below meth c ad cA G A H locs ls C hH hl)
theorem z_i2b {M : zM} {k pc : Nat} {L : zLo} {st : List Value} {D : zD} {Q : zQ} {x : Int32} (hd : decode (zcc M) pc = .ok (.i2b, 1))  (kk : Z M k (pc + 1) L (.int x.toInt8.toInt32 :: st) D Q) : Z M k pc L (.int x :: st) D Q := fun p l e R s m args below meth c ad cA G A H locs ls C hH hl => lv_i2b C.1 C.2.1 hd rfl (kk p l e R s m args below meth c ad cA G A H locs ls C hH hl)
theorem z_lshl {M : zM} {k pc : Nat} {L : zLo} {st : List Value} {D : zD} {Q : zQ} {x : Int64} {y : Int32} (hd : decode (zcc M) pc = .ok (.lshl, 1))  (kk : Z M k (pc + 1) L (.long (x <<< (y.toInt64 &&& 63)) :: st) D Q) : Z M k pc L (.int y :: .long x :: st) D Q := fun p l e R s m args below meth c ad cA G A H locs ls C hH hl => lv_lshl C.1 C.2.1 hd rfl (kk p l e R s m args below meth c ad cA G A H locs ls C hH hl)
theorem z_lshr {M : zM} {k pc : Nat} {L : zLo} {st : List Value} {D : zD} {Q : zQ} {x : Int64} {y : Int32} (hd : decode (zcc M) pc = .ok (.lshr, 1))  (kk : Z M k (pc + 1) L (.long (x >>> (y.toInt64 &&& 63)) :: st) D Q) : Z M k pc L (.int y :: .long x :: st) D Q := fun p l e R s m args below meth c ad cA G A H locs ls C hH hl => lv_lshr C.1 C.2.1 hd rfl (kk p l e R s m args below meth c ad cA G A H locs ls C hH hl)
theorem z_lcmp {M : zM} {k pc : Nat} {L : zLo} {st : List Value} {D : zD} {Q : zQ} {x y : Int64} (hd : decode (zcc M) pc = .ok (.lcmp, 1))  (kk : Z M k (pc + 1) L (.int (lg_cmp x y) :: st) D Q) : Z M k pc L (.long y :: .long x :: st) D Q := fun p l e R s m args below meth c ad cA G A H locs ls C hH hl => W.lcmp C.1 C.2.1 hd (kk p l e R s m args below meth c ad cA G A H locs ls C hH hl)
theorem z_iconst {M : zM} {k pc : Nat} {L : zLo} {st : List Value} {D : zD} {Q : zQ} {n : Int} (hd : decode (zcc M) pc = .ok (.iconst n, 1))  (kk : Z M k (pc + 1) L (.int (Int32.ofInt n) :: st) D Q) : Z M k pc L (st) D Q := fun p l e R s m args below meth c ad cA G A H locs ls C hH hl => lv_iconst C.1 C.2.1 hd rfl (kk p l e R s m args below meth c ad cA G A H locs ls C hH hl)
theorem z_bipush {M : zM} {k pc : Nat} {L : zLo} {st : List Value} {D : zD} {Q : zQ} {n : Int} (hd : decode (zcc M) pc = .ok (.bipush n, 2))  (kk : Z M k (pc + 2) L (.int (Int8.ofInt n).toInt32 :: st) D Q) : Z M k pc L (st) D Q := fun p l e R s m args below meth c ad cA G A H locs ls C hH hl => lv_bipush C.1 C.2.1 hd rfl (kk p l e R s m args below meth c ad cA G A H locs ls C hH hl)
theorem z_sipush {M : zM} {k pc : Nat} {L : zLo} {st : List Value} {D : zD} {Q : zQ} {n : Int} (hd : decode (zcc M) pc = .ok (.sipush n, 3))  (kk : Z M k (pc + 3) L (.int (Int16.ofInt n).toInt32 :: st) D Q) : Z M k pc L (st) D Q := fun p l e R s m args below meth c ad cA G A H locs ls C hH hl => lv_sipush C.1 C.2.1 hd rfl (kk p l e R s m args below meth c ad cA G A H locs ls C hH hl)
theorem z_lconst {M : zM} {k pc : Nat} {L : zLo} {st : List Value} {D : zD} {Q : zQ} {n : Fin 2} (hd : decode (zcc M) pc = .ok (.lconst n, 1))  (kk : Z M k (pc + 1) L (.long (Int64.ofNat n) :: st) D Q) : Z M k pc L (st) D Q := fun p l e R s m args below meth c ad cA G A H locs ls C hH hl => lv_lconst C.1 C.2.1 hd rfl (kk p l e R s m args below meth c ad cA G A H locs ls C hH hl)
theorem z_ldc {M : zM} {k pc : Nat} {L : zLo} {st : List Value} {D : zD} {Q : zQ} {i : Nat} {v : Int32} (hd : decode (zcc M) pc = .ok (.ldc i, 2)) (hc : Cond.constant (zown M) i v ∈ lw_tbl) (kk : Z M k (pc + 2) L (.int v :: st) D Q) : Z M k pc L (st) D Q := fun p l e R s m args below meth c ad cA G A H locs ls C hH hl => (fun hx hb hd => lv_ldc hx hb C.2.2.2.2.2.2.1 (C.2.2.2.2.2.2.2.2.1 _ hc rfl) hd) C.1 C.2.1 hd (kk p l e R s m args below meth c ad cA G A H locs ls C hH hl)
theorem z_ldc2 {M : zM} {k pc : Nat} {L : zLo} {st : List Value} {D : zD} {Q : zQ} {i : Nat} {v : Int64} (hd : decode (zcc M) pc = .ok (.ldc2_w i, 3)) (hc : Cond.constantLong (zown M) i v ∈ lw_tbl) (kk : Z M k (pc + 3) L (.long v :: st) D Q) : Z M k pc L (st) D Q := fun p l e R s m args below meth c ad cA G A H locs ls C hH hl => (fun hx hb hd => lv_ldc2 hx hb C.2.2.2.2.2.2.1 (C.2.2.2.2.2.2.2.2.1 _ hc rfl) hd) C.1 C.2.1 hd (kk p l e R s m args below meth c ad cA G A H locs ls C hH hl)
theorem z_iload_n {M : zM} {k pc : Nat} {L : zLo} {st : List Value} {D : zD} {Q : zQ} {n : Fin 4} {x : Int32} (hd : decode (zcc M) pc = .ok (.iload_n n, 1)) (hv : L (n : Nat) = some (.int x)) (kk : Z M k (pc + 1) L (.int x :: st) D Q) : Z M k pc L (st) D Q := fun p l e R s m args below meth c ad cA G A H locs ls C hH hl => lv_iload_n C.1 C.2.1 hd rfl (hl.2.2 _ _ hv) (kk p l e R s m args below meth c ad cA G A H locs ls C hH hl)
theorem z_iload {M : zM} {k pc : Nat} {L : zLo} {st : List Value} {D : zD} {Q : zQ} {i : Nat} {x : Int32} (hd : decode (zcc M) pc = .ok (.iload i, 2)) (hv : L i = some (.int x)) (kk : Z M k (pc + 2) L (.int x :: st) D Q) : Z M k pc L (st) D Q := fun p l e R s m args below meth c ad cA G A H locs ls C hH hl => lv_iload C.1 C.2.1 hd (hl.2.2 _ _ hv) (kk p l e R s m args below meth c ad cA G A H locs ls C hH hl)
theorem z_lload_n {M : zM} {k pc : Nat} {L : zLo} {st : List Value} {D : zD} {Q : zQ} {n : Fin 4} {x : Int64} (hd : decode (zcc M) pc = .ok (.lload_n n, 1)) (hv : L (n : Nat) = some (.long x)) (kk : Z M k (pc + 1) L (.long x :: st) D Q) : Z M k pc L (st) D Q := fun p l e R s m args below meth c ad cA G A H locs ls C hH hl => lv_lload_n C.1 C.2.1 hd rfl (hl.2.2 _ _ hv) (kk p l e R s m args below meth c ad cA G A H locs ls C hH hl)
theorem z_lload {M : zM} {k pc : Nat} {L : zLo} {st : List Value} {D : zD} {Q : zQ} {i : Nat} {x : Int64} (hd : decode (zcc M) pc = .ok (.lload i, 2)) (hv : L i = some (.long x)) (kk : Z M k (pc + 2) L (.long x :: st) D Q) : Z M k pc L (st) D Q := fun p l e R s m args below meth c ad cA G A H locs ls C hH hl => lv_lload C.1 C.2.1 hd (hl.2.2 _ _ hv) (kk p l e R s m args below meth c ad cA G A H locs ls C hH hl)
theorem z_aload_n {M : zM} {k pc : Nat} {L : zLo} {st : List Value} {D : zD} {Q : zQ} {n : Fin 4} {x : Nat} (hd : decode (zcc M) pc = .ok (.aload_n n, 1)) (hv : L (n : Nat) = some (.ref x)) (kk : Z M k (pc + 1) L (.ref x :: st) D Q) : Z M k pc L (st) D Q := fun p l e R s m args below meth c ad cA G A H locs ls C hH hl => lv_aload_n C.1 C.2.1 hd rfl (hl.2.2 _ _ hv) (kk p l e R s m args below meth c ad cA G A H locs ls C hH hl)
theorem z_aload {M : zM} {k pc : Nat} {L : zLo} {st : List Value} {D : zD} {Q : zQ} {i : Nat} {x : Nat} (hd : decode (zcc M) pc = .ok (.aload i, 2)) (hv : L i = some (.ref x)) (kk : Z M k (pc + 2) L (.ref x :: st) D Q) : Z M k pc L (st) D Q := fun p l e R s m args below meth c ad cA G A H locs ls C hH hl => lv_aload C.1 C.2.1 hd (hl.2.2 _ _ hv) (kk p l e R s m args below meth c ad cA G A H locs ls C hH hl)
theorem z_istore_n {M : zM} {k pc : Nat} {L : zLo} {st : List Value} {D : zD} {Q : zQ} {n : Fin 4} {x : Int32} (hd : decode (zcc M) pc = .ok (.istore_n n, 1)) (hn : (n : Nat) < znL M) (kk : Z M k (pc + 1) (zset L (n : Nat) (.int x)) st D Q) : Z M k pc L (.int x :: st) D Q := fun p l e R s m args below meth c ad cA G A H locs ls C hH hl => lv_istore_n C.1 C.2.1 hd rfl hl.has hn rfl (fun ls' hl' => kk p l e R s m args below meth c ad cA G A H locs ls' C hH (zset_has (v := .int x) hl hl'))
theorem z_istore {M : zM} {k pc : Nat} {L : zLo} {st : List Value} {D : zD} {Q : zQ} {i : Nat} {x : Int32} (hd : decode (zcc M) pc = .ok (.istore i, 2)) (hn : i < znL M) (kk : Z M k (pc + 2) (zset L i (.int x)) st D Q) : Z M k pc L (.int x :: st) D Q := fun p l e R s m args below meth c ad cA G A H locs ls C hH hl => lv_istore C.1 C.2.1 hd hl.has hn rfl (fun ls' hl' => kk p l e R s m args below meth c ad cA G A H locs ls' C hH (zset_has (v := .int x) hl hl'))
theorem z_lstore_n {M : zM} {k pc : Nat} {L : zLo} {st : List Value} {D : zD} {Q : zQ} {n : Fin 4} {x : Int64} (hd : decode (zcc M) pc = .ok (.lstore_n n, 1)) (hn : (n : Nat) + 1 < znL M) (kk : Z M k (pc + 1) (zset2 L (n : Nat) (.long x)) st D Q) : Z M k pc L (.long x :: st) D Q := fun p l e R s m args below meth c ad cA G A H locs ls C hH hl => lv_lstore_n C.1 C.2.1 hd rfl hl.has hn rfl (fun ls' hl' => kk p l e R s m args below meth c ad cA G A H locs ls' C hH (zset2_has (v := .long x) hl hl'))
theorem z_lstore {M : zM} {k pc : Nat} {L : zLo} {st : List Value} {D : zD} {Q : zQ} {i : Nat} {x : Int64} (hd : decode (zcc M) pc = .ok (.lstore i, 2)) (hn : i + 1 < znL M) (kk : Z M k (pc + 2) (zset2 L i (.long x)) st D Q) : Z M k pc L (.long x :: st) D Q := fun p l e R s m args below meth c ad cA G A H locs ls C hH hl => lv_lstore C.1 C.2.1 hd hl.has hn rfl (fun ls' hl' => kk p l e R s m args below meth c ad cA G A H locs ls' C hH (zset2_has (v := .long x) hl hl'))
theorem z_astore_n {M : zM} {k pc : Nat} {L : zLo} {st : List Value} {D : zD} {Q : zQ} {n : Fin 4} {x : Nat} (hd : decode (zcc M) pc = .ok (.astore_n n, 1)) (hn : (n : Nat) < znL M) (kk : Z M k (pc + 1) (zset L (n : Nat) (.ref x)) st D Q) : Z M k pc L (.ref x :: st) D Q := fun p l e R s m args below meth c ad cA G A H locs ls C hH hl => lv_astore_n C.1 C.2.1 hd rfl hl.has hn rfl (fun ls' hl' => kk p l e R s m args below meth c ad cA G A H locs ls' C hH (zset_has (v := .ref x) hl hl'))
theorem z_astore {M : zM} {k pc : Nat} {L : zLo} {st : List Value} {D : zD} {Q : zQ} {i : Nat} {x : Nat} (hd : decode (zcc M) pc = .ok (.astore i, 2)) (hn : i < znL M) (kk : Z M k (pc + 2) (zset L i (.ref x)) st D Q) : Z M k pc L (.ref x :: st) D Q := fun p l e R s m args below meth c ad cA G A H locs ls C hH hl => lv_astore C.1 C.2.1 hd hl.has hn rfl (fun ls' hl' => kk p l e R s m args below meth c ad cA G A H locs ls' C hH (zset_has (v := .ref x) hl hl'))
theorem z_iinc {M : zM} {k pc : Nat} {L : zLo} {st : List Value} {D : zD} {Q : zQ} {i : Nat} {n : Int} {x : Int32} (hd : decode (zcc M) pc = .ok (.iinc i n, 3)) (hv : L i = some (.int x)) (kk : Z M k (pc + 3) (zset L i (.int (x + Int32.ofInt n))) st D Q) : Z M k pc L st D Q := fun p l e R s m args below meth c ad cA G A H locs ls C hH hl => by
  obtain ⟨j, hj⟩ := List.getElem?_of_mem (zlist_mem.mpr ⟨hl.lt hv, .int x, hv, rfl⟩ : (i, zv ad (.int x)) ∈ zlist ad L (znL M))
  exact lv_iinc (k := j) C.1 C.2.1 hd hl.has hj rfl (hl.lt hv) rfl (fun ls' hl' => kk p l e R s m args below meth c ad cA G A H locs ls' C hH (zset_has (v := .int (x + Int32.ofInt n)) hl hl'))
theorem z_dup {M : zM} {k pc : Nat} {L : zLo} {st : List Value} {D : zD} {Q : zQ} {v : Value} (hd : decode (zcc M) pc = .ok (.dup, 1)) (hv : v.category = 1) (kk : Z M k (pc + 1) L (v :: v :: st) D Q) : Z M k pc L (v :: st) D Q := fun p l e R s m args below meth c ad cA G A H locs ls C hH hl => lv_dup C.1 C.2.1 hd ((zv_cat _ _).trans hv) (kk p l e R s m args below meth c ad cA G A H locs ls C hH hl)
theorem z_dup2 {M : zM} {k pc : Nat} {L : zLo} {st : List Value} {D : zD} {Q : zQ} {v w : Value} (hd : decode (zcc M) pc = .ok (.dup2, 1)) (hv : v.category = 1) (hw : w.category = 1) (kk : Z M k (pc + 1) L (v :: w :: v :: w :: st) D Q) : Z M k pc L (v :: w :: st) D Q := fun p l e R s m args below meth c ad cA G A H locs ls C hH hl => lv_dup2_11 C.1 C.2.1 hd ((zv_cat _ _).trans hv) ((zv_cat _ _).trans hw) (kk p l e R s m args below meth c ad cA G A H locs ls C hH hl)
theorem z_dup22 {M : zM} {k pc : Nat} {L : zLo} {st : List Value} {D : zD} {Q : zQ} {v : Value} (hd : decode (zcc M) pc = .ok (.dup2, 1)) (hv : v.category = 2) (kk : Z M k (pc + 1) L (v :: v :: st) D Q) : Z M k pc L (v :: st) D Q := fun p l e R s m args below meth c ad cA G A H locs ls C hH hl => lv_dup2_2 C.1 C.2.1 hd ((zv_cat _ _).trans hv) (kk p l e R s m args below meth c ad cA G A H locs ls C hH hl)
theorem z_if_eq {M : zM} {k pc : Nat} {L : zLo} {st : List Value} {D : zD} {Q : zQ} {x : Int32} {off : Int} {tgt : Nat} (hd : decode (zcc M) pc = .ok (.ifCond .eq off, 3)) (ht : (pc : Int) + off = (tgt : Int)) (kt : x = 0 → Z M k tgt L st D Q) (kf : ¬ x = 0 → Z M k (pc + 3) L st D Q) : Z M k pc L (.int x :: st) D Q := fun p l e R s m args below meth c ad cA G A H locs ls C hH hl => lv_if_eq C.1 C.2.1 hd ht (fun h => kt h p l e R s m args below meth c ad cA G A H locs ls C hH hl) (fun h => kf h p l e R s m args below meth c ad cA G A H locs ls C hH hl)
theorem z_icmp_eq {M : zM} {k pc : Nat} {L : zLo} {st : List Value} {D : zD} {Q : zQ} {x y : Int32} {off : Int} {tgt : Nat} (hd : decode (zcc M) pc = .ok (.if_icmp .eq off, 3)) (ht : (pc : Int) + off = (tgt : Int)) (kt : x = y → Z M k tgt L st D Q) (kf : ¬ x = y → Z M k (pc + 3) L st D Q) : Z M k pc L (.int y :: .int x :: st) D Q := fun p l e R s m args below meth c ad cA G A H locs ls C hH hl => lv_icmp_eq C.1 C.2.1 hd ht (fun h => kt h p l e R s m args below meth c ad cA G A H locs ls C hH hl) (fun h => kf h p l e R s m args below meth c ad cA G A H locs ls C hH hl)
theorem z_if_ne {M : zM} {k pc : Nat} {L : zLo} {st : List Value} {D : zD} {Q : zQ} {x : Int32} {off : Int} {tgt : Nat} (hd : decode (zcc M) pc = .ok (.ifCond .ne off, 3)) (ht : (pc : Int) + off = (tgt : Int)) (kt : ¬ x = 0 → Z M k tgt L st D Q) (kf : x = 0 → Z M k (pc + 3) L st D Q) : Z M k pc L (.int x :: st) D Q := fun p l e R s m args below meth c ad cA G A H locs ls C hH hl => lv_if_ne C.1 C.2.1 hd ht (fun h => kt h p l e R s m args below meth c ad cA G A H locs ls C hH hl) (fun h => kf h p l e R s m args below meth c ad cA G A H locs ls C hH hl)
theorem z_icmp_ne {M : zM} {k pc : Nat} {L : zLo} {st : List Value} {D : zD} {Q : zQ} {x y : Int32} {off : Int} {tgt : Nat} (hd : decode (zcc M) pc = .ok (.if_icmp .ne off, 3)) (ht : (pc : Int) + off = (tgt : Int)) (kt : ¬ x = y → Z M k tgt L st D Q) (kf : x = y → Z M k (pc + 3) L st D Q) : Z M k pc L (.int y :: .int x :: st) D Q := fun p l e R s m args below meth c ad cA G A H locs ls C hH hl => lv_icmp_ne C.1 C.2.1 hd ht (fun h => kt h p l e R s m args below meth c ad cA G A H locs ls C hH hl) (fun h => kf h p l e R s m args below meth c ad cA G A H locs ls C hH hl)
theorem z_if_lt {M : zM} {k pc : Nat} {L : zLo} {st : List Value} {D : zD} {Q : zQ} {x : Int32} {off : Int} {tgt : Nat} (hd : decode (zcc M) pc = .ok (.ifCond .lt off, 3)) (ht : (pc : Int) + off = (tgt : Int)) (kt : x < 0 → Z M k tgt L st D Q) (kf : ¬ x < 0 → Z M k (pc + 3) L st D Q) : Z M k pc L (.int x :: st) D Q := fun p l e R s m args below meth c ad cA G A H locs ls C hH hl => lv_if_lt C.1 C.2.1 hd ht (fun h => kt h p l e R s m args below meth c ad cA G A H locs ls C hH hl) (fun h => kf h p l e R s m args below meth c ad cA G A H locs ls C hH hl)
theorem z_icmp_lt {M : zM} {k pc : Nat} {L : zLo} {st : List Value} {D : zD} {Q : zQ} {x y : Int32} {off : Int} {tgt : Nat} (hd : decode (zcc M) pc = .ok (.if_icmp .lt off, 3)) (ht : (pc : Int) + off = (tgt : Int)) (kt : x < y → Z M k tgt L st D Q) (kf : ¬ x < y → Z M k (pc + 3) L st D Q) : Z M k pc L (.int y :: .int x :: st) D Q := fun p l e R s m args below meth c ad cA G A H locs ls C hH hl => lv_icmp_lt C.1 C.2.1 hd ht (fun h => kt h p l e R s m args below meth c ad cA G A H locs ls C hH hl) (fun h => kf h p l e R s m args below meth c ad cA G A H locs ls C hH hl)
theorem z_if_ge {M : zM} {k pc : Nat} {L : zLo} {st : List Value} {D : zD} {Q : zQ} {x : Int32} {off : Int} {tgt : Nat} (hd : decode (zcc M) pc = .ok (.ifCond .ge off, 3)) (ht : (pc : Int) + off = (tgt : Int)) (kt : 0 ≤ x → Z M k tgt L st D Q) (kf : ¬ 0 ≤ x → Z M k (pc + 3) L st D Q) : Z M k pc L (.int x :: st) D Q := fun p l e R s m args below meth c ad cA G A H locs ls C hH hl => lv_if_ge C.1 C.2.1 hd ht (fun h => kt h p l e R s m args below meth c ad cA G A H locs ls C hH hl) (fun h => kf h p l e R s m args below meth c ad cA G A H locs ls C hH hl)
theorem z_icmp_ge {M : zM} {k pc : Nat} {L : zLo} {st : List Value} {D : zD} {Q : zQ} {x y : Int32} {off : Int} {tgt : Nat} (hd : decode (zcc M) pc = .ok (.if_icmp .ge off, 3)) (ht : (pc : Int) + off = (tgt : Int)) (kt : y ≤ x → Z M k tgt L st D Q) (kf : ¬ y ≤ x → Z M k (pc + 3) L st D Q) : Z M k pc L (.int y :: .int x :: st) D Q := fun p l e R s m args below meth c ad cA G A H locs ls C hH hl => lv_icmp_ge C.1 C.2.1 hd ht (fun h => kt h p l e R s m args below meth c ad cA G A H locs ls C hH hl) (fun h => kf h p l e R s m args below meth c ad cA G A H locs ls C hH hl)
theorem z_if_gt {M : zM} {k pc : Nat} {L : zLo} {st : List Value} {D : zD} {Q : zQ} {x : Int32} {off : Int} {tgt : Nat} (hd : decode (zcc M) pc = .ok (.ifCond .gt off, 3)) (ht : (pc : Int) + off = (tgt : Int)) (kt : 0 < x → Z M k tgt L st D Q) (kf : ¬ 0 < x → Z M k (pc + 3) L st D Q) : Z M k pc L (.int x :: st) D Q := fun p l e R s m args below meth c ad cA G A H locs ls C hH hl => lv_if_gt C.1 C.2.1 hd ht (fun h => kt h p l e R s m args below meth c ad cA G A H locs ls C hH hl) (fun h => kf h p l e R s m args below meth c ad cA G A H locs ls C hH hl)
theorem z_icmp_gt {M : zM} {k pc : Nat} {L : zLo} {st : List Value} {D : zD} {Q : zQ} {x y : Int32} {off : Int} {tgt : Nat} (hd : decode (zcc M) pc = .ok (.if_icmp .gt off, 3)) (ht : (pc : Int) + off = (tgt : Int)) (kt : y < x → Z M k tgt L st D Q) (kf : ¬ y < x → Z M k (pc + 3) L st D Q) : Z M k pc L (.int y :: .int x :: st) D Q := fun p l e R s m args below meth c ad cA G A H locs ls C hH hl => lv_icmp_gt C.1 C.2.1 hd ht (fun h => kt h p l e R s m args below meth c ad cA G A H locs ls C hH hl) (fun h => kf h p l e R s m args below meth c ad cA G A H locs ls C hH hl)
theorem z_if_le {M : zM} {k pc : Nat} {L : zLo} {st : List Value} {D : zD} {Q : zQ} {x : Int32} {off : Int} {tgt : Nat} (hd : decode (zcc M) pc = .ok (.ifCond .le off, 3)) (ht : (pc : Int) + off = (tgt : Int)) (kt : x ≤ 0 → Z M k tgt L st D Q) (kf : ¬ x ≤ 0 → Z M k (pc + 3) L st D Q) : Z M k pc L (.int x :: st) D Q := fun p l e R s m args below meth c ad cA G A H locs ls C hH hl => lv_if_le C.1 C.2.1 hd ht (fun h => kt h p l e R s m args below meth c ad cA G A H locs ls C hH hl) (fun h => kf h p l e R s m args below meth c ad cA G A H locs ls C hH hl)
theorem z_icmp_le {M : zM} {k pc : Nat} {L : zLo} {st : List Value} {D : zD} {Q : zQ} {x y : Int32} {off : Int} {tgt : Nat} (hd : decode (zcc M) pc = .ok (.if_icmp .le off, 3)) (ht : (pc : Int) + off = (tgt : Int)) (kt : x ≤ y → Z M k tgt L st D Q) (kf : ¬ x ≤ y → Z M k (pc + 3) L st D Q) : Z M k pc L (.int y :: .int x :: st) D Q := fun p l e R s m args below meth c ad cA G A H locs ls C hH hl => lv_icmp_le C.1 C.2.1 hd ht (fun h => kt h p l e R s m args below meth c ad cA G A H locs ls C hH hl) (fun h => kf h p l e R s m args below meth c ad cA G A H locs ls C hH hl)
theorem z_goto {M : zM} {k pc : Nat} {L : zLo} {st : List Value} {D : zD} {Q : zQ} {off : Int} {tgt : Nat} (hd : decode (zcc M) pc = .ok (.goto off, 3)) (ht : (pc : Int) + off = (tgt : Int)) (kk : Z M k tgt L st D Q) : Z M k pc L st D Q := fun p l e R s m args below meth c ad cA G A H locs ls C hH hl => lv_goto C.1 C.2.1 hd ht (kk p l e R s m args below meth c ad cA G A H locs ls C hH hl)
theorem z_tableIn {M : zM} {k pc : Nat} {L : zLo} {st : List Value} {D : zD} {Q : zQ} {dflt lo hi : Int} {offs : Array Int} {len : Nat} {x : Int32} {off : Int} {tgt : Nat} (hd : decode (zcc M) pc = .ok (.tableswitch dflt lo hi offs, len)) (h1 : ¬ x.toInt < lo) (h2 : ¬ hi < x.toInt) (ho : offs[(x.toInt - lo).toNat]? = some off) (ht : (pc : Int) + off = (tgt : Int)) (kk : Z M k tgt L st D Q) : Z M k pc L (.int x :: st) D Q := fun p l e R s m args below meth c ad cA G A H locs ls C hH hl => lv_tableIn C.1 C.2.1 hd h1 h2 ho ht (kk p l e R s m args below meth c ad cA G A H locs ls C hH hl)
theorem z_tableOut {M : zM} {k pc : Nat} {L : zLo} {st : List Value} {D : zD} {Q : zQ} {dflt lo hi : Int} {offs : Array Int} {len : Nat} {x : Int32} {tgt : Nat} (hd : decode (zcc M) pc = .ok (.tableswitch dflt lo hi offs, len)) (h : x.toInt < lo ∨ hi < x.toInt) (ht : (pc : Int) + dflt = (tgt : Int)) (kk : Z M k tgt L st D Q) : Z M k pc L (.int x :: st) D Q := fun p l e R s m args below meth c ad cA G A H locs ls C hH hl => lv_tableOut C.1 C.2.1 hd h ht (kk p l e R s m args below meth c ad cA G A H locs ls C hH hl)
theorem z_iret {M : zM} {k pc : Nat} {L : zLo} {st : List Value} {D : zD} {Q : zQ} {v : Int32} (hr : zret M = some .int) (hd : decode (zcc M) pc = .ok (.ireturn, 1)) (hq : Q (.inl (some (.int v))) k D) : Z M k pc L (.int v :: []) D Q := fun p l e R s m args below meth c ad cA G A H locs ls C hH hl => by
  refine W.mono (W.iret (Qc := fun a s o t => zOut ad s t Q o k D ∧ va_P G zcl (zws ad cA D) t.heap ∧ va_D A (zws ad cA D) ∧ va_F A s t ∧ s.WarmedH t.vm) (free := A) C.1 C.2.1 (C.2.2.1.trans hr) (fun t ht hW => ⟨Or.inl ⟨some (.int v), rfl, hq⟩, by rw [ht]; exact hH.1, hH.2.1, hH.2.2.F ht, hW⟩) hH.2.2.2.2 hd C.2.2.2.2.2.1) (fun t ht => ?_)
  obtain ⟨o, h1, h2, ⟨h3, h4, h5, h6, h7⟩, Lo, h8, h9⟩ := ht
  exact ⟨o, h1, h2, k, D, Lo, h3, h4, h5, h6, h8.2.1, h8.2.2, h9⟩
theorem z_zret {M : zM} {k pc : Nat} {L : zLo} {st : List Value} {D : zD} {Q : zQ} {v : Int32} (hn : narrow .boolean (.int v) = .int v) (hr : zret M = some .boolean) (hd : decode (zcc M) pc = .ok (.ireturn, 1)) (hq : Q (.inl (some (.int v))) k D) : Z M k pc L (.int v :: []) D Q := fun p l e R s m args below meth c ad cA G A H locs ls C hH hl => by
  refine W.mono (W.zret (Qc := fun a s o t => zOut ad s t Q o k D ∧ va_P G zcl (zws ad cA D) t.heap ∧ va_D A (zws ad cA D) ∧ va_F A s t ∧ s.WarmedH t.vm) (free := A) C.1 C.2.1 (C.2.2.1.trans hr) hn (fun t ht hW => ⟨Or.inl ⟨some (.int v), rfl, hq⟩, by rw [ht]; exact hH.1, hH.2.1, hH.2.2.F ht, hW⟩) hH.2.2.2.2 hd C.2.2.2.2.2.1) (fun t ht => ?_)
  obtain ⟨o, h1, h2, ⟨h3, h4, h5, h6, h7⟩, Lo, h8, h9⟩ := ht
  exact ⟨o, h1, h2, k, D, Lo, h3, h4, h5, h6, h8.2.1, h8.2.2, h9⟩
theorem z_lret {M : zM} {k pc : Nat} {L : zLo} {st : List Value} {D : zD} {Q : zQ} {v : Int64} (hr : zret M = some .long) (hd : decode (zcc M) pc = .ok (.lreturn, 1)) (hq : Q (.inl (some (.long v))) k D) : Z M k pc L (.long v :: []) D Q := fun p l e R s m args below meth c ad cA G A H locs ls C hH hl => by
  refine W.mono (W.lret (Qc := fun a s o t => zOut ad s t Q o k D ∧ va_P G zcl (zws ad cA D) t.heap ∧ va_D A (zws ad cA D) ∧ va_F A s t ∧ s.WarmedH t.vm) (free := A) C.1 C.2.1 (C.2.2.1.trans hr) (fun t ht hW => ⟨Or.inl ⟨some (.long v), rfl, hq⟩, by rw [ht]; exact hH.1, hH.2.1, hH.2.2.F ht, hW⟩) hH.2.2.2.2 hd C.2.2.2.2.2.1) (fun t ht => ?_)
  obtain ⟨o, h1, h2, ⟨h3, h4, h5, h6, h7⟩, Lo, h8, h9⟩ := ht
  exact ⟨o, h1, h2, k, D, Lo, h3, h4, h5, h6, h8.2.1, h8.2.2, h9⟩
theorem z_vret {M : zM} {k pc : Nat} {L : zLo} {st : List Value} {D : zD} {Q : zQ}  (hr : zret M = none) (hd : decode (zcc M) pc = .ok (.return_, 1)) (hq : Q (.inl (none)) k D) : Z M k pc L ([]) D Q := fun p l e R s m args below meth c ad cA G A H locs ls C hH hl => by
  refine W.mono (W.vret (Qc := fun a s o t => zOut ad s t Q o k D ∧ va_P G zcl (zws ad cA D) t.heap ∧ va_D A (zws ad cA D) ∧ va_F A s t ∧ s.WarmedH t.vm) (free := A) C.1 C.2.1 (C.2.2.1.trans hr) (fun t ht hW => ⟨Or.inl ⟨none, rfl, hq⟩, by rw [ht]; exact hH.1, hH.2.1, hH.2.2.F ht, hW⟩) hH.2.2.2.2 hd C.2.2.2.2.2.1) (fun t ht => ?_)
  obtain ⟨o, h1, h2, ⟨h3, h4, h5, h6, h7⟩, Lo, h8, h9⟩ := ht
  exact ⟨o, h1, h2, k, D, Lo, h3, h4, h5, h6, h8.2.1, h8.2.2, h9⟩
end
section
/-! ===== fields and arrays ===== -/
def zT : List Cond := lw_tbl.filter goodWord
theorem zT_of {w : Cond} (h : w ∈ lw_tbl) (hg : goodWord w = true) : w ∈ zT := List.mem_filter.mpr ⟨h, hg⟩
theorem zG.ts {l : Launch} {ad : Nat → Nat} {cA : Nat → ClassId} {G : va_G} {A : Nat → Prop} {args : Array Value} {s : State} (h : zG l ad cA G A args s) : ∀ w ∈ zT, w.before args s = true := fun w hw => h.1 w (List.mem_filter.mp hw).1 (List.mem_filter.mp hw).2
def zclsOK (q : vw_C) : Bool := (u_ws q.1 q.2.1 q.2.2).all (fun w => decide (w ∈ lw_tbl) && goodWord w)
set_option maxRecDepth 100000 in
theorem zcl_ok0 : zclsOK (RX0, TX0, 2) = true := by decide +kernel
set_option maxRecDepth 100000 in
theorem zcl_ok1 : zclsOK (RX1, TX1, 7) = true := by decide +kernel
set_option maxRecDepth 100000 in
theorem zcl_ok2 : zclsOK (RX2, TX2, 2) = true := by decide +kernel
set_option maxRecDepth 100000 in
theorem zcl_ok3 : zclsOK (RX3, TX3, 3) = true := by decide +kernel
set_option maxRecDepth 100000 in
theorem zcl_ok4 : zclsOK (RX4, TX4, 11) = true := by decide +kernel
set_option maxRecDepth 100000 in
theorem zcl_ok5 : zclsOK (RX5, TX5, 8) = true := by decide +kernel
set_option maxRecDepth 100000 in
theorem zcl_ok6 : zclsOK (RX6, TX6, 4) = true := by decide +kernel
set_option maxRecDepth 100000 in
theorem zcl_ok7 : zclsOK (RX7, TX7, 7) = true := by decide +kernel
set_option maxRecDepth 100000 in
theorem zcl_ok8 : zclsOK (RX8, TX8, 6) = true := by decide +kernel
set_option maxRecDepth 100000 in
theorem zcl_ok9 : zclsOK (RX9, TX9, 44) = true := by decide +kernel
theorem zclsOK_in {C : String} {T : u_T} {N : Nat} (h : zclsOK (C, T, N) = true) : ∀ w ∈ u_ws C T N, w ∈ zT := fun w hw => by
  have h1 := List.all_eq_true.mp h w hw
  simp only [Bool.and_eq_true, decide_eq_true_eq] at h1
  exact zT_of h1.1 h1.2
/-- what a class's fields keep to -/
def zclsF (C : String) (T : u_T) (N : Nat) : Prop := (∀ w ∈ u_ws C T N, w ∈ zT) ∧ (∃ ty0 : Nat → FieldType, ∀ k, k < N → parseFieldDescriptor (T k).2.2.1 = some (ty0 k)) ∧ ∀ a, a < N → ∀ b, b < N → a ≠ b → (T a).2.1 ≠ (T b).2.1
theorem zcl_F {ci : Nat} {C : String} {T : u_T} {N : Nat} (h : zcl[ci]? = some (C, T, N)) : zclsF C T N := by
  match ci, h with
  | 0, h => cases h; exact ⟨zclsOK_in zcl_ok0, ⟨tyX0, tyX0_ok⟩, nmX0⟩
  | 1, h => cases h; exact ⟨zclsOK_in zcl_ok1, ⟨tyX1, tyX1_ok⟩, nmX1⟩
  | 2, h => cases h; exact ⟨zclsOK_in zcl_ok2, ⟨tyX2, tyX2_ok⟩, nmX2⟩
  | 3, h => cases h; exact ⟨zclsOK_in zcl_ok3, ⟨tyX3, tyX3_ok⟩, nmX3⟩
  | 4, h => cases h; exact ⟨zclsOK_in zcl_ok4, ⟨tyX4, tyX4_ok⟩, nmX4⟩
  | 5, h => cases h; exact ⟨zclsOK_in zcl_ok5, ⟨tyX5, tyX5_ok⟩, nmX5⟩
  | 6, h => cases h; exact ⟨zclsOK_in zcl_ok6, ⟨tyX6, tyX6_ok⟩, nmX6⟩
  | 7, h => cases h; exact ⟨zclsOK_in zcl_ok7, ⟨tyX7, tyX7_ok⟩, nmX7⟩
  | 8, h => cases h; exact ⟨zclsOK_in zcl_ok8, ⟨tyX8, tyX8_ok⟩, nmX8⟩
  | 9, h => cases h; exact ⟨zclsOK_in zcl_ok9, ⟨tyX9, tyX9_ok⟩, nmX9⟩
  | k + 10, h => simp at h
/-- the pool's entry idx of class own is field f of class ci -/
def zfk (own : String) (idx ci f : Nat) : Bool := match zcl[ci]? with
  | some q => decide (f < q.2.2) && decide (Cond.fieldLink own idx (q.2.1 f).1 (q.2.1 f).2.1 (q.2.1 f).2.2.1 ∈ lw_tbl)
  | none => false
/-- .. which isn't final, and of this type -/
def zfp (own : String) (idx ci f : Nat) (ty : FieldType) : Bool := zfk own idx ci f && match zcl[ci]? with
  | some q => !(q.2.1 f).2.2.2 && decide (parseFieldDescriptor (q.2.1 f).2.2.1 = some ty)
  | none => false
theorem zfk_spec {own : String} {idx ci f : Nat} (h : zfk own idx ci f = true) : ∃ (C : String) (T : u_T) (N : Nat), zcl[ci]? = some (C, T, N) ∧ f < N ∧ Cond.fieldLink own idx (T f).1 (T f).2.1 (T f).2.2.1 ∈ lw_tbl := by
  unfold zfk at h
  cases hc : zcl[ci]? with
  | none => rw [hc] at h; cases h
  | some q =>
    rw [hc] at h
    simp only [Bool.and_eq_true, decide_eq_true_eq] at h
    exact ⟨q.1, q.2.1, q.2.2, rfl, h.1, h.2⟩
theorem zfp_spec {own : String} {idx ci f : Nat} {ty : FieldType} (h : zfp own idx ci f ty = true) : ∃ (C : String) (T : u_T) (N : Nat), zcl[ci]? = some (C, T, N) ∧ f < N ∧ Cond.fieldLink own idx (T f).1 (T f).2.1 (T f).2.2.1 ∈ lw_tbl ∧ (T f).2.2.2 = false ∧ parseFieldDescriptor (T f).2.2.1 = some ty := by
  unfold zfp at h
  rw [Bool.and_eq_true] at h
  obtain ⟨C, T, N, h1, h2, h3⟩ := zfk_spec h.1
  have h4 := h.2
  rw [h1] at h4
  simp only [Bool.and_eq_true, decide_eq_true_eq, Bool.not_eq_true'] at h4
  exact ⟨C, T, N, h1, h2, h3, h4.1, h4.2⟩
theorem zuI_s (D : zD) (a k : Nat) (v : Int32) : (zuI D a k v).1 a = upd (D.1 a) k v := if_pos rfl
theorem zuL_s (D : zD) (a k : Nat) (v : Int64) : (zuL D a k v).2 a = vp_updL (D.2 a) k v := if_pos rfl
theorem zuR_s (D : zD) (a : Nat) (f : Nat → Int32) : (zuR D a f).1 a = f := if_pos rfl
theorem zuM_s (D : zD) (a : Nat) (f : Nat → Int64) : (zuM D a f).2 a = f := if_pos rfl
section ZHEAP
variable {M : zM} {k pc : Nat} {L : zLo} {st : List Value} {D : zD} {Q : zQ}
theorem z_get {a ci f idx c : Nat} {fl : List Nat} {v : Value} (hf : zfk (zown M) idx ci f = true) (hs : zSH[a]? = some (5, ci, fl)) (hk : fl[f]? = some c) (hv : ∀ ad, zfv ad D a f c = zv ad v) (hd : decode (zcc M) pc = .ok (.getfield idx, 3)) (kk : Z M k (pc + 3) L (v :: st) D Q) : Z M k pc L (.ref a :: st) D Q := by
  intro p l e R s m args below meth c ad cA G A H locs ls C hH hl
  obtain ⟨hx, hb, -, -, -, -, ho, -, hG⟩ := id C
  obtain ⟨Cn, T, N, h1, h2, h3⟩ := zfk_spec hf
  refine va_get (D := G) (ws := zws ad cA D) (Ts := zT) hx hb hG.ts (zcl_F h1).1 ho hG.2.2.1 hH.1 a (zws_at hs) h1 f h2 (hG.1 _ h3 rfl) (fun _ h => h) (v := zv ad v) ?_ hd (kk p l e R s m args below meth c ad cA G A H locs ls C hH hl)
  show (fl.mapIdx (fun k c => zfv ad D a k c))[f]? = _
  rw [List.getElem?_mapIdx, hk, ← hv ad]
  rfl
theorem z_getI {a ci f idx : Nat} {fl : List Nat} (hf : zfk (zown M) idx ci f = true) (hs : zSH[a]? = some (5, ci, fl)) (hk : fl[f]? = some 0) (hd : decode (zcc M) pc = .ok (.getfield idx, 3)) (kk : Z M k (pc + 3) L (.int (D.1 a f) :: st) D Q) : Z M k pc L (.ref a :: st) D Q := z_get hf hs hk (fun _ => rfl) hd kk
theorem z_getL {a ci f idx : Nat} {fl : List Nat} (hf : zfk (zown M) idx ci f = true) (hs : zSH[a]? = some (5, ci, fl)) (hk : fl[f]? = some 1) (hd : decode (zcc M) pc = .ok (.getfield idx, 3)) (kk : Z M k (pc + 3) L (.long (D.2 a f) :: st) D Q) : Z M k pc L (.ref a :: st) D Q := z_get hf hs hk (fun _ => rfl) hd kk
theorem z_getA {a ci f idx r : Nat} {fl : List Nat} (hf : zfk (zown M) idx ci f = true) (hs : zSH[a]? = some (5, ci, fl)) (hk : fl[f]? = some (r + 2)) (hd : decode (zcc M) pc = .ok (.getfield idx, 3)) (kk : Z M k (pc + 3) L (.ref r :: st) D Q) : Z M k pc L (.ref a :: st) D Q := z_get hf hs hk (fun _ => rfl) hd kk
theorem z_putI {a ci f idx : Nat} {fl : List Nat} {x : Int32} (hf : zfp (zown M) idx ci f .int = true) (hs : zSH[a]? = some (5, ci, fl)) (hk : fl[f]? = some 0) (hd : decode (zcc M) pc = .ok (.putfield idx, 3)) (kk : Z M k (pc + 3) L st (zuI D a f x) Q) : Z M k pc L (.int x :: .ref a :: st) D Q := by
  intro p l e R s m args below meth c ad cA G A H locs ls C hH hl
  obtain ⟨hx, hb, -, -, -, -, ho, -, hG⟩ := id C
  obtain ⟨Cn, T, N, h1, h2, h3, h4, h5⟩ := zfp_spec hf
  obtain ⟨w1, ⟨ty0, w2⟩, w3⟩ := zcl_F h1
  refine va_put (D := G) (ws := zws ad cA D) (Ts := zT) (v := .int x) (ty := .int) hx hb hG.ts w1 ty0 w2 w3 ho hG.2.2.1 hH.1 hH.2.1 hH.2.2 a (zws_at hs) h1 f h2 (hG.1 _ h3 rfl) (fun _ h => h) h4 h5 rfl rfl (by show f < (fl.mapIdx _).length; rw [List.length_mapIdx]; exact (List.getElem?_eq_some_iff.mp hk).1) hd (fun H1 locs1 g1 g2 g3 => ?_)
  have e1 := zws_uI (ad := ad) (cA := cA) (D := D) (v := x) hs hk
  refine kk p l e R s m args below meth c ad cA G A H1 locs1 ls C ⟨?_, ?_, g3⟩ hl
  · rw [← e1]; exact g1
  · rw [← e1]; exact g2
theorem z_putL {a ci f idx : Nat} {fl : List Nat} {x : Int64} (hf : zfp (zown M) idx ci f .long = true) (hs : zSH[a]? = some (5, ci, fl)) (hk : fl[f]? = some 1) (hd : decode (zcc M) pc = .ok (.putfield idx, 3)) (kk : Z M k (pc + 3) L st (zuL D a f x) Q) : Z M k pc L (.long x :: .ref a :: st) D Q := by
  intro p l e R s m args below meth c ad cA G A H locs ls C hH hl
  obtain ⟨hx, hb, -, -, -, -, ho, -, hG⟩ := id C
  obtain ⟨Cn, T, N, h1, h2, h3, h4, h5⟩ := zfp_spec hf
  obtain ⟨w1, ⟨ty0, w2⟩, w3⟩ := zcl_F h1
  refine va_put (D := G) (ws := zws ad cA D) (Ts := zT) (v := .long x) (ty := .long) hx hb hG.ts w1 ty0 w2 w3 ho hG.2.2.1 hH.1 hH.2.1 hH.2.2 a (zws_at hs) h1 f h2 (hG.1 _ h3 rfl) (fun _ h => h) h4 h5 rfl rfl (by show f < (fl.mapIdx _).length; rw [List.length_mapIdx]; exact (List.getElem?_eq_some_iff.mp hk).1) hd (fun H1 locs1 g1 g2 g3 => ?_)
  have e1 := zws_uL (ad := ad) (cA := cA) (D := D) (v := x) hs hk
  refine kk p l e R s m args below meth c ad cA G A H1 locs1 ls C ⟨?_, ?_, g3⟩ hl
  · rw [← e1]; exact g1
  · rw [← e1]; exact g2
theorem z_iald {a n : Nat} {r : List Nat} {i : Int32} (hs : zSH[a]? = some (0, n, r)) (hd : decode (zcc M) pc = .ok (.iaload, 1)) (hin : vp_in i n) (kk : Z M k (pc + 1) L (.int (D.1 a i.toNatClampNeg) :: st) D Q) : Z M k pc L (.int i :: .ref a :: st) D Q := by
  intro p l e R s m args below meth c ad cA G A H locs ls C hH hl
  exact va_iald (D := G) (ws := zws ad cA D) C.1 C.2.1 C.2.2.2.2.2.2.2.2.2.2.1 hH.1 a 0 (zws_at hs) rfl hin hd (kk p l e R s m args below meth c ad cA G A H locs ls C hH hl)
theorem z_bald {a n : Nat} {r : List Nat} {i : Int32} (hs : zSH[a]? = some (2, n, r)) (hd : decode (zcc M) pc = .ok (.baload, 1)) (hin : vp_in i n) (kk : Z M k (pc + 1) L (.int (D.1 a i.toNatClampNeg) :: st) D Q) : Z M k pc L (.int i :: .ref a :: st) D Q := by
  intro p l e R s m args below meth c ad cA G A H locs ls C hH hl
  exact va_bald (D := G) (ws := zws ad cA D) C.1 C.2.1 C.2.2.2.2.2.2.2.2.2.2.1 hH.1 a 2 (zws_at hs) rfl hin hd (kk p l e R s m args below meth c ad cA G A H locs ls C hH hl)
theorem z_lald {a n : Nat} {r : List Nat} {i : Int32} (hs : zSH[a]? = some (1, n, r)) (hd : decode (zcc M) pc = .ok (.laload, 1)) (hin : vp_in i n) (kk : Z M k (pc + 1) L (.long (D.2 a i.toNatClampNeg) :: st) D Q) : Z M k pc L (.int i :: .ref a :: st) D Q := by
  intro p l e R s m args below meth c ad cA G A H locs ls C hH hl
  exact va_lald (D := G) (ws := zws ad cA D) C.1 C.2.1 C.2.2.2.2.2.2.2.2.2.2.1 hH.1 a 1 (zws_at hs) rfl hin hd (kk p l e R s m args below meth c ad cA G A H locs ls C hH hl)
theorem z_iast {a n : Nat} {r : List Nat} {i x : Int32} (hs : zSH[a]? = some (0, n, r)) (hd : decode (zcc M) pc = .ok (.iastore, 1)) (hin : vp_in i n) (kk : Z M k (pc + 1) L st (zuI D a i.toNatClampNeg x) Q) : Z M k pc L (.int x :: .int i :: .ref a :: st) D Q := by
  intro p l e R s m args below meth c ad cA G A H locs ls C hH hl
  refine va_iast (D := G) (ws := zws ad cA D) C.1 C.2.1 C.2.2.2.2.2.2.2.2.2.2.1 hH.1 hH.2.1 hH.2.2 a 0 (zws_at hs) rfl hin hd (fun H1 locs1 g1 g2 g3 => ?_)
  have e1 := zws_set (ad := ad) (cA := cA) (D := D) (D' := zuI D a i.toNatClampNeg x) (e := .inl (cA 0, n, .inl (upd (D.1 a) i.toNatClampNeg x))) hs (by show (Sum.inl (cA 0, n, Sum.inl ((zuI D a i.toNatClampNeg x).1 a)) : va_E) = _; rw [zuI_s]) (fun b hb => if_neg hb) (fun _ _ => rfl)
  refine kk p l e R s m args below meth c ad cA G A H1 locs1 ls C ⟨?_, ?_, g3⟩ hl
  · rw [← e1]; exact g1
  · rw [← e1]; exact g2
theorem z_bast {a n : Nat} {r : List Nat} {i x : Int32} (hs : zSH[a]? = some (2, n, r)) (hd : decode (zcc M) pc = .ok (.bastore, 1)) (hin : vp_in i n) (kk : Z M k (pc + 1) L st (zuI D a i.toNatClampNeg x.toInt8.toInt32) Q) : Z M k pc L (.int x :: .int i :: .ref a :: st) D Q := by
  intro p l e R s m args below meth c ad cA G A H locs ls C hH hl
  refine va_bast (D := G) (ws := zws ad cA D) C.1 C.2.1 C.2.2.2.2.2.2.2.2.2.2.1 hH.1 hH.2.1 hH.2.2 a 2 (zws_at hs) rfl hin hd (fun H1 locs1 g1 g2 g3 => ?_)
  rw [vp_nar_byte] at g1 g2
  have e1 := zws_set (ad := ad) (cA := cA) (D := D) (D' := zuI D a i.toNatClampNeg x.toInt8.toInt32) (e := .inl (cA 2, n, .inl (upd (D.1 a) i.toNatClampNeg x.toInt8.toInt32))) hs (by show (Sum.inl (cA 2, n, Sum.inl ((zuI D a i.toNatClampNeg x.toInt8.toInt32).1 a)) : va_E) = _; rw [zuI_s]) (fun b hb => if_neg hb) (fun _ _ => rfl)
  refine kk p l e R s m args below meth c ad cA G A H1 locs1 ls C ⟨?_, ?_, g3⟩ hl
  · rw [← e1]; exact g1
  · rw [← e1]; exact g2
theorem z_last {a n : Nat} {r : List Nat} {i : Int32} {x : Int64} (hs : zSH[a]? = some (1, n, r)) (hd : decode (zcc M) pc = .ok (.lastore, 1)) (hin : vp_in i n) (kk : Z M k (pc + 1) L st (zuL D a i.toNatClampNeg x) Q) : Z M k pc L (.long x :: .int i :: .ref a :: st) D Q := by
  intro p l e R s m args below meth c ad cA G A H locs ls C hH hl
  refine va_last (D := G) (ws := zws ad cA D) C.1 C.2.1 C.2.2.2.2.2.2.2.2.2.2.1 hH.1 hH.2.1 hH.2.2 a 1 (zws_at hs) rfl hin hd (fun H1 locs1 g1 g2 g3 => ?_)
  have e1 := zws_set (ad := ad) (cA := cA) (D := D) (D' := zuL D a i.toNatClampNeg x) (e := .inl (cA 1, n, .inr (.inl (vp_updL (D.2 a) i.toNatClampNeg x)))) hs (by show (Sum.inl (cA 1, n, Sum.inr (Sum.inl ((zuL D a i.toNatClampNeg x).2 a))) : va_E) = _; rw [zuL_s]) (fun _ _ => rfl) (fun b hb => if_neg hb)
  refine kk p l e R s m args below meth c ad cA G A H1 locs1 ls C ⟨?_, ?_, g3⟩ hl
  · rw [← e1]; exact g1
  · rw [← e1]; exact g2
theorem z_alen {a n : Nat} {r : List Nat} {v : Int32} (hs : zSH[a]? = some (0, n, r)) (hd : decode (zcc M) pc = .ok (.arraylength, 1)) (hv : Int32.ofNat n = v) (kk : Z M k (pc + 1) L (.int v :: st) D Q) : Z M k pc L (.ref a :: st) D Q := by
  intro p l e R s m args below meth c ad cA G A H locs ls C hH hl
  exact va_alen (D := G) (ws := zws ad cA D) C.1 C.2.1 C.2.2.2.2.2.2.2.2.2.2.1 hH.1 a 0 (zws_at hs) (ty := .int) rfl hv hd (kk p l e R s m args below meth c ad cA G A H locs ls C hH hl)
theorem z_aald {a n j r : Nat} {rs : List Nat} {i : Int32} (hs : zSH[a]? = some (3, n, rs)) (hd : decode (zcc M) pc = .ok (.aaload, 1)) (hin : vp_in i n) (hj : i.toNatClampNeg = j) (hr : rs[j]? = some r) (kk : Z M k (pc + 1) L (.ref r :: st) D Q) : Z M k pc L (.int i :: .ref a :: st) D Q := by
  intro p l e R s m args below meth c ad cA G A H locs ls C hH hl
  have hlt : i.toNatClampNeg < n := Nat.not_le.mp fun q => hin (Or.inr q)
  have hcell : H[ad a]? = some (vp_cell (cA 3) (n, .inr (.inr (.inr (.inr (fun i => (rs[i]?).map ad)))))) := hH.1 a _ (zws_at hs)
  refine W.aald (v := .ref (ad r)) (ty := .array .int) C.1 C.2.1 hcell ((C.2.2.2.2.2.2.2.2.2.2.1.2 3 _ rfl).1 n (fun j => va_rf ((rs[j]?).map ad))) rfl (fun q => by cases q) (by show ¬ (i < 0 ∨ (arrV _ _ _).slots.size ≤ _); rw [arrV_size]; exact hin) (by show (arrV _ _ _).slots[_]? = _; rw [arrV_read _ _ hlt, hj]; show some (va_rf ((rs[j]?).map ad)) = _; rw [hr]; rfl) rfl rfl hd (kk p l e R s m args below meth c ad cA G A H locs ls C hH hl)
theorem z_oald {a n j r : Nat} {rs : List Nat} {i : Int32} (hs : zSH[a]? = some (4, n, rs)) (hd : decode (zcc M) pc = .ok (.aaload, 1)) (hin : vp_in i n) (hj : i.toNatClampNeg = j) (hr : rs[j]? = some r) (kk : Z M k (pc + 1) L (.ref r :: st) D Q) : Z M k pc L (.int i :: .ref a :: st) D Q := by
  intro p l e R s m args below meth c ad cA G A H locs ls C hH hl
  have hlt : i.toNatClampNeg < n := Nat.not_le.mp fun q => hin (Or.inr q)
  have hcell : H[ad a]? = some (vp_cell (cA 4) (n, .inr (.inr (.inr (.inr (fun i => (rs[i]?).map ad)))))) := hH.1 a _ (zws_at hs)
  refine W.aald (v := .ref (ad r)) (ty := .object "SoundPacker$Subframe") C.1 C.2.1 hcell ((C.2.2.2.2.2.2.2.2.2.2.1.2 4 _ rfl).1 n (fun j => va_rf ((rs[j]?).map ad))) rfl (fun q => by cases q) (by show ¬ (i < 0 ∨ (arrV _ _ _).slots.size ≤ _); rw [arrV_size]; exact hin) (by show (arrV _ _ _).slots[_]? = _; rw [arrV_read _ _ hlt, hj]; show some (va_rf ((rs[j]?).map ad)) = _; rw [hr]; rfl) rfl rfl hd (kk p l e R s m args below meth c ad cA G A H locs ls C hH hl)
theorem z_gets {idx : Nat} (hf : Cond.fieldLink (zown M) idx RX3 "FIXED_COEFFICIENTS" "[I" ∈ lw_tbl) (hd : decode (zcc M) pc = .ok (.getstatic idx, 3)) (kk : Z M k (pc + 3) L (.ref 66 :: st) D Q) : Z M k pc L st D Q := by
  intro p l e R s m args below meth c ad cA G A H locs ls C hH hl
  obtain ⟨hx, hb, -, -, -, -, ho, -, hG⟩ := id C
  exact va_gets hx hb hG.2.2.2.1.2.2.2.2.2.2.1 hH.2.2 ho (hG.1 _ hf rfl) (fun _ h => h) hd (kk p l e R s m args below meth c ad cA G A H locs ls C hH hl)
theorem z_ifix {i : Int32} (hd : decode (zcc M) pc = .ok (.iaload, 1)) (hin : vp_in i 10) (kk : Z M k (pc + 1) L (.int (([1, 2, -1, 3, -3, 1, 4, -6, 4, -1] : List Int32).getD i.toNatClampNeg 0) :: st) D Q) : Z M k pc L (.int i :: .ref 66 :: st) D Q := by
  intro p l e R s m args below meth c ad cA G A H locs ls C hH hl
  obtain ⟨hx, hb, -, -, -, -, ho, -, hG⟩ := id C
  exact va_ti hx hb hG.2.2.2.1.2.2.2.2.2.2.2 hH.2.2 hin rfl hd (kk p l e R s m args below meth c ad cA G A H locs ls C hH hl)
end ZHEAP
end
section
/-! ===== methods by contract, calls, throws ===== -/
/-- a method's own: owner, bytes, locals, answer, handlers -/
abbrev zI : Type := String × ByteArray × Nat × Option FieldType × List (Nat × Nat × Nat × Nat)
abbrev zmk (I : zI) (d : Nat) : zM := (I.1, I.2.1, I.2.2.1, I.2.2.2.1, I.2.2.2.2, d, 2, 0, 0)
def zcw (y : MethodName) (I : zI) : Cond := match I.2.2.2.2 with
  | [] => .code y I.2.1 I.2.2.1 I.2.2.2.1
  | hh => .codeWith y I.2.1 I.2.2.1 I.2.2.2.1 hh
def zroom (d : Nat) : Room := { frames := d + 8, cells := 2, slots := 12, locals := 64 * d + 150 }
def zA (ad : Nat → Nat) (sz : Nat) : Nat → Prop := fun q => (∃ k, k < 66 ∧ q = ad k) ∨ sz ≤ q
theorem zSH_len : zSH.length = 66 := by decide +kernel
def zPre (l : Launch) (ad : Nat → Nat) (cA : Nat → ClassId) (G : va_G) (sz : Nat) (av : List Value) (D : zD) : Array Value → State → Prop := fun v U =>
  v = (av.map (zv ad)).toArray ∧ U.heap.size = sz ∧ l.stackTraces = false ∧ va_K G zcl (ztys cA) U ∧ zO (zA ad sz) ad U U.heap ∧ va_P G zcl (zws ad cA D) U.heap ∧ va_D (zA ad sz) (zws ad cA D)
/-- the method y, called with these values and numbers, ends, and Q -/
def ZM (y : MethodName) (I : zI) (d : Nat) (av : List Value) (D : zD) (Q : zQ) : Prop :=
  ∀ (l : Launch) (ad : Nat → Nat) (cA : Nat → ClassId) (G : va_G) (sz : Nat), MetFree l y (headSpec (zcw y I :: zT) (zroom d)) (zPre l ad cA G sz av D) (fun _ _ _ _ _ => True) (zPost ad cA G (zA ad sz) 0 0 Q)
def zargs (av : List Value) : zLo := fun i => ((lv_args 0 av).find? (fun q => q.1 == i)).map (·.2)
theorem lv_args_map (ad : Nat → Nat) : ∀ (av : List Value) (i : Nat), lv_args i (av.map (zv ad)) = (lv_args i av).map (fun q => (q.1, zv ad q.2))
  | [], _ => rfl
  | v :: av, i => by
    show (i, zv ad v) :: lv_args (if (zv ad v).category = 2 then i + 2 else i + 1) (av.map (zv ad)) = _
    rw [zv_cat, lv_args_map ad av]
    rfl
theorem zcw_code {y : MethodName} {I : zI} {args : Array Value} {s : State} {mk : MethodId} (h : (zcw y I).before args s = true) (hn : s.methodNamed? y = some mk) :
    ∃ meth c, s.vm.method? mk = some meth ∧ meth.code = some c ∧ c.code = I.2.1 ∧ c.maxLocals = I.2.2.1 ∧ meth.sig.returnType = I.2.2.2.1 ∧ meth.locks = false ∧ c.exceptionTable.toList = tableOf I.2.2.2.2 := by
  unfold zcw at h
  split at h
  next h0 =>
    obtain ⟨meth, c, h1, h2, h3, h4, h5, h6, h7, -⟩ := Cond.code_spec hn h
    refine ⟨meth, c, h1, h2, h3, h4, h5, h6, ?_⟩
    rw [h0, Array.isEmpty_iff.mp h7]
    rfl
  next hh h0 =>
    obtain ⟨m9, meth, c, hn9, h1, h2, h3, h4, h6, h5, h7, -⟩ := Cond.codeWith_spec h
    cases hn.symm.trans hn9
    refine ⟨meth, c, h1, h2, h3, h4, h5, h7, ?_⟩
    rw [← h6, table_eq]
theorem z_method {y : MethodName} {I : zI} {d : Nat} {av : List Value} {D : zD} {Q : zQ} (hy : plainName y.cls = true) (ho : y.cls = I.1) (hn : (lg_sl av).length ≤ I.2.2.1)
    (h : Z (zmk I d) 0 0 (zargs av) [] D Q) : ZM y I d av D Q := by
  intro l ad cA G sz
  refine MetFree.of_bodyS (code := I.2.1) (maxLocals := I.2.2.1) (ret := I.2.2.2.1) hy ?_ ?_
  · intro args s m hp hnm
    obtain ⟨meth, c, h1, h2, h3, h4, h5, h6, -⟩ := zcw_code (atoms_spec (ws := zcw y I :: zT) hp _ List.mem_cons_self) hnm
    exact ⟨meth, c, h1, h2, h3, h4, h5, h6⟩
  · intro p e s m args below meth c s₁ B hml hP _
    obtain ⟨rfl, hsz, htr, hK, hO, hPP, hDD⟩ := hP
    have hh0 : s₁.heap = s.heap := by rw [B.state]; rfl
    have hts := atoms_spec (ws := zcw y I :: zT) B.pre
    obtain ⟨meth9, c9, h1, h2, h3, h4, h5, h6, h7⟩ := zcw_code (hts _ List.mem_cons_self) B.named
    cases Option.some.inj (h1.symm.trans B.method)
    cases Option.some.inj (h2.symm.trans (Stand.of_body B).code)
    have hown : s.vm.findClass I.1 = some m.cls := by rw [← ho]; exact findClass_of_methodNamed B.named
    have hC : zC p l (zroom d) s m (av.map (zv ad)).toArray meth c ad cA G (zA ad sz) (zmk I d) :=
      ⟨B.exec, B.bytes, B.returns, hml, h7, B.notSynchronized, hown, ⟨Nat.le_refl _, Nat.le_refl _, Nat.le_refl _, Nat.le_refl _⟩,
        fun w hw hg => hts w (List.mem_cons_of_mem _ (zT_of hw hg)), htr, hK, hO, fun q hq => Or.inr (by rw [← hsz]; exact hq)⟩
    have hl := lv_entry (av.map (zv ad)) (n := I.2.2.1) (by
      have e1 : (lg_sl (av.map (zv ad))).length = (lg_sl av).length := by
        clear hn h hPP hDD hts hC B hml hO
        induction av with
        | nil => rfl
        | cons v av ih =>
          simp only [lg_sl, List.map_cons, List.flatMap_cons, List.length_append, zv_cat] at ih ⊢
          rw [ih]
          by_cases hc : v.category = 2
          · simp [hc]
          · simp [hc]
      rw [e1]; exact hn)
    rw [lg_entry_eq]
    have hL : zL ad (zargs av) I.2.2.1 (lg_sl (av.map (zv ad)) ++ List.replicate (I.2.2.1 - (lg_sl (av.map (zv ad))).length) Slot.unset).toArray := by
      refine ⟨hl.1, hl.2.1, fun i v hv => ?_⟩
      unfold zargs at hv
      cases hf : (lv_args 0 av).find? (fun q => q.1 == i) with
      | none => rw [hf] at hv; cases hv
      | some q =>
        rw [hf] at hv
        cases hv
        have e1 : q.1 = i := by simpa using List.find?_some hf
        have e2 := List.mem_of_find?_eq_some hf
        have e3 : (q.1, zv ad q.2) ∈ lv_args 0 (av.map (zv ad)) := by
          rw [lv_args_map]
          exact List.mem_map.mpr ⟨q, e2, rfl⟩
        rw [← e1]
        exact hl.2.2 _ e3
    obtain ⟨t, a1, o, b1, b2, b3⟩ := h p l e (zroom d) s m _ below meth c ad cA G (zA ad sz) s.heap [] _ hC ⟨hPP, hDD, va_S.rf⟩ hL s₁ hh0 (Stand.of_body B)
    exact ⟨t, o, a1, b1, b2, b3⟩
end
section
/-! ===== a call: the callee answers or throws ===== -/
def zBpre (R : Room) (Pc : Array Value → State → Prop) : Pt → Array Value → Prop := fun A a => A.cells + 2 ≤ R.cells ∧ A.slots + 12 ≤ R.slots ∧ Pc a A.U
/-- what is known behind a call, whichever way it ended -/
def zBk (ad : Nat → Nat) (cA : Nat → ClassId) (G : va_G) (F : Nat → Prop) (Q : zQ) (o : Outcome) (A : Pt) (B : Pt) : Prop :=
  ∃ (st₀ t : State) (k : Nat) (D : zD) (L : List Loc), st₀.heap = A.U.heap ∧ st₀.vm = A.U.vm ∧ B.U.heap = t.heap ∧ B.U.vm = t.vm ∧ zOut ad st₀ t Q o k D ∧ va_P G zcl (zws ad cA D) t.heap ∧ va_D F (zws ad cA D) ∧ va_F F st₀ t ∧ B.locs = A.locs ++ L ∧ (∀ z ∈ L, F z.base) ∧ B.cells = A.cells + k ∧ B.slots = A.slots + 6 * k
section ZBACK
variable {l : Launch} {R : Room} {p : Program} {e : Env} {below : List Frame} {s : State} {sargs : Array Value} {y : MethodName} {len : Nat}
theorem zback {I : zI} {d sz : Nat} {av : List Value} {D : zD} {Q : zQ} {ad : Nat → Nat} {cA : Nat → ClassId} {G : va_G}
    (hM : ZM y I d av D Q) (hframes : d + 9 ≤ R.frames) (hlocals : 8 + (I.2.2.1 + 11) + (64 * d + 150) ≤ R.locals)
    (hws : ∀ w ∈ zcw y I :: zT, ∀ a' U, s.WarmedH U.vm → w.before a' U = true) (hinit : ∀ a' U, s.WarmedH U.vm → (Cond.initialized y.cls).before a' U = true) :
    vx_Back l R p e below s sargs y len 8 (zBpre R (zPre l ad cA G sz av D)) (fun A _ v B => zBk ad cA G (zA ad sz) Q (.returned v) A B) (fun A _ q B => zBk ad cA G (zA ad sz) Q (.threw q) A B) := by
  intro m meth c A g ig mk a X hg hsize hdg hW hn hp
  have h1 : (headSpec (zcw y I :: zT) (zroom d)).pre.before a A.U = true := atoms_intro fun w hw => hws w hw _ _ X.warmed
  have h2 : (zcw y I).before a A.U = true := hws _ List.mem_cons_self _ _ X.warmed
  have h3 : (Cond.initialized y.cls).before a A.U = true := hinit _ _ X.warmed
  have h4 : A.cells + (headSpec (zcw y I :: zT) (zroom d)).room.cells ≤ R.cells := hp.1
  have h5 : A.slots + (headSpec (zcw y I :: zT) (zroom d)).room.slots ≤ R.slots := hp.2.1
  have hPc : zPre l ad cA G sz av D a (A.U.calling g mk a) := by
    obtain ⟨q1, q2, q3, q4, q5, q6, q7⟩ := hp.2.2
    exact ⟨q1, q2, q3, va_K.moved (u := A.U) (U := A.U.calling g mk a) (Vm.Alike.refl A.U.vm) q4, q5.same rfl, q6, q7⟩
  obtain ⟨U, Ls, c0, s0⟩ := A
  dsimp only [Pt.U, Pt.locs, Pt.cells, Pt.slots] at h1 h2 h3 h4 h5 X hn hPc ⊢
  obtain ⟨methY, cY, hmY, hcY, -, hlY, -, -, -⟩ := zcw_code h2 hn
  obtain ⟨kY, hkY, -⟩ := className_of_methodNamed hn
  have hinitY : kY.init = .initialized := Cond.initialized_spec (findClass_of_methodNamed hn) hkY h3
  have h : At U g.method c below := by rw [hg]; exact X.here
  have happ : (headSpec (zcw y I :: zT) (zroom d)).appliesLoose y e.platform (U.calling g mk a) = true :=
    Spec.appliesLoose_calling (g := g) h hdg hn hkY hinitY
      (X.room_calling (g := g) (R' := (headSpec (zcw y I :: zT) (zroom d)).room) hsize hmY hcY hframes (by
        rw [hlY]
        show _ + (64 * d + 150) ≤ _
        omega) h4 h5) h1
  obtain ⟨mid, hmid⟩ := h.above
  have hfr : (U.setTop g).frames = (.java g :: mid) ++ below := by rw [State.frames_setTop' g h.top, hmid]; rfl
  obtain ⟨o, s₂, hsteps, -, hend, hq⟩ := Steps.callFree (hM l ad cA G sz) p X.admits X.cas X.clock (acts := []) hfr happ hPc trivial
  rw [State.frames_setTop' g h.top] at hend
  obtain ⟨g₀, hg0⟩ := Option.isSome_iff_exists.mp h.top
  obtain ⟨r, hr⟩ := State.topJava?_eq_some.mp hg0
  have hr' : (({ U with heap := s₂.heap, slotsUsed := s₂.slotsUsed } : State).setVm s₂.vm).frames = .java g₀ :: r := hr
  have hq' : zPost ad cA G (zA ad sz) 0 0 Q a (U.calling g mk a) o s₂ := hq
  obtain ⟨k, D', L, hO, hP2, hD2, hF2, hW₂, hsm, hL⟩ := hq'
  rw [Nat.zero_add, Nat.zero_add] at hsm
  obtain ⟨e2, q2, q3, q4, q5, q6⟩ := id hsm
  have e3 : s₂ = ({ (U.calling g mk a).setFrames s₂.frames with heap := s₂.heap, slotsUsed := s₂.slotsUsed } : State).setVm s₂.vm := by
    have : s₂ = ({ s₂ with vm := (U.calling g mk a).vm } : State).setVm s₂.vm := rfl
    rw [e2] at this
    exact this
  have hW' : U.WarmedH s₂.vm := hW₂
  have hsame : U.sameButNew ({ U with heap := s₂.heap, slotsUsed := s₂.slotsUsed } : State) L k (6 * k) := by
    refine ⟨?_, q2, q3, q4, q5, q6⟩
    obtain ⟨t, ht, -⟩ := State.frames_cons hr
    show ({ U with heap := s₂.heap, slotsUsed := s₂.slotsUsed } : State) = { U.setFrames U.frames with heap := s₂.heap, slotsUsed := s₂.slotsUsed }
    rw [State.setFrames_self ht]
  cases o with
  | returned v =>
    obtain ⟨c₂, i₂, len₂, hc₂, hd₂, hf₂⟩ := hend
    have hcc : c₂ = c := by
      have h1 : s₂.code? g.method = U.code? g.method := by
        rw [State.code?_eq, State.code?_eq, hW'.alike.method?]
      exact Option.some.inj (hc₂.symm.trans (h1.trans h.code))
    subst hcc
    have hlen : len₂ = len := by rw [hdg] at hd₂; cases hd₂; rfl
    subst hlen
    have hs₂ : s₂ = (({ U with heap := s₂.heap, slotsUsed := s₂.slotsUsed } : State).setVm s₂.vm).setTop { g with pc := g.pc + len₂, stack := v.toList ++ g.stack } := by
      refine e3.trans ?_
      rw [hf₂, State.calling_eq h.top, State.setFrames_setFrames, State.setTop_of_frames _ hr', hr]
      rfl
    subst hg
    refine Or.inl ⟨v, ⟨(({ U with heap := s₂.heap, slotsUsed := s₂.slotsUsed } : State).setVm s₂.vm), Ls ++ L, c0 + k, s0 + 6 * k⟩,
      ⟨X.admits, X.cas, X.clock, X.frames, X.room, X.hears, X.method, X.code, (X.here.setHeapUsed s₂.heap s₂.slotsUsed).setVm hW'.alike, X.tail, State.WarmedH.trans X.warmed hW', X.limits, X.bytes, X.same.trans (hsame.setVm s.vm)⟩,
      ⟨U.calling g mk a, s₂, k, D', L, rfl, rfl, rfl, rfl, hO, hP2, hD2, hF2, rfl, hL, rfl, rfl⟩, ?_⟩
    show Steps p.tables e below _ ((({ U with heap := s₂.heap, slotsUsed := s₂.slotsUsed } : State).setVm s₂.vm).setTop { g with pc := g.pc + len₂, stack := v.toList ++ g.stack })
    rw [← hs₂]
    exact hsteps
  | threw q =>
    have hf₂ : s₂.frames = .throwing q :: .java g :: U.frames.tail := hend
    have hs₂ : s₂ = ((({ U with heap := s₂.heap, slotsUsed := s₂.slotsUsed } : State).setVm s₂.vm).setTop g).pushFrame (.throwing q) := by
      refine e3.trans ?_
      rw [hf₂, State.calling_eq h.top, State.setFrames_setFrames, State.pushFrame, State.frames_setTop _ hr', State.setTop_of_frames _ hr', State.setFrames_setFrames, hr]
      rfl
    subst hg
    refine Or.inr ⟨q, ⟨(({ U with heap := s₂.heap, slotsUsed := s₂.slotsUsed } : State).setVm s₂.vm), Ls ++ L, c0 + k, s0 + 6 * k⟩,
      ⟨X.admits, X.cas, X.clock, X.frames, X.room, X.hears, X.method, X.code, (X.here.setHeapUsed s₂.heap s₂.slotsUsed).setVm hW'.alike, X.tail, State.WarmedH.trans X.warmed hW', X.limits, X.bytes, X.same.trans (hsame.setVm s.vm)⟩,
      ⟨U.calling g mk a, s₂, k, D', L, rfl, rfl, rfl, rfl, hO, hP2, hD2, hF2, rfl, hL, rfl, rfl⟩, ?_⟩
    show Steps p.tables e below _ (((({ U with heap := s₂.heap, slotsUsed := s₂.slotsUsed } : State).setVm s₂.vm).setTop g).pushFrame (.throwing q))
    rw [← hs₂]
    exact hsteps
end ZBACK
/-- the callee's side of a call, as the caller's context gives it -/
theorem zpre_of {p : Program} {l : Launch} {R : Room} {s : State} {m : MethodId} {args : Array Value} {meth : Method} {c : Code} {ad : Nat → Nat} {cA : Nat → ClassId} {G : va_G} {A : Nat → Prop} {M : zM} {D : zD} {H : Heap} {locs : List Loc}
    (C : zC p l R s m args meth c ad cA G A M) (hH : zH ad cA G A s D H locs) (av : List Value) {U : State} (hU : U.heap = H) (hW : s.WarmedH U.vm) : zPre l ad cA G H.size av D (av.map (zv ad)).toArray U := by
  obtain ⟨-, -, -, -, -, -, -, -, hG⟩ := C
  obtain ⟨-, htr, hK, hO, hA⟩ := hG
  have hin : ∀ q, zA ad H.size q → A q := by
    intro q hq
    rcases hq with ⟨j, hj, rfl⟩ | hq
    · have hj2 : j < zSH.length := by rw [zSH_len]; exact hj
      exact hH.2.1.2 j _ (zws_at (List.getElem?_eq_getElem hj2))
    · exact hA q (Nat.le_trans hH.2.2.1 hq)
  refine ⟨rfl, by rw [hU], htr, hK.moved hW.alike, ?_, by rw [hU]; exact hH.1, ⟨hH.2.1.1, fun j q hq => ?_⟩⟩
  · rw [hU]
    exact ((hO.kept (fun a h1 h2 => hH.2.2.2.1 a h1 h2)).warm hW).narrow hin
  · have hj2 : j < 66 := by
      rw [← zSH_len]
      have h3 := (List.getElem?_eq_some_iff.mp hq).1
      unfold zws at h3
      rw [List.length_mapIdx] at h3
      exact h3
    have hj3 : j < zSH.length := by rw [zSH_len]; exact hj2
    rw [zws_at (List.getElem?_eq_getElem hj3)] at hq
    cases hq
    exact Or.inl ⟨j, hj2, rfl⟩
theorem zin {p : Program} {l : Launch} {R : Room} {s : State} {m : MethodId} {args : Array Value} {meth : Method} {c : Code} {ad : Nat → Nat} {cA : Nat → ClassId} {G : va_G} {A : Nat → Prop} {M : zM} {D : zD} {H : Heap} {locs : List Loc}
    (C : zC p l R s m args meth c ad cA G A M) (hH : zH ad cA G A s D H locs) : ∀ q, zA ad H.size q → A q := by
  intro q hq
  rcases hq with ⟨j, hj, rfl⟩ | hq
  · have hj2 : j < zSH.length := by rw [zSH_len]; exact hj
    exact hH.2.1.2 j _ (zws_at (List.getElem?_eq_getElem hj2))
  · exact C.2.2.2.2.2.2.2.2.2.2.2.2 q (Nat.le_trans hH.2.2.1 hq)
/-- the caller's world behind a call -/
theorem zafter {p : Program} {l : Launch} {R : Room} {s : State} {m : MethodId} {args : Array Value} {meth : Method} {c : Code} {ad : Nat → Nat} {cA : Nat → ClassId} {G : va_G} {A : Nat → Prop} {M : zM} {D D' : zD} {H : Heap} {locs L : List Loc} {st₀ t : State}
    (C : zC p l R s m args meth c ad cA G A M) (hH : zH ad cA G A s D H locs) (h0 : st₀.heap = H) (hP : va_P G zcl (zws ad cA D') t.heap) (hD : va_D (zA ad H.size) (zws ad cA D')) (hF : va_F (zA ad H.size) st₀ t) (hL : ∀ z ∈ L, zA ad H.size z.base) : zH ad cA G A s D' t.heap (locs ++ L) := by
  have hin := zin C hH
  refine ⟨hP, hD.weaken (fun _ q _ h => hin _ h), ?_, ?_, ?_⟩
  · have := hF.1
    rw [h0] at this
    exact Nat.le_trans hH.2.2.1 this
  · intro q h1 h2
    have h3 := hF.2 q (by rw [h0]; exact Nat.lt_of_lt_of_le h1 hH.2.2.1) (fun z => h2 (hin q z))
    rw [h3, h0]
    exact hH.2.2.2.1 q h1 h2
  · intro z hz
    rcases List.mem_append.mp hz with h | h
    · exact hH.2.2.2.2 z h
    · exact hin _ (hL z h)
/-- the words of a call: of the callee (kind 0: an object's, 1: a static one, 2: a nest mate's static one) -/
def zcall (own : String) (idx : Nat) (kind : Nat) (y : MethodName) (I : zI) (n : Nat) : Bool :=
  decide (zcw y I ∈ lw_tbl) && goodWord (zcw y I) && decide (Cond.initialized y.cls ∈ lw_tbl) && decide (I.2.2.1 ≤ 45) && decide (y.cls ≠ "java/lang/invoke/MethodHandle") && decide (y.cls ≠ "java/lang/invoke/VarHandle") &&
  decide ((parseMethodDescriptor y.desc).map (fun d => d.parameters.length) = some n) && match kind with
  | 0 => decide (Cond.methodLink own idx y ∈ lw_tbl) && decide (Cond.instanceMethod y ∈ lw_tbl) && decide (Cond.selects y.cls y y ∈ lw_tbl)
  | 1 => decide (Cond.methodLink own idx y ∈ lw_tbl) && decide (Cond.static y ∈ lw_tbl)
  | _ => decide (Cond.methodLinkNest own idx y RX8 ∈ lw_tbl) && decide (Cond.static y ∈ lw_tbl)
theorem zcall_spec {own : String} {idx kind : Nat} {y : MethodName} {I : zI} {n : Nat} (h : zcall own idx kind y I n = true) :
    zcw y I ∈ lw_tbl ∧ goodWord (zcw y I) = true ∧ Cond.initialized y.cls ∈ lw_tbl ∧ I.2.2.1 ≤ 45 ∧ (y.cls ≠ "java/lang/invoke/MethodHandle" ∧ y.cls ≠ "java/lang/invoke/VarHandle") ∧ (∀ sig, parseMethodDescriptor y.desc = some sig → n = sig.parameters.length) ∧
    (kind = 0 → Cond.methodLink own idx y ∈ lw_tbl ∧ Cond.instanceMethod y ∈ lw_tbl ∧ Cond.selects y.cls y y ∈ lw_tbl) ∧ (kind = 1 → Cond.methodLink own idx y ∈ lw_tbl ∧ Cond.static y ∈ lw_tbl) ∧ (kind = 2 → Cond.methodLinkNest own idx y RX8 ∈ lw_tbl ∧ Cond.static y ∈ lw_tbl) := by
  unfold zcall at h
  simp only [Bool.and_eq_true, decide_eq_true_eq] at h
  obtain ⟨⟨⟨⟨⟨⟨⟨h1, h2⟩, h3⟩, h4⟩, h5⟩, h6⟩, h7⟩, h8⟩ := h
  refine ⟨h1, h2, h3, h4, ⟨h5, h6⟩, fun sig hs => ?_, fun hk => ?_, fun hk => ?_, fun hk => ?_⟩
  · rw [hs] at h7
    exact (Option.some.inj h7).symm
  · subst hk
    simp only [Bool.and_eq_true, decide_eq_true_eq] at h8
    exact ⟨h8.1.1, h8.1.2, h8.2⟩
  · subst hk
    simp only [Bool.and_eq_true, decide_eq_true_eq] at h8
    exact h8
  · subst hk
    simp only [Bool.and_eq_true, decide_eq_true_eq] at h8
    exact h8
theorem zcw_cases (y : MethodName) (I : zI) : (I.2.2.2.2 = [] ∧ zcw y I = .code y I.2.1 I.2.2.1 I.2.2.2.1) ∨ zcw y I = .codeWith y I.2.1 I.2.2.1 I.2.2.2.1 I.2.2.2.2 := by
  unfold zcw
  split
  next h => exact Or.inl ⟨h, rfl⟩
  next hh h => exact Or.inr rfl
theorem zcategory_map (ad : Nat → Nat) (st : List Value) : ((st.map (zv ad)).map fun v => v.category).sum = (st.map fun v => v.category).sum := by
  rw [List.map_map]
  congr 1
  apply List.map_congr_left
  intro v _
  exact zv_cat ad v
section ZCALLS
variable {M : zM} {k pc : Nat} {L : zLo} {st stk : List Value} {D : zD} {Q Q' : zQ} {y : MethodName} {I : zI} {d idx n : Nat} {av : List Value}
theorem zgo {p : Program} {l : Launch} {e : Env} {R : Room} {s : State} {m : MethodId} {args : Array Value} {below : List Frame} {meth : Method} {c : Code} {ad : Nat → Nat} {cA : Nat → ClassId} {G : va_G} {A : Nat → Prop} {H : Heap} {locs : List Loc} {ls : Array Slot} {T : State} {argsL : Array Value}
    (hk : k + 2 ≤ zcap M) (kr : ∀ v k' D', Q' (.inl v) k' D' → Z M (k + k') (pc + 3) L (v.toList ++ st) D' Q) (kx : ∀ E k' D', Q' (.inr E) k' D' → ZX M (k + k') pc L E D' Q)
    (C : zC p l R s m args meth c ad cA G A M) (hH : zH ad cA G A s D H locs) (hl : zL ad L (znL M) ls) (hT : T.heap = H) (X : Stand p l e R s m args below meth c T locs (zb1 M + k) (zb2 M + 6 * k)) {g : JFrame} (hg : g = F0 m pc ls (stk.map (zv ad)))
    (h : (∃ (v : Option Value) (vm₁ : Vm) (B : Pt), s.WarmedH vm₁ ∧ Stand p l e R s m args below meth c B.U B.locs B.cells B.slots ∧ zBk ad cA G (zA ad H.size) Q' (.returned v) ⟨T.setVm vm₁, locs, zb1 M + k, zb2 M + 6 * k⟩ B ∧
      ∀ target, Steps p.tables e below (B.U.setTop { g with pc := g.pc + 3, stack := v.toList ++ st.map (zv ad) }) target → Steps p.tables e below (T.setTop g) target) ∨
    (∃ (q : Addr) (vm₁ : Vm) (B : Pt), s.WarmedH vm₁ ∧ Stand p l e R s m args below meth c B.U B.locs B.cells B.slots ∧ zBk ad cA G (zA ad H.size) Q' (.threw q) ⟨T.setVm vm₁, locs, zb1 M + k, zb2 M + 6 * k⟩ B ∧
      Steps p.tables e below (T.setTop g) ((B.U.setTop { g with stack := st.map (zv ad) }).pushFrame (.throwing q)))) :
    ∃ t, Steps p.tables e below (T.setTop g) t ∧ zEnd below args s ad cA G A M Q t := by
  subst hg
  rcases h with ⟨v, vm₁, ⟨U, l2, c2, s2⟩, hW₁, X', ⟨st₀, t, k', D', Lo, h0, hv0, e1, e2, hO, hP, hD, hF, r1, r2, r3, r4⟩, hs⟩ | ⟨q, vm₁, ⟨U, l2, c2, s2⟩, hW₁, X', ⟨st₀, t, k', D', Lo, h0, hv0, e1, e2, hO, hP, hD, hF, r1, r2, r3, r4⟩, hs⟩
  · dsimp only [Pt.U, Pt.locs, Pt.cells, Pt.slots] at X' h0 hv0 e1 e2 r1 r3 r4 hs
    subst r1; subst r3; subst r4
    rcases hO with ⟨v', hv, hq⟩ | ⟨q, E, ce, hv, -⟩
    · cases hv
      have hH' := zafter C hH (show st₀.heap = H from h0.trans hT) hP hD hF r2
      have hst : (Option.map (zv ad) v').toList ++ st.map (zv ad) = (v'.toList ++ st).map (zv ad) := by cases v' <;> rfl
      rw [hst] at hs
      obtain ⟨t2, a1, b1⟩ := kr v' k' D' hq p l e R s m args below meth c ad cA G A t.heap (locs ++ Lo) ls C hH' hl U e1 (by
        rw [← Nat.add_assoc, Nat.mul_add, ← Nat.add_assoc]
        exact X')
      exact ⟨t2, hs t2 a1, b1⟩
    · cases hv
  · dsimp only [Pt.U, Pt.locs, Pt.cells, Pt.slots] at X' h0 hv0 e1 e2 r1 r3 r4 hs
    subst r1; subst r3; subst r4
    rcases hO with ⟨v', hv, -⟩ | ⟨q', E, ce, hv, hc1, hc2, hc3, hq⟩
    · cases hv
    · cases hv
      have hH' := zafter C hH (show st₀.heap = H from h0.trans hT) hP hD hF r2
      have hcl : s.vm.findClass E = some ce.cls := by
        rw [hv0] at hc3
        exact vx_cls (T := T) hW₁ hc3
      obtain ⟨t2, a1, b1⟩ := kx E k' D' hq p l e R s m args below meth c ad cA G A t.heap (locs ++ Lo) ls (st.map (zv ad)) q ce C hH' hl hc1 hc2 hcl U e1 (by
        rw [← Nat.add_assoc, Nat.mul_add, ← Nat.add_assoc]
        exact X')
      exact ⟨t2, hs.trans a1, b1⟩
theorem z_callV {a ci : Nat} {fl : List Nat} {Tt : u_T} {N : Nat} (hM : ZM y I d (.ref a :: av) D Q') (hd : decode (zcc M) pc = .ok (.invokevirtual idx, 3)) (hw : zcall (zown M) idx 0 y I n = true) (ha : zSH[a]? = some (5, ci, fl)) (hcl : zcl[ci]? = some (y.cls, Tt, N)) (hn : av.length = n) (hstk : stk = av.reverse ++ .ref a :: st)
    (hst : (st.map fun v => v.category).sum ≤ 8) (hk : k + 2 ≤ zcap M) (hdep : d + 1 ≤ zdep M) (kr : ∀ v k' D', Q' (.inl v) k' D' → Z M (k + k') (pc + 3) L (v.toList ++ st) D' Q) (kx : ∀ E k' D', Q' (.inr E) k' D' → ZX M (k + k') pc L E D' Q) : Z M k pc L stk D Q := by
  intro p l e R s m args below meth c ad cA G A H locs ls C hH hl T hT X
  obtain ⟨hx, hb, -, hml, -, -, ho, ⟨f1, f2, f3, f4⟩, hG⟩ := id C
  obtain ⟨w1, w2, w3, w4, w5, w6, w7, -, -⟩ := zcall_spec hw
  obtain ⟨w7, w8, w9⟩ := w7 rfl
  have hK := zback (l := l) (R := R) (p := p) (e := e) (below := below) (s := s) (sargs := args) (len := 3) (sz := H.size) (ad := ad) (cA := cA) (G := G) hM (by omega) (by omega) (fun w hw9 a' U hW => by
    rcases List.mem_cons.mp hw9 with h9 | h9
    · rw [h9]; exact word_at hW (good_of_word w2) (hG.1 _ w1 w2)
    · exact word_at hW (good_of_word (List.mem_filter.mp h9).2) (hG.ts _ h9)) (fun a' U hW => word_at hW (Or.inl rfl) (hG.1 _ w3 rfl))
  obtain ⟨cellB, hcB, hoB, hclB⟩ := va_recv (q := (y.cls, Tt, N)) hG.2.2.1 hH.1 hcl (zws_at ha)
  have hstack : (F0 m pc ls (stk.map (zv ad))).stack = (av.map (zv ad)).reverse ++ .ref (ad a) :: st.map (zv ad) := by
    show stk.map (zv ad) = _
    rw [hstk, List.map_append, List.map_reverse]
    rfl
  have hpre : ∀ vm₁, s.WarmedH vm₁ → zBpre R (zPre l ad cA G H.size (.ref a :: av) D) ⟨T.setVm vm₁, locs, zb1 M + k, zb2 M + 6 * k⟩ (Value.ref (ad a) :: av.map (zv ad)).toArray := fun vm₁ hW₁ =>
    ⟨by show zb1 M + k + 2 ≤ _; omega, by show zb2 M + 6 * k + 12 ≤ _; omega, zpre_of C hH (.ref a :: av) (U := T.setVm vm₁) hT hW₁⟩
  have hroom : 2 * (F0 m pc ls (stk.map (zv ad))).monitorRoom + ((st.map (zv ad)).map fun v => v.category).sum ≤ 8 := lv_room (by rw [zcategory_map]; exact hst)
  refine zgo (argsL := args) hk kr kx C hH hl hT X rfl ?_
  rcases zcw_cases y I with ⟨-, hcw⟩ | hcw
  · exact vx_callV X hx (C := y.cls) (bytes := I.2.1) (maxL := I.2.2.1) (ret := I.2.2.2.1) ho (hG.1 _ w7 rfl) (hG.1 _ w8 rfl) (hG.1 _ w9 rfl) (by rw [← hcw]; exact hG.1 _ w1 w2) w5 hK (by rw [hT]; exact hcB) hoB hclB rfl (hl.1.trans hml.symm) (argsL := av.map (zv ad)) (rest := st.map (zv ad)) (fun sig h => by rw [List.length_map, hn]; exact w6 sig h) hstack hroom (by rw [hb]; exact hd) hpre
  · exact vx_callVX X hx (C := y.cls) (bytes := I.2.1) (maxL := I.2.2.1) (ret := I.2.2.2.1) (hh := I.2.2.2.2) ho (hG.1 _ w7 rfl) (hG.1 _ w8 rfl) (hG.1 _ w9 rfl) (by rw [← hcw]; exact hG.1 _ w1 w2) w5 hK (by rw [hT]; exact hcB) hoB hclB rfl (hl.1.trans hml.symm) (argsL := av.map (zv ad)) (rest := st.map (zv ad)) (fun sig h => by rw [List.length_map, hn]; exact w6 sig h) hstack hroom (by rw [hb]; exact hd) hpre
theorem z_callS (hM : ZM y I d av D Q') (hd : decode (zcc M) pc = .ok (.invokestatic idx, 3)) (hw : zcall (zown M) idx 1 y I n = true) (hn : av.length = n) (hstk : stk = av.reverse ++ st)
    (hst : (st.map fun v => v.category).sum ≤ 8) (hk : k + 2 ≤ zcap M) (hdep : d + 1 ≤ zdep M) (kr : ∀ v k' D', Q' (.inl v) k' D' → Z M (k + k') (pc + 3) L (v.toList ++ st) D' Q) (kx : ∀ E k' D', Q' (.inr E) k' D' → ZX M (k + k') pc L E D' Q) : Z M k pc L stk D Q := by
  intro p l e R s m args below meth c ad cA G A H locs ls C hH hl T hT X
  obtain ⟨hx, hb, -, hml, -, -, ho, ⟨f1, f2, f3, f4⟩, hG⟩ := id C
  obtain ⟨w1, w2, w3, w4, w5, w6, -, w7, -⟩ := zcall_spec hw
  obtain ⟨w7, w8⟩ := w7 rfl
  have hK := zback (l := l) (R := R) (p := p) (e := e) (below := below) (s := s) (sargs := args) (len := 3) (sz := H.size) (ad := ad) (cA := cA) (G := G) hM (by omega) (by omega) (fun w hw9 a' U hW => by
    rcases List.mem_cons.mp hw9 with h9 | h9
    · rw [h9]; exact word_at hW (good_of_word w2) (hG.1 _ w1 w2)
    · exact word_at hW (good_of_word (List.mem_filter.mp h9).2) (hG.ts _ h9)) (fun a' U hW => word_at hW (Or.inl rfl) (hG.1 _ w3 rfl))
  have hstack : (F0 m pc ls (stk.map (zv ad))).stack = (av.map (zv ad)).reverse ++ st.map (zv ad) := by
    show stk.map (zv ad) = _
    rw [hstk, List.map_append, List.map_reverse]
  have hpre : ∀ vm₁, s.WarmedH vm₁ → zBpre R (zPre l ad cA G H.size av D) ⟨T.setVm vm₁, locs, zb1 M + k, zb2 M + 6 * k⟩ (av.map (zv ad)).toArray := fun vm₁ hW₁ =>
    ⟨by show zb1 M + k + 2 ≤ _; omega, by show zb2 M + 6 * k + 12 ≤ _; omega, zpre_of C hH av (U := T.setVm vm₁) hT hW₁⟩
  have hroom : 2 * (F0 m pc ls (stk.map (zv ad))).monitorRoom + ((st.map (zv ad)).map fun v => v.category).sum ≤ 8 := lv_room (by rw [zcategory_map]; exact hst)
  refine zgo (argsL := args) hk kr kx C hH hl hT X rfl ?_
  rcases zcw_cases y I with ⟨-, hcw⟩ | hcw
  · exact vx_callS X hx (bytes := I.2.1) (maxL := I.2.2.1) (ret := I.2.2.2.1) ho (hG.1 _ w7 rfl) (hG.1 _ w8 rfl) (hG.1 _ w3 rfl) (by rw [← hcw]; exact hG.1 _ w1 w2) w5 hK rfl (hl.1.trans hml.symm) (argsL := av.map (zv ad)) (rest := st.map (zv ad)) (fun sig h => by rw [List.length_map, hn]; exact w6 sig h) hstack hroom (by rw [hb]; exact hd) hpre
  · exact vx_callSX X hx (bytes := I.2.1) (maxL := I.2.2.1) (ret := I.2.2.2.1) (hh := I.2.2.2.2) ho (hG.1 _ w7 rfl) (hG.1 _ w8 rfl) (hG.1 _ w3 rfl) (by rw [← hcw]; exact hG.1 _ w1 w2) w5 hK rfl (hl.1.trans hml.symm) (argsL := av.map (zv ad)) (rest := st.map (zv ad)) (fun sig h => by rw [List.length_map, hn]; exact w6 sig h) hstack hroom (by rw [hb]; exact hd) hpre
/-- a static method of the outer class, called by a class inside it -/
theorem z_callN (hM : ZM y I d av D Q') (hd : decode (zcc M) pc = .ok (.invokestatic idx, 3)) (hw : zcall (zown M) idx 2 y I n = true) (hI : I.2.2.2.2 = []) (hn : av.length = n) (hstk : stk = av.reverse ++ st)
    (hst : (st.map fun v => v.category).sum ≤ 8) (hk : k + 2 ≤ zcap M) (hdep : d + 1 ≤ zdep M) (kr : ∀ v k' D', Q' (.inl v) k' D' → Z M (k + k') (pc + 3) L (v.toList ++ st) D' Q) (kx : ∀ E k' D', Q' (.inr E) k' D' → ZX M (k + k') pc L E D' Q) : Z M k pc L stk D Q := by
  intro p l e R s m args below meth c ad cA G A H locs ls C hH hl T hT X
  obtain ⟨hx, hb, -, hml, -, -, ho, ⟨f1, f2, f3, f4⟩, hG⟩ := id C
  obtain ⟨w1, w2, w3, w4, w5, w6, -, -, w7⟩ := zcall_spec hw
  obtain ⟨w7, w8⟩ := w7 rfl
  have hK := zback (l := l) (R := R) (p := p) (e := e) (below := below) (s := s) (sargs := args) (len := 3) (sz := H.size) (ad := ad) (cA := cA) (G := G) hM (by omega) (by omega) (fun w hw9 a' U hW => by
    rcases List.mem_cons.mp hw9 with h9 | h9
    · rw [h9]; exact word_at hW (good_of_word w2) (hG.1 _ w1 w2)
    · exact word_at hW (good_of_word (List.mem_filter.mp h9).2) (hG.ts _ h9)) (fun a' U hW => word_at hW (Or.inl rfl) (hG.1 _ w3 rfl))
  have hstack : (F0 m pc ls (stk.map (zv ad))).stack = (av.map (zv ad)).reverse ++ st.map (zv ad) := by
    show stk.map (zv ad) = _
    rw [hstk, List.map_append, List.map_reverse]
  have hpre : ∀ vm₁, s.WarmedH vm₁ → zBpre R (zPre l ad cA G H.size av D) ⟨T.setVm vm₁, locs, zb1 M + k, zb2 M + 6 * k⟩ (av.map (zv ad)).toArray := fun vm₁ hW₁ =>
    ⟨by show zb1 M + k + 2 ≤ _; omega, by show zb2 M + 6 * k + 12 ≤ _; omega, zpre_of C hH av (U := T.setVm vm₁) hT hW₁⟩
  have hroom : 2 * (F0 m pc ls (stk.map (zv ad))).monitorRoom + ((st.map (zv ad)).map fun v => v.category).sum ≤ 8 := lv_room (by rw [zcategory_map]; exact hst)
  refine zgo (argsL := args) hk kr kx C hH hl hT X rfl ?_
  have hcode : (Cond.code y I.2.1 I.2.2.1 I.2.2.2.1).before args s = true := by
    have h9 := hG.1 _ w1 w2
    unfold zcw at h9
    rw [hI] at h9
    exact h9
  have hlink : (Cond.methodLinkNest (zown M) idx y RX8).before args s = true := va_Nw.use rfl (hG.2.2.2.1.2.2.2.2.2.1 _ (List.mem_filter.mpr ⟨w7, rfl⟩))
  obtain ⟨mk, hnamed⟩ := Cond.code_named hcode
  obtain ⟨methM, cM, hmethM, -, -, -, -, -, -, hsigM⟩ := Cond.code_spec hnamed hcode
  have hstatic : methM.isStatic = true := Cond.static_spec hnamed hmethM (hG.1 _ w8 rfl)
  obtain ⟨kP, hkP, -⟩ := className_of_methodNamed hnamed
  have hinitP : kP.init = .initialized := Cond.initialized_spec (findClass_of_methodNamed hnamed) hkP (hG.1 _ w3 rfl)
  have hdg : decode c.code (F0 m pc ls (stk.map (zv ad))).pc = .ok (.invokestatic idx, 3) := by rw [hb]; exact hd
  obtain ⟨vm₁, X₁, hstep₁⟩ := X.invokestaticNest hx ho hlink hnamed hmethM hstatic hkP hinitP w5 (g := F0 m pc ls (stk.map (zv ad))) rfl (argsL := av.map (zv ad)) (rest := st.map (zv ad)) (by rw [List.length_map, hn]; exact w6 _ hsigM) hstack hdg
  rcases hK m meth c ⟨T.setVm vm₁, locs, zb1 M + k, zb2 M + 6 * k⟩ { (F0 m pc ls (stk.map (zv ad))) with stack := st.map (zv ad) } (.invokestatic idx) mk (av.map (zv ad)).toArray X₁ rfl (hl.1.trans hml.symm) hdg hroom (X₁.named hnamed) (hpre vm₁ X₁.warmed) with ⟨v, B, X', hpost, hsteps⟩ | ⟨q, B, X', hpost, hsteps⟩
  · exact Or.inl ⟨v, vm₁, B, X₁.warmed, X', hpost, fun target h => hstep₁ _ fun acts => by rw [doInvoke_state]; exact hsteps.trans h⟩
  · exact Or.inr ⟨q, vm₁, B, X₁.warmed, X', hpost, hstep₁ _ fun acts => by rw [doInvoke_state]; exact hsteps⟩
end ZCALLS
end
section
/-! ===== throws, and what becomes of them ===== -/
theorem zxW.mono {p : Program} {l : Launch} {e : Env} {R : Room} {s : State} {m : MethodId} {args : Array Value} {below : List Frame} {meth : Method} {c : Code} {H : Heap} {locs : List Loc} {cells slots : Nat} {Q Q' : State → Prop} {g : JFrame} {q : Addr} (h : vx_W p l e R s m args below meth c H locs cells slots Q g q) (hq : ∀ t, Q t → Q' t) : vx_W p l e R s m args below meth c H locs cells slots Q' g q := fun T hT X => by
  obtain ⟨t, h1, h2⟩ := h T hT X
  exact ⟨t, h1, hq t h2⟩
abbrev znames : List String := ["java/lang/RuntimeException", "java/lang/Exception"]
def zthr (own : String) (ik ic : Nat) (cls : String) : Bool :=
  decide (Cond.classLink own ik cls ∈ lw_tbl) && decide (Cond.initialized cls ∈ lw_tbl) && ((vx_at0 own ic cls znames).all (fun w => (decide (w ∈ lw_tbl) && goodWord w) || decide (w = .castable cls cls)) && Bundle.fit cls)
theorem zthr_spec {own : String} {ik ic : Nat} {cls : String} (h : zthr own ik ic cls = true) : Cond.classLink own ik cls ∈ lw_tbl ∧ Cond.initialized cls ∈ lw_tbl ∧ (∀ w ∈ vx_at0 own ic cls znames, (w ∈ lw_tbl ∧ goodWord w = true) ∨ w = .castable cls cls) ∧ Bundle.fit cls = true := by
  unfold zthr at h
  simp only [Bool.and_eq_true, decide_eq_true_eq] at h
  obtain ⟨⟨h1, h2⟩, h3, h4⟩ := h
  refine ⟨h1, h2, fun w hw => ?_, h4⟩
  have h5 := List.all_eq_true.mp h3 w hw
  simp only [Bool.or_eq_true, Bool.and_eq_true, decide_eq_true_eq] at h5
  exact h5
theorem zend_of {below : List Frame} {args : Array Value} {s t : State} {ad : Nat → Nat} {cA : Nat → ClassId} {G : va_G} {A : Nat → Prop} {M : zM} {Q : zQ} {D : zD} {E : String} {k : Nat} (hq : Q (.inr E) k D)
    (h : vx_MQ below (fun _ _ _ _ => False) (fun E' _ t => E' = E ∧ va_P G zcl (zws ad cA D) t.heap ∧ va_D A (zws ad cA D) ∧ va_F A s t) args s (zb1 M + k) (zb2 M + 6 * k) A t) : zEnd below args s ad cA G A M Q t := by
  obtain ⟨o, h1, h2, h3⟩ := h
  rcases h3 with ⟨h3, -⟩ | ⟨q, rfl, E', ce, L, ⟨rfl, g1, g2, g3⟩, g4, g5, g6, g7, g8, g9⟩
  · exact h3.elim
  · exact ⟨_, h1, h2, k, D, L, Or.inr ⟨q, E', ce, rfl, g4, g5, g6, hq⟩, g1, g2, g3, g7, g8, g9⟩
section ZTHROW
variable {M : zM} {k pc : Nat} {L : zLo} {st : List Value} {D : zD} {Q : zQ}
/-- throw new E() -/
theorem z_throw {ik ic : Nat} {cls : String} (hc : cls = zIAE ∨ cls = zISE) (hw : zthr (zown M) ik ic cls = true) (d0 : decode (zcc M) pc = .ok (.new ik, 3)) (d3 : decode (zcc M) (pc + 3) = .ok (.dup, 1)) (d4 : decode (zcc M) (pc + 4) = .ok (.invokespecial ic, 3)) (d7 : decode (zcc M) (pc + 7) = .ok (.athrow, 1))
    (hh : zhh M = []) (hst : (st.map fun v => v.category).sum ≤ 8) (hk : k + 1 ≤ zcap M) (hq : Q (.inr cls) (k + 1) D) : Z M k pc L st D Q := by
  intro p l e R s m args below meth c ad cA G A H locs ls C hH hl
  obtain ⟨hx, hb, -, hml, htab, hlocks, ho, ⟨f1, f2, f3, f4⟩, hG⟩ := id C
  obtain ⟨w1, w2, w3, w4⟩ := zthr_spec hw
  have hcast : va_Nw (.castable cls cls) s := by
    rcases hc with rfl | rfl
    · exact hG.2.2.2.1.2.2.1
    · exact hG.2.2.2.1.2.2.2.1
  refine W.mono (vx_throw0 (Qc := fun _ _ _ _ => False) (XC := fun E' _ t => E' = cls ∧ va_P G zcl (zws ad cA D) t.heap ∧ va_D A (zws ad cA D) ∧ va_F A s t) (free := A) (names := znames) (mc := zb1 M + (k + 1)) (ms := zb2 M + 6 * (k + 1)) hx hb hG.2.1 ho w4 (by decide +kernel) (hG.1 _ w1 rfl) (hG.1 _ w2 rfl) (fun w hw9 => ?_) (fun w hw9 => ?_)
    hG.2.2.2.1.1 hG.2.2.2.1.2.1 hH.2.2 (hl.1.trans hml.symm) d0 d3 d4 d7 (fun x hx9 => ?_) ?_ ?_ (by omega) (by omega) hlocks (fun t hal hsz hkeep => ⟨rfl, ?_, hH.2.1, ?_⟩) hH.2.2.2.2 (by omega) (by omega)) (fun t ht => zend_of hq ht)
  · rcases w3 w hw9 with ⟨h1, h2⟩ | rfl
    · exact hG.1 w h1 h2
    · exact va_Nw.use rfl hcast
  · rcases List.mem_cons.mp hw9 with rfl | hw9
    · rfl
    · rcases List.mem_cons.mp hw9 with rfl | hw9
      · rfl
      · rcases w3 w hw9 with ⟨h1, h2⟩ | rfl
        · unfold vx_ot; rw [h2, Bool.or_true]
        · rfl
  · rw [htab, hh] at hx9
    cases hx9
  · show 2 + 3 < R.frames
    omega
  · rw [zcategory_map]
    show _ + (13 * (2 + 1) + 42) ≤ R.locals
    omega
  · exact hH.1.kept (fun j q hj => hkeep q.1 (hH.1 j q hj).lt)
  · exact ⟨Nat.le_trans hH.2.2.1 hsz, fun q h1 h2 => by rw [hkeep q (Nat.lt_of_lt_of_le h1 hH.2.2.1)]; exact hH.2.2.2.1 q h1 h2⟩
/-- a method without handlers lets it go on -/
theorem zx_out {E : String} (hh : zhh M = []) (hq : Q (.inr E) k D) : ZX M k pc L E D Q := by
  intro p l e R s m args below meth c ad cA G A H locs ls rest q ce C hH hl h1 h2 h3
  obtain ⟨hx, hb, -, hml, htab, hlocks, ho, -, hG⟩ := id C
  refine zxW.mono (vx_out (Qc := fun _ _ _ _ => False) (XC := fun E' _ t => E' = E ∧ va_P G zcl (zws ad cA D) t.heap ∧ va_D A (zws ad cA D) ∧ va_F A s t) (free := A) (mc := zb1 M + k) (ms := zb2 M + 6 * k) (fun x hx9 => ?_) hlocks h1 h2 h3 (fun t ht hal => ⟨rfl, by rw [ht]; exact hH.1, hH.2.1, hH.2.2.F ht⟩) hH.2.2.2.2 (Nat.le_refl _) (Nat.le_refl _)) (fun t ht => zend_of hq ht)
  rw [htab, hh] at hx9
  cases hx9
end ZTHROW
end
section
/-! ===== a handler's search, where its classes may be linked by it first ===== -/
section ZFIND
/-- a row that covers the place: its class is linked, and asked -/
theorem zrow {Qh : Handler → Pre} {Eh : CtlPost} {e : Env} {d : Bool} {acts : List Action} {S : State} {f : JFrame} {a : Addr} {x : ExceptionTableEntry} {t : List ExceptionTableEntry} {c : ClassId} {cell : Cell} (hx : covers x f.pc = true) (h0 : x.catchType ≠ 0)
    (hl : S.vm.ClassLinks e.platform f.method.cls x.catchType c) (hcell : S.heap[a]? = some cell) (hobj : ∀ k, cell.vm ≠ .statics k) (hk : ∃ k, S.vm.classes[cell.cls]? = some k) (hc : ∃ k, S.vm.classes[c]? = some k) :
    (S.vm.assignable cell.cls c = true → (wp (findHandler.go f a (x :: t)) Qh Eh e d acts S ↔ Qh (.found x.handlerPc) d acts (S.setVm (S.vm.noted f.method.cls x.catchType (.cls c))))) ∧
    (S.vm.assignable cell.cls c = false → (wp (findHandler.go f a (x :: t)) Qh Eh e d acts S ↔ wp (findHandler.go f a t) Qh Eh e d acts (S.setVm (S.vm.noted f.method.cls x.catchType (.cls c))))) := by
  have hcov : covers x f.pc = true := hx
  unfold covers at hx
  have hop := (resolveClass_links e.toSetting hl).op (op := VmOp.resolveClass f.method.cls x.catchType) rfl
  obtain ⟨v1, v2⟩ := hop
  have hal : S.vm.Alike (S.vm.noted f.method.cls x.catchType (.cls c)) := (Vm.Alike.refl S.vm).noted _ _ _
  obtain ⟨ka, hka⟩ := hk
  obtain ⟨kb, hkb⟩ := hc
  obtain ⟨ka', ga, -⟩ := hal.2.2 _ _ hka
  obtain ⟨kb', gb, -⟩ := hal.2.2 _ _ hkb
  constructor
  · intro has
    have has' : (S.vm.noted f.method.cls x.catchType (.cls c)).assignable cell.cls c = true := by rw [hal.assignable]; exact has
    simp [findHandler.go, hx, h0, v1, v2, hcell, hobj, ga, gb, has', VmOp.dirties, VmOp.acts]
  · intro has
    have has' : (S.vm.noted f.method.cls x.catchType (.cls c)).assignable cell.cls c = false := by rw [hal.assignable]; exact has
    simp [findHandler.go, hx, h0, v1, v2, hcell, hobj, ga, gb, has', VmOp.dirties, VmOp.acts]
/-- the search ends at a handler, with these tables -/
def zfinds (e : Env) (S : State) (f : JFrame) (a : Addr) (pc : Nat) (vm' : Vm) : Prop := ∀ (Qh : Handler → Pre) (Eh : CtlPost) (d : Bool) (acts : List Action), wp (findHandler f a) Qh Eh e d acts S ↔ Qh (.found pc) d acts (S.setVm vm')
theorem zcaught {tb : Tables} {e : Env} {s target : State} {g : JFrame} {c : Code} {below : List Frame} {a : Addr} (h : At s g.method c below) {pc : Nat} {vm' : Vm} (hf : zfinds e ((s.setTop g).pushFrame (.throwing a)) g a pc vm')
    (hrest : Steps tb e below ((s.setVm vm').setTop { g with pc := pc, stack := [.ref a] }) target) : Steps tb e below ((s.setTop g).pushFrame (.throwing a)) target := by
  have hstep : (stepThrowing e ((s.setTop g).pushFrame (.throwing a)) a (.java g :: s.frames.tail)).Is ((((s.setTop g).pushFrame (.throwing a)).setVm vm').setFrames (.java { g with pc := pc, stack := [.ref a] } :: s.frames.tail)) [] := by
    simp only [stepThrowing, searchFrame, vmDo]
    generalize hr : Sem.go _ e false [] ((s.setTop g).pushFrame (.throwing a)) = res
    obtain ⟨as, rfl, ha⟩ := Sem.eq_ok_of hr (a := Handler.found pc) (s' := ((s.setTop g).pushFrame (.throwing a)).setVm vm') (acts' := []) (by simp [hf _ _ _ _])
    exact ⟨rfl, ha⟩
  obtain ⟨hgo, hw⟩ := h.throwing a
  refine Steps.head hgo hw ?_
  rw [stepThread_throwing (frames_entered h.top _), hstep.1]
  obtain ⟨g₀, hg⟩ := Option.isSome_iff_exists.mp h.top
  obtain ⟨r, hr⟩ := State.topJava?_eq_some.mp hg
  have hr2 : (s.setVm vm').frames = .java g₀ :: r := hr
  have key : ∀ (u : State) (F K : List Frame), ((u.setFrames F).setVm vm').setFrames K = (u.setVm vm').setFrames K := fun u F K => by
    show ((u.setVm vm').setFrames F).setFrames K = _
    rw [State.setFrames_setFrames]
  rw [State.setTop_of_frames _ hr2] at hrest
  rw [hr, List.tail_cons, State.pushFrame, key, State.setTop_of_frames _ hr, key]
  exact hrest
end ZFIND
section ZCATCH
variable {M : zM} {k pc : Nat} {L : zLo} {D : zD} {Q : zQ} {i len : Nat}
/-- the handler's first instruction puts the exception away: what is caught isn't looked at -/
def zputs (cc : ByteArray) (h i len : Nat) : Prop := (∃ n : Fin 4, (n : Nat) = i ∧ len = 1 ∧ decode cc h = .ok (.astore_n n, 1)) ∨ (len = 2 ∧ decode cc h = .ok (.astore i, 2))
theorem zhandler {p : Program} {l : Launch} {e : Env} {R : Room} {s : State} {m : MethodId} {args : Array Value} {below : List Frame} {meth : Method} {c : Code} {ad : Nat → Nat} {cA : Nat → ClassId} {G : va_G} {A : Nat → Prop} {H : Heap} {locs : List Loc} {ls : Array Slot} {q : Addr} {h : Nat}
    (hp : zputs (zcc M) h i len) (hi : i < znL M) (kk : Z M k (h + len) (zdel L i) [] D Q) (C : zC p l R s m args meth c ad cA G A M) (hH : zH ad cA G A s D H locs) (hl : zL ad L (znL M) ls) :
    W p l e R s m args below meth c H locs (zb1 M + k) (zb2 M + 6 * k) (zEnd below args s ad cA G A M Q) (F0 m h ls [.ref q]) := by
  rcases hp with ⟨n, rfl, rfl, hd⟩ | ⟨rfl, hd⟩
  · exact lv_astore_n C.1 C.2.1 hd rfl hl.has hi rfl (fun ls' hl' => kk p l e R s m args below meth c ad cA G A H locs ls' C hH (zdel_has hl hl'))
  · exact lv_astore C.1 C.2.1 hd hl.has hi rfl (fun ls' hl' => kk p l e R s m args below meth c ad cA G A H locs ls' C hH (zdel_has hl hl'))
theorem zself {G : va_G} {A : Nat → Prop} {l : Launch} {ad : Nat → Nat} {cA : Nat → ClassId} {args : Array Value} {s : State} {E : String} (hG : zG l ad cA G A args s) (hE : E = zIAE ∨ E = zISE) : (Cond.castable E E).before args s = true := by
  rcases hE with rfl | rfl
  · exact va_Nw.use rfl hG.2.2.2.1.2.2.1
  · exact va_Nw.use rfl hG.2.2.2.1.2.2.2.1
/-- caught by the table's first row -/
theorem zx_catch {E : String} {x : Nat × Nat × Nat × Nat} {hs : List (Nat × Nat × Nat × Nat)} (hE : E = zIAE ∨ E = zISE) (hh : zhh M = x :: hs) (hcov : x.1 ≤ pc ∧ pc < x.2.1) (h0 : x.2.2.2 ≠ 0) (hlk : Cond.classLink (zown M) x.2.2.2 E ∈ lw_tbl) (hp : zputs (zcc M) x.2.2.1 i len) (hi : i < znL M)
    (kk : Z M k (x.2.2.1 + len) (zdel L i) [] D Q) : ZX M k pc L E D Q := by
  intro p l e R s m args below meth c ad cA G A H locs ls rest q ce C hH hl h1 h2 h3 T hT X
  obtain ⟨hx, hb, -, hml, htab, hlocks, ho, -, hG⟩ := id C
  have hpl : e.platform.magicAccessors = ({} : Platform).magicAccessors := by rw [X.admits.platform]
  obtain ⟨c3, c4, hc3, hc4, hasg⟩ := Cond.castable_spec (zself hG hE)
  cases Option.some.inj (hc3.symm.trans hc4)
  cases Option.some.inj (hc3.symm.trans h3)
  obtain ⟨c5, hc5, hcl5⟩ := Cond.classLink_spec ho (hG.1 _ hlk rfl) e.platform hpl
  cases Option.some.inj (hc3.symm.trans hc5)
  obtain ⟨dk, _, _, kt, hdk, _, _, _, _, hkt, _, hopen⟩ := hcl5.here
  have hlT : T.vm.ClassLinks e.platform m.cls x.2.2.2 ce.cls := X.warmed.classLinks hcl5
  obtain ⟨kt', hkt', -⟩ := X.warmed.alike.2.2 _ _ hkt
  have hW2 : s.WarmedH (T.vm.noted m.cls x.2.2.2 (.cls ce.cls)) := X.warmed.noted hdk hopen (State.rightAt_cls hcl5)
  have hv : ∀ kk, ce.vm ≠ .statics kk := fun kk hk => by rw [h2] at hk; cases hk
  have hf : zfinds e ((T.setTop (F0 m pc ls rest)).pushFrame (.throwing q)) (F0 m pc ls rest) q x.2.2.1 (T.vm.noted m.cls x.2.2.2 (.cls ce.cls)) := by
    intro Qh Eh d acts
    rw [W.findHandler_eq (meth := meth) (code := c) X.method' X.code, htab, hh]
    exact (zrow (x := ⟨x.1, x.2.1, x.2.2.1, x.2.2.2⟩) (f := F0 m pc ls rest) (S := (T.setTop (F0 m pc ls rest)).pushFrame (.throwing q)) (c := ce.cls) (cell := ce) (by simp [covers, hcov.1, hcov.2]) h0 hlT (by show T.heap[q]? = _; rw [hT]; exact h1) hv ⟨kt', hkt'⟩ ⟨kt', hkt'⟩).1 (by
      show T.vm.assignable ce.cls ce.cls = true
      rw [X.warmed.alike.assignable]
      exact hasg)
  have X2 := X.noted hW2
  obtain ⟨t, a1, b1⟩ := zhandler (e := e) (below := below) (q := q) hp hi kk C hH hl (T.setVm (T.vm.noted m.cls x.2.2.2 (.cls ce.cls))) hT X2
  exact ⟨t, zcaught X.here hf a1, b1⟩
/-- passed by the table's first row, which names IllegalArgumentException; caught by its second -/
theorem zx_catch2 {x z : Nat × Nat × Nat × Nat} {hs : List (Nat × Nat × Nat × Nat)} (hh : zhh M = x :: z :: hs) (hcov : x.1 ≤ pc ∧ pc < x.2.1) (hcov2 : z.1 ≤ pc ∧ pc < z.2.1) (h0 : x.2.2.2 ≠ 0) (h02 : z.2.2.2 ≠ 0) (hlk : Cond.classLink (zown M) x.2.2.2 zIAE ∈ lw_tbl) (hlk2 : Cond.classLink (zown M) z.2.2.2 zISE ∈ lw_tbl) (hp : zputs (zcc M) z.2.2.1 i len) (hi : i < znL M)
    (kk : Z M k (z.2.2.1 + len) (zdel L i) [] D Q) : ZX M k pc L zISE D Q := by
  intro p l e R s m args below meth c ad cA G A H locs ls rest q ce C hH hl h1 h2 h3 T hT X
  obtain ⟨hx, hb, -, hml, htab, hlocks, ho, -, hG⟩ := id C
  have hpl : e.platform.magicAccessors = ({} : Platform).magicAccessors := by rw [X.admits.platform]
  obtain ⟨c3, c4, hc3, hc4, hasg⟩ := Cond.castable_spec (zself hG (Or.inr rfl))
  cases Option.some.inj (hc3.symm.trans hc4)
  cases Option.some.inj (hc3.symm.trans h3)
  obtain ⟨a8, b8, n1, n2, n3⟩ := hG.2.2.2.1.2.2.2.2.1
  cases Option.some.inj (n1.symm.trans h3)
  obtain ⟨c6, hc6, hcl6⟩ := Cond.classLink_spec ho (hG.1 _ hlk rfl) e.platform hpl
  cases Option.some.inj (n2.symm.trans hc6)
  obtain ⟨c5, hc5, hcl5⟩ := Cond.classLink_spec ho (hG.1 _ hlk2 rfl) e.platform hpl
  cases Option.some.inj (hc3.symm.trans hc5)
  obtain ⟨dk, _, _, kt, hdk, _, _, _, _, hkt, _, hopen⟩ := hcl5.here
  obtain ⟨dk6, _, _, kt6, hdk6, _, _, _, _, hkt6, _, hopen6⟩ := hcl6.here
  obtain ⟨kt', hkt', -⟩ := X.warmed.alike.2.2 _ _ hkt
  obtain ⟨kt6', hkt6', -⟩ := X.warmed.alike.2.2 _ _ hkt6
  have hW6 : s.WarmedH (T.vm.noted m.cls x.2.2.2 (.cls b8)) := X.warmed.noted hdk6 hopen6 (State.rightAt_cls hcl6)
  obtain ⟨kt'', hkt'', -⟩ := hW6.alike.2.2 _ _ hkt
  have hW2 : s.WarmedH ((T.vm.noted m.cls x.2.2.2 (.cls b8)).noted m.cls z.2.2.2 (.cls ce.cls)) := hW6.noted hdk hopen (State.rightAt_cls hcl5)
  have hv : ∀ kk, ce.vm ≠ .statics kk := fun kk hk => by rw [h2] at hk; cases hk
  have hcell : ((T.setTop (F0 m pc ls rest)).pushFrame (.throwing q)).heap[q]? = some ce := by show T.heap[q]? = _; rw [hT]; exact h1
  have hf : zfinds e ((T.setTop (F0 m pc ls rest)).pushFrame (.throwing q)) (F0 m pc ls rest) q z.2.2.1 ((T.vm.noted m.cls x.2.2.2 (.cls b8)).noted m.cls z.2.2.2 (.cls ce.cls)) := by
    intro Qh Eh d acts
    rw [W.findHandler_eq (meth := meth) (code := c) X.method' X.code, htab, hh]
    refine ((zrow (x := ⟨x.1, x.2.1, x.2.2.1, x.2.2.2⟩) (f := F0 m pc ls rest) (S := (T.setTop (F0 m pc ls rest)).pushFrame (.throwing q)) (c := b8) (cell := ce) (by simp [covers, hcov.1, hcov.2]) h0 (X.warmed.classLinks hcl6) hcell hv ⟨kt', hkt'⟩ ⟨kt6', hkt6'⟩).2 (by
      show T.vm.assignable ce.cls b8 = false
      rw [X.warmed.alike.assignable]
      exact n3)).trans ?_
    exact (zrow (x := ⟨z.1, z.2.1, z.2.2.1, z.2.2.2⟩) (f := F0 m pc ls rest) (S := ((T.setTop (F0 m pc ls rest)).pushFrame (.throwing q)).setVm (T.vm.noted m.cls x.2.2.2 (.cls b8))) (c := ce.cls) (cell := ce) (by simp [covers, hcov2.1, hcov2.2]) h02 (hW6.classLinks hcl5) hcell hv ⟨kt'', hkt''⟩ ⟨kt'', hkt''⟩).1 (by
      show (T.vm.noted m.cls x.2.2.2 (.cls b8)).assignable ce.cls ce.cls = true
      rw [hW6.alike.assignable]
      exact hasg)
  have X2 := X.noted hW2
  obtain ⟨t, a1, b1⟩ := zhandler (e := e) (below := below) (q := q) hp hi kk C hH hl (T.setVm ((T.vm.noted m.cls x.2.2.2 (.cls b8)).noted m.cls z.2.2.2 (.cls ce.cls))) hT X2
  exact ⟨t, zcaught X.here hf a1, b1⟩
end ZCATCH
end
section
/-! ===== the pool's entries, the shapes: tables ===== -/
def zFT : List (String × Nat × Nat × Nat × Nat) := [(RX0, 14, 0, 0, 2), (RX0, 23, 0, 1, 2), (RX0, 32, 7, 3, 0), (RX0, 40, 7, 2, 0), (RX0, 47, 7, 1, 0), (RX0, 57, 3, 1, 0), (RX0, 60, 7, 0, 2), (RX0, 71, 5, 7, 1), (RX0, 75, 5, 6, 0), (RX0, 82, 7, 4, 0), (RX0, 99, 3, 2, 0), (RX0, 102, 3, 0, 2), (RX1, 12, 1, 0, 2), (RX1, 18, 1, 1, 0), (RX1, 22, 1, 2, 0), (RX1, 25, 1, 3, 2), (RX1, 29, 1, 4, 2), (RX1, 35, 1, 5, 2), (RX1, 41, 1, 6, 2), (RX1, 46, 6, 0, 0), (RX1, 60, 6, 2, 0), (RX1, 67, 6, 3, 0), (RX1, 70, 6, 1, 0), (RX1, 77, 7, 0, 2), (RX1, 97, 2, 0, 2), (RX1, 125, 7, 6, 1), (RX1, 136, 7, 4, 0), (RX1, 139, 7, 3, 0), (RX1, 142, 7, 5, 0), (RX2, 9, 2, 0, 2), (RX2, 15, 2, 1, 0), (RX3, 7, 3, 0, 2), (RX3, 13, 3, 1, 0), (RX3, 17, 3, 2, 0), (RX4, 9, 4, 0, 2), (RX4, 15, 4, 1, 0), (RX4, 19, 4, 2, 0), (RX4, 22, 4, 3, 0), (RX4, 28, 4, 4, 2), (RX4, 32, 4, 6, 2), (RX4, 38, 4, 9, 2), (RX4, 46, 4, 10, 2), (RX4, 55, 2, 0, 2), (RX4, 64, 4, 7, 0), (RX4, 70, 6, 2, 0), (RX4, 73, 4, 5, 0), (RX4, 92, 4, 8, 0), (RX4, 130, 6, 3, 0), (RX4, 135, 6, 0, 0), (RX4, 138, 6, 1, 0), (RX4, 239, 3, 1, 0), (RX5, 9, 5, 0, 2), (RX5, 15, 5, 3, 2), (RX5, 18, 5, 4, 2), (RX5, 22, 5, 5, 2), (RX5, 25, 5, 1, 0), (RX5, 29, 3, 1, 0), (RX5, 34, 5, 2, 0), (RX5, 63, 5, 7, 1), (RX5, 71, 5, 6, 0), (RX6, 7, 6, 0, 0), (RX6, 13, 6, 1, 0), (RX6, 16, 6, 2, 0), (RX6, 20, 6, 3, 0), (RX7, 9, 7, 0, 2), (RX7, 15, 7, 1, 0), (RX7, 19, 7, 2, 0), (RX7, 22, 7, 3, 0), (RX7, 27, 7, 6, 1), (RX7, 31, 7, 4, 0), (RX7, 34, 7, 5, 0), (RX8, 12, 8, 0, 2), (RX8, 21, 8, 1, 2), (RX8, 25, 8, 2, 2), (RX8, 29, 8, 3, 0), (RX8, 36, 8, 4, 2), (RX8, 43, 8, 5, 2), (RX8, 66, 6, 0, 0), (RX8, 69, 6, 1, 0), (RX8, 72, 6, 2, 0), (RX8, 75, 6, 3, 0), (RX8, 87, 3, 1, 0), (RX8, 109, 1, 0, 2), (RX8, 119, 2, 0, 2), (RX8, 123, 1, 1, 0), (RX8, 126, 1, 2, 0), (RX8, 138, 4, 1, 0), (RX8, 144, 4, 4, 2), (RX8, 151, 4, 5, 0), (RX8, 154, 4, 6, 2), (RX8, 161, 4, 2, 0), (RX8, 164, 4, 3, 0), (RX9, 7, 9, 1, 0), (RX9, 13, 9, 2, 0), (RX9, 16, 9, 3, 0), (RX9, 20, 9, 4, 0), (RX9, 23, 9, 7, 2), (RX9, 27, 9, 9, 2), (RX9, 30, 9, 11, 2), (RX9, 34, 9, 15, 2), (RX9, 37, 9, 16, 2), (RX9, 40, 9, 17, 2), (RX9, 43, 9, 18, 2), (RX9, 46, 9, 19, 2), (RX9, 49, 9, 21, 2), (RX9, 52, 9, 23, 0), (RX9, 55, 9, 25, 2), (RX9, 58, 9, 26, 2), (RX9, 61, 9, 40, 2), (RX9, 64, 9, 41, 2), (RX9, 67, 9, 42, 2), (RX9, 70, 9, 0, 0), (RX9, 89, 9, 8, 0), (RX9, 94, 9, 5, 0), (RX9, 97, 9, 6, 0), (RX9, 108, 9, 24, 0), (RX9, 147, 9, 31, 0), (RX9, 154, 9, 30, 1), (RX9, 158, 9, 28, 0), (RX9, 161, 9, 29, 0), (RX9, 168, 9, 27, 0), (RX9, 192, 9, 12, 1), (RX9, 246, 9, 14, 0), (RX9, 249, 9, 13, 0), (RX9, 256, 9, 10, 0), (RX9, 259, 9, 20, 0), (RX9, 264, 9, 22, 0), (RX9, 267, 9, 32, 1), (RX9, 270, 9, 33, 1), (RX9, 284, 9, 34, 0), (RX9, 287, 9, 35, 0), (RX9, 290, 9, 36, 0), (RX9, 295, 9, 37, 0), (RX9, 298, 9, 38, 1), (RX9, 342, 9, 39, 0), (RX9, 358, 9, 43, 0)]
def zfx (own : String) (idx : Nat) : Option (Nat × Nat × Nat) := (zFT.find? (fun q => q.1 == own && q.2.1 == idx)).map (·.2.2)
set_option maxRecDepth 100000 in
theorem zFT_ok : zFT.all (fun q => zfk q.1 q.2.1 q.2.2.1 q.2.2.2.1 && (match q.2.2.2.2 with | 0 => zfp q.1 q.2.1 q.2.2.1 q.2.2.2.1 .int | 1 => zfp q.1 q.2.1 q.2.2.1 q.2.2.2.1 .long | _ => true)) = true := by decide +kernel
theorem zfx_ok {own : String} {idx ci f t : Nat} (h : zfx own idx = some (ci, f, t)) : zfk own idx ci f = true ∧ (t = 0 → zfp own idx ci f .int = true) ∧ (t = 1 → zfp own idx ci f .long = true) := by
  unfold zfx at h
  cases hf : zFT.find? (fun q => q.1 == own && q.2.1 == idx) with
  | none => rw [hf] at h; cases h
  | some q =>
    rw [hf] at h
    obtain ⟨o, i, c, n, k⟩ := q
    cases h
    have h1 := List.find?_some hf
    simp only [Bool.and_eq_true, beq_iff_eq] at h1
    obtain ⟨rfl, rfl⟩ := h1
    have h2 := List.all_eq_true.mp zFT_ok _ (List.mem_of_find?_eq_some hf)
    rw [Bool.and_eq_true] at h2
    refine ⟨h2.1, fun h => ?_, fun h => ?_⟩
    · subst h; exact h2.2
    · subst h; exact h2.2
theorem zfx_X0_14 : zfx RX0 14 = some (0, 0, 2) := by decide +kernel
theorem zfx_X0_23 : zfx RX0 23 = some (0, 1, 2) := by decide +kernel
theorem zfx_X0_32 : zfx RX0 32 = some (7, 3, 0) := by decide +kernel
theorem zfx_X0_40 : zfx RX0 40 = some (7, 2, 0) := by decide +kernel
theorem zfx_X0_47 : zfx RX0 47 = some (7, 1, 0) := by decide +kernel
theorem zfx_X0_57 : zfx RX0 57 = some (3, 1, 0) := by decide +kernel
theorem zfx_X0_60 : zfx RX0 60 = some (7, 0, 2) := by decide +kernel
theorem zfx_X0_71 : zfx RX0 71 = some (5, 7, 1) := by decide +kernel
theorem zfx_X0_75 : zfx RX0 75 = some (5, 6, 0) := by decide +kernel
theorem zfx_X0_82 : zfx RX0 82 = some (7, 4, 0) := by decide +kernel
theorem zfx_X0_99 : zfx RX0 99 = some (3, 2, 0) := by decide +kernel
theorem zfx_X0_102 : zfx RX0 102 = some (3, 0, 2) := by decide +kernel
theorem zfx_X1_12 : zfx RX1 12 = some (1, 0, 2) := by decide +kernel
theorem zfx_X1_18 : zfx RX1 18 = some (1, 1, 0) := by decide +kernel
theorem zfx_X1_22 : zfx RX1 22 = some (1, 2, 0) := by decide +kernel
theorem zfx_X1_25 : zfx RX1 25 = some (1, 3, 2) := by decide +kernel
theorem zfx_X1_29 : zfx RX1 29 = some (1, 4, 2) := by decide +kernel
theorem zfx_X1_35 : zfx RX1 35 = some (1, 5, 2) := by decide +kernel
theorem zfx_X1_41 : zfx RX1 41 = some (1, 6, 2) := by decide +kernel
theorem zfx_X1_46 : zfx RX1 46 = some (6, 0, 0) := by decide +kernel
theorem zfx_X1_60 : zfx RX1 60 = some (6, 2, 0) := by decide +kernel
theorem zfx_X1_67 : zfx RX1 67 = some (6, 3, 0) := by decide +kernel
theorem zfx_X1_70 : zfx RX1 70 = some (6, 1, 0) := by decide +kernel
theorem zfx_X1_77 : zfx RX1 77 = some (7, 0, 2) := by decide +kernel
theorem zfx_X1_97 : zfx RX1 97 = some (2, 0, 2) := by decide +kernel
theorem zfx_X1_125 : zfx RX1 125 = some (7, 6, 1) := by decide +kernel
theorem zfx_X1_136 : zfx RX1 136 = some (7, 4, 0) := by decide +kernel
theorem zfx_X1_139 : zfx RX1 139 = some (7, 3, 0) := by decide +kernel
theorem zfx_X1_142 : zfx RX1 142 = some (7, 5, 0) := by decide +kernel
theorem zfx_X2_9 : zfx RX2 9 = some (2, 0, 2) := by decide +kernel
theorem zfx_X2_15 : zfx RX2 15 = some (2, 1, 0) := by decide +kernel
theorem zfx_X3_7 : zfx RX3 7 = some (3, 0, 2) := by decide +kernel
theorem zfx_X3_13 : zfx RX3 13 = some (3, 1, 0) := by decide +kernel
theorem zfx_X3_17 : zfx RX3 17 = some (3, 2, 0) := by decide +kernel
theorem zfx_X4_9 : zfx RX4 9 = some (4, 0, 2) := by decide +kernel
theorem zfx_X4_15 : zfx RX4 15 = some (4, 1, 0) := by decide +kernel
theorem zfx_X4_19 : zfx RX4 19 = some (4, 2, 0) := by decide +kernel
theorem zfx_X4_22 : zfx RX4 22 = some (4, 3, 0) := by decide +kernel
theorem zfx_X4_28 : zfx RX4 28 = some (4, 4, 2) := by decide +kernel
theorem zfx_X4_32 : zfx RX4 32 = some (4, 6, 2) := by decide +kernel
theorem zfx_X4_38 : zfx RX4 38 = some (4, 9, 2) := by decide +kernel
theorem zfx_X4_46 : zfx RX4 46 = some (4, 10, 2) := by decide +kernel
theorem zfx_X4_55 : zfx RX4 55 = some (2, 0, 2) := by decide +kernel
theorem zfx_X4_64 : zfx RX4 64 = some (4, 7, 0) := by decide +kernel
theorem zfx_X4_70 : zfx RX4 70 = some (6, 2, 0) := by decide +kernel
theorem zfx_X4_73 : zfx RX4 73 = some (4, 5, 0) := by decide +kernel
theorem zfx_X4_92 : zfx RX4 92 = some (4, 8, 0) := by decide +kernel
theorem zfx_X4_130 : zfx RX4 130 = some (6, 3, 0) := by decide +kernel
theorem zfx_X4_135 : zfx RX4 135 = some (6, 0, 0) := by decide +kernel
theorem zfx_X4_138 : zfx RX4 138 = some (6, 1, 0) := by decide +kernel
theorem zfx_X4_239 : zfx RX4 239 = some (3, 1, 0) := by decide +kernel
theorem zfx_X5_9 : zfx RX5 9 = some (5, 0, 2) := by decide +kernel
theorem zfx_X5_15 : zfx RX5 15 = some (5, 3, 2) := by decide +kernel
theorem zfx_X5_18 : zfx RX5 18 = some (5, 4, 2) := by decide +kernel
theorem zfx_X5_22 : zfx RX5 22 = some (5, 5, 2) := by decide +kernel
theorem zfx_X5_25 : zfx RX5 25 = some (5, 1, 0) := by decide +kernel
theorem zfx_X5_29 : zfx RX5 29 = some (3, 1, 0) := by decide +kernel
theorem zfx_X5_34 : zfx RX5 34 = some (5, 2, 0) := by decide +kernel
theorem zfx_X5_63 : zfx RX5 63 = some (5, 7, 1) := by decide +kernel
theorem zfx_X5_71 : zfx RX5 71 = some (5, 6, 0) := by decide +kernel
theorem zfx_X6_7 : zfx RX6 7 = some (6, 0, 0) := by decide +kernel
theorem zfx_X6_13 : zfx RX6 13 = some (6, 1, 0) := by decide +kernel
theorem zfx_X6_16 : zfx RX6 16 = some (6, 2, 0) := by decide +kernel
theorem zfx_X6_20 : zfx RX6 20 = some (6, 3, 0) := by decide +kernel
theorem zfx_X7_9 : zfx RX7 9 = some (7, 0, 2) := by decide +kernel
theorem zfx_X7_15 : zfx RX7 15 = some (7, 1, 0) := by decide +kernel
theorem zfx_X7_19 : zfx RX7 19 = some (7, 2, 0) := by decide +kernel
theorem zfx_X7_22 : zfx RX7 22 = some (7, 3, 0) := by decide +kernel
theorem zfx_X7_27 : zfx RX7 27 = some (7, 6, 1) := by decide +kernel
theorem zfx_X7_31 : zfx RX7 31 = some (7, 4, 0) := by decide +kernel
theorem zfx_X7_34 : zfx RX7 34 = some (7, 5, 0) := by decide +kernel
theorem zfx_X8_12 : zfx RX8 12 = some (8, 0, 2) := by decide +kernel
theorem zfx_X8_21 : zfx RX8 21 = some (8, 1, 2) := by decide +kernel
theorem zfx_X8_25 : zfx RX8 25 = some (8, 2, 2) := by decide +kernel
theorem zfx_X8_29 : zfx RX8 29 = some (8, 3, 0) := by decide +kernel
theorem zfx_X8_36 : zfx RX8 36 = some (8, 4, 2) := by decide +kernel
theorem zfx_X8_43 : zfx RX8 43 = some (8, 5, 2) := by decide +kernel
theorem zfx_X8_66 : zfx RX8 66 = some (6, 0, 0) := by decide +kernel
theorem zfx_X8_69 : zfx RX8 69 = some (6, 1, 0) := by decide +kernel
theorem zfx_X8_72 : zfx RX8 72 = some (6, 2, 0) := by decide +kernel
theorem zfx_X8_75 : zfx RX8 75 = some (6, 3, 0) := by decide +kernel
theorem zfx_X8_87 : zfx RX8 87 = some (3, 1, 0) := by decide +kernel
theorem zfx_X8_109 : zfx RX8 109 = some (1, 0, 2) := by decide +kernel
theorem zfx_X8_119 : zfx RX8 119 = some (2, 0, 2) := by decide +kernel
theorem zfx_X8_123 : zfx RX8 123 = some (1, 1, 0) := by decide +kernel
theorem zfx_X8_126 : zfx RX8 126 = some (1, 2, 0) := by decide +kernel
theorem zfx_X8_138 : zfx RX8 138 = some (4, 1, 0) := by decide +kernel
theorem zfx_X8_144 : zfx RX8 144 = some (4, 4, 2) := by decide +kernel
theorem zfx_X8_151 : zfx RX8 151 = some (4, 5, 0) := by decide +kernel
theorem zfx_X8_154 : zfx RX8 154 = some (4, 6, 2) := by decide +kernel
theorem zfx_X8_161 : zfx RX8 161 = some (4, 2, 0) := by decide +kernel
theorem zfx_X8_164 : zfx RX8 164 = some (4, 3, 0) := by decide +kernel
theorem zfx_X9_7 : zfx RX9 7 = some (9, 1, 0) := by decide +kernel
theorem zfx_X9_13 : zfx RX9 13 = some (9, 2, 0) := by decide +kernel
theorem zfx_X9_16 : zfx RX9 16 = some (9, 3, 0) := by decide +kernel
theorem zfx_X9_20 : zfx RX9 20 = some (9, 4, 0) := by decide +kernel
theorem zfx_X9_23 : zfx RX9 23 = some (9, 7, 2) := by decide +kernel
theorem zfx_X9_27 : zfx RX9 27 = some (9, 9, 2) := by decide +kernel
theorem zfx_X9_30 : zfx RX9 30 = some (9, 11, 2) := by decide +kernel
theorem zfx_X9_34 : zfx RX9 34 = some (9, 15, 2) := by decide +kernel
theorem zfx_X9_37 : zfx RX9 37 = some (9, 16, 2) := by decide +kernel
theorem zfx_X9_40 : zfx RX9 40 = some (9, 17, 2) := by decide +kernel
theorem zfx_X9_43 : zfx RX9 43 = some (9, 18, 2) := by decide +kernel
theorem zfx_X9_46 : zfx RX9 46 = some (9, 19, 2) := by decide +kernel
theorem zfx_X9_49 : zfx RX9 49 = some (9, 21, 2) := by decide +kernel
theorem zfx_X9_52 : zfx RX9 52 = some (9, 23, 0) := by decide +kernel
theorem zfx_X9_55 : zfx RX9 55 = some (9, 25, 2) := by decide +kernel
theorem zfx_X9_58 : zfx RX9 58 = some (9, 26, 2) := by decide +kernel
theorem zfx_X9_61 : zfx RX9 61 = some (9, 40, 2) := by decide +kernel
theorem zfx_X9_64 : zfx RX9 64 = some (9, 41, 2) := by decide +kernel
theorem zfx_X9_67 : zfx RX9 67 = some (9, 42, 2) := by decide +kernel
theorem zfx_X9_70 : zfx RX9 70 = some (9, 0, 0) := by decide +kernel
theorem zfx_X9_89 : zfx RX9 89 = some (9, 8, 0) := by decide +kernel
theorem zfx_X9_94 : zfx RX9 94 = some (9, 5, 0) := by decide +kernel
theorem zfx_X9_97 : zfx RX9 97 = some (9, 6, 0) := by decide +kernel
theorem zfx_X9_108 : zfx RX9 108 = some (9, 24, 0) := by decide +kernel
theorem zfx_X9_147 : zfx RX9 147 = some (9, 31, 0) := by decide +kernel
theorem zfx_X9_154 : zfx RX9 154 = some (9, 30, 1) := by decide +kernel
theorem zfx_X9_158 : zfx RX9 158 = some (9, 28, 0) := by decide +kernel
theorem zfx_X9_161 : zfx RX9 161 = some (9, 29, 0) := by decide +kernel
theorem zfx_X9_168 : zfx RX9 168 = some (9, 27, 0) := by decide +kernel
theorem zfx_X9_192 : zfx RX9 192 = some (9, 12, 1) := by decide +kernel
theorem zfx_X9_246 : zfx RX9 246 = some (9, 14, 0) := by decide +kernel
theorem zfx_X9_249 : zfx RX9 249 = some (9, 13, 0) := by decide +kernel
theorem zfx_X9_256 : zfx RX9 256 = some (9, 10, 0) := by decide +kernel
theorem zfx_X9_259 : zfx RX9 259 = some (9, 20, 0) := by decide +kernel
theorem zfx_X9_264 : zfx RX9 264 = some (9, 22, 0) := by decide +kernel
theorem zfx_X9_267 : zfx RX9 267 = some (9, 32, 1) := by decide +kernel
theorem zfx_X9_270 : zfx RX9 270 = some (9, 33, 1) := by decide +kernel
theorem zfx_X9_284 : zfx RX9 284 = some (9, 34, 0) := by decide +kernel
theorem zfx_X9_287 : zfx RX9 287 = some (9, 35, 0) := by decide +kernel
theorem zfx_X9_290 : zfx RX9 290 = some (9, 36, 0) := by decide +kernel
theorem zfx_X9_295 : zfx RX9 295 = some (9, 37, 0) := by decide +kernel
theorem zfx_X9_298 : zfx RX9 298 = some (9, 38, 1) := by decide +kernel
theorem zfx_X9_342 : zfx RX9 342 = some (9, 39, 0) := by decide +kernel
theorem zfx_X9_358 : zfx RX9 358 = some (9, 43, 0) := by decide +kernel
def zCI : List (String × Nat × Int32) := [(RX1, 120, 32773), (RX2, 29, 160000), (RX4, 162, 32773), (RX6, 19, 44100), (RX9, 19, 44100), (RX9, 197, 32768), (RX9, 202, 32773)]
def zCL : List (String × Nat × Int64) := [(RL, 77, 4294967295), (RX0, 97, 14), (RX1, 52, 1716281667), (RX1, 58, 34), (RX1, 132, 16382), (RX1, 134, 6), (RX4, 102, 1716281667), (RX4, 108, 34), (RX4, 113, 126), (RX4, 126, 16), (RX4, 128, 256), (RX4, 133, 655350), (RX4, 141, 4), (RX4, 143, 24), (RX4, 145, 4096), (RX4, 173, 16382), (RX4, 175, 6), (RX4, 177, 8), (RX4, 179, 10), (RX4, 184, 127), (RX4, 186, 192), (RX4, 188, 223), (RX4, 190, 128), (RX4, 192, 191), (RX4, 224, 12), (RX4, 226, 32), (RX4, 228, 63), (RX5, 41, -2147483647), (RX5, 43, 2147483647), (RX5, 49, 2), (RX5, 51, -2), (RX5, 61, 9223372036854775807), (RX5, 93, 6), (RX5, 95, 4), (RX7, 25, 9223372036854775807), (RX8, 47, 8), (RX8, 53, 4), (RX8, 55, 24), (RX8, 57, 16), (RX8, 59, 256), (RX8, 61, 655350), (RX8, 78, 14), (RX9, 73, 8), (RX9, 79, 4), (RX9, 81, 24), (RX9, 83, 16), (RX9, 85, 256), (RX9, 87, 655350), (RX9, 92, 14), (RX9, 100, -16384), (RX9, 102, 16383), (RX9, 111, 2), (RX9, 113, 3), (RX9, 115, 6), (RX9, 129, -2147483647), (RX9, 131, 2147483647), (RX9, 133, -2), (RX9, 171, -1), (RX9, 188, 9), (RX9, 190, 15), (RX9, 195, 64), (RX9, 227, 16382), (RX9, 242, 1716281667), (RX9, 244, 34), (RX9, 262, 255), (RX9, 293, 23), (RX9, 301, 4096), (RX9, 303, 128), (RX9, 309, 126), (RX9, 311, 127), (RX9, 313, 192), (RX9, 315, 223), (RX9, 317, 191), (RX9, 323, 10), (RX9, 345, 12)]
def zcix (own : String) (idx : Nat) : Option Int32 := (zCI.find? (fun q => q.1 == own && q.2.1 == idx)).map (·.2.2)
def zclx (own : String) (idx : Nat) : Option Int64 := (zCL.find? (fun q => q.1 == own && q.2.1 == idx)).map (·.2.2)
set_option maxRecDepth 100000 in
theorem zCI_ok : zCI.all (fun q => decide (Cond.constant q.1 q.2.1 q.2.2 ∈ lw_tbl)) = true := by decide +kernel
set_option maxRecDepth 100000 in
theorem zCL_ok : zCL.all (fun q => decide (Cond.constantLong q.1 q.2.1 q.2.2 ∈ lw_tbl)) = true := by decide +kernel
theorem zcix_ok {own : String} {idx : Nat} {v : Int32} (h : zcix own idx = some v) : Cond.constant own idx v ∈ lw_tbl := by
  unfold zcix at h
  cases hf : zCI.find? (fun q => q.1 == own && q.2.1 == idx) with
  | none => rw [hf] at h; cases h
  | some q =>
    rw [hf] at h
    obtain ⟨o, i, w⟩ := q
    cases h
    have h1 := List.find?_some hf
    simp only [Bool.and_eq_true, beq_iff_eq] at h1
    obtain ⟨rfl, rfl⟩ := h1
    exact of_decide_eq_true (List.all_eq_true.mp zCI_ok _ (List.mem_of_find?_eq_some hf))
theorem zclx_ok {own : String} {idx : Nat} {v : Int64} (h : zclx own idx = some v) : Cond.constantLong own idx v ∈ lw_tbl := by
  unfold zclx at h
  cases hf : zCL.find? (fun q => q.1 == own && q.2.1 == idx) with
  | none => rw [hf] at h; cases h
  | some q =>
    rw [hf] at h
    obtain ⟨o, i, w⟩ := q
    cases h
    have h1 := List.find?_some hf
    simp only [Bool.and_eq_true, beq_iff_eq] at h1
    obtain ⟨rfl, rfl⟩ := h1
    exact of_decide_eq_true (List.all_eq_true.mp zCL_ok _ (List.mem_of_find?_eq_some hf))
theorem zcix_X1_120 : zcix RX1 120 = some (32773) := by decide +kernel
theorem zcix_X2_29 : zcix RX2 29 = some (160000) := by decide +kernel
theorem zcix_X4_162 : zcix RX4 162 = some (32773) := by decide +kernel
theorem zcix_X6_19 : zcix RX6 19 = some (44100) := by decide +kernel
theorem zcix_X9_19 : zcix RX9 19 = some (44100) := by decide +kernel
theorem zcix_X9_197 : zcix RX9 197 = some (32768) := by decide +kernel
theorem zcix_X9_202 : zcix RX9 202 = some (32773) := by decide +kernel
theorem zclx_L_77 : zclx RL 77 = some (4294967295) := by decide +kernel
theorem zclx_X0_97 : zclx RX0 97 = some (14) := by decide +kernel
theorem zclx_X1_52 : zclx RX1 52 = some (1716281667) := by decide +kernel
theorem zclx_X1_58 : zclx RX1 58 = some (34) := by decide +kernel
theorem zclx_X1_132 : zclx RX1 132 = some (16382) := by decide +kernel
theorem zclx_X1_134 : zclx RX1 134 = some (6) := by decide +kernel
theorem zclx_X4_102 : zclx RX4 102 = some (1716281667) := by decide +kernel
theorem zclx_X4_108 : zclx RX4 108 = some (34) := by decide +kernel
theorem zclx_X4_113 : zclx RX4 113 = some (126) := by decide +kernel
theorem zclx_X4_126 : zclx RX4 126 = some (16) := by decide +kernel
theorem zclx_X4_128 : zclx RX4 128 = some (256) := by decide +kernel
theorem zclx_X4_133 : zclx RX4 133 = some (655350) := by decide +kernel
theorem zclx_X4_141 : zclx RX4 141 = some (4) := by decide +kernel
theorem zclx_X4_143 : zclx RX4 143 = some (24) := by decide +kernel
theorem zclx_X4_145 : zclx RX4 145 = some (4096) := by decide +kernel
theorem zclx_X4_173 : zclx RX4 173 = some (16382) := by decide +kernel
theorem zclx_X4_175 : zclx RX4 175 = some (6) := by decide +kernel
theorem zclx_X4_177 : zclx RX4 177 = some (8) := by decide +kernel
theorem zclx_X4_179 : zclx RX4 179 = some (10) := by decide +kernel
theorem zclx_X4_184 : zclx RX4 184 = some (127) := by decide +kernel
theorem zclx_X4_186 : zclx RX4 186 = some (192) := by decide +kernel
theorem zclx_X4_188 : zclx RX4 188 = some (223) := by decide +kernel
theorem zclx_X4_190 : zclx RX4 190 = some (128) := by decide +kernel
theorem zclx_X4_192 : zclx RX4 192 = some (191) := by decide +kernel
theorem zclx_X4_224 : zclx RX4 224 = some (12) := by decide +kernel
theorem zclx_X4_226 : zclx RX4 226 = some (32) := by decide +kernel
theorem zclx_X4_228 : zclx RX4 228 = some (63) := by decide +kernel
theorem zclx_X5_41 : zclx RX5 41 = some (-2147483647) := by decide +kernel
theorem zclx_X5_43 : zclx RX5 43 = some (2147483647) := by decide +kernel
theorem zclx_X5_49 : zclx RX5 49 = some (2) := by decide +kernel
theorem zclx_X5_51 : zclx RX5 51 = some (-2) := by decide +kernel
theorem zclx_X5_61 : zclx RX5 61 = some (9223372036854775807) := by decide +kernel
theorem zclx_X5_93 : zclx RX5 93 = some (6) := by decide +kernel
theorem zclx_X5_95 : zclx RX5 95 = some (4) := by decide +kernel
theorem zclx_X7_25 : zclx RX7 25 = some (9223372036854775807) := by decide +kernel
theorem zclx_X8_47 : zclx RX8 47 = some (8) := by decide +kernel
theorem zclx_X8_53 : zclx RX8 53 = some (4) := by decide +kernel
theorem zclx_X8_55 : zclx RX8 55 = some (24) := by decide +kernel
theorem zclx_X8_57 : zclx RX8 57 = some (16) := by decide +kernel
theorem zclx_X8_59 : zclx RX8 59 = some (256) := by decide +kernel
theorem zclx_X8_61 : zclx RX8 61 = some (655350) := by decide +kernel
theorem zclx_X8_78 : zclx RX8 78 = some (14) := by decide +kernel
theorem zclx_X9_73 : zclx RX9 73 = some (8) := by decide +kernel
theorem zclx_X9_79 : zclx RX9 79 = some (4) := by decide +kernel
theorem zclx_X9_81 : zclx RX9 81 = some (24) := by decide +kernel
theorem zclx_X9_83 : zclx RX9 83 = some (16) := by decide +kernel
theorem zclx_X9_85 : zclx RX9 85 = some (256) := by decide +kernel
theorem zclx_X9_87 : zclx RX9 87 = some (655350) := by decide +kernel
theorem zclx_X9_92 : zclx RX9 92 = some (14) := by decide +kernel
theorem zclx_X9_100 : zclx RX9 100 = some (-16384) := by decide +kernel
theorem zclx_X9_102 : zclx RX9 102 = some (16383) := by decide +kernel
theorem zclx_X9_111 : zclx RX9 111 = some (2) := by decide +kernel
theorem zclx_X9_113 : zclx RX9 113 = some (3) := by decide +kernel
theorem zclx_X9_115 : zclx RX9 115 = some (6) := by decide +kernel
theorem zclx_X9_129 : zclx RX9 129 = some (-2147483647) := by decide +kernel
theorem zclx_X9_131 : zclx RX9 131 = some (2147483647) := by decide +kernel
theorem zclx_X9_133 : zclx RX9 133 = some (-2) := by decide +kernel
theorem zclx_X9_171 : zclx RX9 171 = some (-1) := by decide +kernel
theorem zclx_X9_188 : zclx RX9 188 = some (9) := by decide +kernel
theorem zclx_X9_190 : zclx RX9 190 = some (15) := by decide +kernel
theorem zclx_X9_195 : zclx RX9 195 = some (64) := by decide +kernel
theorem zclx_X9_227 : zclx RX9 227 = some (16382) := by decide +kernel
theorem zclx_X9_242 : zclx RX9 242 = some (1716281667) := by decide +kernel
theorem zclx_X9_244 : zclx RX9 244 = some (34) := by decide +kernel
theorem zclx_X9_262 : zclx RX9 262 = some (255) := by decide +kernel
theorem zclx_X9_293 : zclx RX9 293 = some (23) := by decide +kernel
theorem zclx_X9_301 : zclx RX9 301 = some (4096) := by decide +kernel
theorem zclx_X9_303 : zclx RX9 303 = some (128) := by decide +kernel
theorem zclx_X9_309 : zclx RX9 309 = some (126) := by decide +kernel
theorem zclx_X9_311 : zclx RX9 311 = some (127) := by decide +kernel
theorem zclx_X9_313 : zclx RX9 313 = some (192) := by decide +kernel
theorem zclx_X9_315 : zclx RX9 315 = some (223) := by decide +kernel
theorem zclx_X9_317 : zclx RX9 317 = some (191) := by decide +kernel
theorem zclx_X9_323 : zclx RX9 323 = some (10) := by decide +kernel
theorem zclx_X9_345 : zclx RX9 345 = some (12) := by decide +kernel
/-- what field f of cell a, an object of this class, is -/
def zfc (a ci f : Nat) : Option Nat := match zSH[a]? with
  | some (5, c, fl) => if c = ci then fl[f]? else none
  | _ => none
/-- the kind and the length of the array that cell a is -/
def zac (a : Nat) : Option (Nat × Nat) := match zSH[a]? with
  | some (5, _, _) => none
  | some (t, n, _) => some (t, n)
  | none => none
theorem zfc_ok {a ci f c : Nat} (h : zfc a ci f = some c) : ∃ fl, zSH[a]? = some (5, ci, fl) ∧ fl[f]? = some c := by
  unfold zfc at h
  split at h
  next c' fl h1 =>
    split at h
    next h2 => subst h2; exact ⟨fl, h1, h⟩
    next => cases h
  next => cases h
theorem zac_ok {a t n : Nat} (h : zac a = some (t, n)) : ∃ r, zSH[a]? = some (t, n, r) := by
  unfold zac at h
  split at h
  next => cases h
  next t' n' r _ h1 => cases h; exact ⟨r, h1⟩
  next => cases h
theorem zfc_0_0 : zfc 0 8 0 = some 3 := by decide +kernel
theorem zfc_0_1 : zfc 0 8 1 = some 4 := by decide +kernel
theorem zfc_0_2 : zfc 0 8 2 = some 6 := by decide +kernel
theorem zfc_0_3 : zfc 0 8 3 = some 0 := by decide +kernel
theorem zfc_0_4 : zfc 0 8 4 = some 7 := by decide +kernel
theorem zfc_0_5 : zfc 0 8 5 = some 39 := by decide +kernel
theorem zfc_1_0 : zfc 1 6 0 = some 0 := by decide +kernel
theorem zfc_1_1 : zfc 1 6 1 = some 0 := by decide +kernel
theorem zfc_1_2 : zfc 1 6 2 = some 0 := by decide +kernel
theorem zfc_1_3 : zfc 1 6 3 = some 0 := by decide +kernel
theorem zfc_2_0 : zfc 2 3 0 = some 5 := by decide +kernel
theorem zfc_2_1 : zfc 2 3 1 = some 0 := by decide +kernel
theorem zfc_2_2 : zfc 2 3 2 = some 0 := by decide +kernel
theorem zac_3 : zac 3 = some (0, 8) := by decide +kernel
theorem zac_4 : zac 4 = some (0, 4096) := by decide +kernel
theorem zfc_5_0 : zfc 5 1 0 = some 8 := by decide +kernel
theorem zfc_5_1 : zfc 5 1 1 = some 0 := by decide +kernel
theorem zfc_5_2 : zfc 5 1 2 = some 0 := by decide +kernel
theorem zfc_5_3 : zfc 5 1 3 = some 10 := by decide +kernel
theorem zfc_5_4 : zfc 5 1 4 = some 11 := by decide +kernel
theorem zfc_5_5 : zfc 5 1 5 = some 12 := by decide +kernel
theorem zfc_5_6 : zfc 5 1 6 = some 22 := by decide +kernel
theorem zfc_6_0 : zfc 6 2 0 = some 9 := by decide +kernel
theorem zfc_6_1 : zfc 6 2 1 = some 0 := by decide +kernel
theorem zac_7 : zac 7 = some (2, 20000) := by decide +kernel
theorem zac_8 : zac 8 = some (0, 256) := by decide +kernel
theorem zac_9 : zac 9 = some (0, 1056) := by decide +kernel
theorem zfc_10_0 : zfc 10 0 0 = some 13 := by decide +kernel
theorem zfc_10_1 : zfc 10 0 1 = some 15 := by decide +kernel
theorem zfc_11_0 : zfc 11 3 0 = some 14 := by decide +kernel
theorem zfc_11_1 : zfc 11 3 1 = some 0 := by decide +kernel
theorem zfc_11_2 : zfc 11 3 2 = some 0 := by decide +kernel
theorem zac_12 : zac 12 = some (0, 4) := by decide +kernel
theorem zfc_13_0 : zfc 13 5 0 = some 16 := by decide +kernel
theorem zfc_13_1 : zfc 13 5 1 = some 0 := by decide +kernel
theorem zfc_13_2 : zfc 13 5 2 = some 0 := by decide +kernel
theorem zfc_13_3 : zfc 13 5 3 = some 17 := by decide +kernel
theorem zfc_13_4 : zfc 13 5 4 = some 18 := by decide +kernel
theorem zfc_13_5 : zfc 13 5 5 = some 19 := by decide +kernel
theorem zfc_13_6 : zfc 13 5 6 = some 0 := by decide +kernel
theorem zfc_13_7 : zfc 13 5 7 = some 1 := by decide +kernel
theorem zac_14 : zac 14 = some (1, 256) := by decide +kernel
theorem zac_15 : zac 15 = some (1, 120) := by decide +kernel
theorem zac_16 : zac 16 = some (0, 8) := by decide +kernel
theorem zac_17 : zac 17 = some (0, 8) := by decide +kernel
theorem zac_18 : zac 18 = some (1, 1) := by decide +kernel
theorem zfc_19_0 : zfc 19 9 0 = some 0 := by decide +kernel
theorem zfc_19_1 : zfc 19 9 1 = some 0 := by decide +kernel
theorem zfc_19_2 : zfc 19 9 2 = some 0 := by decide +kernel
theorem zfc_19_3 : zfc 19 9 3 = some 0 := by decide +kernel
theorem zfc_19_4 : zfc 19 9 4 = some 0 := by decide +kernel
theorem zfc_19_5 : zfc 19 9 5 = some 0 := by decide +kernel
theorem zfc_19_6 : zfc 19 9 6 = some 0 := by decide +kernel
theorem zfc_19_7 : zfc 19 9 7 = some 54 := by decide +kernel
theorem zfc_19_8 : zfc 19 9 8 = some 0 := by decide +kernel
theorem zfc_19_9 : zfc 19 9 9 = some 55 := by decide +kernel
theorem zfc_19_10 : zfc 19 9 10 = some 0 := by decide +kernel
theorem zfc_19_11 : zfc 19 9 11 = some 56 := by decide +kernel
theorem zfc_19_12 : zfc 19 9 12 = some 1 := by decide +kernel
theorem zfc_19_13 : zfc 19 9 13 = some 0 := by decide +kernel
theorem zfc_19_14 : zfc 19 9 14 = some 0 := by decide +kernel
theorem zfc_19_15 : zfc 19 9 15 = some 57 := by decide +kernel
theorem zfc_19_16 : zfc 19 9 16 = some 58 := by decide +kernel
theorem zfc_19_17 : zfc 19 9 17 = some 59 := by decide +kernel
theorem zfc_19_18 : zfc 19 9 18 = some 60 := by decide +kernel
theorem zfc_19_19 : zfc 19 9 19 = some 61 := by decide +kernel
theorem zfc_19_20 : zfc 19 9 20 = some 0 := by decide +kernel
theorem zfc_19_21 : zfc 19 9 21 = some 62 := by decide +kernel
theorem zfc_19_22 : zfc 19 9 22 = some 0 := by decide +kernel
theorem zfc_19_23 : zfc 19 9 23 = some 0 := by decide +kernel
theorem zfc_19_24 : zfc 19 9 24 = some 0 := by decide +kernel
theorem zfc_19_25 : zfc 19 9 25 = some 63 := by decide +kernel
theorem zfc_19_26 : zfc 19 9 26 = some 64 := by decide +kernel
theorem zfc_19_27 : zfc 19 9 27 = some 0 := by decide +kernel
theorem zfc_19_28 : zfc 19 9 28 = some 0 := by decide +kernel
theorem zfc_19_29 : zfc 19 9 29 = some 0 := by decide +kernel
theorem zfc_19_30 : zfc 19 9 30 = some 1 := by decide +kernel
theorem zfc_19_31 : zfc 19 9 31 = some 0 := by decide +kernel
theorem zfc_19_32 : zfc 19 9 32 = some 1 := by decide +kernel
theorem zfc_19_33 : zfc 19 9 33 = some 1 := by decide +kernel
theorem zfc_19_34 : zfc 19 9 34 = some 0 := by decide +kernel
theorem zfc_19_35 : zfc 19 9 35 = some 0 := by decide +kernel
theorem zfc_19_36 : zfc 19 9 36 = some 0 := by decide +kernel
theorem zfc_19_37 : zfc 19 9 37 = some 0 := by decide +kernel
theorem zfc_19_38 : zfc 19 9 38 = some 1 := by decide +kernel
theorem zfc_19_39 : zfc 19 9 39 = some 0 := by decide +kernel
theorem zfc_19_40 : zfc 19 9 40 = some 65 := by decide +kernel
theorem zfc_19_41 : zfc 19 9 41 = some 66 := by decide +kernel
theorem zfc_19_42 : zfc 19 9 42 = some 67 := by decide +kernel
theorem zfc_19_43 : zfc 19 9 43 = some 0 := by decide +kernel
theorem zac_20 : zac 20 = some (4, 8) := by decide +kernel
theorem zfc_21_0 : zfc 21 7 0 = some 24 := by decide +kernel
theorem zfc_21_1 : zfc 21 7 1 = some 0 := by decide +kernel
theorem zfc_21_2 : zfc 21 7 2 = some 0 := by decide +kernel
theorem zfc_21_3 : zfc 21 7 3 = some 0 := by decide +kernel
theorem zfc_21_4 : zfc 21 7 4 = some 0 := by decide +kernel
theorem zfc_21_5 : zfc 21 7 5 = some 0 := by decide +kernel
theorem zfc_21_6 : zfc 21 7 6 = some 1 := by decide +kernel
theorem zac_22 : zac 22 = some (0, 256) := by decide +kernel
theorem zfc_23_0 : zfc 23 7 0 = some 26 := by decide +kernel
theorem zfc_23_1 : zfc 23 7 1 = some 0 := by decide +kernel
theorem zfc_23_2 : zfc 23 7 2 = some 0 := by decide +kernel
theorem zfc_23_3 : zfc 23 7 3 = some 0 := by decide +kernel
theorem zfc_23_4 : zfc 23 7 4 = some 0 := by decide +kernel
theorem zfc_23_5 : zfc 23 7 5 = some 0 := by decide +kernel
theorem zfc_23_6 : zfc 23 7 6 = some 1 := by decide +kernel
theorem zac_24 : zac 24 = some (0, 256) := by decide +kernel
theorem zfc_25_0 : zfc 25 7 0 = some 28 := by decide +kernel
theorem zfc_25_1 : zfc 25 7 1 = some 0 := by decide +kernel
theorem zfc_25_2 : zfc 25 7 2 = some 0 := by decide +kernel
theorem zfc_25_3 : zfc 25 7 3 = some 0 := by decide +kernel
theorem zfc_25_4 : zfc 25 7 4 = some 0 := by decide +kernel
theorem zfc_25_5 : zfc 25 7 5 = some 0 := by decide +kernel
theorem zfc_25_6 : zfc 25 7 6 = some 1 := by decide +kernel
theorem zac_26 : zac 26 = some (0, 256) := by decide +kernel
theorem zfc_27_0 : zfc 27 7 0 = some 30 := by decide +kernel
theorem zfc_27_1 : zfc 27 7 1 = some 0 := by decide +kernel
theorem zfc_27_2 : zfc 27 7 2 = some 0 := by decide +kernel
theorem zfc_27_3 : zfc 27 7 3 = some 0 := by decide +kernel
theorem zfc_27_4 : zfc 27 7 4 = some 0 := by decide +kernel
theorem zfc_27_5 : zfc 27 7 5 = some 0 := by decide +kernel
theorem zfc_27_6 : zfc 27 7 6 = some 1 := by decide +kernel
theorem zac_28 : zac 28 = some (0, 256) := by decide +kernel
theorem zfc_29_0 : zfc 29 7 0 = some 32 := by decide +kernel
theorem zfc_29_1 : zfc 29 7 1 = some 0 := by decide +kernel
theorem zfc_29_2 : zfc 29 7 2 = some 0 := by decide +kernel
theorem zfc_29_3 : zfc 29 7 3 = some 0 := by decide +kernel
theorem zfc_29_4 : zfc 29 7 4 = some 0 := by decide +kernel
theorem zfc_29_5 : zfc 29 7 5 = some 0 := by decide +kernel
theorem zfc_29_6 : zfc 29 7 6 = some 1 := by decide +kernel
theorem zac_30 : zac 30 = some (0, 256) := by decide +kernel
theorem zfc_31_0 : zfc 31 7 0 = some 34 := by decide +kernel
theorem zfc_31_1 : zfc 31 7 1 = some 0 := by decide +kernel
theorem zfc_31_2 : zfc 31 7 2 = some 0 := by decide +kernel
theorem zfc_31_3 : zfc 31 7 3 = some 0 := by decide +kernel
theorem zfc_31_4 : zfc 31 7 4 = some 0 := by decide +kernel
theorem zfc_31_5 : zfc 31 7 5 = some 0 := by decide +kernel
theorem zfc_31_6 : zfc 31 7 6 = some 1 := by decide +kernel
theorem zac_32 : zac 32 = some (0, 256) := by decide +kernel
theorem zfc_33_0 : zfc 33 7 0 = some 36 := by decide +kernel
theorem zfc_33_1 : zfc 33 7 1 = some 0 := by decide +kernel
theorem zfc_33_2 : zfc 33 7 2 = some 0 := by decide +kernel
theorem zfc_33_3 : zfc 33 7 3 = some 0 := by decide +kernel
theorem zfc_33_4 : zfc 33 7 4 = some 0 := by decide +kernel
theorem zfc_33_5 : zfc 33 7 5 = some 0 := by decide +kernel
theorem zfc_33_6 : zfc 33 7 6 = some 1 := by decide +kernel
theorem zac_34 : zac 34 = some (0, 256) := by decide +kernel
theorem zfc_35_0 : zfc 35 7 0 = some 38 := by decide +kernel
theorem zfc_35_1 : zfc 35 7 1 = some 0 := by decide +kernel
theorem zfc_35_2 : zfc 35 7 2 = some 0 := by decide +kernel
theorem zfc_35_3 : zfc 35 7 3 = some 0 := by decide +kernel
theorem zfc_35_4 : zfc 35 7 4 = some 0 := by decide +kernel
theorem zfc_35_5 : zfc 35 7 5 = some 0 := by decide +kernel
theorem zfc_35_6 : zfc 35 7 6 = some 1 := by decide +kernel
theorem zac_36 : zac 36 = some (0, 256) := by decide +kernel
theorem zfc_37_0 : zfc 37 4 0 = some 40 := by decide +kernel
theorem zfc_37_1 : zfc 37 4 1 = some 0 := by decide +kernel
theorem zfc_37_2 : zfc 37 4 2 = some 0 := by decide +kernel
theorem zfc_37_3 : zfc 37 4 3 = some 0 := by decide +kernel
theorem zfc_37_4 : zfc 37 4 4 = some 41 := by decide +kernel
theorem zfc_37_5 : zfc 37 4 5 = some 0 := by decide +kernel
theorem zfc_37_6 : zfc 37 4 6 = some 42 := by decide +kernel
theorem zfc_37_7 : zfc 37 4 7 = some 0 := by decide +kernel
theorem zfc_37_8 : zfc 37 4 8 = some 0 := by decide +kernel
theorem zfc_37_9 : zfc 37 4 9 = some 43 := by decide +kernel
theorem zfc_37_10 : zfc 37 4 10 = some 52 := by decide +kernel
theorem zac_38 : zac 38 = some (2, 20000) := by decide +kernel
theorem zfc_39_0 : zfc 39 6 0 = some 0 := by decide +kernel
theorem zfc_39_1 : zfc 39 6 1 = some 0 := by decide +kernel
theorem zfc_39_2 : zfc 39 6 2 = some 0 := by decide +kernel
theorem zfc_39_3 : zfc 39 6 3 = some 0 := by decide +kernel
theorem zac_40 : zac 40 = some (0, 4096) := by decide +kernel
theorem zac_41 : zac 41 = some (3, 8) := by decide +kernel
theorem zac_42 : zac 42 = some (0, 256) := by decide +kernel
theorem zac_43 : zac 43 = some (0, 256) := by decide +kernel
theorem zac_44 : zac 44 = some (0, 256) := by decide +kernel
theorem zac_45 : zac 45 = some (0, 256) := by decide +kernel
theorem zac_46 : zac 46 = some (0, 256) := by decide +kernel
theorem zac_47 : zac 47 = some (0, 256) := by decide +kernel
theorem zac_48 : zac 48 = some (0, 256) := by decide +kernel
theorem zac_49 : zac 49 = some (0, 256) := by decide +kernel
theorem zfc_50_0 : zfc 50 3 0 = some 53 := by decide +kernel
theorem zfc_50_1 : zfc 50 3 1 = some 0 := by decide +kernel
theorem zfc_50_2 : zfc 50 3 2 = some 0 := by decide +kernel
theorem zac_51 : zac 51 = some (0, 32) := by decide +kernel
theorem zac_52 : zac 52 = some (0, 8) := by decide +kernel
theorem zac_53 : zac 53 = some (0, 4096) := by decide +kernel
theorem zac_54 : zac 54 = some (1, 2500) := by decide +kernel
theorem zac_55 : zac 55 = some (0, 264) := by decide +kernel
theorem zac_56 : zac 56 = some (0, 264) := by decide +kernel
theorem zac_57 : zac 57 = some (0, 264) := by decide +kernel
theorem zac_58 : zac 58 = some (0, 264) := by decide +kernel
theorem zac_59 : zac 59 = some (0, 256) := by decide +kernel
theorem zac_60 : zac 60 = some (1, 2500) := by decide +kernel
theorem zac_61 : zac 61 = some (1, 256) := by decide +kernel
theorem zac_62 : zac 62 = some (1, 256) := by decide +kernel
theorem zac_63 : zac 63 = some (0, 4096) := by decide +kernel
theorem zac_64 : zac 64 = some (1, 2048) := by decide +kernel
theorem zac_65 : zac 65 = some (0, 32) := by decide +kernel
end
section
/-! ===== the methods' own ===== -/
abbrev iX3_init : zI := (RX3, cX3_init, 2, none, [])
abbrev iX5_init : zI := (RX5, cX5_init, 1, none, [])
abbrev iX0_init : zI := (RX0, cX0_init, 1, none, [])
abbrev iX7_dropWasted : zI := (RX7, cX7_dropWasted, 3, none, [])
abbrev iX7_isOneNumber : zI := (RX7, cX7_isOneNumber, 2, some .boolean, [])
abbrev iX7_offer : zI := (RX7, cX7_offer, 5, none, [])
abbrev iX3_begin : zI := (RX3, cX3_begin, 2, none, [])
abbrev iX3_add : zI := (RX3, cX3_add, 2, none, [])
abbrev iX3_becomeFixed : zI := (RX3, cX3_becomeFixed, 4, none, [])
abbrev iX3_foretell : zI := (RX3, cX3_foretell, 6, some .long, [])
abbrev iX8_within : zI := (RX8, cX8_within, 6, some .boolean, [])
abbrev iX5_take : zI := (RX5, cX5_take, 7, some .boolean, [])
abbrev iX5_finestOrder : zI := (RX5, cX5_finestOrder, 2, some .int, [])
abbrev iJ7_fill_d0a16 : zI := (RJ7, cJ7_fill_d0a16, 5, none, [])
abbrev iX5_addUp : zI := (RX5, cX5_addUp, 8, none, [])
abbrev iX5_bitsInParts : zI := (RX5, cX5_bitsInParts, 11, some .long, [])
abbrev iX5_joinPairs : zI := (RX5, cX5_joinPairs, 4, none, [])
abbrev iX5_measure : zI := (RX5, cX5_measure, 5, none, [])
abbrev iX0_offerPredicted : zI := (RX0, cX0_offerPredicted, 5, none, [])
abbrev iX0_choose : zI := (RX0, cX0_choose, 5, none, [])
abbrev iX2_put : zI := (RX2, cX2_put, 8, none, [])
abbrev iX0_writeNumbers : zI := (RX0, cX0_writeNumbers, 4, none, [])
abbrev iX0_writeCoefficients : zI := (RX0, cX0_writeCoefficients, 3, none, [])
abbrev iX2_putZeros : zI := (RX2, cX2_putZeros, 2, none, [])
abbrev iX5_write : zI := (RX5, cX5_write, 6, none, [])
abbrev iX0_writeResiduals : zI := (RX0, cX0_writeResiduals, 4, none, [])
abbrev iX0_write : zI := (RX0, cX0_write, 4, none, [])
abbrev iX2_init : zI := (RX2, cX2_init, 1, none, [])
abbrev iX7_init : zI := (RX7, cX7_init, 1, none, [])
abbrev iX1_init : zI := (RX1, cX1_init, 2, none, [])
abbrev iX1_told : zI := (RX1, cX1_told, 4, some .int, [])
abbrev iX2_size : zI := (RX2, cX2_size, 1, some .int, [])
abbrev iJ7_rangeCheck_23922 : zI := (RJ7, cJ7_rangeCheck_23922, 3, none, [])
abbrev iJ7_fill_eb02e : zI := (RJ7, cJ7_fill_eb02e, 5, none, [])
abbrev iX2_clear : zI := (RX2, cX2_clear, 1, none, [])
abbrev iX1_begin : zI := (RX1, cX1_begin, 3, none, [])
abbrev iX7_begin : zI := (RX7, cX7_begin, 3, none, [])
abbrev iX1_fillSideAndMiddle : zI := (RX1, cX1_fillSideAndMiddle, 6, none, [])
abbrev iX8_isSide : zI := (RX8, cX8_isSide, 2, some .boolean, [])
abbrev iX1_subframeOf : zI := (RX1, cX1_subframeOf, 2, some .int, [])
abbrev iX1_sizeOf : zI := (RX1, cX1_sizeOf, 2, some .long, [])
abbrev iX1_shortestAssignment : zI := (RX1, cX1_shortestAssignment, 3, some .int, [])
abbrev iX1_writeHeader : zI := (RX1, cX1_writeHeader, 3, none, [])
abbrev iX8_sumOf : zI := (RX8, cX8_sumOf, 11, some .int, [])
abbrev iX1_keepWay : zI := (RX1, cX1_keepWay, 4, none, [])
abbrev iX2_fillByte : zI := (RX2, cX2_fillByte, 1, none, [])
abbrev iX1_addFrame : zI := (RX1, cX1_addFrame, 10, none, [])
abbrev iX6_init : zI := (RX6, cX6_init, 1, none, [])
abbrev iX4_init : zI := (RX4, cX4_init, 1, none, [])
abbrev iX4_append : zI := (RX4, cX4_append, 5, some .boolean, [])
abbrev iX4_load : zI := (RX4, cX4_load, 2, none, [])
abbrev iX4_fail : zI := (RX4, cX4_fail, 3, none, [])
abbrev iX4_number : zI := (RX4, cX4_number, 8, some .long, [])
abbrev iX4_expect : zI := (RX4, cX4_expect, 4, none, [])
abbrev iX4_failUnless : zI := (RX4, cX4_failUnless, 3, none, [])
abbrev iX4_pass : zI := (RX4, cX4_pass, 2, none, [])
abbrev iX4_readSettings : zI := (RX4, cX4_readSettings, 3, none, [])
abbrev iX4_openStream : zI := (RX4, cX4_openStream, 3, none, [])
abbrev iX4_readFrameNumber : zI := (RX4, cX4_readFrameNumber, 6, none, [])
abbrev iX4_readHeader : zI := (RX4, cX4_readHeader, 5, some .int, [])
abbrev iX4_expectSum : zI := (RX4, cX4_expectSum, 5, none, [])
abbrev iX4_orderOf : zI := (RX4, cX4_orderOf, 1, some .int, [])
abbrev iX4_zerosAndOne : zI := (RX4, cX4_zerosAndOne, 2, some .int, [])
abbrev iX4_signed : zI := (RX4, cX4_signed, 3, some .int, [])
abbrev iJ7_fill_fda19 : zI := (RJ7, cJ7_fill_fda19, 5, none, [])
abbrev iX4_readNumbers : zI := (RX4, cX4_readNumbers, 5, none, [])
abbrev iX4_readPredictor : zI := (RX4, cX4_readPredictor, 6, none, [])
abbrev iX4_unfolded : zI := (RX4, cX4_unfolded, 2, some .long, [])
abbrev iX8_fits : zI := (RX8, cX8_fits, 5, some .boolean, [])
abbrev iX4_readPart : zI := (RX4, cX4_readPart, 19, none, [])
abbrev iX4_readResiduals : zI := (RX4, cX4_readResiduals, 10, none, [])
abbrev iX4_readSubframe : zI := (RX4, cX4_readSubframe, 9, none, [])
abbrev iX4_uniteRows : zI := (RX4, cX4_uniteRows, 7, none, [])
abbrev iX4_keepSamples : zI := (RX4, cX4_keepSamples, 5, none, [])
abbrev iX4_readFrame : zI := (RX4, cX4_readFrame, 6, none, [])
abbrev iX4_expectEnd : zI := (RX4, cX4_expectEnd, 1, none, [])
abbrev iX4_accepts : zI := (RX4, cX4_accepts, 3, some .boolean, [(17, 85, 88, 89)])
abbrev iX6_become : zI := (RX6, cX6_become, 2, none, [])
abbrev iX8_init : zI := (RX8, cX8_init, 1, none, [])
abbrev iX8_shape : zI := (RX8, cX8_shape, 5, none, [])
abbrev iX8_predict : zI := (RX8, cX8_predict, 2, none, [])
abbrev iX8_coefficient : zI := (RX8, cX8_coefficient, 2, none, [])
abbrev iX8_push : zI := (RX8, cX8_push, 2, none, [])
abbrev iX8_make : zI := (RX8, cX8_make, 4, some .int, [])
abbrev iX8_octet : zI := (RX8, cX8_octet, 2, some .int, [])
abbrev iX8_way : zI := (RX8, cX8_way, 4, some .int, [])
abbrev iX8_feed : zI := (RX8, cX8_feed, 4, some .boolean, [])
abbrev iX8_again : zI := (RX8, cX8_again, 1, some .int, [])
abbrev iX8_read : zI := (RX8, cX8_read, 1, some .int, [])
abbrev iX8_fault : zI := (RX8, cX8_fault, 1, some .int, [])
abbrev iX8_place : zI := (RX8, cX8_place, 1, some .int, [])
abbrev iX8_sample : zI := (RX8, cX8_sample, 2, some .int, [])
abbrev iX8_count : zI := (RX8, cX8_count, 2, some .int, [])
abbrev iX9_init : zI := (RX9, cX9_init, 1, none, [])
abbrev iX9_thrown : zI := (RX9, cX9_thrown, 1, some .int, [])
abbrev iX9_in : zI := (RX9, cX9_in, 6, some .boolean, [])
abbrev iX9_fits : zI := (RX9, cX9_fits, 3, some .boolean, [])
abbrev iX9_shape : zI := (RX9, cX9_shape, 5, none, [])
abbrev iX9_predict : zI := (RX9, cX9_predict, 2, none, [])
abbrev iX9_coefficient : zI := (RX9, cX9_coefficient, 2, none, [])
abbrev iX9_push : zI := (RX9, cX9_push, 2, none, [])
abbrev iX9_isConstant : zI := (RX9, cX9_isConstant, 3, some .boolean, [])
abbrev iX9_takeWaste : zI := (RX9, cX9_takeWaste, 5, some .int, [])
abbrev iX9_fixed : zI := (RX9, cX9_fixed, 10, some .long, [])
abbrev iX9_summed : zI := (RX9, cX9_summed, 5, some .long, [])
abbrev iX9_o : zI := (RX9, cX9_o, 1, some .int, [])
abbrev iX9_leave : zI := (RX9, cX9_leave, 4, some .boolean, [])
abbrev iX9_folded : zI := (RX9, cX9_folded, 2, some .long, [])
abbrev iX9_costOf : zI := (RX9, cX9_costOf, 7, some .long, [])
abbrev iX9_bestK : zI := (RX9, cX9_bestK, 5, some .int, [])
abbrev iX9_partsCost : zI := (RX9, cX9_partsCost, 9, some .long, [])
abbrev iX9_leftCost : zI := (RX9, cX9_leftCost, 7, some .long, [])
abbrev iX9_offer : zI := (RX9, cX9_offer, 5, none, [])
abbrev iX9_measure : zI := (RX9, cX9_measure, 7, none, [])
abbrev iX9_write : zI := (RX9, cX9_write, 6, none, [])
abbrev iX9_octetOf : zI := (RX9, cX9_octetOf, 2, some .int, [])
abbrev iX9_sumOf : zI := (RX9, cX9_sumOf, 10, some .int, [])
abbrev iX9_load : zI := (RX9, cX9_load, 10, none, [])
abbrev iX9_bitsOf : zI := (RX9, cX9_bitsOf, 2, some .int, [])
abbrev iX9_measured : zI := (RX9, cX9_measured, 4, some .long, [])
abbrev iX9_rowOf : zI := (RX9, cX9_rowOf, 2, some .int, [])
abbrev iX9_assignment : zI := (RX9, cX9_assignment, 14, some .int, [])
abbrev iX9_writeNumber : zI := (RX9, cX9_writeNumber, 2, none, [])
abbrev iX9_writeLeft : zI := (RX9, cX9_writeLeft, 9, none, [])
abbrev iX9_writeRow : zI := (RX9, cX9_writeRow, 5, none, [])
abbrev iX9_writeFrame : zI := (RX9, cX9_writeFrame, 9, none, [])
abbrev iX9_make : zI := (RX9, cX9_make, 3, some .int, [])
abbrev iX9_octet : zI := (RX9, cX9_octet, 2, some .int, [])
abbrev iX9_way : zI := (RX9, cX9_way, 5, some .int, [])
abbrev iX9_feed : zI := (RX9, cX9_feed, 6, some .boolean, [])
abbrev iX9_again : zI := (RX9, cX9_again, 2, some .int, [])
abbrev iX9_wrong : zI := (RX9, cX9_wrong, 4, some .boolean, [])
abbrev iX9_take : zI := (RX9, cX9_take, 6, some .long, [])
abbrev iX9_takeSigned : zI := (RX9, cX9_takeSigned, 4, some .long, [])
abbrev iX9_takeIn : zI := (RX9, cX9_takeIn, 11, some .long, [])
abbrev iX9_takeRow : zI := (RX9, cX9_takeRow, 6, some .long, [])
abbrev iX9_passOver : zI := (RX9, cX9_passOver, 4, none, [])
abbrev iX9_readSettings : zI := (RX9, cX9_readSettings, 8, none, [])
abbrev iX9_readByte : zI := (RX9, cX9_readByte, 10, none, [])
abbrev iX9_readNumber : zI := (RX9, cX9_readNumber, 2, none, [])
abbrev iX9_readAssignment : zI := (RX9, cX9_readAssignment, 5, some .int, [])
abbrev iX9_readSum : zI := (RX9, cX9_readSum, 9, none, [])
abbrev iX9_readWeights : zI := (RX9, cX9_readWeights, 4, none, [])
abbrev iX9_unfolded : zI := (RX9, cX9_unfolded, 4, some .long, [])
abbrev iX9_foretold : zI := (RX9, cX9_foretold, 7, some .long, [])
abbrev iX9_readLeft : zI := (RX9, cX9_readLeft, 19, none, [])
abbrev iX9_readRow : zI := (RX9, cX9_readRow, 15, none, [])
abbrev iX9_isKept : zI := (RX9, cX9_isKept, 10, some .boolean, [])
abbrev iX9_readFrame : zI := (RX9, cX9_readFrame, 12, none, [])
abbrev iX9_read : zI := (RX9, cX9_read, 4, some .int, [])
abbrev iX9_fault : zI := (RX9, cX9_fault, 1, some .int, [])
abbrev iX9_place : zI := (RX9, cX9_place, 1, some .int, [])
abbrev iX9_sample : zI := (RX9, cX9_sample, 2, some .int, [])
abbrev iX9_count : zI := (RX9, cX9_count, 2, some .int, [])
abbrev iL_shape : zI := (RL, cL_shape, 6, some .int, [(0, 9, 12, 13)])
abbrev iL_predict : zI := (RL, cL_predict, 3, some .int, [(0, 5, 8, 13)])
abbrev iL_coefficient : zI := (RL, cL_coefficient, 3, some .int, [(0, 5, 8, 13), (0, 5, 11, 22)])
abbrev iL_push : zI := (RL, cL_push, 3, some .int, [(0, 5, 8, 13), (0, 5, 11, 22)])
abbrev iL_make : zI := (RL, cL_make, 3, some .int, [(0, 8, 11, 22)])
abbrev iL_way : zI := (RL, cL_way, 6, some .int, [(0, 12, 15, 13)])
abbrev iL_read : zI := (RL, cL_read, 3, some .int, [(0, 8, 11, 13)])
abbrev iL_sample : zI := (RL, cL_sample, 4, some .int, [(0, 9, 12, 13)])
end
section
/-! ===== Math.min, Math.max, System.arraycopy ===== -/
def zminw (own : String) (idx : Nat) : Bool := decide (Cond.methodLink own idx Lib.Math.min.name ∈ lw_tbl) && decide (Cond.static Lib.Math.min.name ∈ lw_tbl) && decide (Cond.initialized "java/lang/Math" ∈ lw_tbl) && decide (Cond.code Lib.Math.min.name Lib.Math.min.code 2 (some .int) ∈ lw_tbl)
def zmaxw (own : String) (idx : Nat) : Bool := decide (Cond.methodLink own idx Lib.Math.max.name ∈ lw_tbl) && decide (Cond.static Lib.Math.max.name ∈ lw_tbl) && decide (Cond.initialized "java/lang/Math" ∈ lw_tbl) && decide (Cond.code Lib.Math.max.name Lib.Math.max.code 2 (some .int) ∈ lw_tbl)
def zcpyw (own : String) (idx : Nat) : Bool := decide (Cond.methodLink own idx arraycopyName ∈ lw_tbl) && decide (Cond.native arraycopyName ∈ lw_tbl) && decide (Cond.static arraycopyName ∈ lw_tbl) && decide (Cond.initialized "java/lang/System" ∈ lw_tbl)
section ZJDK
variable {M : zM} {k pc idx : Nat} {L : zLo} {st : List Value} {D : zD} {Q : zQ}
theorem z_min {x y : Int32} (hd : decode (zcc M) pc = .ok (.invokestatic idx, 3)) (hw : zminw (zown M) idx = true) (hst : (st.map fun v => v.category).sum ≤ 8) (hk : k ≤ zcap M) (kk : Z M k (pc + 3) L (.int (if y < x then y else x) :: st) D Q) : Z M k pc L (.int y :: .int x :: st) D Q := by
  intro p l e R s m args below meth c ad cA G A H locs ls C hH hl
  obtain ⟨hx, hb, -, hml, -, -, ho, ⟨f1, f2, f3, f4⟩, hG⟩ := id C
  unfold zminw at hw
  simp only [Bool.and_eq_true, decide_eq_true_eq] at hw
  obtain ⟨⟨⟨w1, w2⟩, w3⟩, w4⟩ := hw
  exact va_mmin hx hb (hml.trans hl.1.symm) ho (hG.1 _ w1 rfl) (hG.1 _ w2 rfl) (hG.1 _ w3 rfl) (hG.1 _ w4 rfl) (by omega) (by rw [zcategory_map]; omega) (by omega) (by omega) hd (kk p l e R s m args below meth c ad cA G A H locs ls C hH hl)
theorem z_max {x y : Int32} (hd : decode (zcc M) pc = .ok (.invokestatic idx, 3)) (hw : zmaxw (zown M) idx = true) (hst : (st.map fun v => v.category).sum ≤ 8) (hk : k ≤ zcap M) (kk : Z M k (pc + 3) L (.int (if x < y then y else x) :: st) D Q) : Z M k pc L (.int y :: .int x :: st) D Q := by
  intro p l e R s m args below meth c ad cA G A H locs ls C hH hl
  obtain ⟨hx, hb, -, hml, -, -, ho, ⟨f1, f2, f3, f4⟩, hG⟩ := id C
  unfold zmaxw at hw
  simp only [Bool.and_eq_true, decide_eq_true_eq] at hw
  obtain ⟨⟨⟨w1, w2⟩, w3⟩, w4⟩ := hw
  exact va_mmax hx hb (hml.trans hl.1.symm) ho (hG.1 _ w1 rfl) (hG.1 _ w2 rfl) (hG.1 _ w3 rfl) (hG.1 _ w4 rfl) (by omega) (by rw [zcategory_map]; omega) (by omega) (by omega) hd (kk p l e R s m args below meth c ad cA G A H locs ls C hH hl)
theorem z_copyI {a0 a1 n0 n1 : Nat} {r0 r1 : List Nat} {sp dp n : Int32} (h0 : zSH[a0]? = some (0, n0, r0)) (h1 : zSH[a1]? = some (0, n1, r1)) (hd : decode (zcc M) pc = .ok (.invokestatic idx, 3)) (hw : zcpyw (zown M) idx = true) (g1 : ¬ sp < 0) (g2 : ¬ dp < 0) (g3 : ¬ n < 0) (g4 : sp.toNatClampNeg + n.toNatClampNeg ≤ n0) (g5 : dp.toNatClampNeg + n.toNatClampNeg ≤ n1) (hst : (st.map fun v => v.category).sum ≤ 8)
    (kk : Z M k (pc + 3) L st (zuR D a1 (va_cpy (D.1 a0) (D.1 a1) sp.toNatClampNeg dp.toNatClampNeg n.toNatClampNeg)) Q) : Z M k pc L (.int n :: .int dp :: .ref a1 :: .int sp :: .ref a0 :: st) D Q := by
  intro p l e R s m args below meth c ad cA G A H locs ls C hH hl
  obtain ⟨hx, hb, -, hml, -, -, ho, ⟨f1, f2, f3, f4⟩, hG⟩ := id C
  unfold zcpyw at hw
  simp only [Bool.and_eq_true, decide_eq_true_eq] at hw
  obtain ⟨⟨⟨w1, w2⟩, w3⟩, w4⟩ := hw
  refine va_copyi (D := G) (ws := zws ad cA D) hx hb (hml.trans hl.1.symm) ho (hG.1 _ w1 rfl) (hG.1 _ w2 rfl) (hG.1 _ w3 rfl) (hG.1 _ w4 rfl) hG.2.2.1 hH.1 hH.2.1 hH.2.2 a0 a1 0 0 (ty := .int) (zws_at h0) (zws_at h1) rfl rfl rfl g1 g2 g3 g4 g5 (fun _ _ => rfl) (by omega) (by
    rw [zcategory_map]
    have : nativeFrameWords "java/lang/System" "arraycopy" 5 + 11 ≤ 142 := by decide +kernel
    omega) hd (fun H1 locs1 q1 q2 q3 => ?_)
  have e1 := zws_set (ad := ad) (cA := cA) (D := D) (D' := zuR D a1 (va_cpy (D.1 a0) (D.1 a1) sp.toNatClampNeg dp.toNatClampNeg n.toNatClampNeg)) (e := .inl (cA 0, n1, .inl (va_cpy (D.1 a0) (D.1 a1) sp.toNatClampNeg dp.toNatClampNeg n.toNatClampNeg))) h1 (by show (Sum.inl (cA 0, n1, Sum.inl ((zuR D a1 _).1 a1)) : va_E) = _; rw [zuR_s]) (fun b hb => if_neg hb) (fun _ _ => rfl)
  refine kk p l e R s m args below meth c ad cA G A H1 locs1 ls C ⟨?_, ?_, q3⟩ hl
  · rw [← e1]; exact q1
  · rw [← e1]; exact q2
/-- .. of bytes -/
theorem z_copyB {a0 a1 n0 n1 : Nat} {r0 r1 : List Nat} {sp dp n : Int32} (h0 : zSH[a0]? = some (2, n0, r0)) (h1 : zSH[a1]? = some (2, n1, r1)) (hd : decode (zcc M) pc = .ok (.invokestatic idx, 3)) (hw : zcpyw (zown M) idx = true) (g1 : ¬ sp < 0) (g2 : ¬ dp < 0) (g3 : ¬ n < 0) (g4 : sp.toNatClampNeg + n.toNatClampNeg ≤ n0) (g5 : dp.toNatClampNeg + n.toNatClampNeg ≤ n1) (hfit : ∀ i, i < n.toNatClampNeg → fits .byte (.int (D.1 a0 (sp.toNatClampNeg + i))) = true) (hst : (st.map fun v => v.category).sum ≤ 8)
    (kk : Z M k (pc + 3) L st (zuR D a1 (va_cpy (D.1 a0) (D.1 a1) sp.toNatClampNeg dp.toNatClampNeg n.toNatClampNeg)) Q) : Z M k pc L (.int n :: .int dp :: .ref a1 :: .int sp :: .ref a0 :: st) D Q := by
  intro p l e R s m args below meth c ad cA G A H locs ls C hH hl
  obtain ⟨hx, hb, -, hml, -, -, ho, ⟨f1, f2, f3, f4⟩, hG⟩ := id C
  unfold zcpyw at hw
  simp only [Bool.and_eq_true, decide_eq_true_eq] at hw
  obtain ⟨⟨⟨w1, w2⟩, w3⟩, w4⟩ := hw
  refine va_copyi (D := G) (ws := zws ad cA D) hx hb (hml.trans hl.1.symm) ho (hG.1 _ w1 rfl) (hG.1 _ w2 rfl) (hG.1 _ w3 rfl) (hG.1 _ w4 rfl) hG.2.2.1 hH.1 hH.2.1 hH.2.2 a0 a1 2 2 (ty := .byte) (zws_at h0) (zws_at h1) rfl rfl rfl g1 g2 g3 g4 g5 hfit (by omega) (by
    rw [zcategory_map]
    have : nativeFrameWords "java/lang/System" "arraycopy" 5 + 11 ≤ 142 := by decide +kernel
    omega) hd (fun H1 locs1 q1 q2 q3 => ?_)
  have e1 := zws_set (ad := ad) (cA := cA) (D := D) (D' := zuR D a1 (va_cpy (D.1 a0) (D.1 a1) sp.toNatClampNeg dp.toNatClampNeg n.toNatClampNeg)) (e := .inl (cA 2, n1, .inl (va_cpy (D.1 a0) (D.1 a1) sp.toNatClampNeg dp.toNatClampNeg n.toNatClampNeg))) h1 (by show (Sum.inl (cA 2, n1, Sum.inl ((zuR D a1 _).1 a1)) : va_E) = _; rw [zuR_s]) (fun b hb => if_neg hb) (fun _ _ => rfl)
  refine kk p l e R s m args below meth c ad cA G A H1 locs1 ls C ⟨?_, ?_, q3⟩ hl
  · rw [← e1]; exact q1
  · rw [← e1]; exact q2
end ZJDK
end
section
/-! ===== locals as a list, for stretches that are laid by program ===== -/
def zl : List (Nat × Value) → zLo
  | [], _ => none
  | q :: r, i => if q.1 = i then some q.2 else zl r i
def zlall (L : zLo) : List (Nat × Value) → Prop
  | [] => True
  | q :: r => L q.1 = some q.2 ∧ zlall L r
theorem zlall_get {L : zLo} : ∀ {l : List (Nat × Value)}, zlall L l → ∀ {i : Nat} {v : Value}, zl l i = some v → L i = some v
  | [], _, _, _, h => by cases h
  | q :: r, ha, i, v, h => by
    unfold zl at h
    split at h
    next e => cases h; subst e; exact ha.1
    next => exact zlall_get ha.2 h
section ZLOCS
variable {M : zM} {k pc : Nat} {L : zLo} {st : List Value} {D : zD} {Q : zQ}
/-- at a place with these locals known, and perhaps more -/
theorem z_at (l : List (Nat × Value)) (h : zlall L l) (kk : Z M k pc (zl l) st D Q) : Z M k pc L st D Q := z_loc kk (fun _ _ hv => zlall_get h hv)
theorem z_gfI {a ci f t idx : Nat} (hx : zfx (zown M) idx = some (ci, f, t)) (hc : zfc a ci f = some 0) (hd : decode (zcc M) pc = .ok (.getfield idx, 3)) (kk : Z M k (pc + 3) L (.int (D.1 a f) :: st) D Q) : Z M k pc L (.ref a :: st) D Q := by
  obtain ⟨fl, h1, h2⟩ := zfc_ok hc
  exact z_getI (zfx_ok hx).1 h1 h2 hd kk
theorem z_gfL {a ci f t idx : Nat} (hx : zfx (zown M) idx = some (ci, f, t)) (hc : zfc a ci f = some 1) (hd : decode (zcc M) pc = .ok (.getfield idx, 3)) (kk : Z M k (pc + 3) L (.long (D.2 a f) :: st) D Q) : Z M k pc L (.ref a :: st) D Q := by
  obtain ⟨fl, h1, h2⟩ := zfc_ok hc
  exact z_getL (zfx_ok hx).1 h1 h2 hd kk
theorem z_gfA {a ci f t idx r : Nat} (hx : zfx (zown M) idx = some (ci, f, t)) (hc : zfc a ci f = some (r + 2)) (hd : decode (zcc M) pc = .ok (.getfield idx, 3)) (kk : Z M k (pc + 3) L (.ref r :: st) D Q) : Z M k pc L (.ref a :: st) D Q := by
  obtain ⟨fl, h1, h2⟩ := zfc_ok hc
  exact z_getA (zfx_ok hx).1 h1 h2 hd kk
theorem z_pfI {a ci f idx : Nat} {x : Int32} (hx : zfx (zown M) idx = some (ci, f, 0)) (hc : zfc a ci f = some 0) (hd : decode (zcc M) pc = .ok (.putfield idx, 3)) (kk : Z M k (pc + 3) L st (zuI D a f x) Q) : Z M k pc L (.int x :: .ref a :: st) D Q := by
  obtain ⟨fl, h1, h2⟩ := zfc_ok hc
  exact z_putI ((zfx_ok hx).2.1 rfl) h1 h2 hd kk
theorem z_pfL {a ci f idx : Nat} {x : Int64} (hx : zfx (zown M) idx = some (ci, f, 1)) (hc : zfc a ci f = some 1) (hd : decode (zcc M) pc = .ok (.putfield idx, 3)) (kk : Z M k (pc + 3) L st (zuL D a f x) Q) : Z M k pc L (.long x :: .ref a :: st) D Q := by
  obtain ⟨fl, h1, h2⟩ := zfc_ok hc
  exact z_putL ((zfx_ok hx).2.2 rfl) h1 h2 hd kk
theorem z_ldcI {i : Nat} {v : Int32} (hd : decode (zcc M) pc = .ok (.ldc i, 2)) (hc : zcix (zown M) i = some v) (kk : Z M k (pc + 2) L (.int v :: st) D Q) : Z M k pc L st D Q := z_ldc hd (zcix_ok hc) kk
theorem z_ldcL {i : Nat} {v : Int64} (hd : decode (zcc M) pc = .ok (.ldc2_w i, 3)) (hc : zclx (zown M) i = some v) (kk : Z M k (pc + 3) L (.long v :: st) D Q) : Z M k pc L st D Q := z_ldc2 hd (zclx_ok hc) kk
theorem z_aI {a n : Nat} {i : Int32} (hs : zac a = some (0, n)) (hd : decode (zcc M) pc = .ok (.iaload, 1)) (hin : vp_in i n) (kk : Z M k (pc + 1) L (.int (D.1 a i.toNatClampNeg) :: st) D Q) : Z M k pc L (.int i :: .ref a :: st) D Q := by
  obtain ⟨r, h⟩ := zac_ok hs
  exact z_iald h hd hin kk
theorem z_aB {a n : Nat} {i : Int32} (hs : zac a = some (2, n)) (hd : decode (zcc M) pc = .ok (.baload, 1)) (hin : vp_in i n) (kk : Z M k (pc + 1) L (.int (D.1 a i.toNatClampNeg) :: st) D Q) : Z M k pc L (.int i :: .ref a :: st) D Q := by
  obtain ⟨r, h⟩ := zac_ok hs
  exact z_bald h hd hin kk
theorem z_aJ {a n : Nat} {i : Int32} (hs : zac a = some (1, n)) (hd : decode (zcc M) pc = .ok (.laload, 1)) (hin : vp_in i n) (kk : Z M k (pc + 1) L (.long (D.2 a i.toNatClampNeg) :: st) D Q) : Z M k pc L (.int i :: .ref a :: st) D Q := by
  obtain ⟨r, h⟩ := zac_ok hs
  exact z_lald h hd hin kk
theorem z_sI {a n : Nat} {i x : Int32} (hs : zac a = some (0, n)) (hd : decode (zcc M) pc = .ok (.iastore, 1)) (hin : vp_in i n) (kk : Z M k (pc + 1) L st (zuI D a i.toNatClampNeg x) Q) : Z M k pc L (.int x :: .int i :: .ref a :: st) D Q := by
  obtain ⟨r, h⟩ := zac_ok hs
  exact z_iast h hd hin kk
theorem z_sB {a n : Nat} {i x : Int32} (hs : zac a = some (2, n)) (hd : decode (zcc M) pc = .ok (.bastore, 1)) (hin : vp_in i n) (kk : Z M k (pc + 1) L st (zuI D a i.toNatClampNeg x.toInt8.toInt32) Q) : Z M k pc L (.int x :: .int i :: .ref a :: st) D Q := by
  obtain ⟨r, h⟩ := zac_ok hs
  exact z_bast h hd hin kk
theorem z_sJ {a n : Nat} {i : Int32} {x : Int64} (hs : zac a = some (1, n)) (hd : decode (zcc M) pc = .ok (.lastore, 1)) (hin : vp_in i n) (kk : Z M k (pc + 1) L st (zuL D a i.toNatClampNeg x) Q) : Z M k pc L (.long x :: .int i :: .ref a :: st) D Q := by
  obtain ⟨r, h⟩ := zac_ok hs
  exact z_last h hd hin kk
/-- a computed number gets a name -/
theorem z_nI {x : Int32} (kk : ∀ y : Int32, y = x → Z M k pc L (.int y :: st) D Q) : Z M k pc L (.int x :: st) D Q := kk x rfl
theorem z_nJ {x : Int64} (kk : ∀ y : Int64, y = x → Z M k pc L (.long y :: st) D Q) : Z M k pc L (.long x :: st) D Q := kk x rfl
/-- .. or another form -/
theorem z_eI {x : Int32} (y : Int32) (h : x = y) (kk : Z M k pc L (.int y :: st) D Q) : Z M k pc L (.int x :: st) D Q := h ▸ kk
theorem z_eJ {x : Int64} (y : Int64) (h : x = y) (kk : Z M k pc L (.long y :: st) D Q) : Z M k pc L (.long x :: st) D Q := h ▸ kk
end ZLOCS
end
section
/-! ===== calls by what comes behind them ===== -/
/-- behind a call at pc -/
abbrev zcont (M : zM) (k pc : Nat) (L : zLo) (st : List Value) (Q : zQ) : zQ := fun o k' D' => match o with
  | .inl v => Z M (k + k') (pc + 3) L (v.toList ++ st) D' Q
  | .inr E => ZX M (k + k') pc L E D' Q
def zpop : Nat → List Value → List Value → Option (List Value × List Value)
  | 0, st, acc => some (acc, st)
  | n + 1, v :: st, acc => zpop n st (v :: acc)
  | _ + 1, [], _ => none
theorem zpop_eq : ∀ {n : Nat} {stk acc av st : List Value}, zpop n stk acc = some (av, st) → acc.reverse ++ stk = av.reverse ++ st ∧ av.length = n + acc.length
  | 0, stk, acc, av, st, h => by cases h; exact ⟨rfl, (Nat.zero_add _).symm⟩
  | n + 1, [], acc, av, st, h => by cases h
  | n + 1, v :: stk, acc, av, st, h => by
    have h1 := zpop_eq (n := n) (stk := stk) (acc := v :: acc) h
    refine ⟨?_, by rw [h1.2, List.length_cons]; omega⟩
    rw [← h1.1, List.reverse_cons, List.append_assoc]
    rfl
section ZCPS
variable {M : zM} {k pc : Nat} {L : zLo} {st stk : List Value} {D : zD} {Q : zQ} {y : MethodName} {I : zI} {d idx n : Nat} {av : List Value}
theorem z_cV {a ci : Nat} {fl : List Nat} {Tt : u_T} {N : Nat} (hd : decode (zcc M) pc = .ok (.invokevirtual idx, 3)) (hw : zcall (zown M) idx 0 y I n = true) (hp : zpop (n + 1) stk [] = some (.ref a :: av, st)) (ha : zSH[a]? = some (5, ci, fl)) (hcl : zcl[ci]? = some (y.cls, Tt, N))
    (hst : (st.map fun v => v.category).sum ≤ 8) (hk : k + 2 ≤ zcap M) (hdep : d + 1 ≤ zdep M) (hM : ZM y I d (.ref a :: av) D (zcont M k pc L st Q)) : Z M k pc L stk D Q := by
  have h1 := zpop_eq hp
  refine z_callV hM hd hw ha hcl (by have := h1.2; simp at this; omega) (by
    have := h1.1
    simp only [List.reverse_nil, List.nil_append, List.reverse_cons, List.append_assoc] at this
    exact this) hst hk hdep (fun v k' D' h => h) (fun E k' D' h => h)
theorem z_cS (hd : decode (zcc M) pc = .ok (.invokestatic idx, 3)) (hw : zcall (zown M) idx 1 y I n = true) (hp : zpop n stk [] = some (av, st))
    (hst : (st.map fun v => v.category).sum ≤ 8) (hk : k + 2 ≤ zcap M) (hdep : d + 1 ≤ zdep M) (hM : ZM y I d av D (zcont M k pc L st Q)) : Z M k pc L stk D Q := by
  have h1 := zpop_eq hp
  exact z_callS hM hd hw (by have := h1.2; simpa using this) (by simpa using h1.1) hst hk hdep (fun v k' D' h => h) (fun E k' D' h => h)
theorem z_cN (hd : decode (zcc M) pc = .ok (.invokestatic idx, 3)) (hw : zcall (zown M) idx 2 y I n = true) (hI : I.2.2.2.2 = []) (hp : zpop n stk [] = some (av, st))
    (hst : (st.map fun v => v.category).sum ≤ 8) (hk : k + 2 ≤ zcap M) (hdep : d + 1 ≤ zdep M) (hM : ZM y I d av D (zcont M k pc L st Q)) : Z M k pc L stk D Q := by
  have h1 := zpop_eq hp
  exact z_callN hM hd hw hI (by have := h1.2; simpa using this) (by simpa using h1.1) hst hk hdep (fun v k' D' h => h) (fun E k' D' h => h)
/-- two longs compared, and a jump -/
theorem z_lt {x y : Int64} {off : Int} {tgt : Nat} (d1 : decode (zcc M) pc = .ok (.lcmp, 1)) (d2 : decode (zcc M) (pc + 1) = .ok (.ifCond .lt off, 3)) (ht : ((pc + 1 : Nat) : Int) + off = (tgt : Int)) (kt : x < y → Z M k tgt L st D Q) (kf : ¬ x < y → Z M k (pc + 4) L st D Q) : Z M k pc L (.long y :: .long x :: st) D Q :=
  z_lcmp d1 (z_if_lt d2 ht (fun h => kt ((lg_cmp_lt x y).mp h)) (fun h => kf (fun q => h ((lg_cmp_lt x y).mpr q))))
theorem z_ge {x y : Int64} {off : Int} {tgt : Nat} (d1 : decode (zcc M) pc = .ok (.lcmp, 1)) (d2 : decode (zcc M) (pc + 1) = .ok (.ifCond .ge off, 3)) (ht : ((pc + 1 : Nat) : Int) + off = (tgt : Int)) (kt : y ≤ x → Z M k tgt L st D Q) (kf : ¬ y ≤ x → Z M k (pc + 4) L st D Q) : Z M k pc L (.long y :: .long x :: st) D Q :=
  z_lcmp d1 (z_if_ge d2 ht (fun h => kt ((lg_cmp_ge x y).mp h)) (fun h => kf (fun q => h ((lg_cmp_ge x y).mpr q))))
theorem z_gt {x y : Int64} {off : Int} {tgt : Nat} (d1 : decode (zcc M) pc = .ok (.lcmp, 1)) (d2 : decode (zcc M) (pc + 1) = .ok (.ifCond .gt off, 3)) (ht : ((pc + 1 : Nat) : Int) + off = (tgt : Int)) (kt : y < x → Z M k tgt L st D Q) (kf : ¬ y < x → Z M k (pc + 4) L st D Q) : Z M k pc L (.long y :: .long x :: st) D Q :=
  z_lcmp d1 (z_if_gt d2 ht (fun h => kt ((lg_cmp_gt x y).mp h)) (fun h => kf (fun q => h ((lg_cmp_gt x y).mpr q))))
theorem z_le {x y : Int64} {off : Int} {tgt : Nat} (d1 : decode (zcc M) pc = .ok (.lcmp, 1)) (d2 : decode (zcc M) (pc + 1) = .ok (.ifCond .le off, 3)) (ht : ((pc + 1 : Nat) : Int) + off = (tgt : Int)) (kt : x ≤ y → Z M k tgt L st D Q) (kf : ¬ x ≤ y → Z M k (pc + 4) L st D Q) : Z M k pc L (.long y :: .long x :: st) D Q :=
  z_lcmp d1 (z_if_le d2 ht (fun h => kt ((lg_cmp_le x y).mp h)) (fun h => kf (fun q => h ((lg_cmp_le x y).mpr q))))
theorem z_eq {x y : Int64} {off : Int} {tgt : Nat} (d1 : decode (zcc M) pc = .ok (.lcmp, 1)) (d2 : decode (zcc M) (pc + 1) = .ok (.ifCond .eq off, 3)) (ht : ((pc + 1 : Nat) : Int) + off = (tgt : Int)) (kt : x = y → Z M k tgt L st D Q) (kf : ¬ x = y → Z M k (pc + 4) L st D Q) : Z M k pc L (.long y :: .long x :: st) D Q :=
  z_lcmp d1 (z_if_eq d2 ht (fun h => kt ((lg_cmp_eq x y).mp h)) (fun h => kf (fun q => h ((lg_cmp_eq x y).mpr q))))
theorem z_ne {x y : Int64} {off : Int} {tgt : Nat} (d1 : decode (zcc M) pc = .ok (.lcmp, 1)) (d2 : decode (zcc M) (pc + 1) = .ok (.ifCond .ne off, 3)) (ht : ((pc + 1 : Nat) : Int) + off = (tgt : Int)) (kt : ¬ x = y → Z M k tgt L st D Q) (kf : x = y → Z M k (pc + 4) L st D Q) : Z M k pc L (.long y :: .long x :: st) D Q :=
  z_lcmp d1 (z_if_ne d2 ht (fun h => kt (fun q => h ((lg_cmp_eq x y).mpr q))) (fun h => kf ((lg_cmp_eq x y).mp h)))
theorem z_alenL {a n : Nat} (hs : zac a = some (0, n)) (hd : decode (zcc M) pc = .ok (.arraylength, 1)) (kk : Z M k (pc + 1) L (.int (nI n) :: st) D Q) : Z M k pc L (.ref a :: st) D Q := by
  obtain ⟨r, h⟩ := zac_ok hs
  exact z_alen h hd rfl kk
/-- a condition that is decided: one branch is left -/
theorem z_ift {x : Int32} {off : Int} {tgt : Nat} (hd : decode (zcc M) pc = .ok (.ifCond .ne off, 3)) (ht : (pc : Int) + off = (tgt : Int)) (hx : ¬ x = 0) (kk : Z M k tgt L st D Q) : Z M k pc L (.int x :: st) D Q := z_if_ne hd ht (fun _ => kk) (fun h => absurd h hx)
theorem z_iff {x : Int32} {off : Int} {tgt : Nat} (hd : decode (zcc M) pc = .ok (.ifCond .ne off, 3)) (ht : (pc : Int) + off = (tgt : Int)) (hx : x = 0) (kk : Z M k (pc + 3) L st D Q) : Z M k pc L (.int x :: st) D Q := z_if_ne hd ht (fun h => absurd hx h) (fun _ => kk)
theorem z_ief {x : Int32} {off : Int} {tgt : Nat} (hd : decode (zcc M) pc = .ok (.ifCond .eq off, 3)) (ht : (pc : Int) + off = (tgt : Int)) (hx : ¬ x = 0) (kk : Z M k (pc + 3) L st D Q) : Z M k pc L (.int x :: st) D Q := z_if_eq hd ht (fun h => absurd h hx) (fun _ => kk)
theorem z_iet {x : Int32} {off : Int} {tgt : Nat} (hd : decode (zcc M) pc = .ok (.ifCond .eq off, 3)) (ht : (pc : Int) + off = (tgt : Int)) (hx : x = 0) (kk : Z M k tgt L st D Q) : Z M k pc L (.int x :: st) D Q := z_if_eq hd ht (fun _ => kk) (fun h => absurd hx h)
end ZCPS
end
section
/-! ===== leaves: within, in, fits ===== -/
theorem c_within {d : Nat} {D : zD} {Q : zQ} {x a b : Int64} (h1 : a ≤ x → x ≤ b → Q (.inl (some (.int 1))) 0 D) (h0 : ¬ (a ≤ x ∧ x ≤ b) → Q (.inl (some (.int 0))) 0 D) : ZM yX8_within iX8_within d [.long x, .long a, .long b] D Q := by
  refine z_method (by decide) rfl (Nat.le_of_ble_eq_true rfl) ?_
  refine z_at [(0, .long x), (2, .long a), (4, .long b)] ⟨rfl, rfl, rfl, trivial⟩ ?_
  refine z_lload_n dX8_within_0 (by exact rfl) ?_
  refine z_lload_n dX8_within_1 (by exact rfl) ?_
  refine z_lt (tgt := 17) dX8_within_2 dX8_within_3 (by decide) (fun c1 => ?_) (fun c1 => ?_)
  · refine z_iconst dX8_within_17 ?_
    exact z_zret (st := []) (by decide) rfl dX8_within_18 (h0 (fun q => absurd c1 (Int64.not_lt.mpr q.1)))
  · refine z_lload_n dX8_within_6 (by exact rfl) ?_
    refine z_lload dX8_within_7 (by exact rfl) ?_
    refine z_gt (tgt := 17) dX8_within_9 dX8_within_10 (by decide) (fun c2 => ?_) (fun c2 => ?_)
    · refine z_iconst dX8_within_17 ?_
      exact z_zret (st := []) (by decide) rfl dX8_within_18 (h0 (fun q => absurd c2 (Int64.not_lt.mpr q.2)))
    · refine z_iconst dX8_within_13 ?_
      refine z_goto (tgt := 18) dX8_within_14 (by decide) ?_
      exact z_zret (st := []) (by decide) rfl dX8_within_18 (h1 (Int64.not_lt.mp c1) (Int64.not_lt.mp c2))
theorem c_in {d : Nat} {D : zD} {Q : zQ} {x a b : Int64} (h1 : a ≤ x → x ≤ b → Q (.inl (some (.int 1))) 0 D) (h0 : ¬ (a ≤ x ∧ x ≤ b) → Q (.inl (some (.int 0))) 0 D) : ZM yX9_in iX9_in d [.long x, .long a, .long b] D Q := by
  refine z_method (by decide) rfl (Nat.le_of_ble_eq_true rfl) ?_
  refine z_at [(0, .long x), (2, .long a), (4, .long b)] ⟨rfl, rfl, rfl, trivial⟩ ?_
  refine z_lload_n dX9_in_0 (by exact rfl) ?_
  refine z_lload_n dX9_in_1 (by exact rfl) ?_
  refine z_lt (tgt := 17) dX9_in_2 dX9_in_3 (by decide) (fun c1 => ?_) (fun c1 => ?_)
  · refine z_iconst dX9_in_17 ?_
    exact z_zret (st := []) (by decide) rfl dX9_in_18 (h0 (fun q => absurd c1 (Int64.not_lt.mpr q.1)))
  · refine z_lload_n dX9_in_6 (by exact rfl) ?_
    refine z_lload dX9_in_7 (by exact rfl) ?_
    refine z_gt (tgt := 17) dX9_in_9 dX9_in_10 (by decide) (fun c2 => ?_) (fun c2 => ?_)
    · refine z_iconst dX9_in_17 ?_
      exact z_zret (st := []) (by decide) rfl dX9_in_18 (h0 (fun q => absurd c2 (Int64.not_lt.mpr q.2)))
    · refine z_iconst dX9_in_13 ?_
      refine z_goto (tgt := 18) dX9_in_14 (by decide) ?_
      exact z_zret (st := []) (by decide) rfl dX9_in_18 (h1 (Int64.not_lt.mp c1) (Int64.not_lt.mp c2))
/-- 2 to the power b - 1, as the code has it -/
def zlim (b : Int32) : Int64 := Int64.ofNat ((1 : Fin 2) : Nat) <<< ((b - Int32.ofInt 1).toInt64 &&& 63)
theorem c_fits8 {d : Nat} {D : zD} {Q : zQ} {x : Int64} {b : Int32} (h1 : -zlim b ≤ x → x < zlim b → Q (.inl (some (.int 1))) 0 D) (h0 : ¬ (-zlim b ≤ x ∧ x < zlim b) → Q (.inl (some (.int 0))) 0 D) : ZM yX8_fits iX8_fits d [.long x, .int b] D Q := by
  refine z_method (by decide) rfl (Nat.le_of_ble_eq_true rfl) ?_
  refine z_at [(0, .long x), (2, .int b)] ⟨rfl, rfl, trivial⟩ ?_
  refine z_lconst dX8_fits_0 ?_
  refine z_iload_n dX8_fits_1 (by exact rfl) ?_
  refine z_iconst dX8_fits_2 ?_
  refine z_isub dX8_fits_3 ?_
  refine z_lshl dX8_fits_4 ?_
  refine z_eJ (zlim b) rfl ?_
  refine z_lstore_n dX8_fits_5 (Nat.le_of_ble_eq_true rfl) ?_
  refine z_lload_n dX8_fits_6 (by exact rfl) ?_
  refine z_lload_n dX8_fits_7 (by exact rfl) ?_
  refine z_lneg dX8_fits_8 ?_
  refine z_lt (tgt := 23) dX8_fits_9 dX8_fits_10 (by decide) (fun c1 => ?_) (fun c1 => ?_)
  · refine z_iconst dX8_fits_23 ?_
    exact z_zret (st := []) (by decide) rfl dX8_fits_24 (h0 (fun q => absurd c1 (Int64.not_lt.mpr q.1)))
  · refine z_lload_n dX8_fits_13 (by exact rfl) ?_
    refine z_lload_n dX8_fits_14 (by exact rfl) ?_
    refine z_ge (tgt := 23) dX8_fits_15 dX8_fits_16 (by decide) (fun c2 => ?_) (fun c2 => ?_)
    · refine z_iconst dX8_fits_23 ?_
      exact z_zret (st := []) (by decide) rfl dX8_fits_24 (h0 (fun q => absurd q.2 (Int64.not_lt.mpr c2)))
    · refine z_iconst dX8_fits_19 ?_
      refine z_goto (tgt := 24) dX8_fits_20 (by decide) ?_
      exact z_zret (st := []) (by decide) rfl dX8_fits_24 (h1 (Int64.not_lt.mp c1) (Int64.not_le.mp c2))
theorem c_fits9 {d : Nat} {D : zD} {Q : zQ} {x : Int64} {b : Int32} (h1 : -zlim b ≤ x → x < zlim b → Q (.inl (some (.int 1))) 0 D) (h0 : ¬ (-zlim b ≤ x ∧ x < zlim b) → Q (.inl (some (.int 0))) 0 D) : ZM yX9_fits iX9_fits d [.long x, .int b] D Q := by
  refine z_method (by decide) rfl (Nat.le_of_ble_eq_true rfl) ?_
  refine z_at [(0, .long x), (2, .int b)] ⟨rfl, rfl, trivial⟩ ?_
  refine z_lload_n dX9_fits_0 (by exact rfl) ?_
  refine z_lconst dX9_fits_1 ?_
  refine z_iload_n dX9_fits_2 (by exact rfl) ?_
  refine z_iconst dX9_fits_3 ?_
  refine z_isub dX9_fits_4 ?_
  refine z_lshl dX9_fits_5 ?_
  refine z_eJ (zlim b) rfl ?_
  refine z_lneg dX9_fits_6 ?_
  refine z_lt (tgt := 25) dX9_fits_7 dX9_fits_8 (by decide) (fun c1 => ?_) (fun c1 => ?_)
  · refine z_iconst dX9_fits_25 ?_
    exact z_zret (st := []) (by decide) rfl dX9_fits_26 (h0 (fun q => absurd c1 (Int64.not_lt.mpr q.1)))
  · refine z_lload_n dX9_fits_11 (by exact rfl) ?_
    refine z_lconst dX9_fits_12 ?_
    refine z_iload_n dX9_fits_13 (by exact rfl) ?_
    refine z_iconst dX9_fits_14 ?_
    refine z_isub dX9_fits_15 ?_
    refine z_lshl dX9_fits_16 ?_
    refine z_eJ (zlim b) rfl ?_
    refine z_ge (tgt := 25) dX9_fits_17 dX9_fits_18 (by decide) (fun c2 => ?_) (fun c2 => ?_)
    · refine z_iconst dX9_fits_25 ?_
      exact z_zret (st := []) (by decide) rfl dX9_fits_26 (h0 (fun q => absurd q.2 (Int64.not_lt.mpr c2)))
    · refine z_iconst dX9_fits_21 ?_
      refine z_goto (tgt := 26) dX9_fits_22 (by decide) ?_
      exact z_zret (st := []) (by decide) rfl dX9_fits_26 (h1 (Int64.not_lt.mp c1) (Int64.not_le.mp c2))
end
