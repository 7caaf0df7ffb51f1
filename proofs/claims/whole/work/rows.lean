section
-- ===== PART A: goes FIRST, ahead of the names: the tables' words, and 'selects' of the private methods out of them =====
/-- a private method of a class that the tables say can be made, by its rows of tables_1 -/
def lw_okq (q : MethodName × Nat) : Prop := (q.1.cls ≠ "java/lang/invoke/MethodHandle" ∧ q.1.cls ≠ "java/lang/invoke/VarHandle") ∧ Cond.instantiable q.1.cls q.2 ∈ tables_1 ∧ Cond.privateMethod q.1 ∈ tables_1 ∧ Cond.instanceMethod q.1 ∈ tables_1
theorem lw_p0 : lw_okq (⟨"Throughcoach$Night", "begin", "()V"⟩, 6) := ⟨⟨by decide +kernel, by decide +kernel⟩, List.mem_of_getElem? (i := 211) (by decide +kernel), List.mem_of_getElem? (i := 429) (by decide +kernel), List.mem_of_getElem? (i := 430) (by decide +kernel)⟩
theorem lw_p1 : lw_okq (⟨"Throughcoach$Night", "passMinute", "(I)V"⟩, 6) := ⟨⟨by decide +kernel, by decide +kernel⟩, List.mem_of_getElem? (i := 211) (by decide +kernel), List.mem_of_getElem? (i := 452) (by decide +kernel), List.mem_of_getElem? (i := 453) (by decide +kernel)⟩
theorem lw_p2 : lw_okq (⟨"Throughcoach$Night", "bringIn", "(LThroughcoach$Run;I)V"⟩, 6) := ⟨⟨by decide +kernel, by decide +kernel⟩, List.mem_of_getElem? (i := 211) (by decide +kernel), List.mem_of_getElem? (i := 456) (by decide +kernel), List.mem_of_getElem? (i := 457) (by decide +kernel)⟩
theorem lw_p3 : lw_okq (⟨"Throughcoach$Night", "waitsNoLonger", "(LThroughcoach$Run;I)Z"⟩, 6) := ⟨⟨by decide +kernel, by decide +kernel⟩, List.mem_of_getElem? (i := 211) (by decide +kernel), List.mem_of_getElem? (i := 478) (by decide +kernel), List.mem_of_getElem? (i := 479) (by decide +kernel)⟩
theorem lw_p4 : lw_okq (⟨"Throughcoach$Night", "sendOff", "(LThroughcoach$Run;I)V"⟩, 6) := ⟨⟨by decide +kernel, by decide +kernel⟩, List.mem_of_getElem? (i := 211) (by decide +kernel), List.mem_of_getElem? (i := 494) (by decide +kernel), List.mem_of_getElem? (i := 495) (by decide +kernel)⟩
theorem lw_p5 : lw_okq (⟨"Throughcoach$Night", "dropForbidden", "(LThroughcoach$Run;LThroughcoach$Station;LThroughcoach$Station;I)V"⟩, 6) := ⟨⟨by decide +kernel, by decide +kernel⟩, List.mem_of_getElem? (i := 211) (by decide +kernel), List.mem_of_getElem? (i := 498) (by decide +kernel), List.mem_of_getElem? (i := 499) (by decide +kernel)⟩
theorem lw_p6 : lw_okq (⟨"Throughcoach$Night", "takeWaiting", "(LThroughcoach$Run;LThroughcoach$Station;LThroughcoach$Station;I)V"⟩, 6) := ⟨⟨by decide +kernel, by decide +kernel⟩, List.mem_of_getElem? (i := 211) (by decide +kernel), List.mem_of_getElem? (i := 506) (by decide +kernel), List.mem_of_getElem? (i := 507) (by decide +kernel)⟩
theorem lw_p7 : lw_okq (⟨"Throughcoach$Night", "mayTake", "(LThroughcoach$Run;LThroughcoach$Wagon;I)Z"⟩, 6) := ⟨⟨by decide +kernel, by decide +kernel⟩, List.mem_of_getElem? (i := 211) (by decide +kernel), List.mem_of_getElem? (i := 511) (by decide +kernel), List.mem_of_getElem? (i := 512) (by decide +kernel)⟩
theorem lw_p8 : lw_okq (⟨"Throughcoach$Night", "dropTooHeavy", "(LThroughcoach$Run;I)V"⟩, 6) := ⟨⟨by decide +kernel, by decide +kernel⟩, List.mem_of_getElem? (i := 211) (by decide +kernel), List.mem_of_getElem? (i := 523) (by decide +kernel), List.mem_of_getElem? (i := 524) (by decide +kernel)⟩
theorem lw_p9 : lw_okq (⟨"Throughcoach$Night", "weigh", "(LThroughcoach$Run;)V"⟩, 6) := ⟨⟨by decide +kernel, by decide +kernel⟩, List.mem_of_getElem? (i := 211) (by decide +kernel), List.mem_of_getElem? (i := 527) (by decide +kernel), List.mem_of_getElem? (i := 528) (by decide +kernel)⟩
theorem lw_p10 : lw_okq (⟨"Throughcoach$Night", "settle", "(LThroughcoach$Run;III)V"⟩, 6) := ⟨⟨by decide +kernel, by decide +kernel⟩, List.mem_of_getElem? (i := 211) (by decide +kernel), List.mem_of_getElem? (i := 540) (by decide +kernel), List.mem_of_getElem? (i := 541) (by decide +kernel)⟩
theorem lw_p11 : lw_okq (⟨"java/lang/Throwable", "fillInStackTrace", "(I)Ljava/lang/Throwable;"⟩, 6) := ⟨⟨by decide +kernel, by decide +kernel⟩, List.mem_of_getElem? (i := 610) (by decide +kernel), List.mem_of_getElem? (i := 608) (by decide +kernel), List.mem_of_getElem? (i := 609) (by decide +kernel)⟩
theorem lw_p12 : lw_okq (⟨"Throughcoach", "needStation", "(I)V"⟩, 5) := ⟨⟨by decide +kernel, by decide +kernel⟩, List.mem_of_getElem? (i := 21) (by decide +kernel), List.mem_of_getElem? (i := 668) (by decide +kernel), List.mem_of_getElem? (i := 669) (by decide +kernel)⟩
theorem lw_p13 : lw_okq (⟨"Throughcoach", "needTrain", "(I)V"⟩, 5) := ⟨⟨by decide +kernel, by decide +kernel⟩, List.mem_of_getElem? (i := 21) (by decide +kernel), List.mem_of_getElem? (i := 700) (by decide +kernel), List.mem_of_getElem? (i := 701) (by decide +kernel)⟩
theorem lw_p14 : lw_okq (⟨"Throughcoach", "needStop", "(II)V"⟩, 5) := ⟨⟨by decide +kernel, by decide +kernel⟩, List.mem_of_getElem? (i := 21) (by decide +kernel), List.mem_of_getElem? (i := 724) (by decide +kernel), List.mem_of_getElem? (i := 725) (by decide +kernel)⟩
theorem lw_p15 : lw_okq (⟨"Throughcoach", "needCoach", "(I)V"⟩, 5) := ⟨⟨by decide +kernel, by decide +kernel⟩, List.mem_of_getElem? (i := 21) (by decide +kernel), List.mem_of_getElem? (i := 749) (by decide +kernel), List.mem_of_getElem? (i := 750) (by decide +kernel)⟩
def lw_privs_1 : List (MethodName × Nat) := [(⟨"Throughcoach$Night", "begin", "()V"⟩, 6), (⟨"Throughcoach$Night", "passMinute", "(I)V"⟩, 6), (⟨"Throughcoach$Night", "bringIn", "(LThroughcoach$Run;I)V"⟩, 6), (⟨"Throughcoach$Night", "waitsNoLonger", "(LThroughcoach$Run;I)Z"⟩, 6), (⟨"Throughcoach$Night", "sendOff", "(LThroughcoach$Run;I)V"⟩, 6), (⟨"Throughcoach$Night", "dropForbidden", "(LThroughcoach$Run;LThroughcoach$Station;LThroughcoach$Station;I)V"⟩, 6), (⟨"Throughcoach$Night", "takeWaiting", "(LThroughcoach$Run;LThroughcoach$Station;LThroughcoach$Station;I)V"⟩, 6), (⟨"Throughcoach$Night", "mayTake", "(LThroughcoach$Run;LThroughcoach$Wagon;I)Z"⟩, 6), (⟨"Throughcoach$Night", "dropTooHeavy", "(LThroughcoach$Run;I)V"⟩, 6), (⟨"Throughcoach$Night", "weigh", "(LThroughcoach$Run;)V"⟩, 6), (⟨"Throughcoach$Night", "settle", "(LThroughcoach$Run;III)V"⟩, 6), (⟨"java/lang/Throwable", "fillInStackTrace", "(I)Ljava/lang/Throwable;"⟩, 6), (⟨"Throughcoach", "needStation", "(I)V"⟩, 5), (⟨"Throughcoach", "needTrain", "(I)V"⟩, 5), (⟨"Throughcoach", "needStop", "(II)V"⟩, 5), (⟨"Throughcoach", "needCoach", "(I)V"⟩, 5)]
theorem lw_r1 : ∀ q ∈ lw_privs_1, lw_okq q := List.forall_mem_cons.mpr ⟨lw_p0, List.forall_mem_cons.mpr ⟨lw_p1, List.forall_mem_cons.mpr ⟨lw_p2, List.forall_mem_cons.mpr ⟨lw_p3, List.forall_mem_cons.mpr ⟨lw_p4, List.forall_mem_cons.mpr ⟨lw_p5, List.forall_mem_cons.mpr ⟨lw_p6, List.forall_mem_cons.mpr ⟨lw_p7, List.forall_mem_cons.mpr ⟨lw_p8, List.forall_mem_cons.mpr ⟨lw_p9, List.forall_mem_cons.mpr ⟨lw_p10, List.forall_mem_cons.mpr ⟨lw_p11, List.forall_mem_cons.mpr ⟨lw_p12, List.forall_mem_cons.mpr ⟨lw_p13, List.forall_mem_cons.mpr ⟨lw_p14, List.forall_mem_cons.mpr ⟨lw_p15, fun _ h => absurd h List.not_mem_nil⟩⟩⟩⟩⟩⟩⟩⟩⟩⟩⟩⟩⟩⟩⟩⟩
theorem lw_p16 : lw_okq (⟨"Throughcoach", "moveSleepers", "(LThroughcoach$Coach;)I"⟩, 5) := ⟨⟨by decide +kernel, by decide +kernel⟩, List.mem_of_getElem? (i := 21) (by decide +kernel), List.mem_of_getElem? (i := 776) (by decide +kernel), List.mem_of_getElem? (i := 777) (by decide +kernel)⟩
theorem lw_p17 : lw_okq (⟨"Throughcoach", "moves", "(LThroughcoach$Person;LThroughcoach$Coach;)Z"⟩, 5) := ⟨⟨by decide +kernel, by decide +kernel⟩, List.mem_of_getElem? (i := 21) (by decide +kernel), List.mem_of_getElem? (i := 787) (by decide +kernel), List.mem_of_getElem? (i := 788) (by decide +kernel)⟩
theorem lw_p18 : lw_okq (⟨"Throughcoach$Beds", "freeBed", "(IIZ)I"⟩, 4) := ⟨⟨by decide +kernel, by decide +kernel⟩, List.mem_of_getElem? (i := 336) (by decide +kernel), List.mem_of_getElem? (i := 799) (by decide +kernel), List.mem_of_getElem? (i := 800) (by decide +kernel)⟩
theorem lw_p19 : lw_okq (⟨"Throughcoach$Beds", "mayHold", "(IIZII)Z"⟩, 4) := ⟨⟨by decide +kernel, by decide +kernel⟩, List.mem_of_getElem? (i := 336) (by decide +kernel), List.mem_of_getElem? (i := 803) (by decide +kernel), List.mem_of_getElem? (i := 804) (by decide +kernel)⟩
theorem lw_p20 : lw_okq (⟨"Throughcoach$Beds", "layDown", "(LThroughcoach$Person;III)V"⟩, 4) := ⟨⟨by decide +kernel, by decide +kernel⟩, List.mem_of_getElem? (i := 336) (by decide +kernel), List.mem_of_getElem? (i := 811) (by decide +kernel), List.mem_of_getElem? (i := 812) (by decide +kernel)⟩
theorem lw_p21 : lw_okq (⟨"Throughcoach", "needPerson", "(I)V"⟩, 5) := ⟨⟨by decide +kernel, by decide +kernel⟩, List.mem_of_getElem? (i := 21) (by decide +kernel), List.mem_of_getElem? (i := 839) (by decide +kernel), List.mem_of_getElem? (i := 840) (by decide +kernel)⟩
theorem lw_p22 : lw_okq (⟨"Throughcoach$Night", "goByEvents", "()V"⟩, 6) := ⟨⟨by decide +kernel, by decide +kernel⟩, List.mem_of_getElem? (i := 211) (by decide +kernel), List.mem_of_getElem? (i := 887) (by decide +kernel), List.mem_of_getElem? (i := 888) (by decide +kernel)⟩
theorem lw_p23 : lw_okq (⟨"Throughcoach$Night", "nextEvent", "(I)I"⟩, 6) := ⟨⟨by decide +kernel, by decide +kernel⟩, List.mem_of_getElem? (i := 211) (by decide +kernel), List.mem_of_getElem? (i := 891) (by decide +kernel), List.mem_of_getElem? (i := 892) (by decide +kernel)⟩
theorem lw_p24 : lw_okq (⟨"ThroughcoachModel", "refused", "(I)Z"⟩, 50) := ⟨⟨by decide +kernel, by decide +kernel⟩, List.mem_of_getElem? (i := 962) (by decide +kernel), List.mem_of_getElem? (i := 1131) (by decide +kernel), List.mem_of_getElem? (i := 1132) (by decide +kernel)⟩
theorem lw_p25 : lw_okq (⟨"ThroughcoachModel", "isStation", "(I)Z"⟩, 50) := ⟨⟨by decide +kernel, by decide +kernel⟩, List.mem_of_getElem? (i := 962) (by decide +kernel), List.mem_of_getElem? (i := 1139) (by decide +kernel), List.mem_of_getElem? (i := 1140) (by decide +kernel)⟩
theorem lw_p26 : lw_okq (⟨"ThroughcoachModel", "isTrain", "(I)Z"⟩, 50) := ⟨⟨by decide +kernel, by decide +kernel⟩, List.mem_of_getElem? (i := 962) (by decide +kernel), List.mem_of_getElem? (i := 1147) (by decide +kernel), List.mem_of_getElem? (i := 1148) (by decide +kernel)⟩
theorem lw_p27 : lw_okq (⟨"ThroughcoachModel", "stopAt", "(II)I"⟩, 50) := ⟨⟨by decide +kernel, by decide +kernel⟩, List.mem_of_getElem? (i := 962) (by decide +kernel), List.mem_of_getElem? (i := 1151) (by decide +kernel), List.mem_of_getElem? (i := 1152) (by decide +kernel)⟩
theorem lw_p28 : lw_okq (⟨"ThroughcoachModel", "isStop", "(II)Z"⟩, 50) := ⟨⟨by decide +kernel, by decide +kernel⟩, List.mem_of_getElem? (i := 962) (by decide +kernel), List.mem_of_getElem? (i := 1163) (by decide +kernel), List.mem_of_getElem? (i := 1164) (by decide +kernel)⟩
theorem lw_p29 : lw_okq (⟨"ThroughcoachModel", "isCoach", "(I)Z"⟩, 50) := ⟨⟨by decide +kernel, by decide +kernel⟩, List.mem_of_getElem? (i := 962) (by decide +kernel), List.mem_of_getElem? (i := 1175) (by decide +kernel), List.mem_of_getElem? (i := 1176) (by decide +kernel)⟩
theorem lw_p30 : lw_okq (⟨"ThroughcoachModel", "beginning", "(II)I"⟩, 50) := ⟨⟨by decide +kernel, by decide +kernel⟩, List.mem_of_getElem? (i := 962) (by decide +kernel), List.mem_of_getElem? (i := 1179) (by decide +kernel), List.mem_of_getElem? (i := 1180) (by decide +kernel)⟩
theorem lw_p31 : lw_okq (⟨"ThroughcoachModel", "placeOf", "(I)I"⟩, 50) := ⟨⟨by decide +kernel, by decide +kernel⟩, List.mem_of_getElem? (i := 962) (by decide +kernel), List.mem_of_getElem? (i := 1187) (by decide +kernel), List.mem_of_getElem? (i := 1188) (by decide +kernel)⟩
def lw_privs_2 : List (MethodName × Nat) := [(⟨"Throughcoach", "moveSleepers", "(LThroughcoach$Coach;)I"⟩, 5), (⟨"Throughcoach", "moves", "(LThroughcoach$Person;LThroughcoach$Coach;)Z"⟩, 5), (⟨"Throughcoach$Beds", "freeBed", "(IIZ)I"⟩, 4), (⟨"Throughcoach$Beds", "mayHold", "(IIZII)Z"⟩, 4), (⟨"Throughcoach$Beds", "layDown", "(LThroughcoach$Person;III)V"⟩, 4), (⟨"Throughcoach", "needPerson", "(I)V"⟩, 5), (⟨"Throughcoach$Night", "goByEvents", "()V"⟩, 6), (⟨"Throughcoach$Night", "nextEvent", "(I)I"⟩, 6), (⟨"ThroughcoachModel", "refused", "(I)Z"⟩, 50), (⟨"ThroughcoachModel", "isStation", "(I)Z"⟩, 50), (⟨"ThroughcoachModel", "isTrain", "(I)Z"⟩, 50), (⟨"ThroughcoachModel", "stopAt", "(II)I"⟩, 50), (⟨"ThroughcoachModel", "isStop", "(II)Z"⟩, 50), (⟨"ThroughcoachModel", "isCoach", "(I)Z"⟩, 50), (⟨"ThroughcoachModel", "beginning", "(II)I"⟩, 50), (⟨"ThroughcoachModel", "placeOf", "(I)I"⟩, 50)]
theorem lw_r2 : ∀ q ∈ lw_privs_2, lw_okq q := List.forall_mem_cons.mpr ⟨lw_p16, List.forall_mem_cons.mpr ⟨lw_p17, List.forall_mem_cons.mpr ⟨lw_p18, List.forall_mem_cons.mpr ⟨lw_p19, List.forall_mem_cons.mpr ⟨lw_p20, List.forall_mem_cons.mpr ⟨lw_p21, List.forall_mem_cons.mpr ⟨lw_p22, List.forall_mem_cons.mpr ⟨lw_p23, List.forall_mem_cons.mpr ⟨lw_p24, List.forall_mem_cons.mpr ⟨lw_p25, List.forall_mem_cons.mpr ⟨lw_p26, List.forall_mem_cons.mpr ⟨lw_p27, List.forall_mem_cons.mpr ⟨lw_p28, List.forall_mem_cons.mpr ⟨lw_p29, List.forall_mem_cons.mpr ⟨lw_p30, List.forall_mem_cons.mpr ⟨lw_p31, fun _ h => absurd h List.not_mem_nil⟩⟩⟩⟩⟩⟩⟩⟩⟩⟩⟩⟩⟩⟩⟩⟩
theorem lw_p32 : lw_okq (⟨"ThroughcoachModel", "otherFor", "(II)I"⟩, 50) := ⟨⟨by decide +kernel, by decide +kernel⟩, List.mem_of_getElem? (i := 962) (by decide +kernel), List.mem_of_getElem? (i := 1191) (by decide +kernel), List.mem_of_getElem? (i := 1192) (by decide +kernel)⟩
theorem lw_p33 : lw_okq (⟨"ThroughcoachModel", "roomFor", "(IZI)I"⟩, 50) := ⟨⟨by decide +kernel, by decide +kernel⟩, List.mem_of_getElem? (i := 962) (by decide +kernel), List.mem_of_getElem? (i := 1195) (by decide +kernel), List.mem_of_getElem? (i := 1196) (by decide +kernel)⟩
theorem lw_p34 : lw_okq (⟨"ThroughcoachModel", "hasBed", "(II)Z"⟩, 50) := ⟨⟨by decide +kernel, by decide +kernel⟩, List.mem_of_getElem? (i := 962) (by decide +kernel), List.mem_of_getElem? (i := 1199) (by decide +kernel), List.mem_of_getElem? (i := 1200) (by decide +kernel)⟩
theorem lw_p35 : lw_okq (⟨"ThroughcoachModel", "mayHold", "(IIII)Z"⟩, 50) := ⟨⟨by decide +kernel, by decide +kernel⟩, List.mem_of_getElem? (i := 962) (by decide +kernel), List.mem_of_getElem? (i := 1203) (by decide +kernel), List.mem_of_getElem? (i := 1204) (by decide +kernel)⟩
theorem lw_p36 : lw_okq (⟨"ThroughcoachModel", "sleep", "(III)V"⟩, 50) := ⟨⟨by decide +kernel, by decide +kernel⟩, List.mem_of_getElem? (i := 962) (by decide +kernel), List.mem_of_getElem? (i := 1207) (by decide +kernel), List.mem_of_getElem? (i := 1208) (by decide +kernel)⟩
theorem lw_p37 : lw_okq (⟨"ThroughcoachModel", "isPerson", "(I)Z"⟩, 50) := ⟨⟨by decide +kernel, by decide +kernel⟩, List.mem_of_getElem? (i := 962) (by decide +kernel), List.mem_of_getElem? (i := 1219) (by decide +kernel), List.mem_of_getElem? (i := 1220) (by decide +kernel)⟩
theorem lw_p38 : lw_okq (⟨"ThroughcoachModel", "change", "(II)V"⟩, 50) := ⟨⟨by decide +kernel, by decide +kernel⟩, List.mem_of_getElem? (i := 962) (by decide +kernel), List.mem_of_getElem? (i := 1227) (by decide +kernel), List.mem_of_getElem? (i := 1228) (by decide +kernel)⟩
theorem lw_p39 : lw_okq (⟨"ThroughcoachModel", "reckon", "()V"⟩, 50) := ⟨⟨by decide +kernel, by decide +kernel⟩, List.mem_of_getElem? (i := 962) (by decide +kernel), List.mem_of_getElem? (i := 1235) (by decide +kernel), List.mem_of_getElem? (i := 1236) (by decide +kernel)⟩
theorem lw_p40 : lw_okq (⟨"ThroughcoachModel", "begins", "()V"⟩, 50) := ⟨⟨by decide +kernel, by decide +kernel⟩, List.mem_of_getElem? (i := 962) (by decide +kernel), List.mem_of_getElem? (i := 1239) (by decide +kernel), List.mem_of_getElem? (i := 1240) (by decide +kernel)⟩
theorem lw_p41 : lw_okq (⟨"ThroughcoachModel", "arrive", "(II)V"⟩, 50) := ⟨⟨by decide +kernel, by decide +kernel⟩, List.mem_of_getElem? (i := 962) (by decide +kernel), List.mem_of_getElem? (i := 1243) (by decide +kernel), List.mem_of_getElem? (i := 1244) (by decide +kernel)⟩
theorem lw_p42 : lw_okq (⟨"ThroughcoachModel", "setOut", "(IIII)V"⟩, 50) := ⟨⟨by decide +kernel, by decide +kernel⟩, List.mem_of_getElem? (i := 962) (by decide +kernel), List.mem_of_getElem? (i := 1247) (by decide +kernel), List.mem_of_getElem? (i := 1248) (by decide +kernel)⟩
theorem lw_p43 : lw_okq (⟨"ThroughcoachModel", "canLeave", "(II)Z"⟩, 50) := ⟨⟨by decide +kernel, by decide +kernel⟩, List.mem_of_getElem? (i := 962) (by decide +kernel), List.mem_of_getElem? (i := 1251) (by decide +kernel), List.mem_of_getElem? (i := 1252) (by decide +kernel)⟩
theorem lw_p44 : lw_okq (⟨"ThroughcoachModel", "isReady", "(III)Z"⟩, 50) := ⟨⟨by decide +kernel, by decide +kernel⟩, List.mem_of_getElem? (i := 962) (by decide +kernel), List.mem_of_getElem? (i := 1255) (by decide +kernel), List.mem_of_getElem? (i := 1256) (by decide +kernel)⟩
theorem lw_p45 : lw_okq (⟨"ThroughcoachModel", "departs", "(II)V"⟩, 50) := ⟨⟨by decide +kernel, by decide +kernel⟩, List.mem_of_getElem? (i := 962) (by decide +kernel), List.mem_of_getElem? (i := 1259) (by decide +kernel), List.mem_of_getElem? (i := 1260) (by decide +kernel)⟩
theorem lw_p46 : lw_okq (⟨"ThroughcoachModel", "couple", "(IIII)V"⟩, 50) := ⟨⟨by decide +kernel, by decide +kernel⟩, List.mem_of_getElem? (i := 962) (by decide +kernel), List.mem_of_getElem? (i := 1263) (by decide +kernel), List.mem_of_getElem? (i := 1264) (by decide +kernel)⟩
theorem lw_p47 : lw_okq (⟨"ThroughcoachModel", "isAllowed", "(III)Z"⟩, 50) := ⟨⟨by decide +kernel, by decide +kernel⟩, List.mem_of_getElem? (i := 962) (by decide +kernel), List.mem_of_getElem? (i := 1267) (by decide +kernel), List.mem_of_getElem? (i := 1268) (by decide +kernel)⟩
def lw_privs_3 : List (MethodName × Nat) := [(⟨"ThroughcoachModel", "otherFor", "(II)I"⟩, 50), (⟨"ThroughcoachModel", "roomFor", "(IZI)I"⟩, 50), (⟨"ThroughcoachModel", "hasBed", "(II)Z"⟩, 50), (⟨"ThroughcoachModel", "mayHold", "(IIII)Z"⟩, 50), (⟨"ThroughcoachModel", "sleep", "(III)V"⟩, 50), (⟨"ThroughcoachModel", "isPerson", "(I)Z"⟩, 50), (⟨"ThroughcoachModel", "change", "(II)V"⟩, 50), (⟨"ThroughcoachModel", "reckon", "()V"⟩, 50), (⟨"ThroughcoachModel", "begins", "()V"⟩, 50), (⟨"ThroughcoachModel", "arrive", "(II)V"⟩, 50), (⟨"ThroughcoachModel", "setOut", "(IIII)V"⟩, 50), (⟨"ThroughcoachModel", "canLeave", "(II)Z"⟩, 50), (⟨"ThroughcoachModel", "isReady", "(III)Z"⟩, 50), (⟨"ThroughcoachModel", "departs", "(II)V"⟩, 50), (⟨"ThroughcoachModel", "couple", "(IIII)V"⟩, 50), (⟨"ThroughcoachModel", "isAllowed", "(III)Z"⟩, 50)]
theorem lw_r3 : ∀ q ∈ lw_privs_3, lw_okq q := List.forall_mem_cons.mpr ⟨lw_p32, List.forall_mem_cons.mpr ⟨lw_p33, List.forall_mem_cons.mpr ⟨lw_p34, List.forall_mem_cons.mpr ⟨lw_p35, List.forall_mem_cons.mpr ⟨lw_p36, List.forall_mem_cons.mpr ⟨lw_p37, List.forall_mem_cons.mpr ⟨lw_p38, List.forall_mem_cons.mpr ⟨lw_p39, List.forall_mem_cons.mpr ⟨lw_p40, List.forall_mem_cons.mpr ⟨lw_p41, List.forall_mem_cons.mpr ⟨lw_p42, List.forall_mem_cons.mpr ⟨lw_p43, List.forall_mem_cons.mpr ⟨lw_p44, List.forall_mem_cons.mpr ⟨lw_p45, List.forall_mem_cons.mpr ⟨lw_p46, List.forall_mem_cons.mpr ⟨lw_p47, fun _ h => absurd h List.not_mem_nil⟩⟩⟩⟩⟩⟩⟩⟩⟩⟩⟩⟩⟩⟩⟩⟩
theorem lw_p48 : lw_okq (⟨"ThroughcoachModel", "isDoing", "(I)Z"⟩, 50) := ⟨⟨by decide +kernel, by decide +kernel⟩, List.mem_of_getElem? (i := 962) (by decide +kernel), List.mem_of_getElem? (i := 1271) (by decide +kernel), List.mem_of_getElem? (i := 1272) (by decide +kernel)⟩
theorem lw_p49 : lw_okq (⟨"ThroughcoachModel", "takes", "(III)Z"⟩, 50) := ⟨⟨by decide +kernel, by decide +kernel⟩, List.mem_of_getElem? (i := 962) (by decide +kernel), List.mem_of_getElem? (i := 1275) (by decide +kernel), List.mem_of_getElem? (i := 1276) (by decide +kernel)⟩
theorem lw_p50 : lw_okq (⟨"ThroughcoachModel", "loadOf", "(I)I"⟩, 50) := ⟨⟨by decide +kernel, by decide +kernel⟩, List.mem_of_getElem? (i := 962) (by decide +kernel), List.mem_of_getElem? (i := 1279) (by decide +kernel), List.mem_of_getElem? (i := 1280) (by decide +kernel)⟩
theorem lw_p51 : lw_okq (⟨"ThroughcoachModel", "brakeOf", "(I)I"⟩, 50) := ⟨⟨by decide +kernel, by decide +kernel⟩, List.mem_of_getElem? (i := 962) (by decide +kernel), List.mem_of_getElem? (i := 1283) (by decide +kernel), List.mem_of_getElem? (i := 1284) (by decide +kernel)⟩
theorem lw_p52 : lw_okq (⟨"ThroughcoachModel", "isHome", "(I)Z"⟩, 50) := ⟨⟨by decide +kernel, by decide +kernel⟩, List.mem_of_getElem? (i := 962) (by decide +kernel), List.mem_of_getElem? (i := 1309) (by decide +kernel), List.mem_of_getElem? (i := 1310) (by decide +kernel)⟩
theorem lw_p53 : lw_okq (⟨"ThroughcoachModel", "homesNow", "()I"⟩, 50) := ⟨⟨by decide +kernel, by decide +kernel⟩, List.mem_of_getElem? (i := 962) (by decide +kernel), List.mem_of_getElem? (i := 1321) (by decide +kernel), List.mem_of_getElem? (i := 1322) (by decide +kernel)⟩
def lw_privs_4 : List (MethodName × Nat) := [(⟨"ThroughcoachModel", "isDoing", "(I)Z"⟩, 50), (⟨"ThroughcoachModel", "takes", "(III)Z"⟩, 50), (⟨"ThroughcoachModel", "loadOf", "(I)I"⟩, 50), (⟨"ThroughcoachModel", "brakeOf", "(I)I"⟩, 50), (⟨"ThroughcoachModel", "isHome", "(I)Z"⟩, 50), (⟨"ThroughcoachModel", "homesNow", "()I"⟩, 50)]
theorem lw_r4 : ∀ q ∈ lw_privs_4, lw_okq q := List.forall_mem_cons.mpr ⟨lw_p48, List.forall_mem_cons.mpr ⟨lw_p49, List.forall_mem_cons.mpr ⟨lw_p50, List.forall_mem_cons.mpr ⟨lw_p51, List.forall_mem_cons.mpr ⟨lw_p52, List.forall_mem_cons.mpr ⟨lw_p53, fun _ h => absurd h List.not_mem_nil⟩⟩⟩⟩⟩⟩
def lw_privs : List (MethodName × Nat) := lw_privs_1 ++ (lw_privs_2 ++ (lw_privs_3 ++ (lw_privs_4)))
def lw_tbl : List Cond := k2_sels lw_privs ++ tables_1
theorem lw_privs_ok : ∀ q ∈ lw_privs, lw_okq q := by
  show ∀ q ∈ lw_privs_1 ++ (lw_privs_2 ++ (lw_privs_3 ++ (lw_privs_4))), lw_okq q
  exact List.forall_mem_append.mpr ⟨lw_r1, List.forall_mem_append.mpr ⟨lw_r2, List.forall_mem_append.mpr ⟨lw_r3, lw_r4⟩⟩⟩
/-- the streams that the claim lets the run draw from -/
abbrev lw_cs : List Choice := [Jvm.Choice.named "NaN.bits"]
theorem lw_bits : nanBits ∈ lw_cs := by first | decide | exact List.mem_cons_self | simp [lw_cs, nanBits]
-- ===== end of PART A; then your names; then what follows =====
/-! ===== BEGIN words of one list among another's, by their places ===== -/
theorem goodIn_r {big : List Cond} (ws : List Cond) (ps : List Nat) (hp : ws = ps.filterMap (fun i => big[i]?)) (h : ws.all goodWord = true) : GoodIn big ws := by
  intro w hw
  have h1 := List.all_eq_true.mp h w hw
  rw [hp] at hw
  obtain ⟨i, -, hi⟩ := List.mem_filterMap.mp hw
  have hm : w ∈ big := by first | exact List.mem_of_getElem? hi | exact List.getElem?_mem hi
  exact ⟨hm, good_of_word h1⟩
theorem goodIn_app {big a b : List Cond} (ha : GoodIn big a) (hb : GoodIn big b) : GoodIn big (a ++ b) := fun w h => (List.mem_append.mp h).elim (ha w) (hb w)
theorem goodIn_ca {big a b : List Cond} {c : Cond} (ha : GoodIn big (c :: a)) (hb : GoodIn big b) : GoodIn big (c :: (a ++ b)) := fun w h => (List.mem_cons.mp h).elim (fun e => ha w (List.mem_cons.mpr (Or.inl e))) (fun h => (List.mem_append.mp h).elim (fun h => ha w (List.mem_cons.mpr (Or.inr h))) (hb w))
theorem goodIn_sub {big ws : List Cond} (hm : ∀ w ∈ ws, w ∈ big) (h : ws.all goodWord = true) : GoodIn big ws := fun w hw => ⟨hm w hw, good_of_word (List.all_eq_true.mp h w hw)⟩
/-! ===== END ===== -/

/-! ===== BEGIN exceptions that leave a method, and their catching by the caller (launches without stack traces) ===== -/
section VXA
/-! The laws vx_back, vx_callV, vx_callS, vx_callSW, vx_throw0, vx_throwS follow proofs of the library, with one case more: JvmDerived/Free/Laws.lean (Back.of_free), Shelf42/LK1.lean (callV, callS), Shelf/KitTraced.lean (throwNew0V, throwNewS). -/
/-- where a method has thrown q: the class by its name, the cell, what was written, the world -/
def vx_T (XC : String → State → State → Prop) (st : State) (q : Addr) (t : State) (mc ms : Nat) (free : Addr → Prop) : Prop :=
  ∃ (E : String) (ce : Cell) (L : List Loc), XC E st t ∧ t.heap[q]? = some ce ∧ ce.vm = .none ∧ st.vm.findClass E = some ce.cls ∧ st.WarmedH t.vm ∧ st.sameButNew ({ t with vm := st.vm } : State) L mc ms ∧ ∀ z ∈ L, free z.base
def vx_Q (Qc : Array Value → State → Outcome → State → Prop) (XC : String → State → State → Prop) (mc ms : Nat) (free : Addr → Prop) : Array Value → State → Outcome → State → Prop := fun a st o t =>
  (Qc a st o t ∧ ∃ L, FrameEnd st o t L mc ms ∧ ∀ q ∈ L, free q.base) ∨ ∃ q, o = .threw q ∧ vx_T XC st q t mc ms free
/-- a callee that returns or throws -/
def vx_Met (l : Launch) (y : MethodName) (ws : List Cond) (rm : Room) (Pc : Array Value → State → Prop) (Qc : Array Value → State → Outcome → State → Prop) (XC : String → State → State → Prop) (mc ms : Nat) (free : Addr → Prop) : Prop :=
  MetFree l y (headSpec ws rm) Pc (fun _ _ _ _ _ => True) (vx_Q Qc XC mc ms free)
def vx_Post (XC : String → State → State → Prop) (mc ms : Nat) (free : Addr → Prop) : Pt → Array Value → Addr → Pt → Prop := fun A a q B =>
  ∃ (g : JFrame) (mk : MethodId) (t : State) (L : List Loc) (E : String) (ce : Cell), B.U.heap = t.heap ∧ B.U.vm = t.vm ∧ XC E (A.U.calling g mk a) t ∧ t.heap[q]? = some ce ∧ ce.vm = .none ∧ A.U.vm.findClass E = some ce.cls ∧ B.locs = A.locs ++ L ∧ (∀ z ∈ L, free z.base) ∧ B.cells = A.cells + mc ∧ B.slots = A.slots + ms
def vx_Back (l : Launch) (R : Room) (p : Program) (e : Env) (below : List Frame) (s : State) (sargs : Array Value) (y : MethodName) (len W9 : Nat)
    (Pre : Pt → Array Value → Prop) (Post : Pt → Array Value → Option Value → Pt → Prop) (PostX : Pt → Array Value → Addr → Pt → Prop) : Prop :=
  ∀ (m : MethodId) (meth : Method) (c : Code) (A : Pt) (g : JFrame) (ig : Instr) (mk : MethodId) (a : Array Value),
    Stand p l e R s m sargs below meth c A.U A.locs A.cells A.slots → g.method = m → g.locals.size = c.maxLocals → decode c.code g.pc = .ok (ig, len) →
    2 * g.monitorRoom + (g.stack.map fun v => v.category).sum ≤ W9 → A.U.methodNamed? y = some mk → Pre A a →
    (∃ (v : Option Value) (B : Pt), Stand p l e R s m sargs below meth c B.U B.locs B.cells B.slots ∧ Post A a v B ∧
      Steps p.tables e below (doInvoke e (A.U.setTop g) [] mk a).1 (B.U.setTop { g with pc := g.pc + len, stack := v.toList ++ g.stack })) ∨
    (∃ (q : Addr) (B : Pt), Stand p l e R s m sargs below meth c B.U B.locs B.cells B.slots ∧ PostX A a q B ∧
      Steps p.tables e below (doInvoke e (A.U.setTop g) [] mk a).1 ((B.U.setTop g).pushFrame (.throwing q)))
section Payer
variable {l : Launch} {R : Room} {p : Program} {e : Env} {below : List Frame} {s : State} {sargs : Array Value} {y : MethodName} {len W9 : Nat}
theorem vx_back {ws : List Cond} {rm : Room} {Pc : Array Value → State → Prop} {Qc : Array Value → State → Outcome → State → Prop} {XC : String → State → State → Prop} {mc ms : Nat} {free : Addr → Prop} {bytes : ByteArray} {maxL : Nat} {ret : Option FieldType}
    (hM : vx_Met l y ws rm Pc Qc XC mc ms free) (hblind : FrameBlind Pc) (hrc : rm.cells = mc) (hrs : rm.slots = ms)
    (hframes : rm.frames + 1 ≤ R.frames) (hlocals : W9 + (maxL + 11) + rm.locals ≤ R.locals)
    (hws : ∀ w ∈ ws, ∀ a' U, s.WarmedH U.vm → w.before a' U = true) (hcode : Cond.code y bytes maxL ret ∈ ws) (hinit : ∀ a' U, s.WarmedH U.vm → (Cond.initialized y.cls).before a' U = true) :
    vx_Back l R p e below s sargs y len W9 (PreOf R mc ms Pc) (PostOf Qc mc ms free) (vx_Post XC mc ms free) := by
  intro m meth c A g ig mk a X hg hsize hdg hW hn hp
  have h1 : (headSpec ws rm).pre.before a A.U = true := atoms_intro fun w hw => hws w hw _ _ X.warmed
  have h2 : (Cond.code y bytes maxL ret).before a A.U = true := hws _ hcode _ _ X.warmed
  have h3 : (Cond.initialized y.cls).before a A.U = true := hinit _ _ X.warmed
  have h4 : A.cells + (headSpec ws rm).room.cells ≤ R.cells := by rw [show (headSpec ws rm).room.cells = mc from hrc]; exact hp.1
  have h5 : A.slots + (headSpec ws rm).room.slots ≤ R.slots := by rw [show (headSpec ws rm).room.slots = ms from hrs]; exact hp.2.1
  have hPc : Pc a (A.U.calling g mk a) := hblind _ _ _ _ hp.2.2
  obtain ⟨U, Ls, c0, s0⟩ := A
  dsimp only [Pt.U, Pt.locs, Pt.cells, Pt.slots] at h1 h2 h3 h4 h5 X hn hPc ⊢
  obtain ⟨methY, cY, hmY, hcY, -, hlY, -, -, -, -⟩ := Cond.code_spec hn h2
  obtain ⟨kY, hkY, -⟩ := className_of_methodNamed hn
  have hinitY : kY.init = .initialized := Cond.initialized_spec (findClass_of_methodNamed hn) hkY h3
  have h : At U g.method c below := by rw [hg]; exact X.here
  have hlocals9 : W9 + (maxL + 11) + (headSpec ws rm).room.locals ≤ R.locals := hlocals
  have happ : (headSpec ws rm).appliesLoose y e.platform (U.calling g mk a) = true :=
    Spec.appliesLoose_calling (g := g) h hdg hn hkY hinitY
      (X.room_calling (g := g) (R' := (headSpec ws rm).room) hsize hmY hcY hframes (by rw [hlY]; omega) h4 h5) h1
  obtain ⟨mid, hmid⟩ := h.above
  have hfr : (U.setTop g).frames = (.java g :: mid) ++ below := by rw [State.frames_setTop' g h.top, hmid]; rfl
  obtain ⟨o, s₂, hsteps, -, hend, hq⟩ := Steps.callFree hM p X.admits X.cas X.clock (acts := []) hfr happ hPc trivial
  have hq' : vx_Q Qc XC mc ms free a (U.calling g mk a) o s₂ := hq
  rw [State.frames_setTop' g h.top] at hend
  obtain ⟨g₀, hg0⟩ := Option.isSome_iff_exists.mp h.top
  obtain ⟨r, hr⟩ := State.topJava?_eq_some.mp hg0
  have hr' : (({ U with heap := s₂.heap, slotsUsed := s₂.slotsUsed } : State).setVm s₂.vm).frames = .java g₀ :: r := hr
  rcases hq' with ⟨hqc, L, hfe, hL⟩ | ⟨q, rfl, E, ce, L, hx, hce, hcv, hcl, hW₂, hsm, hL⟩
  · obtain ⟨⟨v, rfl⟩, hW₂, e2, q2, q3, q4, q5, q6⟩ := id hfe
    have e3 : s₂ = ({ (U.calling g mk a).setFrames s₂.frames with heap := s₂.heap, slotsUsed := s₂.slotsUsed } : State).setVm s₂.vm := by
      have : s₂ = ({ s₂ with vm := (U.calling g mk a).vm } : State).setVm s₂.vm := rfl
      rw [e2] at this
      exact this
    obtain ⟨c₂, i₂, len₂, hc₂, hd₂, hf₂⟩ := hend
    have hW' : U.WarmedH s₂.vm := hW₂
    have hcc : c₂ = c := by
      have h1 : s₂.code? g.method = U.code? g.method := by
        rw [State.code?_eq, State.code?_eq, hW'.alike.method?]
      exact Option.some.inj (hc₂.symm.trans (h1.trans h.code))
    subst hcc
    have hlen : len₂ = len := by rw [hdg] at hd₂; cases hd₂; rfl
    subst hlen
    have hs₂ : s₂ = (({ U with heap := s₂.heap, slotsUsed := s₂.slotsUsed } : State).setVm s₂.vm).setTop { g with pc := g.pc + len₂, stack := v.toList ++ g.stack } := by
      refine e3.trans ?_
      rw [hf₂, State.calling_eq h.top, State.setFrames_setFrames, State.setTop_of_frames _ hr', hr]
      rfl
    have hsame : U.sameButNew ({ U with heap := s₂.heap, slotsUsed := s₂.slotsUsed } : State) L mc ms := by
      refine ⟨?_, q2, q3, q4, q5, q6⟩
      obtain ⟨t, ht, -⟩ := State.frames_cons hr
      show ({ U with heap := s₂.heap, slotsUsed := s₂.slotsUsed } : State) = { U.setFrames U.frames with heap := s₂.heap, slotsUsed := s₂.slotsUsed }
      rw [State.setFrames_self ht]
    subst hg
    refine Or.inl ⟨v, ⟨(({ U with heap := s₂.heap, slotsUsed := s₂.slotsUsed } : State).setVm s₂.vm), Ls ++ L, c0 + mc, s0 + ms⟩,
      ⟨X.admits, X.cas, X.clock, X.frames, X.room, X.hears, X.method, X.code, (X.here.setHeapUsed s₂.heap s₂.slotsUsed).setVm hW'.alike, X.tail, State.WarmedH.trans X.warmed hW', X.limits, X.bytes, X.same.trans (hsame.setVm s.vm)⟩,
      ⟨g, mk, s₂, L, rfl, rfl, hqc, rfl, hL, rfl, rfl⟩, ?_⟩
    show Steps p.tables e below _ ((({ U with heap := s₂.heap, slotsUsed := s₂.slotsUsed } : State).setVm s₂.vm).setTop { g with pc := g.pc + len₂, stack := v.toList ++ g.stack })
    rw [← hs₂]
    exact hsteps
  · obtain ⟨e2, q2, q3, q4, q5, q6⟩ := id hsm
    have e3 : s₂ = ({ (U.calling g mk a).setFrames s₂.frames with heap := s₂.heap, slotsUsed := s₂.slotsUsed } : State).setVm s₂.vm := by
      have : s₂ = ({ s₂ with vm := (U.calling g mk a).vm } : State).setVm s₂.vm := rfl
      rw [e2] at this
      exact this
    have hf₂ : s₂.frames = .throwing q :: .java g :: U.frames.tail := hend
    have hW' : U.WarmedH s₂.vm := hW₂
    have hs₂ : s₂ = ((({ U with heap := s₂.heap, slotsUsed := s₂.slotsUsed } : State).setVm s₂.vm).setTop g).pushFrame (.throwing q) := by
      refine e3.trans ?_
      rw [hf₂, State.calling_eq h.top, State.setFrames_setFrames, State.pushFrame, State.frames_setTop _ hr', State.setTop_of_frames _ hr', State.setFrames_setFrames, hr]
      rfl
    have hsame : U.sameButNew ({ U with heap := s₂.heap, slotsUsed := s₂.slotsUsed } : State) L mc ms := by
      refine ⟨?_, q2, q3, q4, q5, q6⟩
      obtain ⟨t, ht, -⟩ := State.frames_cons hr
      show ({ U with heap := s₂.heap, slotsUsed := s₂.slotsUsed } : State) = { U.setFrames U.frames with heap := s₂.heap, slotsUsed := s₂.slotsUsed }
      rw [State.setFrames_self ht]
    subst hg
    refine Or.inr ⟨q, ⟨(({ U with heap := s₂.heap, slotsUsed := s₂.slotsUsed } : State).setVm s₂.vm), Ls ++ L, c0 + mc, s0 + ms⟩,
      ⟨X.admits, X.cas, X.clock, X.frames, X.room, X.hears, X.method, X.code, (X.here.setHeapUsed s₂.heap s₂.slotsUsed).setVm hW'.alike, X.tail, State.WarmedH.trans X.warmed hW', X.limits, X.bytes, X.same.trans (hsame.setVm s.vm)⟩,
      ⟨g, mk, s₂, L, E, ce, rfl, rfl, hx, hce, hcv, hcl, rfl, hL, rfl, rfl⟩, ?_⟩
    show Steps p.tables e below _ (((({ U with heap := s₂.heap, slotsUsed := s₂.slotsUsed } : State).setVm s₂.vm).setTop g).pushFrame (.throwing q))
    rw [← hs₂]
    exact hsteps
end Payer
section Calls
variable {p : Program} {l : Launch} {e : Env} {R : Room} {s : State} {m : MethodId} {args : Array Value} {below : List Frame} {meth : Method} {c : Code} {T : State} {locs : List Loc} {cells slots : Nat}
theorem vx_callV (X : Stand p l e R s m args below meth c T locs cells slots) (hexec : p.tables.exec = Jvm.exec) {own C : String} {index : Nat} {y : MethodName} {bytes : ByteArray} {maxL : Nat} {ret : Option FieldType}
    (hown : s.vm.findClass own = some m.cls) (hlink : (Cond.methodLink own index y).before args s = true) (hinst : (Cond.instanceMethod y).before args s = true) (hsel : (Cond.selects C y y).before args s = true)
    (hcode : (Cond.code y bytes maxL ret).before args s = true) (hy : y.cls ≠ "java/lang/invoke/MethodHandle" ∧ y.cls ≠ "java/lang/invoke/VarHandle")
    {W9 : Nat} {Pre : Pt → Array Value → Prop} {Post : Pt → Array Value → Option Value → Pt → Prop} {PostX : Pt → Array Value → Addr → Pt → Prop} (hK : vx_Back l R p e below s args y 3 W9 Pre Post PostX)
    {b : Addr} {cellB : Cell} (hcell : T.heap[b]? = some cellB) (hobj : cellB.vm.isStatics = false) (hcls : s.vm.findClass C = some cellB.cls)
    {g : JFrame} (hg : g.method = m) (hsize : g.locals.size = c.maxLocals) {argsL rest : List Value} (hlen : ∀ sig, parseMethodDescriptor y.desc = some sig → argsL.length = sig.parameters.length)
    (hstack : g.stack = argsL.reverse ++ .ref b :: rest) (hW : 2 * g.monitorRoom + (rest.map fun v => v.category).sum ≤ W9) (hdg : decode c.code g.pc = .ok (.invokevirtual index, 3))
    (hpre : ∀ vm₁, s.WarmedH vm₁ → Pre ⟨T.setVm vm₁, locs, cells, slots⟩ (Value.ref b :: argsL).toArray) :
    (∃ (v : Option Value) (vm₁ : Vm) (B : Pt), s.WarmedH vm₁ ∧ Stand p l e R s m args below meth c B.U B.locs B.cells B.slots ∧ Post ⟨T.setVm vm₁, locs, cells, slots⟩ (Value.ref b :: argsL).toArray v B ∧
      ∀ target, Steps p.tables e below (B.U.setTop { g with pc := g.pc + 3, stack := v.toList ++ rest }) target → Steps p.tables e below (T.setTop g) target) ∨
    (∃ (q : Addr) (vm₁ : Vm) (B : Pt), s.WarmedH vm₁ ∧ Stand p l e R s m args below meth c B.U B.locs B.cells B.slots ∧ PostX ⟨T.setVm vm₁, locs, cells, slots⟩ (Value.ref b :: argsL).toArray q B ∧
      Steps p.tables e below (T.setTop g) ((B.U.setTop { g with stack := rest }).pushFrame (.throwing q))) := by
  obtain ⟨mk, methM, hnamed, hmethM, hstM, habM⟩ := Cond.instanceMethod_spec hinst
  obtain ⟨methM', cM, hmethM', -, -, -, -, -, -, hsigM⟩ := Cond.code_spec hnamed hcode
  cases hmethM.symm.trans hmethM'
  obtain ⟨c2, r2, m2, q1, q2, q3, q4, kP, hkP, hkPi⟩ := Cond.selects_spec hsel
  cases hcls.symm.trans q1
  cases (State.methodFound?_of_named hnamed hy).symm.trans q2
  cases hnamed.symm.trans q3
  have hselP : selectMethod e.platform s.vm cellB.cls mk = .method mk := by rw [Launch.admits_selectMethod X.admits]; exact q4
  obtain ⟨vm₁, X₁, hstep₁⟩ := X.invokevirtual hexec hown hlink hnamed hmethM hstM hkP hkPi hy (a := b) (cell := cellB) hcell
    (fun z h => by rw [h] at hobj; cases hobj) hselP hmethM habM hkP hkPi (g := g) hg (argsL := argsL) (rest := rest) (hlen _ hsigM) hstack hdg
  rcases hK m meth c ⟨T.setVm vm₁, locs, cells, slots⟩ { g with stack := rest } (.invokevirtual index) mk (Value.ref b :: argsL).toArray X₁ hg hsize hdg hW (X₁.named hnamed) (hpre vm₁ X₁.warmed) with ⟨v, B, X', hpost, hsteps⟩ | ⟨q, B, X', hpost, hsteps⟩
  · exact Or.inl ⟨v, vm₁, B, X₁.warmed, X', hpost, fun target h => hstep₁ _ fun acts => by rw [doInvoke_state]; exact hsteps.trans h⟩
  · exact Or.inr ⟨q, vm₁, B, X₁.warmed, X', hpost, hstep₁ _ fun acts => by rw [doInvoke_state]; exact hsteps⟩
theorem vx_callS (X : Stand p l e R s m args below meth c T locs cells slots) (hexec : p.tables.exec = Jvm.exec) {own : String} {index : Nat} {y : MethodName} {bytes : ByteArray} {maxL : Nat} {ret : Option FieldType}
    (hown : s.vm.findClass own = some m.cls) (hlink : (Cond.methodLink own index y).before args s = true) (hstat : (Cond.static y).before args s = true) (hinit : (Cond.initialized y.cls).before args s = true)
    (hcode : (Cond.code y bytes maxL ret).before args s = true) (hy : y.cls ≠ "java/lang/invoke/MethodHandle" ∧ y.cls ≠ "java/lang/invoke/VarHandle")
    {W9 : Nat} {Pre : Pt → Array Value → Prop} {Post : Pt → Array Value → Option Value → Pt → Prop} {PostX : Pt → Array Value → Addr → Pt → Prop} (hK : vx_Back l R p e below s args y 3 W9 Pre Post PostX)
    {g : JFrame} (hg : g.method = m) (hsize : g.locals.size = c.maxLocals) {argsL rest : List Value} (hlen : ∀ sig, parseMethodDescriptor y.desc = some sig → argsL.length = sig.parameters.length)
    (hstack : g.stack = argsL.reverse ++ rest) (hW : 2 * g.monitorRoom + (rest.map fun v => v.category).sum ≤ W9) (hdg : decode c.code g.pc = .ok (.invokestatic index, 3))
    (hpre : ∀ vm₁, s.WarmedH vm₁ → Pre ⟨T.setVm vm₁, locs, cells, slots⟩ argsL.toArray) :
    (∃ (v : Option Value) (vm₁ : Vm) (B : Pt), s.WarmedH vm₁ ∧ Stand p l e R s m args below meth c B.U B.locs B.cells B.slots ∧ Post ⟨T.setVm vm₁, locs, cells, slots⟩ argsL.toArray v B ∧
      ∀ target, Steps p.tables e below (B.U.setTop { g with pc := g.pc + 3, stack := v.toList ++ rest }) target → Steps p.tables e below (T.setTop g) target) ∨
    (∃ (q : Addr) (vm₁ : Vm) (B : Pt), s.WarmedH vm₁ ∧ Stand p l e R s m args below meth c B.U B.locs B.cells B.slots ∧ PostX ⟨T.setVm vm₁, locs, cells, slots⟩ argsL.toArray q B ∧
      Steps p.tables e below (T.setTop g) ((B.U.setTop { g with stack := rest }).pushFrame (.throwing q))) := by
  obtain ⟨mk, hnamed⟩ := Cond.code_named hcode
  obtain ⟨methM, cM, hmethM, -, -, -, -, -, -, hsigM⟩ := Cond.code_spec hnamed hcode
  have hstatic : methM.isStatic = true := Cond.static_spec hnamed hmethM hstat
  obtain ⟨kP, hkP, -⟩ := className_of_methodNamed hnamed
  have hinitP : kP.init = .initialized := Cond.initialized_spec (findClass_of_methodNamed hnamed) hkP hinit
  obtain ⟨vm₁, X₁, hstep₁⟩ := X.invokestatic hexec hown hlink hnamed hmethM hstatic hkP hinitP hy (g := g) hg (argsL := argsL) (rest := rest) (hlen _ hsigM) hstack hdg
  rcases hK m meth c ⟨T.setVm vm₁, locs, cells, slots⟩ { g with stack := rest } (.invokestatic index) mk argsL.toArray X₁ hg hsize hdg hW (X₁.named hnamed) (hpre vm₁ X₁.warmed) with ⟨v, B, X', hpost, hsteps⟩ | ⟨q, B, X', hpost, hsteps⟩
  · exact Or.inl ⟨v, vm₁, B, X₁.warmed, X', hpost, fun target h => hstep₁ _ fun acts => by rw [doInvoke_state]; exact hsteps.trans h⟩
  · exact Or.inr ⟨q, vm₁, B, X₁.warmed, X', hpost, hstep₁ _ fun acts => by rw [doInvoke_state]; exact hsteps⟩
end Calls
theorem vx_cls {s : State} {T : State} {vm₁ : Vm} {E : String} {k : ClassId} (hW : s.WarmedH vm₁) (h : (T.setVm vm₁).vm.findClass E = some k) : s.vm.findClass E = some k := by
  have h1 : vm₁.findClass E = some k := h
  rw [hW.alike.findClass] at h1
  exact h1
/-- the method's frame g, with q thrown over it -/
def vx_W (p : Program) (l : Launch) (e : Env) (R : Room) (s : State) (m : MethodId) (args : Array Value) (below : List Frame) (meth : Method) (c : Code) (H : Heap) (locs : List Loc) (cells slots : Nat) (Q : State → Prop) (g : JFrame) (q : Addr) : Prop :=
  ∀ T : State, T.heap = H → Stand p l e R s m args below meth c T locs cells slots → ∃ t, Steps p.tables e below ((T.setTop g).pushFrame (.throwing q)) t ∧ Q t
def vx_Run (p : Program) (l : Launch) (e : Env) (R : Room) (s : State) (m : MethodId) (args : Array Value) (below : List Frame) (meth : Method) (c : Code) (H : Heap) (locs : List Loc) (cells slots mc ms : Nat) (g : JFrame) (rest : List Value) (Qa : State → Outcome → State → Prop) (XC : String → State → State → Prop) (free : Addr → Prop) : Prop :=
  ∀ T : State, T.heap = H → Stand p l e R s m args below meth c T locs cells slots →
    (∃ (v : Option Value) (st₀ t T' : State) (L : List Loc), st₀.heap = H ∧ Stand p l e R s m args below meth c T' (locs ++ L) (cells + mc) (slots + ms) ∧ (∀ q ∈ L, free q.base) ∧ T'.heap = t.heap ∧ T'.vm = t.vm ∧ Qa st₀ (.returned v) t ∧
      Goes p e below T g T' { g with pc := g.pc + 3, stack := v.toList ++ rest }) ∨
    (∃ (q : Addr) (st₀ t T' : State) (L : List Loc) (E : String) (ce : Cell), st₀.heap = H ∧ Stand p l e R s m args below meth c T' (locs ++ L) (cells + mc) (slots + ms) ∧ (∀ z ∈ L, free z.base) ∧ T'.heap = t.heap ∧ T'.vm = t.vm ∧ XC E st₀ t ∧ t.heap[q]? = some ce ∧ ce.vm = .none ∧ s.vm.findClass E = some ce.cls ∧
      Steps p.tables e below (T.setTop g) ((T'.setTop { g with stack := rest }).pushFrame (.throwing q)))
def vx_X {S : Type} (px : S → Prop) (B : String → S → State → Prop) (A : Nat → Prop) : String → State → State → Prop := fun E st t => ∃ u : S, px u ∧ B E u t ∧ va_F A st t
section Runs
variable {p : Program} {l : Launch} {e : Env} {R : Room} {s : State} {m : MethodId} {args : Array Value} {below : List Frame} {meth : Method} {c : Code} {H : Heap} {locs : List Loc} {cells slots : Nat}
variable {y : MethodName} {bytes cc : ByteArray} {maxL nL mc ms n index : Nat} {ret : Option FieldType} {ws : List Cond} {rm : Room} {Pc : Array Value → State → Prop} {Qc : Array Value → State → Outcome → State → Prop} {XC : String → State → State → Prop} {free : Addr → Prop} {Ts : List Cond} {own C : String} {b : Addr} {As rest : List Value} {g : JFrame}
theorem vx_callBack (cb : CallB R s args own index y bytes maxL ret ws rm mc ms n) (hM : vx_Met l y ws rm Pc Qc XC mc ms free) (hbl : FrameBlind Pc) : vx_Back l R p e below s args y 3 8 (PreOf R mc ms Pc) (PostOf Qc mc ms free) (vx_Post XC mc ms free) := by
  obtain ⟨hrc, hrs, hfr, hlo, hws, hcw, -, hini, -⟩ := cb
  exact vx_back (bytes := bytes) (maxL := maxL) (ret := ret) hM hbl hrc hrs hfr hlo hws hcw (fun a' U hW => word_at hW (Or.inl (by first | rfl | simp [Cond.onTables, Cond.keeps, Cond.steady])) hini)
theorem vx_runV (S : CallFix p m c cc nL s args Ts own) (hM : vx_Met l y ws rm Pc Qc XC mc ms free) (cw : CallW R s args own C index y bytes maxL ret ws rm mc ms n) (hp : PreV s H C b Pc As)
    (hg : g.method = m) (hn : As.length = n) (hsize : g.locals.size = nL) (hstack : g.stack = As.reverse ++ .ref b :: rest) (hW : 2 * g.monitorRoom + (rest.map fun v => v.category).sum ≤ 8) (hdg : decode cc g.pc = .ok (.invokevirtual index, 3)) (hf : cells + mc ≤ R.cells ∧ slots + ms ≤ R.slots) :
    vx_Run p l e R s m args below meth c H locs cells slots mc ms g rest (Qc (Value.ref b :: As).toArray) XC free := by
  have hK : vx_Back l R p e below s args y 3 8 (PreOf R mc ms Pc) (PostOf Qc mc ms free) (vx_Post XC mc ms free) := vx_callBack cw.1 hM hp.1
  obtain ⟨⟨-, -, -, -, -, -, hcode, -, hy, hlen, hl⟩, hin, hse⟩ := cw
  obtain ⟨hx, hb, hml, ho, -⟩ := S
  obtain ⟨-, ⟨cellB, hcB, hoB, hclB⟩, hPc⟩ := hp
  intro T hT X
  rcases vx_callV X hx (C := C) (bytes := bytes) (maxL := maxL) (ret := ret) ho hl hin hse hcode hy hK (by rw [hT]; exact hcB) hoB hclB hg (hsize.trans hml.symm) (argsL := As) (rest := rest) (fun sig h => hn.trans (hlen sig h)) hstack hW (by rw [hb]; exact hdg)
    (fun vm₁ hW₁ => ⟨hf.1, hf.2, hPc (T.setVm vm₁) hT hW₁⟩) with ⟨v, vm₁, ⟨U', l2, c2, s2⟩, hW₁, X', ⟨g', mk, t, L, e1, e2, hq, h1, hL, h2, h3⟩, st⟩ | ⟨q, vm₁, ⟨U', l2, c2, s2⟩, hW₁, X', ⟨g', mk, t, L, E, ce, e1, e2, hq, hce, hcv, hcl, h1, hL, h2, h3⟩, st⟩
  · dsimp only [Pt.U, Pt.locs, Pt.cells, Pt.slots] at X' e1 e2 h1 h2 h3 st
    subst h1; subst h2; subst h3
    exact Or.inl ⟨v, (T.setVm vm₁).calling g' mk (Value.ref b :: As).toArray, t, U', L, hT, X', hL, e1, e2, hq, st⟩
  · dsimp only [Pt.U, Pt.locs, Pt.cells, Pt.slots] at X' e1 e2 h1 h2 h3 st hcl
    subst h1; subst h2; subst h3
    exact Or.inr ⟨q, (T.setVm vm₁).calling g' mk (Value.ref b :: As).toArray, t, U', L, E, ce, hT, X', hL, e1, e2, hq, hce, hcv, vx_cls hW₁ hcl, st⟩
theorem vx_runS (S : CallFix p m c cc nL s args Ts own) (hM : vx_Met l y ws rm Pc Qc XC mc ms free) (cw : CallB R s args own index y bytes maxL ret ws rm mc ms n ∧ (Cond.static y).before args s = true) (hp : PreS s H Pc As)
    (hg : g.method = m) (hn : As.length = n) (hsize : g.locals.size = nL) (hstack : g.stack = As.reverse ++ rest) (hW : 2 * g.monitorRoom + (rest.map fun v => v.category).sum ≤ 8) (hdg : decode cc g.pc = .ok (.invokestatic index, 3)) (hf : cells + mc ≤ R.cells ∧ slots + ms ≤ R.slots) :
    vx_Run p l e R s m args below meth c H locs cells slots mc ms g rest (Qc As.toArray) XC free := by
  have hK : vx_Back l R p e below s args y 3 8 (PreOf R mc ms Pc) (PostOf Qc mc ms free) (vx_Post XC mc ms free) := vx_callBack cw.1 hM hp.1
  obtain ⟨⟨-, -, -, -, -, -, hcode, hini, hy, hlen, hl⟩, hstt⟩ := cw
  obtain ⟨hx, hb, hml, ho, -⟩ := S
  intro T hT X
  rcases vx_callS X hx (bytes := bytes) (maxL := maxL) (ret := ret) ho hl hstt hini hcode hy hK hg (hsize.trans hml.symm) (argsL := As) (rest := rest) (fun sig h => hn.trans (hlen sig h)) hstack hW (by rw [hb]; exact hdg)
    (fun vm₁ hW₁ => ⟨hf.1, hf.2, hp.2 (T.setVm vm₁) hT hW₁⟩) with ⟨v, vm₁, ⟨U', l2, c2, s2⟩, hW₁, X', ⟨g', mk, t, L, e1, e2, hq, h1, hL, h2, h3⟩, st⟩ | ⟨q, vm₁, ⟨U', l2, c2, s2⟩, hW₁, X', ⟨g', mk, t, L, E, ce, e1, e2, hq, hce, hcv, hcl, h1, hL, h2, h3⟩, st⟩
  · dsimp only [Pt.U, Pt.locs, Pt.cells, Pt.slots] at X' e1 e2 h1 h2 h3 st
    subst h1; subst h2; subst h3
    exact Or.inl ⟨v, (T.setVm vm₁).calling g' mk As.toArray, t, U', L, hT, X', hL, e1, e2, hq, st⟩
  · dsimp only [Pt.U, Pt.locs, Pt.cells, Pt.slots] at X' e1 e2 h1 h2 h3 st hcl
    subst h1; subst h2; subst h3
    exact Or.inr ⟨q, (T.setVm vm₁).calling g' mk As.toArray, t, U', L, E, ce, hT, X', hL, e1, e2, hq, hce, hcv, vx_cls hW₁ hcl, st⟩
end Runs
section Rows
variable {p : Program} {l : Launch} {e : Env} {R : Room} {s : State} {m : MethodId} {args : Array Value} {below : List Frame} {meth : Method} {c : Code} {H : Heap} {locs : List Loc} {cells slots : Nat} {Q : State → Prop}
variable {mc ms : Nat} {free : Addr → Prop} {A0 A1 : Nat → Prop} {H0 : Heap} {a : Array Value} {pc : Nat} {ls : Array Slot} {st0 rest : List Value}
theorem vx_keep {st₀ t T' : State} {L : List Loc} (h0 : st₀.heap = H) (e1 : T'.heap = t.heap) (hS : va_S A0 H0 H locs) (hA : ∀ q, q < H.size → A1 q → A0 q) (hf : ∀ q, free q → A0 q) (hL : ∀ q ∈ L, free q.base) (hF : va_F A1 st₀ t) :
    H.size ≤ T'.heap.size ∧ (∀ q : Nat, q < H.size → ¬ A1 q → T'.heap[q]? = H[q]?) ∧ va_S A0 H0 T'.heap (locs ++ L) := by
  obtain ⟨hz, hk⟩ := hF
  rw [h0] at hz hk
  exact ⟨by rw [e1]; exact hz, fun q h1 h2 => by rw [e1]; exact hk q h1 h2,
    ⟨Nat.le_trans hS.1 (by rw [e1]; exact hz), fun q h1 h2 => by rw [e1, hk q (Nat.lt_of_lt_of_le h1 hS.1) (fun z => h2 (hA q (Nat.lt_of_lt_of_le h1 hS.1) z))]; exact hS.2.1 q h1 h2, fun q hq => by
      rcases List.mem_append.mp hq with h | h
      · exact hS.2.2 q h
      · exact hf _ (hL q h)⟩⟩
theorem vx_calli {S SX : Type} {post : Int32 → S → Prop} {px : SX → Prop} {B : S → State → Prop} {BX : String → SX → State → Prop} {AX : Nat → Prop} (hr : vx_Run p l e R s m args below meth c H locs cells slots mc ms (F0 m pc ls st0) rest (va_Qi post B A1 a) (vx_X px BX AX) free) (hS : va_S A0 H0 H locs) (hA : ∀ q, q < H.size → A1 q → A0 q) (hf : ∀ q, free q → A0 q) (hAX : ∀ q, q < H.size → AX q → A0 q)
    (kx : ∀ (E : String) (ce : Cell) (q9 : Addr) (u : SX) (t : State) (H1 : Heap) (locs1 : List Loc), t.heap = H1 → s.vm.Alike t.vm → px u → BX E u t → H.size ≤ H1.size → (∀ q : Nat, q < H.size → ¬ AX q → H1[q]? = H[q]?) → va_S A0 H0 H1 locs1 → H1[q9]? = some ce → ce.vm = .none → s.vm.findClass E = some ce.cls → vx_W p l e R s m args below meth c H1 locs1 (cells + mc) (slots + ms) Q (F0 m pc ls rest) q9)
    (kk : ∀ (r : Int32) (u : S) (t : State) (H1 : Heap) (locs1 : List Loc), t.heap = H1 → s.vm.Alike t.vm → post r u → B u t → H.size ≤ H1.size → (∀ q : Nat, q < H.size → ¬ A1 q → H1[q]? = H[q]?) → va_S A0 H0 H1 locs1 → W p l e R s m args below meth c H1 locs1 (cells + mc) (slots + ms) Q (F0 m (pc + 3) ls (.int r :: rest))) : W p l e R s m args below meth c H locs cells slots Q (F0 m pc ls st0) := by
  intro T hT X
  rcases hr T hT X with ⟨v, st₀, t, T', L, h0, X', hL, e1, e2, ⟨⟨r, u, hv, hp, hb⟩, hF⟩, st⟩ | ⟨q, st₀, t, T', L, E, ce, h0, X', hL, e1, e2, ⟨u, hp, hb, hF⟩, hce, hcv, hcl, st⟩
  · cases hv
    obtain ⟨k1, k2, k3⟩ := vx_keep h0 e1 hS hA hf hL hF
    obtain ⟨t2, a1, b1⟩ := kk r u t T'.heap (locs ++ L) e1.symm (by rw [← e2]; exact X'.warmed.alike) hp hb k1 k2 k3 T' rfl X'
    exact ⟨t2, st t2 a1, b1⟩
  · obtain ⟨k1, k2, k3⟩ := vx_keep h0 e1 hS hAX hf hL hF
    obtain ⟨t2, a1, b1⟩ := kx E ce q u t T'.heap (locs ++ L) e1.symm (by rw [← e2]; exact X'.warmed.alike) hp hb k1 k2 k3 (by rw [e1]; exact hce) hcv hcl T' rfl X'
    exact ⟨t2, st.trans a1, b1⟩
theorem vx_calll {S SX : Type} {post : Int64 → S → Prop} {px : SX → Prop} {B : S → State → Prop} {BX : String → SX → State → Prop} {AX : Nat → Prop} (hr : vx_Run p l e R s m args below meth c H locs cells slots mc ms (F0 m pc ls st0) rest (va_Ql post B A1 a) (vx_X px BX AX) free) (hS : va_S A0 H0 H locs) (hA : ∀ q, q < H.size → A1 q → A0 q) (hf : ∀ q, free q → A0 q) (hAX : ∀ q, q < H.size → AX q → A0 q)
    (kx : ∀ (E : String) (ce : Cell) (q9 : Addr) (u : SX) (t : State) (H1 : Heap) (locs1 : List Loc), t.heap = H1 → s.vm.Alike t.vm → px u → BX E u t → H.size ≤ H1.size → (∀ q : Nat, q < H.size → ¬ AX q → H1[q]? = H[q]?) → va_S A0 H0 H1 locs1 → H1[q9]? = some ce → ce.vm = .none → s.vm.findClass E = some ce.cls → vx_W p l e R s m args below meth c H1 locs1 (cells + mc) (slots + ms) Q (F0 m pc ls rest) q9)
    (kk : ∀ (r : Int64) (u : S) (t : State) (H1 : Heap) (locs1 : List Loc), t.heap = H1 → s.vm.Alike t.vm → post r u → B u t → H.size ≤ H1.size → (∀ q : Nat, q < H.size → ¬ A1 q → H1[q]? = H[q]?) → va_S A0 H0 H1 locs1 → W p l e R s m args below meth c H1 locs1 (cells + mc) (slots + ms) Q (F0 m (pc + 3) ls (.long r :: rest))) : W p l e R s m args below meth c H locs cells slots Q (F0 m pc ls st0) := by
  intro T hT X
  rcases hr T hT X with ⟨v, st₀, t, T', L, h0, X', hL, e1, e2, ⟨⟨r, u, hv, hp, hb⟩, hF⟩, st⟩ | ⟨q, st₀, t, T', L, E, ce, h0, X', hL, e1, e2, ⟨u, hp, hb, hF⟩, hce, hcv, hcl, st⟩
  · cases hv
    obtain ⟨k1, k2, k3⟩ := vx_keep h0 e1 hS hA hf hL hF
    obtain ⟨t2, a1, b1⟩ := kk r u t T'.heap (locs ++ L) e1.symm (by rw [← e2]; exact X'.warmed.alike) hp hb k1 k2 k3 T' rfl X'
    exact ⟨t2, st t2 a1, b1⟩
  · obtain ⟨k1, k2, k3⟩ := vx_keep h0 e1 hS hAX hf hL hF
    obtain ⟨t2, a1, b1⟩ := kx E ce q u t T'.heap (locs ++ L) e1.symm (by rw [← e2]; exact X'.warmed.alike) hp hb k1 k2 k3 (by rw [e1]; exact hce) hcv hcl T' rfl X'
    exact ⟨t2, st.trans a1, b1⟩
theorem vx_callf {S SX : Type} {post : UInt32 → S → Prop} {px : SX → Prop} {B : S → State → Prop} {BX : String → SX → State → Prop} {AX : Nat → Prop} (hr : vx_Run p l e R s m args below meth c H locs cells slots mc ms (F0 m pc ls st0) rest (va_Qf post B A1 a) (vx_X px BX AX) free) (hS : va_S A0 H0 H locs) (hA : ∀ q, q < H.size → A1 q → A0 q) (hf : ∀ q, free q → A0 q) (hAX : ∀ q, q < H.size → AX q → A0 q)
    (kx : ∀ (E : String) (ce : Cell) (q9 : Addr) (u : SX) (t : State) (H1 : Heap) (locs1 : List Loc), t.heap = H1 → s.vm.Alike t.vm → px u → BX E u t → H.size ≤ H1.size → (∀ q : Nat, q < H.size → ¬ AX q → H1[q]? = H[q]?) → va_S A0 H0 H1 locs1 → H1[q9]? = some ce → ce.vm = .none → s.vm.findClass E = some ce.cls → vx_W p l e R s m args below meth c H1 locs1 (cells + mc) (slots + ms) Q (F0 m pc ls rest) q9)
    (kk : ∀ (r : UInt32) (u : S) (t : State) (H1 : Heap) (locs1 : List Loc), t.heap = H1 → s.vm.Alike t.vm → post r u → B u t → H.size ≤ H1.size → (∀ q : Nat, q < H.size → ¬ A1 q → H1[q]? = H[q]?) → va_S A0 H0 H1 locs1 → W p l e R s m args below meth c H1 locs1 (cells + mc) (slots + ms) Q (F0 m (pc + 3) ls (.float r :: rest))) : W p l e R s m args below meth c H locs cells slots Q (F0 m pc ls st0) := by
  intro T hT X
  rcases hr T hT X with ⟨v, st₀, t, T', L, h0, X', hL, e1, e2, ⟨⟨r, u, hv, hp, hb⟩, hF⟩, st⟩ | ⟨q, st₀, t, T', L, E, ce, h0, X', hL, e1, e2, ⟨u, hp, hb, hF⟩, hce, hcv, hcl, st⟩
  · cases hv
    obtain ⟨k1, k2, k3⟩ := vx_keep h0 e1 hS hA hf hL hF
    obtain ⟨t2, a1, b1⟩ := kk r u t T'.heap (locs ++ L) e1.symm (by rw [← e2]; exact X'.warmed.alike) hp hb k1 k2 k3 T' rfl X'
    exact ⟨t2, st t2 a1, b1⟩
  · obtain ⟨k1, k2, k3⟩ := vx_keep h0 e1 hS hAX hf hL hF
    obtain ⟨t2, a1, b1⟩ := kx E ce q u t T'.heap (locs ++ L) e1.symm (by rw [← e2]; exact X'.warmed.alike) hp hb k1 k2 k3 (by rw [e1]; exact hce) hcv hcl T' rfl X'
    exact ⟨t2, st.trans a1, b1⟩
theorem vx_calld {S SX : Type} {post : UInt64 → S → Prop} {px : SX → Prop} {B : S → State → Prop} {BX : String → SX → State → Prop} {AX : Nat → Prop} (hr : vx_Run p l e R s m args below meth c H locs cells slots mc ms (F0 m pc ls st0) rest (va_Qd post B A1 a) (vx_X px BX AX) free) (hS : va_S A0 H0 H locs) (hA : ∀ q, q < H.size → A1 q → A0 q) (hf : ∀ q, free q → A0 q) (hAX : ∀ q, q < H.size → AX q → A0 q)
    (kx : ∀ (E : String) (ce : Cell) (q9 : Addr) (u : SX) (t : State) (H1 : Heap) (locs1 : List Loc), t.heap = H1 → s.vm.Alike t.vm → px u → BX E u t → H.size ≤ H1.size → (∀ q : Nat, q < H.size → ¬ AX q → H1[q]? = H[q]?) → va_S A0 H0 H1 locs1 → H1[q9]? = some ce → ce.vm = .none → s.vm.findClass E = some ce.cls → vx_W p l e R s m args below meth c H1 locs1 (cells + mc) (slots + ms) Q (F0 m pc ls rest) q9)
    (kk : ∀ (r : UInt64) (u : S) (t : State) (H1 : Heap) (locs1 : List Loc), t.heap = H1 → s.vm.Alike t.vm → post r u → B u t → H.size ≤ H1.size → (∀ q : Nat, q < H.size → ¬ A1 q → H1[q]? = H[q]?) → va_S A0 H0 H1 locs1 → W p l e R s m args below meth c H1 locs1 (cells + mc) (slots + ms) Q (F0 m (pc + 3) ls (.double r :: rest))) : W p l e R s m args below meth c H locs cells slots Q (F0 m pc ls st0) := by
  intro T hT X
  rcases hr T hT X with ⟨v, st₀, t, T', L, h0, X', hL, e1, e2, ⟨⟨r, u, hv, hp, hb⟩, hF⟩, st⟩ | ⟨q, st₀, t, T', L, E, ce, h0, X', hL, e1, e2, ⟨u, hp, hb, hF⟩, hce, hcv, hcl, st⟩
  · cases hv
    obtain ⟨k1, k2, k3⟩ := vx_keep h0 e1 hS hA hf hL hF
    obtain ⟨t2, a1, b1⟩ := kk r u t T'.heap (locs ++ L) e1.symm (by rw [← e2]; exact X'.warmed.alike) hp hb k1 k2 k3 T' rfl X'
    exact ⟨t2, st t2 a1, b1⟩
  · obtain ⟨k1, k2, k3⟩ := vx_keep h0 e1 hS hAX hf hL hF
    obtain ⟨t2, a1, b1⟩ := kx E ce q u t T'.heap (locs ++ L) e1.symm (by rw [← e2]; exact X'.warmed.alike) hp hb k1 k2 k3 (by rw [e1]; exact hce) hcv hcl T' rfl X'
    exact ⟨t2, st.trans a1, b1⟩
theorem vx_callv {S SX : Type} {post : S → Prop} {px : SX → Prop} {B : S → State → Prop} {BX : String → SX → State → Prop} {AX : Nat → Prop} (hr : vx_Run p l e R s m args below meth c H locs cells slots mc ms (F0 m pc ls st0) rest (va_Qv post B A1 a) (vx_X px BX AX) free) (hS : va_S A0 H0 H locs) (hA : ∀ q, q < H.size → A1 q → A0 q) (hf : ∀ q, free q → A0 q) (hAX : ∀ q, q < H.size → AX q → A0 q)
    (kx : ∀ (E : String) (ce : Cell) (q9 : Addr) (u : SX) (t : State) (H1 : Heap) (locs1 : List Loc), t.heap = H1 → s.vm.Alike t.vm → px u → BX E u t → H.size ≤ H1.size → (∀ q : Nat, q < H.size → ¬ AX q → H1[q]? = H[q]?) → va_S A0 H0 H1 locs1 → H1[q9]? = some ce → ce.vm = .none → s.vm.findClass E = some ce.cls → vx_W p l e R s m args below meth c H1 locs1 (cells + mc) (slots + ms) Q (F0 m pc ls rest) q9)
    (kk : ∀ (u : S) (t : State) (H1 : Heap) (locs1 : List Loc), t.heap = H1 → s.vm.Alike t.vm → post u → B u t → H.size ≤ H1.size → (∀ q : Nat, q < H.size → ¬ A1 q → H1[q]? = H[q]?) → va_S A0 H0 H1 locs1 → W p l e R s m args below meth c H1 locs1 (cells + mc) (slots + ms) Q (F0 m (pc + 3) ls (rest))) : W p l e R s m args below meth c H locs cells slots Q (F0 m pc ls st0) := by
  intro T hT X
  rcases hr T hT X with ⟨v, st₀, t, T', L, h0, X', hL, e1, e2, ⟨⟨u, hv, hp, hb⟩, hF⟩, st⟩ | ⟨q, st₀, t, T', L, E, ce, h0, X', hL, e1, e2, ⟨u, hp, hb, hF⟩, hce, hcv, hcl, st⟩
  · cases hv
    obtain ⟨k1, k2, k3⟩ := vx_keep h0 e1 hS hA hf hL hF
    obtain ⟨t2, a1, b1⟩ := kk u t T'.heap (locs ++ L) e1.symm (by rw [← e2]; exact X'.warmed.alike) hp hb k1 k2 k3 T' rfl X'
    exact ⟨t2, st t2 a1, b1⟩
  · obtain ⟨k1, k2, k3⟩ := vx_keep h0 e1 hS hAX hf hL hF
    obtain ⟨t2, a1, b1⟩ := kx E ce q u t T'.heap (locs ++ L) e1.symm (by rw [← e2]; exact X'.warmed.alike) hp hb k1 k2 k3 (by rw [e1]; exact hce) hcv hcl T' rfl X'
    exact ⟨t2, st.trans a1, b1⟩
/-- caught by the row x of this method's table; the rows ahead don't take it -/
theorem vx_catch {own name : String} {E : String} {ce : Cell} {q : Addr} (hown : s.vm.findClass own = some m.cls) (pre : List ExceptionTableEntry) (x : ExceptionTableEntry) (suf : List ExceptionTableEntry) (hsplit : c.exceptionTable.toList = pre ++ x :: suf)
    (hpass : ∀ z ∈ pre, covers z pc = false ∨ (z.catchType ≠ 0 ∧ ∃ nm : String, (Cond.classLink own z.catchType nm).before args s = true ∧ va_Nc E nm s)) (hx : covers x pc = true) (h0 : x.catchType ≠ 0)
    (hlink : (Cond.classLink own x.catchType name).before args s = true) (hcast : (Cond.castable E name).before args s = true) (hcell : H[q]? = some ce) (hv : ce.vm = .none) (hcl : s.vm.findClass E = some ce.cls)
    (kk : W p l e R s m args below meth c H locs cells slots Q (F0 m x.handlerPc ls [.ref q])) : vx_W p l e R s m args below meth c H locs cells slots Q (F0 m pc ls rest) q := by
  intro T hT X
  have hpl : e.platform.magicAccessors = ({} : Platform).magicAccessors := by rw [X.admits.platform]
  obtain ⟨c3, c4, hc3, hc4, hasg⟩ := Cond.castable_spec hcast
  cases Option.some.inj (hc3.symm.trans hcl)
  obtain ⟨c5, hc5, hcl5⟩ := Cond.classLink_spec hown hlink e.platform hpl
  cases Option.some.inj (hc4.symm.trans hc5)
  obtain ⟨vm', X', st⟩ := X.thenCaughtThrough q (g := F0 m pc ls rest) rfl (Steps.refl _) (by rw [hT]; exact hcell) (by rw [hv]; rfl) (by obtain ⟨k9, h9, -⟩ := Vm.findClass_spec hcl; exact ⟨k9, h9⟩) pre x suf hsplit
    (fun z hz => by
      rcases hpass z hz with h | ⟨hz0, nm, hl1, hn1⟩
      · exact Or.inl h
      · obtain ⟨c6, hc6, hcl6⟩ := Cond.classLink_spec hown hl1 e.platform hpl
        obtain ⟨a8, b8, h1, h2, h3⟩ := hn1
        cases Option.some.inj (h1.symm.trans hcl)
        cases Option.some.inj (h2.symm.trans hc6)
        exact Or.inr ⟨hz0, _, hcl6, h3⟩) hx (Or.inr ⟨h0, c4, hcl5, hasg⟩)
  obtain ⟨t, a1, b1⟩ := kk (T.setVm vm') hT X'
  exact ⟨t, st.trans a1, b1⟩
end Rows
section Ends
variable {p : Program} {l : Launch} {e : Env} {R : Room} {s : State} {m : MethodId} {args : Array Value} {below : List Frame} {meth : Method} {c : Code} {H : Heap} {locs : List Loc} {cells slots : Nat} {Q : State → Prop}
variable {mc ms : Nat} {free : Addr → Prop} {A0 A1 : Nat → Prop} {H0 : Heap} {a : Array Value} {ls : Array Slot} {st0 rest : List Value}
variable {Qc : Array Value → State → Outcome → State → Prop} {XC : String → State → State → Prop}
/-- what a body that may throw owes at its end -/
def vx_MQ (below : List Frame) (Qc : Array Value → State → Outcome → State → Prop) (XC : String → State → State → Prop) (a : Array Value) (s : State) (mc ms : Nat) (free : Addr → Prop) : State → Prop := fun t =>
  ∃ o, t.status = .running ∧ Ended t below o ∧ vx_Q Qc XC mc ms free a s o t
theorem vx_ret {g : JFrame} {mc ms : Nat} (k : W p l e R s m args below meth c H locs cells slots (MQ below Qc args s mc ms free) g) : W p l e R s m args below meth c H locs cells slots (vx_MQ below Qc XC args s mc ms free) g := by
  intro T hT X
  obtain ⟨t, a1, o, b1, b2, b3, b4⟩ := k T hT X
  exact ⟨t, a1, o, b1, b2, Or.inl ⟨b3, b4⟩⟩
/-- not caught here: it goes on to the caller -/
theorem vx_widen {g : JFrame} {q : Addr} {k n : Nat} (h1 : cells ≤ k) (h2 : slots ≤ n) (kk : vx_W p l e R s m args below meth c H locs k n Q g q) : vx_W p l e R s m args below meth c H locs cells slots Q g q := fun T hT X => kk T hT (stand_widen X h1 h2)
theorem vx_out {pc : Nat} {E : String} {ce : Cell} {q : Addr} {mc ms : Nat} (hout : ∀ x ∈ c.exceptionTable.toList, covers x pc = false) (hlocks : meth.locks = false) (hcell : H[q]? = some ce) (hv : ce.vm = .none) (hcl : s.vm.findClass E = some ce.cls)
    (hx : ∀ t : State, t.heap = H → s.vm.Alike t.vm → XC E s t) (hf : ∀ z ∈ locs, free z.base) (hc : cells ≤ mc) (hs : slots ≤ ms) :
    vx_W p l e R s m args below meth c H locs cells slots (vx_MQ below Qc XC args s mc ms free) (F0 m pc ls rest) q := by
  intro T hT X
  obtain ⟨st1, hrun, hend, hW, hsm⟩ := X.leaveThrown q (g := F0 m pc ls rest) rfl rfl rfl hout hlocks
  have hcell9 : (T.setFrames (.throwing q :: below)).heap[q]? = some ce := by
    show T.heap[q]? = some ce
    rw [hT]; exact hcell
  exact ⟨_, st1, .threw q, hrun, hend, Or.inr ⟨q, rfl, E, ce, locs, hx _ hT hW.alike, hcell9, hv, hcl, hW, hsm.mono hc hs, hf⟩⟩
theorem vx_frame {U : State} {k n : Nat} (h : s.sameButNew ({ U with vm := s.vm } : State) locs k n) : s.heap.size ≤ U.heap.size ∧ ∀ q : Nat, q < s.heap.size → (∀ z ∈ locs, z.base ≠ q) → U.heap[q]? = s.heap[q]? := by
  obtain ⟨-, h2, -, -, -, h6⟩ := h
  refine ⟨h2, fun q hq hz => ?_⟩
  obtain ⟨c9, e1, e2, e3, e4⟩ := h6 q _ (Array.getElem?_eq_getElem hq)
  have hs : c9.slots = (s.heap[q]).slots := Array.ext_getElem? fun i => e4 i fun hm => hz _ hm rfl
  have h9 : c9 = s.heap[q] := by
    rw [hs] at e2
    exact e2
  have e5 : U.heap[q]? = some c9 := e1
  rw [e5, h9, Array.getElem?_eq_getElem hq]
/-- the words of a throw but the four that speak of the heap -/
def vx_no (w : Cond) : Bool := decide (w ≠ .isRef (.static Bundle.tN "UNASSIGNED_STACK" Bundle.steD)) && decide (w ≠ .isRef (.static Bundle.tN "SUPPRESSED_SENTINEL" Bundle.listD)) && decide (w ≠ .laysStatic Bundle.tN "UNASSIGNED_STACK" Bundle.steD) && decide (w ≠ .laysStatic Bundle.tN "SUPPRESSED_SENTINEL" Bundle.listD)
def vx_at0 (own : String) (ic : Nat) (X : String) (names : List String) : List Cond := (Bundle.ownAtoms0 own ic X names).filter vx_no
def vx_atS (own : String) (ic : Nat) (X : String) (names : List String) : List Cond := (Bundle.ownAtoms own ic X names).filter vx_no
/-- a word that the tables alone decide, or a good one -/
def vx_ot (w : Cond) : Bool := w.onTables || goodWord w
theorem vx_ot_at {args a' : Array Value} {s U : State} {w : Cond} (hW : s.WarmedH U.vm) (hvm : s.vm = U.vm) (hg : vx_ot w = true) (h : w.before args s = true) : w.before a' U = true := by
  simp only [vx_ot, Bool.or_eq_true] at hg
  rcases hg with hg | hg
  · exact va_tabs hg hvm h
  · exact word_at hW (good_of_word hg) h
/-- a list's words: the good ones out of the method's own list, the others by premises of their own -/
theorem vx_hat {args : Array Value} {s : State} {L B : List Cond} (h1 : ∀ w ∈ L.filter goodWord, w.before args s = true) (h2 : ∀ w ∈ L.filter (fun w => !goodWord w), w ∈ B) (h3 : ∀ w ∈ B, w.before args s = true) : ∀ w ∈ L, w.before args s = true := by
  intro w hw
  by_cases g : goodWord w = true
  · exact h1 w (List.mem_filter.mpr ⟨hw, g⟩)
  · refine h3 w (h2 w (List.mem_filter.mpr ⟨hw, ?_⟩))
    show (!goodWord w) = true
    cases hgw : goodWord w
    · rfl
    · exact absurd hgw g
theorem vx_c {args : Array Value} {s : State} {w : Cond} {B : List Cond} (h : w.before args s = true) (t : ∀ w ∈ B, w.before args s = true) : ∀ w' ∈ w :: B, w'.before args s = true := fun w' h' => (List.mem_cons.mp h').elim (fun e => by rw [e]; exact h) (t w')
theorem vx_n {args : Array Value} {s : State} : ∀ w ∈ ([] : List Cond), w.before args s = true := fun _ h => nomatch h
theorem vx_own {args : Array Value} {s : State} {L : List Cond} (h1 : ∀ w ∈ L.filter vx_no, w.before args s = true)
    (hU : (Cond.isRef (.static Bundle.tN "UNASSIGNED_STACK" Bundle.steD)).before args s = true) (hN : (Cond.isRef (.static Bundle.tN "SUPPRESSED_SENTINEL" Bundle.listD)).before args s = true)
    (lU : (Cond.laysStatic Bundle.tN "UNASSIGNED_STACK" Bundle.steD).before args s = true) (lN : (Cond.laysStatic Bundle.tN "SUPPRESSED_SENTINEL" Bundle.listD).before args s = true) : ∀ w ∈ L, w.before args s = true := by
  intro w hw
  by_cases e1 : w = .isRef (.static Bundle.tN "UNASSIGNED_STACK" Bundle.steD)
  · rw [e1]; exact hU
  · by_cases e2 : w = .isRef (.static Bundle.tN "SUPPRESSED_SENTINEL" Bundle.listD)
    · rw [e2]; exact hN
    · by_cases e3 : w = .laysStatic Bundle.tN "UNASSIGNED_STACK" Bundle.steD
      · rw [e3]; exact lU
      · by_cases e4 : w = .laysStatic Bundle.tN "SUPPRESSED_SENTINEL" Bundle.listD
        · rw [e4]; exact lN
        · exact h1 w (List.mem_filter.mpr ⟨hw, by unfold vx_no; rw [decide_eq_true e1, decide_eq_true e2, decide_eq_true e3, decide_eq_true e4]; rfl⟩)
/-- where a static field lies, its class's statics cell in H -/
def vx_L (C n d : String) (A : Nat → Prop) (U : State) (H : Heap) : Prop := ∃ (c : ClassId) (k : Class) (i : Nat) (f : Field) (a : Nat) (cell : Cell), U.vm.findClass C = some c ∧ U.fieldFound? C n d = some (c, k, i, f) ∧ f.isStatic = true ∧ k.statics = some a ∧ H[a]? = some cell ∧ cell.vm.isStatics = true ∧ cell.cls = c ∧ f.slot < cell.slots.size ∧ k.staticTypes[f.slot]? = some f.type ∧ ¬ A a
theorem vx_L.moved {C n d : String} {A : Nat → Prop} {u U : State} {H : Heap} (hvm : u.vm.Alike U.vm) (h : vx_L C n d A u H) : vx_L C n d A U H := by
  obtain ⟨c, k, i, f, a, cell, h1, h2, h3, h4, h5, h6, h7, h8, h9, h10⟩ := h
  obtain ⟨k', hi', he⟩ := State.fieldFound?_setVm hvm h2
  exact ⟨c, k', i, f, a, cell, by rw [hvm.findClass]; exact h1, hi', h3, by rw [he]; exact h4, h5, h6, h7, h8, by rw [he]; exact h9, h10⟩
theorem vx_L.kept {C n d : String} {A : Nat → Prop} {U : State} {H H1 : Heap} (h : vx_L C n d A U H) (hq : ∀ a : Nat, a < H.size → ¬ A a → H1[a]? = H[a]?) : vx_L C n d A U H1 := by
  obtain ⟨c, k, i, f, a, cell, h1, h2, h3, h4, h5, h6, h7, h8, h9, h10⟩ := h
  exact ⟨c, k, i, f, a, cell, h1, h2, h3, h4, by rw [hq a (Array.getElem?_eq_some_iff.mp h5).1 h10]; exact h5, h6, h7, h8, h9, h10⟩
theorem vx_L.narrow {C n d : String} {A B : Nat → Prop} {U : State} {H : Heap} (h : vx_L C n d A U H) (hAB : ∀ q, B q → A q) : vx_L C n d B U H := by
  obtain ⟨c, k, i, f, a, cell, h1, h2, h3, h4, h5, h6, h7, h8, h9, h10⟩ := h
  exact ⟨c, k, i, f, a, cell, h1, h2, h3, h4, h5, h6, h7, h8, h9, fun z => h10 (hAB _ z)⟩
theorem vx_L.word {C n d : String} {A : Nat → Prop} {s : State} {args : Array Value} (h : vx_L C n d A s s.heap) : (Cond.laysStatic C n d).before args s = true := by
  obtain ⟨c, k, i, f, a, cell, h1, h2, h3, h4, h5, h6, h7, h8, h9, -⟩ := h
  show (Cond.laysStatic C n d).holds args s none s [] = true
  exact Cond.laysStatic_of h1 h2 h3 h4 h5 h6 h7 h8 h9
/-- .. and what it holds: null or some reference -/
def vx_Zq (C n d : String) (A : Nat → Prop) (U : State) (H : Heap) : Prop := va_Zq C n d A U H ∧ vx_L C n d A U H
theorem vx_Zq.moved {C n d : String} {A : Nat → Prop} {u U : State} {H : Heap} (hvm : u.vm.Alike U.vm) (h : vx_Zq C n d A u H) : vx_Zq C n d A U H := ⟨va_Zq.moved hvm h.1, vx_L.moved hvm h.2⟩
theorem vx_Zq.kept {C n d : String} {A : Nat → Prop} {U : State} {H H1 : Heap} (h : vx_Zq C n d A U H) (hq : ∀ a : Nat, a < H.size → ¬ A a → H1[a]? = H[a]?) : vx_Zq C n d A U H1 := ⟨va_Zq.kept h.1 hq, vx_L.kept h.2 hq⟩
theorem vx_Zq.narrow {C n d : String} {A B : Nat → Prop} {U : State} {H : Heap} (h : vx_Zq C n d A U H) (hAB : ∀ q, B q → A q) : vx_Zq C n d B U H := ⟨va_Zq.narrow h.1 hAB, vx_L.narrow h.2 hAB⟩
theorem vx_Zqof {args : Array Value} {s : State} {C n d : String} {A : Nat → Prop} (hl : (Cond.laysStatic C n d).before args s = true) (hini : (Cond.initialized C).before args s = true) (h : (Cond.isRef (.static C n d)).before args s = true) (hA : ∀ a : Nat, a < s.heap.size → ¬ A a) : vx_Zq C n d A s s.heap := by
  refine ⟨va_Zqof hl hini h hA, ?_⟩
  obtain ⟨c, k, i, f, a, cell, h1, h2, h3, h4, h5, h6, h7, h8, h9⟩ := Cond.laysStatic_spec hl
  exact ⟨c, k, i, f, a, cell, h1, h2, h3, h4, h5, h6, h7, h8, h9, hA a (Array.getElem?_eq_some_iff.mp h5).1⟩
theorem vx_isRef {C n d : String} {v : Value} {A : Nat → Prop} {s : State} {args : Array Value} (h : va_Z C n d v A s s.heap) (hv : v.isRef = true) : (Cond.isRef (.static C n d)).before args s = true := by
  obtain ⟨cf, kf, fi, f, a, cell, h1, h2, h3, h4, h5, h6, h7, -⟩ := h
  have he : (Term.static C n d).eval args s none [] s = some v := by
    simp [Term.eval, State.fieldNamed?, h1, h2, h4, h5, h6, h7]
  simp only [Cond.before, Cond.holds, Cond.value, he]
  cases v <;> simp_all [Value.isRef]
theorem vx_isRefq {C n d : String} {A : Nat → Prop} {s : State} {args : Array Value} (h : va_Zq C n d A s s.heap) : (Cond.isRef (.static C n d)).before args s = true := by
  rcases h with h | ⟨t, h⟩
  · exact vx_isRef h rfl
  · exact vx_isRef h rfl
/-- the same frame, seen from here: as if the method were called anew in this heap -/
theorem vx_rebase {T : State} (X : Stand p l e R s m args below meth c T locs cells slots) {R' : Room} (hf : R'.frames ≤ R.frames) (hl : R'.locals ≤ R.locals) (hc : cells + R'.cells ≤ R.cells) (hs : slots + R'.slots ≤ R.slots) :
    Stand p l e R' ((T.setVm s.vm).setFrames (.invoking m args :: below)) m args below meth c T [] 0 0 := by
  have htop : (T.setVm s.vm).topJava?.isSome := X.here.top
  have hF : ((T.setVm s.vm).setFrames (.invoking m args :: below)).frames = .invoking m args :: below := State.frames_setFrames _ (State.cur_lt_of_top htop)
  obtain ⟨g₀, hg0⟩ := Option.isSome_iff_exists.mp htop
  obtain ⟨r, hr⟩ := State.topJava?_eq_some.mp hg0
  have hl9 : e.platform.stackLimits (T.setVm s.vm).me = e.platform.stackLimits s.me := X.limits
  have hb9 : (T.setVm s.vm).me.stackBytes = s.me.stackBytes := X.bytes
  refine ⟨X.admits, X.cas, X.clock, hF, ?_, X.hears, X.method, X.code, X.here, X.tail, X.warmed, ?_, ?_, ?_⟩
  · have h := X.room
    have hU : ((T.setVm s.vm).setFrames (.invoking m args :: below)).localsInUse = s.localsInUse := by
      rw [State.localsInUse_invoking hF (meth := meth) (c := c) X.method X.code, State.localsInUse_invoking X.frames X.method X.code]
    simp only [State.hasRoom, Bool.and_eq_true, decide_eq_true_eq] at h ⊢
    obtain ⟨⟨⟨⟨h1, h2, h3, h4, h5, h6⟩, h7⟩, h8⟩, h9⟩ := h
    rw [X.frames, List.length_cons] at h2 h3
    have q1 := X.heapSize
    have q2 := X.used
    simp only [hF, hU, List.length_cons, State.stackLimits_setFrames, State.stackBytes_setFrames, hl9, hb9]
    refine ⟨⟨⟨⟨by omega, by omega, by omega, by omega, by omega, h6⟩, ?_⟩, ?_⟩, X.book⟩
    · show T.heap.size + R'.cells ≤ e.platform.maxCells
      omega
    · show T.slotsUsed + R'.slots ≤ e.platform.maxSlots
      omega
  · rw [State.stackLimits_setFrames]; rfl
  · rw [State.stackBytes_setFrames]; rfl
  · refine ⟨?_, Nat.le_refl _, Nat.le_refl _, ?_, ?_, fun a c9 h9 => ⟨c9, h9, rfl, rfl, fun _ _ => rfl⟩⟩
    · obtain ⟨t, ht, -⟩ := State.frames_cons hr
      show T.setVm s.vm = { ((T.setVm s.vm).setFrames (.invoking m args :: below)).setFrames (T.setVm s.vm).frames with heap := T.heap, slotsUsed := T.slotsUsed }
      rw [State.setFrames_setFrames, State.setFrames_self ht]
      rfl
    · show T.slotsUsed = T.slotsUsed + ((T.heap.toList.drop T.heap.size).map (·.slots.size)).sum
      rw [List.drop_eq_nil_of_le (Nat.le_of_eq Array.length_toList)]
      rfl
    · show ((T.heap.toList.drop T.heap.size).map (·.slots.size)).sum ≤ 0
      rw [List.drop_eq_nil_of_le (Nat.le_of_eq Array.length_toList)]
      exact Nat.le_refl _
/-- 'throw new E()': new; dup; invokespecial; athrow -/
theorem vx_throw0 {cc : ByteArray} {pc : Nat} (hexec : p.tables.exec = Jvm.exec) (hb : c.code = cc) (hl : l.stackTraces = false) {own cls : String} {names : List String} {ik ic mc ms : Nat} {A : Nat → Prop}
    (hown : s.vm.findClass own = some m.cls) (hcls : Bundle.fit cls = true) (hnames : ∀ n ∈ names, Bundle.fit n = true)
    (hk : (Cond.classLink own ik cls).before args s = true) (hini : (Cond.initialized cls).before args s = true) (hat : ∀ w ∈ vx_at0 own ic cls names, w.before args s = true)
    (hgood : ∀ w ∈ Cond.classLink own ik cls :: Cond.initialized cls :: vx_at0 own ic cls names, vx_ot w = true)
    (hU : vx_Zq Bundle.tN "UNASSIGNED_STACK" Bundle.steD A s s.heap) (hN : vx_Zq Bundle.tN "SUPPRESSED_SENTINEL" Bundle.listD A s s.heap) (hS : va_S A s.heap H locs) (hsize : ls.size = c.maxLocals)
    (d0 : decode cc pc = .ok (.new ik, 3)) (d3 : decode cc (pc + 3) = .ok (.dup, 1)) (d4 : decode cc (pc + 4) = .ok (.invokespecial ic, 3)) (d7 : decode cc (pc + 7) = .ok (.athrow, 1))
    (hout : ∀ x ∈ c.exceptionTable.toList, covers x (pc + 7) = false)
    (hRframes : names.length + 3 < R.frames) (hRlocals : (rest.map fun v => v.category).sum + (13 * (names.length + 1) + 42) ≤ R.locals) (hRcells : cells + 1 ≤ R.cells) (hRslots : slots + 6 ≤ R.slots) (hlocks : meth.locks = false)
    (hx : ∀ t : State, s.vm.Alike t.vm → H.size ≤ t.heap.size → (∀ q : Nat, q < H.size → t.heap[q]? = H[q]?) → XC cls s t)
    (hf : ∀ z ∈ locs, free z.base) (hc : cells + 1 ≤ mc) (hs : slots + 6 ≤ ms) :
    W p l e R s m args below meth c H locs cells slots (vx_MQ below Qc XC args s mc ms free) (F0 m pc ls rest) := by
  intro T hT X
  have htr : e.platform.stackTraces = false := (show e.platform.stackTraces = l.stackTraces by rw [X.admits.platform]).trans hl
  have Y := vx_rebase X (R' := { frames := R.frames, locals := R.locals, cells := 1, slots := 6 }) (Nat.le_refl _) (Nat.le_refl _) hRcells hRslots
  obtain ⟨s', hA⟩ : ∃ z, z = (T.setVm s.vm).setFrames (.invoking m args :: below) := ⟨_, rfl⟩
  rw [← hA] at Y
  have hvm : s'.vm = s.vm := by rw [hA]; rfl
  have hhp : s'.heap = H := by rw [hA]; exact hT
  have hW0 : s.WarmedH s'.vm := by rw [hvm]; exact State.WarmedH.refl s
  have hat' : ∀ w ∈ vx_at0 own ic cls names, w.before args s' = true := fun w hw => vx_ot_at hW0 hvm.symm (hgood w (List.mem_cons_of_mem _ (List.mem_cons_of_mem _ hw))) (hat w hw)
  have hk' : (Cond.classLink own ik cls).before args s' = true := vx_ot_at hW0 hvm.symm (hgood _ List.mem_cons_self) hk
  have hini' : (Cond.initialized cls).before args s' = true := vx_ot_at hW0 hvm.symm (hgood _ (List.mem_cons_of_mem _ List.mem_cons_self)) hini
  have hU' : vx_Zq Bundle.tN "UNASSIGNED_STACK" Bundle.steD A s' s'.heap := by rw [hhp]; exact vx_Zq.moved hW0.alike (hU.kept hS.2.1)
  have hN' : vx_Zq Bundle.tN "SUPPRESSED_SENTINEL" Bundle.listD A s' s'.heap := by rw [hhp]; exact vx_Zq.moved hW0.alike (hN.kept hS.2.1)
  have h : ∀ w ∈ Bundle.ownAtoms0 own ic cls names, w.before args s' = true := vx_own hat' (vx_isRefq hU'.1) (vx_isRefq hN'.1) hU'.2.word hN'.2.word
  have hown' : s'.vm.findClass own = some m.cls := by rw [hvm]; exact hown
  have hins : (Cond.instantiable cls 6).before args s' = true := h _ (by simp [Bundle.ownAtoms0])
  obtain ⟨vm₁, cX, kX, hfX, hkX, -, -, X₁, st1⟩ := Y.newCold hexec (own := own) (C := cls) (index := ik) (n := 6) hown' hk' hins hini'
    (g := F0 m pc ls rest) rfl (by rw [hb]; exact d0) (Nat.le_refl _) (Nat.le_refl _)
  generalize hT1 : (T.setVm vm₁).pushCell { cls := cX, slots := kX.instanceTypes.map defaultValue, vm := .none } = T1 at X₁ st1
  have hcat : (Value.ref T.heap.size).category = 1 := rfl
  have hcellA : T1.heap[T.heap.size]? = some (freshCell cX kX) := by rw [← hT1]; exact State.heap_pushCell_size _ _
  have d3' : decode c.code (pc + 3) = .ok (.dup, 1) := by rw [hb]; exact d3
  obtain ⟨U, hsteps, hrun, hend, hW, hsame, ce, hce, hO⟩ := X₁.ctorThrow0 hexec htr (own := own) (cls := cls) (names := names) (ic := ic) hown' hcls hnames h (fun x hx => nomatch hx) hfX hkX hcellA (by rw [hhp, hT]; exact Nat.le_refl _)
    (g := { method := m, pc := pc + 4, locals := ls, stack := .ref T.heap.size :: .ref T.heap.size :: rest, locked := none }) rfl hsize rfl rfl (rest := rest) rfl
    (by rw [hb]; exact d4) (by rw [hb]; exact d7) hout hRframes (by simp only [List.map_cons, List.sum_cons, hcat]; omega) hlocks
  obtain ⟨f1, f2⟩ := vx_frame hsame
  rw [hhp] at f1 f2
  have hWs : s.WarmedH U.vm := State.WarmedH.trans hW0 hW
  have hcl : s.vm.findClass cls = some ce.cls := by
    have h9 := hO.cls
    rw [hvm] at h9
    exact h9
  have hall : s.sameButNew ({ U with vm := s.vm } : State) locs mc ms := by
    subst hA
    obtain ⟨e1, e2⟩ := hsame
    rw [State.setFrames_setFrames] at e1
    have h2 : (T.setVm s.vm).sameButNew ({ U with vm := s.vm } : State) [] (0 + 1) (0 + 6) := ⟨e1, e2⟩
    have h3 := X.same.trans h2
    rw [List.append_nil] at h3
    exact h3.mono hc hs
  refine ⟨U, ?_, .threw T.heap.size, hrun, hend, Or.inr ⟨T.heap.size, rfl, cls, ce, locs, hx U hWs.alike f1 (fun q hq => f2 q hq (fun z hz => nomatch hz)), hce, hO.vm, hcl, hWs, hall, hf⟩⟩
  refine st1 _ ?_
  show Steps p.tables e below (T1.setTop { method := m, pc := pc + 3, locals := ls, stack := .ref T.heap.size :: rest, locked := none }) _
  jvm_step X₁.here [X₁.here.top, hexec, d3', Value.category]
  exact hsteps
/-- 'throw new E("text")': new; dup; ldc; invokespecial; athrow -/
theorem vx_throwS {cc : ByteArray} {pc : Nat} (hexec : p.tables.exec = Jvm.exec) (hb : c.code = cc) (hl : l.stackTraces = false) {own cls text : String} {names : List String} {ik is ic mc ms sa : Nat} {A : Nat → Prop}
    (hown : s.vm.findClass own = some m.cls) (hcls : Bundle.fit cls = true) (hnames : ∀ n ∈ names, Bundle.fit n = true)
    (hk : (Cond.classLink own ik cls).before args s = true) (hini : (Cond.initialized cls).before args s = true) (hstr : vk_R own is text sa s) (hat : ∀ w ∈ vx_atS own ic cls names, w.before args s = true)
    (hgood : ∀ w ∈ Cond.classLink own ik cls :: Cond.initialized cls :: vx_atS own ic cls names, vx_ot w = true)
    (hU : vx_Zq Bundle.tN "UNASSIGNED_STACK" Bundle.steD A s s.heap) (hN : vx_Zq Bundle.tN "SUPPRESSED_SENTINEL" Bundle.listD A s s.heap) (hS : va_S A s.heap H locs) (hsize : ls.size = c.maxLocals)
    (d0 : decode cc pc = .ok (.new ik, 3)) (d3 : decode cc (pc + 3) = .ok (.dup, 1)) (d4 : decode cc (pc + 4) = .ok (.ldc is, 2)) (d6 : decode cc (pc + 6) = .ok (.invokespecial ic, 3)) (d9 : decode cc (pc + 9) = .ok (.athrow, 1))
    (hout : ∀ x ∈ c.exceptionTable.toList, covers x (pc + 9) = false)
    (hRframes : names.length + 3 < R.frames) (hRlocals : (rest.map fun v => v.category).sum + (13 * (names.length + 1) + 43) ≤ R.locals) (hRcells : cells + 1 ≤ R.cells) (hRslots : slots + 6 ≤ R.slots) (hlocks : meth.locks = false)
    (hx : ∀ t : State, s.vm.Alike t.vm → H.size ≤ t.heap.size → (∀ q : Nat, q < H.size → t.heap[q]? = H[q]?) → XC cls s t)
    (hf : ∀ z ∈ locs, free z.base) (hc : cells + 1 ≤ mc) (hs : slots + 6 ≤ ms) :
    W p l e R s m args below meth c H locs cells slots (vx_MQ below Qc XC args s mc ms free) (F0 m pc ls rest) := by
  intro T hT X
  have htr : e.platform.stackTraces = false := (show e.platform.stackTraces = l.stackTraces by rw [X.admits.platform]).trans hl
  have Y := vx_rebase X (R' := { frames := R.frames, locals := R.locals, cells := 1, slots := 6 }) (Nat.le_refl _) (Nat.le_refl _) hRcells hRslots
  obtain ⟨s', hA⟩ : ∃ z, z = (T.setVm s.vm).setFrames (.invoking m args :: below) := ⟨_, rfl⟩
  rw [← hA] at Y
  have hvm : s'.vm = s.vm := by rw [hA]; rfl
  have hhp : s'.heap = H := by rw [hA]; exact hT
  have hW0 : s.WarmedH s'.vm := by rw [hvm]; exact State.WarmedH.refl s
  have hat' : ∀ w ∈ vx_atS own ic cls names, w.before args s' = true := fun w hw => vx_ot_at hW0 hvm.symm (hgood w (List.mem_cons_of_mem _ (List.mem_cons_of_mem _ hw))) (hat w hw)
  have hk' : (Cond.classLink own ik cls).before args s' = true := vx_ot_at hW0 hvm.symm (hgood _ List.mem_cons_self) hk
  have hini' : (Cond.initialized cls).before args s' = true := vx_ot_at hW0 hvm.symm (hgood _ (List.mem_cons_of_mem _ List.mem_cons_self)) hini
  have hU' : vx_Zq Bundle.tN "UNASSIGNED_STACK" Bundle.steD A s' s'.heap := by rw [hhp]; exact vx_Zq.moved hW0.alike (hU.kept hS.2.1)
  have hN' : vx_Zq Bundle.tN "SUPPRESSED_SENTINEL" Bundle.listD A s' s'.heap := by rw [hhp]; exact vx_Zq.moved hW0.alike (hN.kept hS.2.1)
  have h : ∀ w ∈ Bundle.ownAtoms own ic cls names, w.before args s' = true := vx_own hat' (vx_isRefq hU'.1) (vx_isRefq hN'.1) hU'.2.word hN'.2.word
  have hown' : s'.vm.findClass own = some m.cls := by rw [hvm]; exact hown
  have hins : (Cond.instantiable cls 6).before args s' = true := h _ (by simp [Bundle.ownAtoms])
  obtain ⟨vm₁, cX, kX, hfX, hkX, -, -, X₁, st1⟩ := Y.newCold hexec (own := own) (C := cls) (index := ik) (n := 6) hown' hk' hins hini'
    (g := F0 m pc ls rest) rfl (by rw [hb]; exact d0) (Nat.le_refl _) (Nat.le_refl _)
  generalize hT1 : (T.setVm vm₁).pushCell { cls := cX, slots := kX.instanceTypes.map defaultValue, vm := .none } = T1 at X₁ st1
  have hcat : (Value.ref T.heap.size).category = 1 := rfl
  have hcellA : T1.heap[T.heap.size]? = some (freshCell cX kX) := by rw [← hT1]; exact State.heap_pushCell_size _ _
  have d3' : decode c.code (pc + 3) = .ok (.dup, 1) := by rw [hb]; exact d3
  have d4' : decode c.code (pc + 4) = .ok (.ldc is, 2) := by rw [hb]; exact d4
  have hstr' : vk_R own is text sa s' := vk_R.warm hW0 hstr
  obtain ⟨U, hsteps, hrun, hend, hW, hsame, ce, hce, hO⟩ := X₁.ctorThrowS hexec htr (own := own) (cls := cls) (names := names) (ic := ic) hown' hcls hnames h (fun x hx => nomatch hx) hfX hkX hcellA (by rw [hhp, hT]; exact Nat.le_refl _) (msg := .ref sa) rfl
    (g := { method := m, pc := pc + 6, locals := ls, stack := .ref sa :: .ref T.heap.size :: .ref T.heap.size :: rest, locked := none }) rfl hsize rfl rfl (rest := rest) rfl
    (by rw [hb]; exact d6) (by rw [hb]; exact d9) hout hRframes (by simp only [List.map_cons, List.sum_cons, hcat]; omega) hlocks
  obtain ⟨f1, f2⟩ := vx_frame hsame
  rw [hhp] at f1 f2
  have hWs : s.WarmedH U.vm := State.WarmedH.trans hW0 hW
  have hcl : s.vm.findClass cls = some ce.cls := by
    have h9 := hO.cls
    rw [hvm] at h9
    exact h9
  have hall : s.sameButNew ({ U with vm := s.vm } : State) locs mc ms := by
    subst hA
    obtain ⟨e1, e2⟩ := hsame
    rw [State.setFrames_setFrames] at e1
    have h2 : (T.setVm s.vm).sameButNew ({ U with vm := s.vm } : State) [] (0 + 1) (0 + 6) := ⟨e1, e2⟩
    have h3 := X.same.trans h2
    rw [List.append_nil] at h3
    exact h3.mono hc hs
  refine ⟨U, ?_, .threw T.heap.size, hrun, hend, Or.inr ⟨T.heap.size, rfl, cls, ce, locs, hx U hWs.alike f1 (fun q hq => f2 q hq (fun z hz => nomatch hz)), hce, hO.vm, hcl, hWs, hall, hf⟩⟩
  refine st1 _ ?_
  show Steps p.tables e below (T1.setTop { method := m, pc := pc + 3, locals := ls, stack := .ref T.heap.size :: rest, locked := none }) _
  jvm_step X₁.here [X₁.here.top, hexec, d3', Value.category]
  exact X₁.ldcString hexec (own := own) (text := text) (index := is) (a := sa) hown' hstr'.1 hstr'.2
    (g := { method := m, pc := pc + 4, locals := ls, stack := .ref T.heap.size :: .ref T.heap.size :: rest, locked := none }) rfl d4' _ hsteps
/-- 'throw new E("text")', the text by a wide index -/
theorem vx_throwSW {cc : ByteArray} {pc : Nat} (hexec : p.tables.exec = Jvm.exec) (hb : c.code = cc) (hl : l.stackTraces = false) {own cls text : String} {names : List String} {ik is ic mc ms sa : Nat} {A : Nat → Prop}
    (hown : s.vm.findClass own = some m.cls) (hcls : Bundle.fit cls = true) (hnames : ∀ n ∈ names, Bundle.fit n = true)
    (hk : (Cond.classLink own ik cls).before args s = true) (hini : (Cond.initialized cls).before args s = true) (hstr : vk_R own is text sa s) (hat : ∀ w ∈ vx_atS own ic cls names, w.before args s = true)
    (hgood : ∀ w ∈ Cond.classLink own ik cls :: Cond.initialized cls :: vx_atS own ic cls names, vx_ot w = true)
    (hU : vx_Zq Bundle.tN "UNASSIGNED_STACK" Bundle.steD A s s.heap) (hN : vx_Zq Bundle.tN "SUPPRESSED_SENTINEL" Bundle.listD A s s.heap) (hS : va_S A s.heap H locs) (hsize : ls.size = c.maxLocals)
    (d0 : decode cc pc = .ok (.new ik, 3)) (d3 : decode cc (pc + 3) = .ok (.dup, 1)) (d4 : decode cc (pc + 4) = .ok (.ldc_w is, 3)) (d7 : decode cc (pc + 7) = .ok (.invokespecial ic, 3)) (d10 : decode cc (pc + 10) = .ok (.athrow, 1))
    (hout : ∀ x ∈ c.exceptionTable.toList, covers x (pc + 10) = false)
    (hRframes : names.length + 3 < R.frames) (hRlocals : (rest.map fun v => v.category).sum + (13 * (names.length + 1) + 43) ≤ R.locals) (hRcells : cells + 1 ≤ R.cells) (hRslots : slots + 6 ≤ R.slots) (hlocks : meth.locks = false)
    (hx : ∀ t : State, s.vm.Alike t.vm → H.size ≤ t.heap.size → (∀ q : Nat, q < H.size → t.heap[q]? = H[q]?) → XC cls s t)
    (hf : ∀ z ∈ locs, free z.base) (hc : cells + 1 ≤ mc) (hs : slots + 6 ≤ ms) :
    W p l e R s m args below meth c H locs cells slots (vx_MQ below Qc XC args s mc ms free) (F0 m pc ls rest) := by
  intro T hT X
  have htr : e.platform.stackTraces = false := (show e.platform.stackTraces = l.stackTraces by rw [X.admits.platform]).trans hl
  have Y := vx_rebase X (R' := { frames := R.frames, locals := R.locals, cells := 1, slots := 6 }) (Nat.le_refl _) (Nat.le_refl _) hRcells hRslots
  obtain ⟨s', hA⟩ : ∃ z, z = (T.setVm s.vm).setFrames (.invoking m args :: below) := ⟨_, rfl⟩
  rw [← hA] at Y
  have hvm : s'.vm = s.vm := by rw [hA]; rfl
  have hhp : s'.heap = H := by rw [hA]; exact hT
  have hW0 : s.WarmedH s'.vm := by rw [hvm]; exact State.WarmedH.refl s
  have hat' : ∀ w ∈ vx_atS own ic cls names, w.before args s' = true := fun w hw => vx_ot_at hW0 hvm.symm (hgood w (List.mem_cons_of_mem _ (List.mem_cons_of_mem _ hw))) (hat w hw)
  have hk' : (Cond.classLink own ik cls).before args s' = true := vx_ot_at hW0 hvm.symm (hgood _ List.mem_cons_self) hk
  have hini' : (Cond.initialized cls).before args s' = true := vx_ot_at hW0 hvm.symm (hgood _ (List.mem_cons_of_mem _ List.mem_cons_self)) hini
  have hU' : vx_Zq Bundle.tN "UNASSIGNED_STACK" Bundle.steD A s' s'.heap := by rw [hhp]; exact vx_Zq.moved hW0.alike (hU.kept hS.2.1)
  have hN' : vx_Zq Bundle.tN "SUPPRESSED_SENTINEL" Bundle.listD A s' s'.heap := by rw [hhp]; exact vx_Zq.moved hW0.alike (hN.kept hS.2.1)
  have h : ∀ w ∈ Bundle.ownAtoms own ic cls names, w.before args s' = true := vx_own hat' (vx_isRefq hU'.1) (vx_isRefq hN'.1) hU'.2.word hN'.2.word
  have hown' : s'.vm.findClass own = some m.cls := by rw [hvm]; exact hown
  have hins : (Cond.instantiable cls 6).before args s' = true := h _ (by simp [Bundle.ownAtoms])
  obtain ⟨vm₁, cX, kX, hfX, hkX, -, -, X₁, st1⟩ := Y.newCold hexec (own := own) (C := cls) (index := ik) (n := 6) hown' hk' hins hini'
    (g := F0 m pc ls rest) rfl (by rw [hb]; exact d0) (Nat.le_refl _) (Nat.le_refl _)
  generalize hT1 : (T.setVm vm₁).pushCell { cls := cX, slots := kX.instanceTypes.map defaultValue, vm := .none } = T1 at X₁ st1
  have hcat : (Value.ref T.heap.size).category = 1 := rfl
  have hcellA : T1.heap[T.heap.size]? = some (freshCell cX kX) := by rw [← hT1]; exact State.heap_pushCell_size _ _
  have d3' : decode c.code (pc + 3) = .ok (.dup, 1) := by rw [hb]; exact d3
  have d4' : decode c.code (pc + 4) = .ok (.ldc_w is, 3) := by rw [hb]; exact d4
  have hstr' : vk_R own is text sa s' := vk_R.warm hW0 hstr
  obtain ⟨U, hsteps, hrun, hend, hW, hsame, ce, hce, hO⟩ := X₁.ctorThrowS hexec htr (own := own) (cls := cls) (names := names) (ic := ic) hown' hcls hnames h (fun x hx => nomatch hx) hfX hkX hcellA (by rw [hhp, hT]; exact Nat.le_refl _) (msg := .ref sa) rfl
    (g := { method := m, pc := pc + 7, locals := ls, stack := .ref sa :: .ref T.heap.size :: .ref T.heap.size :: rest, locked := none }) rfl hsize rfl rfl (rest := rest) rfl
    (by rw [hb]; exact d7) (by rw [hb]; exact d10) hout hRframes (by simp only [List.map_cons, List.sum_cons, hcat]; omega) hlocks
  obtain ⟨f1, f2⟩ := vx_frame hsame
  rw [hhp] at f1 f2
  have hWs : s.WarmedH U.vm := State.WarmedH.trans hW0 hW
  have hcl : s.vm.findClass cls = some ce.cls := by
    have h9 := hO.cls
    rw [hvm] at h9
    exact h9
  have hall : s.sameButNew ({ U with vm := s.vm } : State) locs mc ms := by
    subst hA
    obtain ⟨e1, e2⟩ := hsame
    rw [State.setFrames_setFrames] at e1
    have h2 : (T.setVm s.vm).sameButNew ({ U with vm := s.vm } : State) [] (0 + 1) (0 + 6) := ⟨e1, e2⟩
    have h3 := X.same.trans h2
    rw [List.append_nil] at h3
    exact h3.mono hc hs
  refine ⟨U, ?_, .threw T.heap.size, hrun, hend, Or.inr ⟨T.heap.size, rfl, cls, ce, locs, hx U hWs.alike f1 (fun q hq => f2 q hq (fun z hz => nomatch hz)), hce, hO.vm, hcl, hWs, hall, hf⟩⟩
  refine st1 _ ?_
  show Steps p.tables e below (T1.setTop { method := m, pc := pc + 3, locals := ls, stack := .ref T.heap.size :: rest, locked := none }) _
  jvm_step X₁.here [X₁.here.top, hexec, d3', Value.category]
  exact X₁.ldcStringW hexec (own := own) (text := text) (index := is) (a := sa) hown' hstr'.1 hstr'.2
    (g := { method := m, pc := pc + 4, locals := ls, stack := .ref T.heap.size :: .ref T.heap.size :: rest, locked := none }) rfl d4' _ hsteps
end Ends
section Bodies
variable {l : Launch}
theorem vx_ofW {y : MethodName} {ws ws' : List Cond} {rm : Room} {Pc : Array Value → State → Prop} {Qc : Array Value → State → Outcome → State → Prop} {XC : String → State → State → Prop} {mc ms : Nat} {free : Addr → Prop} {cc : ByteArray} {maxL : Nat} {ret : Option FieldType}
    (hy : plainName y.cls = true) (hw : ws = Cond.code y cc maxL ret :: ws')
    (body : ∀ p e s m args below meth c s₁, BodyLoose p l y (headSpec ws rm) cc maxL ret e s m args below meth c s₁ → c.maxLocals = maxL → (∀ x ∈ c.exceptionTable.toList, False) → Pc args s →
      W p l e (headSpec ws rm).room s m args below meth c s.heap [] 0 0 (vx_MQ below Qc XC args s mc ms free) (entryFrame m args maxL)) : vx_Met l y ws rm Pc Qc XC mc ms free := by
  refine MetFree.of_bodyS (code := cc) (maxLocals := maxL) (ret := ret) hy ?_ ?_
  · intro args s m h hn
    obtain ⟨meth, c, h1, h2, h3, h4, h5, h6, -, -⟩ := Cond.code_spec hn (atoms_spec (ws := ws) h _ (by rw [hw]; exact List.mem_cons_self))
    exact ⟨meth, c, h1, h2, h3, h4, h5, h6⟩
  · intro p e s m args below meth c s₁ B hml hP _
    have hh0 : s₁.heap = s.heap := by rw [B.state]; rfl
    have ht : ∀ x ∈ c.exceptionTable.toList, False := by
      obtain ⟨meth9, c9, h1, h2, -, -, -, -, h7, -⟩ := Cond.code_spec B.named (atoms_spec (ws := ws) B.pre _ (by rw [hw]; exact List.mem_cons_self))
      cases Option.some.inj (h1.symm.trans B.method)
      cases Option.some.inj (h2.symm.trans (Stand.of_body B).code)
      intro x hx
      rw [Array.isEmpty_iff.mp h7] at hx
      cases hx
    obtain ⟨t, a1, o, b1, b2, b3⟩ := body p e s m args below meth c s₁ B hml ht hP s₁ hh0 (Stand.of_body B)
    exact ⟨t, o, a1, b1, b2, b3⟩
/-- the table of a body with handlers -/
theorem vx_table {p : Program} {x y : MethodName} {S : Spec} {cc bytes : ByteArray} {maxL maxL' : Nat} {ret ret' : Option FieldType} {e : Env} {s s₁ : State} {m : MethodId} {args : Array Value} {below : List Frame} {meth : Method} {c : Code} {hh : List (Nat × Nat × Nat × Nat)}
    (B : BodyLoose p l y S cc maxL ret e s m args below meth c s₁) (h : (Cond.codeWith y bytes maxL' ret' hh).before args s = true) : c.exceptionTable.toList = tableOf hh := by
  obtain ⟨m9, meth9, c9, hn9, h1, h2, -, -, h6, -⟩ := Cond.codeWith_spec h
  cases Option.some.inj (hn9.symm.trans B.named)
  cases Option.some.inj (h1.symm.trans B.method)
  cases Option.some.inj (h2.symm.trans (Stand.of_body B).code)
  rw [← h6, table_eq]
end Bodies
end VXA
/-! ===== END ===== -/
/-! ===== BEGIN a static call of a method with an exception table ===== -/
section VXS
variable {p : Program} {l : Launch} {e : Env} {R : Room} {s : State} {m : MethodId} {args : Array Value} {below : List Frame} {meth : Method} {c : Code} {T : State} {H : Heap} {locs : List Loc} {cells slots : Nat}
abbrev vx_CSW (R : Room) (s : State) (args : Array Value) (own : String) (index : Nat) (y : MethodName) (bytes : ByteArray) (maxL : Nat) (ret : Option FieldType) (hh : List (Nat × Nat × Nat × Nat)) (ws : List Cond) (rm : Room) (mc ms n : Nat) : Prop :=
  (rm.cells = mc ∧ rm.slots = ms ∧ rm.frames + 1 ≤ R.frames ∧ 8 + (maxL + 11) + rm.locals ≤ R.locals ∧ (∀ w ∈ ws, ∀ (a' : Array Value) (U : State), s.WarmedH U.vm → w.before a' U = true) ∧ Cond.codeWith y bytes maxL ret hh ∈ ws) ∧
  (Cond.codeWith y bytes maxL ret hh).before args s = true ∧ (Cond.initialized y.cls).before args s = true ∧ (y.cls ≠ "java/lang/invoke/MethodHandle" ∧ y.cls ≠ "java/lang/invoke/VarHandle") ∧
  (∀ sig, parseMethodDescriptor y.desc = some sig → n = sig.parameters.length) ∧ (Cond.methodLink own index y).before args s = true ∧ (Cond.static y).before args s = true
theorem vx_cwSW {own : String} {index maxL mc ms : Nat} {y : MethodName} {bytes : ByteArray} {ret : Option FieldType} {hh : List (Nat × Nat × Nat × Nat)} {Ts ws ws' : List Cond} {rm : Room} (n : Nat) (ht : ∀ w ∈ Ts, w.before args s = true) (hT : GoodIn Ts (va_wsS own index y ws)) (hw : ws = Cond.codeWith y bytes maxL ret hh :: ws') (hrc : rm.cells = mc) (hrs : rm.slots = ms)
    (hd : y.cls ≠ "java/lang/invoke/MethodHandle" ∧ y.cls ≠ "java/lang/invoke/VarHandle" ∧ (parseMethodDescriptor y.desc).map (fun d => d.parameters.length) = some n) (hR : rm.frames + 1 ≤ R.frames ∧ 8 + (maxL + 11) + rm.locals ≤ R.locals) :
    vx_CSW R s args own index y bytes maxL ret hh ws rm mc ms n := by
  have ok : ∀ w ∈ va_wsS own index y ws, w.before args s = true := fun w h => ht w (hT w h).1
  have hG : GoodIn Ts ws := fun w h => hT w (by unfold va_wsS; exact List.mem_append_right _ h)
  have hc : Cond.codeWith y bytes maxL ret hh ∈ ws := by rw [hw]; exact List.mem_cons_self
  refine ⟨⟨hrc, hrs, hR.1, hR.2, pay_in ht hG, hc⟩, ht _ (hG _ hc).1, ok _ (by simp [va_wsS]), ⟨hd.1, hd.2.1⟩, fun sig h => ?_, ok _ (by simp [va_wsS]), ok _ (by simp [va_wsS])⟩
  have h2 := hd.2.2
  rw [h] at h2
  exact (Option.some.inj h2).symm
theorem vx_callSW (X : Stand p l e R s m args below meth c T locs cells slots) (hexec : p.tables.exec = Jvm.exec) {own : String} {index : Nat} {y : MethodName} {bytes : ByteArray} {maxL : Nat} {ret : Option FieldType} {hh : List (Nat × Nat × Nat × Nat)}
    (hown : s.vm.findClass own = some m.cls) (hlink : (Cond.methodLink own index y).before args s = true) (hstat : (Cond.static y).before args s = true) (hinit : (Cond.initialized y.cls).before args s = true)
    (hcode : (Cond.codeWith y bytes maxL ret hh).before args s = true) (hy : y.cls ≠ "java/lang/invoke/MethodHandle" ∧ y.cls ≠ "java/lang/invoke/VarHandle")
    {W9 : Nat} {Pre : Pt → Array Value → Prop} {Post : Pt → Array Value → Option Value → Pt → Prop} (hK : Back l R p e below s args y 3 W9 Pre Post)
    {g : JFrame} (hg : g.method = m) (hsize : g.locals.size = c.maxLocals) {argsL rest : List Value} (hlen : ∀ sig, parseMethodDescriptor y.desc = some sig → argsL.length = sig.parameters.length)
    (hstack : g.stack = argsL.reverse ++ rest) (hW : 2 * g.monitorRoom + (rest.map fun v => v.category).sum ≤ W9) (hdg : decode c.code g.pc = .ok (.invokestatic index, 3))
    (hpre : ∀ vm₁, s.WarmedH vm₁ → Pre ⟨T.setVm vm₁, locs, cells, slots⟩ argsL.toArray) :
    ∃ (v : Option Value) (vm₁ : Vm) (B : Pt), s.WarmedH vm₁ ∧ Stand p l e R s m args below meth c B.U B.locs B.cells B.slots ∧ Post ⟨T.setVm vm₁, locs, cells, slots⟩ argsL.toArray v B ∧
      ∀ target, Steps p.tables e below (B.U.setTop { g with pc := g.pc + 3, stack := v.toList ++ rest }) target → Steps p.tables e below (T.setTop g) target := by
  obtain ⟨mk, methM, cM, hnamed, hmethM, -, -, -, -, -, -, hsigM⟩ := Cond.codeWith_spec hcode
  have hstatic : methM.isStatic = true := Cond.static_spec hnamed hmethM hstat
  obtain ⟨kP, hkP, -⟩ := className_of_methodNamed hnamed
  have hinitP : kP.init = .initialized := Cond.initialized_spec (findClass_of_methodNamed hnamed) hkP hinit
  obtain ⟨vm₁, X₁, hstep₁⟩ := X.invokestatic hexec hown hlink hnamed hmethM hstatic hkP hinitP hy (g := g) hg (argsL := argsL) (rest := rest) (hlen _ hsigM) hstack hdg
  obtain ⟨v, B, X', hpost, hsteps⟩ := hK m meth c ⟨T.setVm vm₁, locs, cells, slots⟩ { g with stack := rest } (.invokestatic index) mk argsL.toArray X₁ hg hsize hdg hW (X₁.named hnamed) (hpre vm₁ X₁.warmed)
  exact ⟨v, vm₁, B, X₁.warmed, X', hpost, fun target h => hstep₁ _ fun acts => by rw [doInvoke_state]; exact hsteps.trans h⟩
theorem vx_runSW {y : MethodName} {bytes cc : ByteArray} {maxL nL mc ms n index : Nat} {ret : Option FieldType} {hh : List (Nat × Nat × Nat × Nat)} {ws : List Cond} {rm : Room} {Pc : Array Value → State → Prop} {Qc : Array Value → State → Outcome → State → Prop} {free : Addr → Prop} {Ts : List Cond} {own : String} {As rest : List Value} {g : JFrame}
    (S : CallFix p m c cc nL s args Ts own) (hM : Met l y ws rm Pc Qc mc ms free) (cw : vx_CSW R s args own index y bytes maxL ret hh ws rm mc ms n) (hp : PreS s H Pc As)
    (hg : g.method = m) (hn : As.length = n) (hsize : g.locals.size = nL) (hstack : g.stack = As.reverse ++ rest) (hW : 2 * g.monitorRoom + (rest.map fun v => v.category).sum ≤ 8) (hdg : decode cc g.pc = .ok (.invokestatic index, 3)) (hf : cells + mc ≤ R.cells ∧ slots + ms ≤ R.slots) :
    va_Run p l e R s m args below meth c H locs cells slots mc ms g rest (Qc As.toArray) (free) := by
  obtain ⟨⟨hrc, hrs, hfr, hlo, hws, hcw⟩, hcode, hini, hy, hlen, hl, hstt⟩ := cw
  have hK : Back l R p e below s args y 3 8 (PreOf R mc ms Pc) (PostOf Qc mc ms free) := va_backW (hh := hh) (bytes := bytes) (maxL := maxL) (ret := ret) hM hp.1 hrc hrs hfr hlo hws hcw (fun a' U hW => word_at hW (Or.inl (by first | rfl | simp [Cond.onTables, Cond.keeps, Cond.steady])) hini)
  obtain ⟨hx, hb, hml, ho, -⟩ := S
  intro T hT X
  obtain ⟨v, vm₁, ⟨U', l2, c2, s2⟩, hW₁, X', ⟨g', mk, t, L, e1, e2, hq, h1, hL, h2, h3⟩, st⟩ := vx_callSW X hx (hh := hh) (bytes := bytes) (maxL := maxL) (ret := ret) ho hl hstt hini hcode hy hK hg (hsize.trans hml.symm) (argsL := As) (rest := rest) (fun sig h => hn.trans (hlen sig h)) hstack hW (by rw [hb]; exact hdg)
    (fun vm₁ hW₁ => ⟨hf.1, hf.2, hp.2 (T.setVm vm₁) hT hW₁⟩)
  dsimp only [Pt.U, Pt.locs, Pt.cells, Pt.slots] at X' e1 e2 h1 h2 h3 st
  subst h1; subst h2; subst h3
  exact ⟨v, (T.setVm vm₁).calling g' mk As.toArray, t, U', L, hT, X', hL, e1, e2, hq, st⟩
/-- not caught here, past rows that name other classes: it goes on to the caller -/
theorem vx_outP {p : Program} {l : Launch} {e : Env} {R : Room} {s : State} {m : MethodId} {args : Array Value} {below : List Frame} {meth : Method} {c : Code} {H : Heap} {locs : List Loc} {cells slots : Nat} {free : Addr → Prop} {ls : Array Slot} {rest : List Value} {Qc : Array Value → State → Outcome → State → Prop} {XC : String → State → State → Prop}
    {pc : Nat} {own E : String} {ce : Cell} {q : Addr} {mc ms : Nat} (hown : s.vm.findClass own = some m.cls) (hlocks : meth.locks = false)
    (hpass : ∀ z ∈ c.exceptionTable.toList, covers z pc = false ∨ (z.catchType ≠ 0 ∧ ∃ nm : String, (Cond.classLink own z.catchType nm).before args s = true ∧ va_Nc E nm s)) (hcell : H[q]? = some ce) (hv : ce.vm = .none) (hcl : s.vm.findClass E = some ce.cls)
    (hx : ∀ t : State, t.heap = H → s.vm.Alike t.vm → XC E s t) (hf : ∀ z ∈ locs, free z.base) (hc : cells ≤ mc) (hs : slots ≤ ms) :
    vx_W p l e R s m args below meth c H locs cells slots (vx_MQ below Qc XC args s mc ms free) (F0 m pc ls rest) q := by
  intro T hT X
  have hpl : e.platform.magicAccessors = ({} : Platform).magicAccessors := by rw [X.admits.platform]
  obtain ⟨vm', hW', X', st⟩ := X.outThrough hlocks q (g := F0 m pc ls rest) rfl rfl rfl (cell := ce) (by rw [hT]; exact hcell) (by rw [hv]; rfl)
    (by obtain ⟨k9, h9, -⟩ := Vm.findClass_spec hcl; exact ⟨k9, h9⟩) (fun z hz => by
      rcases hpass z hz with h | ⟨hz0, nm, hl1, hn1⟩
      · exact Or.inl h
      · obtain ⟨c6, hc6, hcl6⟩ := Cond.classLink_spec hown hl1 e.platform hpl
        obtain ⟨a8, b8, h1, h2, h3⟩ := hn1
        cases Option.some.inj (h1.symm.trans hcl)
        cases Option.some.inj (h2.symm.trans hc6)
        exact Or.inr ⟨hz0, _, hcl6, h3⟩)
  obtain ⟨g₀, hfr⟩ := X'.frames_eq
  have hcell9 : ((T.setVm vm').setFrames (.throwing q :: below)).heap[q]? = some ce := by
    show T.heap[q]? = some ce
    rw [hT]; exact hcell
  have hend : Ended ((T.setVm vm').setFrames (.throwing q :: below)) below (.threw q) := State.frames_setFrames _ (State.cur_lt_of_frames hfr)
  refine ⟨(T.setVm vm').setFrames (.throwing q :: below), ?_, .threw q, X'.here.running, hend, Or.inr ⟨q, rfl, E, ce, locs, hx _ hT (X'.ends _).1.alike, hcell9, hv, hcl, (X'.ends _).1, (X'.ends _).2.mono hc hs, hf⟩⟩
  rw [X.pushThrowing_eq]
  exact st
/-- a thing of a world lies in the heap -/
theorem vx_lt {D : va_G} {cl : List vw_C} {ws : va_W} {H1 : Heap} (h : va_P D cl ws H1) {k : Nat} {q : Nat × va_E} (hk : ws[k]? = some q) : q.1 < H1.size := (h k q hk).lt
end VXS
/-! ===== END ===== -/
/-! ===== BEGIN methods with a table of their own: called by a name, returning or throwing ===== -/
section VXH
/-! vx_backW, vx_callVX, vx_callSX, vx_callVW, vx_runVW, vx_runVX, vx_runSX, vx_ofWH follow the same proofs as their sisters above (Free/Laws.lean, Shelf42/LK1.lean); vx_outP calls Shelf42/NT130.lean (outThrough). -/
section
variable {l : Launch} {R : Room} {p : Program} {e : Env} {below : List Frame} {s : State} {sargs : Array Value} {y : MethodName} {len W9 : Nat}
theorem vx_backW {ws : List Cond} {rm : Room} {Pc : Array Value → State → Prop} {Qc : Array Value → State → Outcome → State → Prop} {XC : String → State → State → Prop} {mc ms : Nat} {free : Addr → Prop} {bytes : ByteArray} {maxL : Nat} {ret : Option FieldType} {hh : List (Nat × Nat × Nat × Nat)}
    (hM : vx_Met l y ws rm Pc Qc XC mc ms free) (hblind : FrameBlind Pc) (hrc : rm.cells = mc) (hrs : rm.slots = ms)
    (hframes : rm.frames + 1 ≤ R.frames) (hlocals : W9 + (maxL + 11) + rm.locals ≤ R.locals)
    (hws : ∀ w ∈ ws, ∀ a' U, s.WarmedH U.vm → w.before a' U = true) (hcode : Cond.codeWith y bytes maxL ret hh ∈ ws) (hinit : ∀ a' U, s.WarmedH U.vm → (Cond.initialized y.cls).before a' U = true) :
    vx_Back l R p e below s sargs y len W9 (PreOf R mc ms Pc) (PostOf Qc mc ms free) (vx_Post XC mc ms free) := by
  intro m meth c A g ig mk a X hg hsize hdg hW hn hp
  have h1 : (headSpec ws rm).pre.before a A.U = true := atoms_intro fun w hw => hws w hw _ _ X.warmed
  have h2 : (Cond.codeWith y bytes maxL ret hh).before a A.U = true := hws _ hcode _ _ X.warmed
  have h3 : (Cond.initialized y.cls).before a A.U = true := hinit _ _ X.warmed
  have h4 : A.cells + (headSpec ws rm).room.cells ≤ R.cells := by rw [show (headSpec ws rm).room.cells = mc from hrc]; exact hp.1
  have h5 : A.slots + (headSpec ws rm).room.slots ≤ R.slots := by rw [show (headSpec ws rm).room.slots = ms from hrs]; exact hp.2.1
  have hPc : Pc a (A.U.calling g mk a) := hblind _ _ _ _ hp.2.2
  obtain ⟨U, Ls, c0, s0⟩ := A
  dsimp only [Pt.U, Pt.locs, Pt.cells, Pt.slots] at h1 h2 h3 h4 h5 X hn hPc ⊢
  obtain ⟨m9, methY, cY, hn9, hmY, hcY, -, hlY, -⟩ := Cond.codeWith_spec h2
  cases Option.some.inj (hn9.symm.trans hn)
  obtain ⟨kY, hkY, -⟩ := className_of_methodNamed hn
  have hinitY : kY.init = .initialized := Cond.initialized_spec (findClass_of_methodNamed hn) hkY h3
  have h : At U g.method c below := by rw [hg]; exact X.here
  have hlocals9 : W9 + (maxL + 11) + (headSpec ws rm).room.locals ≤ R.locals := hlocals
  have happ : (headSpec ws rm).appliesLoose y e.platform (U.calling g mk a) = true :=
    Spec.appliesLoose_calling (g := g) h hdg hn hkY hinitY
      (X.room_calling (g := g) (R' := (headSpec ws rm).room) hsize hmY hcY hframes (by rw [hlY]; omega) h4 h5) h1
  obtain ⟨mid, hmid⟩ := h.above
  have hfr : (U.setTop g).frames = (.java g :: mid) ++ below := by rw [State.frames_setTop' g h.top, hmid]; rfl
  obtain ⟨o, s₂, hsteps, -, hend, hq⟩ := Steps.callFree hM p X.admits X.cas X.clock (acts := []) hfr happ hPc trivial
  have hq' : vx_Q Qc XC mc ms free a (U.calling g mk a) o s₂ := hq
  rw [State.frames_setTop' g h.top] at hend
  obtain ⟨g₀, hg0⟩ := Option.isSome_iff_exists.mp h.top
  obtain ⟨r, hr⟩ := State.topJava?_eq_some.mp hg0
  have hr' : (({ U with heap := s₂.heap, slotsUsed := s₂.slotsUsed } : State).setVm s₂.vm).frames = .java g₀ :: r := hr
  rcases hq' with ⟨hqc, L, hfe, hL⟩ | ⟨q, rfl, E, ce, L, hx, hce, hcv, hcl, hW₂, hsm, hL⟩
  · obtain ⟨⟨v, rfl⟩, hW₂, e2, q2, q3, q4, q5, q6⟩ := id hfe
    have e3 : s₂ = ({ (U.calling g mk a).setFrames s₂.frames with heap := s₂.heap, slotsUsed := s₂.slotsUsed } : State).setVm s₂.vm := by
      have : s₂ = ({ s₂ with vm := (U.calling g mk a).vm } : State).setVm s₂.vm := rfl
      rw [e2] at this
      exact this
    obtain ⟨c₂, i₂, len₂, hc₂, hd₂, hf₂⟩ := hend
    have hW' : U.WarmedH s₂.vm := hW₂
    have hcc : c₂ = c := by
      have h1 : s₂.code? g.method = U.code? g.method := by
        rw [State.code?_eq, State.code?_eq, hW'.alike.method?]
      exact Option.some.inj (hc₂.symm.trans (h1.trans h.code))
    subst hcc
    have hlen : len₂ = len := by rw [hdg] at hd₂; cases hd₂; rfl
    subst hlen
    have hs₂ : s₂ = (({ U with heap := s₂.heap, slotsUsed := s₂.slotsUsed } : State).setVm s₂.vm).setTop { g with pc := g.pc + len₂, stack := v.toList ++ g.stack } := by
      refine e3.trans ?_
      rw [hf₂, State.calling_eq h.top, State.setFrames_setFrames, State.setTop_of_frames _ hr', hr]
      rfl
    have hsame : U.sameButNew ({ U with heap := s₂.heap, slotsUsed := s₂.slotsUsed } : State) L mc ms := by
      refine ⟨?_, q2, q3, q4, q5, q6⟩
      obtain ⟨t, ht, -⟩ := State.frames_cons hr
      show ({ U with heap := s₂.heap, slotsUsed := s₂.slotsUsed } : State) = { U.setFrames U.frames with heap := s₂.heap, slotsUsed := s₂.slotsUsed }
      rw [State.setFrames_self ht]
    subst hg
    refine Or.inl ⟨v, ⟨(({ U with heap := s₂.heap, slotsUsed := s₂.slotsUsed } : State).setVm s₂.vm), Ls ++ L, c0 + mc, s0 + ms⟩,
      ⟨X.admits, X.cas, X.clock, X.frames, X.room, X.hears, X.method, X.code, (X.here.setHeapUsed s₂.heap s₂.slotsUsed).setVm hW'.alike, X.tail, State.WarmedH.trans X.warmed hW', X.limits, X.bytes, X.same.trans (hsame.setVm s.vm)⟩,
      ⟨g, mk, s₂, L, rfl, rfl, hqc, rfl, hL, rfl, rfl⟩, ?_⟩
    show Steps p.tables e below _ ((({ U with heap := s₂.heap, slotsUsed := s₂.slotsUsed } : State).setVm s₂.vm).setTop { g with pc := g.pc + len₂, stack := v.toList ++ g.stack })
    rw [← hs₂]
    exact hsteps
  · obtain ⟨e2, q2, q3, q4, q5, q6⟩ := id hsm
    have e3 : s₂ = ({ (U.calling g mk a).setFrames s₂.frames with heap := s₂.heap, slotsUsed := s₂.slotsUsed } : State).setVm s₂.vm := by
      have : s₂ = ({ s₂ with vm := (U.calling g mk a).vm } : State).setVm s₂.vm := rfl
      rw [e2] at this
      exact this
    have hf₂ : s₂.frames = .throwing q :: .java g :: U.frames.tail := hend
    have hW' : U.WarmedH s₂.vm := hW₂
    have hs₂ : s₂ = ((({ U with heap := s₂.heap, slotsUsed := s₂.slotsUsed } : State).setVm s₂.vm).setTop g).pushFrame (.throwing q) := by
      refine e3.trans ?_
      rw [hf₂, State.calling_eq h.top, State.setFrames_setFrames, State.pushFrame, State.frames_setTop _ hr', State.setTop_of_frames _ hr', State.setFrames_setFrames, hr]
      rfl
    have hsame : U.sameButNew ({ U with heap := s₂.heap, slotsUsed := s₂.slotsUsed } : State) L mc ms := by
      refine ⟨?_, q2, q3, q4, q5, q6⟩
      obtain ⟨t, ht, -⟩ := State.frames_cons hr
      show ({ U with heap := s₂.heap, slotsUsed := s₂.slotsUsed } : State) = { U.setFrames U.frames with heap := s₂.heap, slotsUsed := s₂.slotsUsed }
      rw [State.setFrames_self ht]
    subst hg
    refine Or.inr ⟨q, ⟨(({ U with heap := s₂.heap, slotsUsed := s₂.slotsUsed } : State).setVm s₂.vm), Ls ++ L, c0 + mc, s0 + ms⟩,
      ⟨X.admits, X.cas, X.clock, X.frames, X.room, X.hears, X.method, X.code, (X.here.setHeapUsed s₂.heap s₂.slotsUsed).setVm hW'.alike, X.tail, State.WarmedH.trans X.warmed hW', X.limits, X.bytes, X.same.trans (hsame.setVm s.vm)⟩,
      ⟨g, mk, s₂, L, E, ce, rfl, rfl, hx, hce, hcv, hcl, rfl, hL, rfl, rfl⟩, ?_⟩
    show Steps p.tables e below _ (((({ U with heap := s₂.heap, slotsUsed := s₂.slotsUsed } : State).setVm s₂.vm).setTop g).pushFrame (.throwing q))
    rw [← hs₂]
    exact hsteps
end
variable {p : Program} {l : Launch} {e : Env} {R : Room} {s : State} {m : MethodId} {args : Array Value} {below : List Frame} {meth : Method} {c : Code} {T : State} {H : Heap} {locs : List Loc} {cells slots : Nat}
theorem vx_callVX (X : Stand p l e R s m args below meth c T locs cells slots) (hexec : p.tables.exec = Jvm.exec) {own C : String} {index : Nat} {y : MethodName} {bytes : ByteArray} {maxL : Nat} {ret : Option FieldType} {hh : List (Nat × Nat × Nat × Nat)}
    (hown : s.vm.findClass own = some m.cls) (hlink : (Cond.methodLink own index y).before args s = true) (hinst : (Cond.instanceMethod y).before args s = true) (hsel : (Cond.selects C y y).before args s = true)
    (hcode : (Cond.codeWith y bytes maxL ret hh).before args s = true) (hy : y.cls ≠ "java/lang/invoke/MethodHandle" ∧ y.cls ≠ "java/lang/invoke/VarHandle")
    {W9 : Nat} {Pre : Pt → Array Value → Prop} {Post : Pt → Array Value → Option Value → Pt → Prop} {PostX : Pt → Array Value → Addr → Pt → Prop} (hK : vx_Back l R p e below s args y 3 W9 Pre Post PostX)
    {b : Addr} {cellB : Cell} (hcell : T.heap[b]? = some cellB) (hobj : cellB.vm.isStatics = false) (hcls : s.vm.findClass C = some cellB.cls)
    {g : JFrame} (hg : g.method = m) (hsize : g.locals.size = c.maxLocals) {argsL rest : List Value} (hlen : ∀ sig, parseMethodDescriptor y.desc = some sig → argsL.length = sig.parameters.length)
    (hstack : g.stack = argsL.reverse ++ .ref b :: rest) (hW : 2 * g.monitorRoom + (rest.map fun v => v.category).sum ≤ W9) (hdg : decode c.code g.pc = .ok (.invokevirtual index, 3))
    (hpre : ∀ vm₁, s.WarmedH vm₁ → Pre ⟨T.setVm vm₁, locs, cells, slots⟩ (Value.ref b :: argsL).toArray) :
    (∃ (v : Option Value) (vm₁ : Vm) (B : Pt), s.WarmedH vm₁ ∧ Stand p l e R s m args below meth c B.U B.locs B.cells B.slots ∧ Post ⟨T.setVm vm₁, locs, cells, slots⟩ (Value.ref b :: argsL).toArray v B ∧
      ∀ target, Steps p.tables e below (B.U.setTop { g with pc := g.pc + 3, stack := v.toList ++ rest }) target → Steps p.tables e below (T.setTop g) target) ∨
    (∃ (q : Addr) (vm₁ : Vm) (B : Pt), s.WarmedH vm₁ ∧ Stand p l e R s m args below meth c B.U B.locs B.cells B.slots ∧ PostX ⟨T.setVm vm₁, locs, cells, slots⟩ (Value.ref b :: argsL).toArray q B ∧
      Steps p.tables e below (T.setTop g) ((B.U.setTop { g with stack := rest }).pushFrame (.throwing q))) := by
  obtain ⟨mk, methM, hnamed, hmethM, hstM, habM⟩ := Cond.instanceMethod_spec hinst
  obtain ⟨m8, methM', cM, hn8, hmethM', -, -, -, -, -, -, hsigM⟩ := Cond.codeWith_spec hcode
  cases Option.some.inj (hn8.symm.trans hnamed)
  cases hmethM.symm.trans hmethM'
  obtain ⟨c2, r2, m2, q1, q2, q3, q4, kP, hkP, hkPi⟩ := Cond.selects_spec hsel
  cases hcls.symm.trans q1
  cases (State.methodFound?_of_named hnamed hy).symm.trans q2
  cases hnamed.symm.trans q3
  have hselP : selectMethod e.platform s.vm cellB.cls mk = .method mk := by rw [Launch.admits_selectMethod X.admits]; exact q4
  obtain ⟨vm₁, X₁, hstep₁⟩ := X.invokevirtual hexec hown hlink hnamed hmethM hstM hkP hkPi hy (a := b) (cell := cellB) hcell
    (fun z h => by rw [h] at hobj; cases hobj) hselP hmethM habM hkP hkPi (g := g) hg (argsL := argsL) (rest := rest) (hlen _ hsigM) hstack hdg
  rcases hK m meth c ⟨T.setVm vm₁, locs, cells, slots⟩ { g with stack := rest } (.invokevirtual index) mk (Value.ref b :: argsL).toArray X₁ hg hsize hdg hW (X₁.named hnamed) (hpre vm₁ X₁.warmed) with ⟨v, B, X', hpost, hsteps⟩ | ⟨q, B, X', hpost, hsteps⟩
  · exact Or.inl ⟨v, vm₁, B, X₁.warmed, X', hpost, fun target h => hstep₁ _ fun acts => by rw [doInvoke_state]; exact hsteps.trans h⟩
  · exact Or.inr ⟨q, vm₁, B, X₁.warmed, X', hpost, hstep₁ _ fun acts => by rw [doInvoke_state]; exact hsteps⟩
theorem vx_callSX (X : Stand p l e R s m args below meth c T locs cells slots) (hexec : p.tables.exec = Jvm.exec) {own : String} {index : Nat} {y : MethodName} {bytes : ByteArray} {maxL : Nat} {ret : Option FieldType} {hh : List (Nat × Nat × Nat × Nat)}
    (hown : s.vm.findClass own = some m.cls) (hlink : (Cond.methodLink own index y).before args s = true) (hstat : (Cond.static y).before args s = true) (hinit : (Cond.initialized y.cls).before args s = true)
    (hcode : (Cond.codeWith y bytes maxL ret hh).before args s = true) (hy : y.cls ≠ "java/lang/invoke/MethodHandle" ∧ y.cls ≠ "java/lang/invoke/VarHandle")
    {W9 : Nat} {Pre : Pt → Array Value → Prop} {Post : Pt → Array Value → Option Value → Pt → Prop} {PostX : Pt → Array Value → Addr → Pt → Prop} (hK : vx_Back l R p e below s args y 3 W9 Pre Post PostX)
    {g : JFrame} (hg : g.method = m) (hsize : g.locals.size = c.maxLocals) {argsL rest : List Value} (hlen : ∀ sig, parseMethodDescriptor y.desc = some sig → argsL.length = sig.parameters.length)
    (hstack : g.stack = argsL.reverse ++ rest) (hW : 2 * g.monitorRoom + (rest.map fun v => v.category).sum ≤ W9) (hdg : decode c.code g.pc = .ok (.invokestatic index, 3))
    (hpre : ∀ vm₁, s.WarmedH vm₁ → Pre ⟨T.setVm vm₁, locs, cells, slots⟩ argsL.toArray) :
    (∃ (v : Option Value) (vm₁ : Vm) (B : Pt), s.WarmedH vm₁ ∧ Stand p l e R s m args below meth c B.U B.locs B.cells B.slots ∧ Post ⟨T.setVm vm₁, locs, cells, slots⟩ argsL.toArray v B ∧
      ∀ target, Steps p.tables e below (B.U.setTop { g with pc := g.pc + 3, stack := v.toList ++ rest }) target → Steps p.tables e below (T.setTop g) target) ∨
    (∃ (q : Addr) (vm₁ : Vm) (B : Pt), s.WarmedH vm₁ ∧ Stand p l e R s m args below meth c B.U B.locs B.cells B.slots ∧ PostX ⟨T.setVm vm₁, locs, cells, slots⟩ argsL.toArray q B ∧
      Steps p.tables e below (T.setTop g) ((B.U.setTop { g with stack := rest }).pushFrame (.throwing q))) := by
  obtain ⟨mk, methM, cM, hnamed, hmethM, -, -, -, -, -, -, hsigM⟩ := Cond.codeWith_spec hcode
  have hstatic : methM.isStatic = true := Cond.static_spec hnamed hmethM hstat
  obtain ⟨kP, hkP, -⟩ := className_of_methodNamed hnamed
  have hinitP : kP.init = .initialized := Cond.initialized_spec (findClass_of_methodNamed hnamed) hkP hinit
  obtain ⟨vm₁, X₁, hstep₁⟩ := X.invokestatic hexec hown hlink hnamed hmethM hstatic hkP hinitP hy (g := g) hg (argsL := argsL) (rest := rest) (hlen _ hsigM) hstack hdg
  rcases hK m meth c ⟨T.setVm vm₁, locs, cells, slots⟩ { g with stack := rest } (.invokestatic index) mk argsL.toArray X₁ hg hsize hdg hW (X₁.named hnamed) (hpre vm₁ X₁.warmed) with ⟨v, B, X', hpost, hsteps⟩ | ⟨q, B, X', hpost, hsteps⟩
  · exact Or.inl ⟨v, vm₁, B, X₁.warmed, X', hpost, fun target h => hstep₁ _ fun acts => by rw [doInvoke_state]; exact hsteps.trans h⟩
  · exact Or.inr ⟨q, vm₁, B, X₁.warmed, X', hpost, hstep₁ _ fun acts => by rw [doInvoke_state]; exact hsteps⟩
theorem vx_callVW (X : Stand p l e R s m args below meth c T locs cells slots) (hexec : p.tables.exec = Jvm.exec) {own C : String} {index : Nat} {y : MethodName} {bytes : ByteArray} {maxL : Nat} {ret : Option FieldType} {hh : List (Nat × Nat × Nat × Nat)}
    (hown : s.vm.findClass own = some m.cls) (hlink : (Cond.methodLink own index y).before args s = true) (hinst : (Cond.instanceMethod y).before args s = true) (hsel : (Cond.selects C y y).before args s = true)
    (hcode : (Cond.codeWith y bytes maxL ret hh).before args s = true) (hy : y.cls ≠ "java/lang/invoke/MethodHandle" ∧ y.cls ≠ "java/lang/invoke/VarHandle")
    {W9 : Nat} {Pre : Pt → Array Value → Prop} {Post : Pt → Array Value → Option Value → Pt → Prop} (hK : Back l R p e below s args y 3 W9 Pre Post)
    {b : Addr} {cellB : Cell} (hcell : T.heap[b]? = some cellB) (hobj : cellB.vm.isStatics = false) (hcls : s.vm.findClass C = some cellB.cls)
    {g : JFrame} (hg : g.method = m) (hsize : g.locals.size = c.maxLocals) {argsL rest : List Value} (hlen : ∀ sig, parseMethodDescriptor y.desc = some sig → argsL.length = sig.parameters.length)
    (hstack : g.stack = argsL.reverse ++ .ref b :: rest) (hW : 2 * g.monitorRoom + (rest.map fun v => v.category).sum ≤ W9) (hdg : decode c.code g.pc = .ok (.invokevirtual index, 3))
    (hpre : ∀ vm₁, s.WarmedH vm₁ → Pre ⟨T.setVm vm₁, locs, cells, slots⟩ (Value.ref b :: argsL).toArray) :
    ∃ (v : Option Value) (vm₁ : Vm) (B : Pt), s.WarmedH vm₁ ∧ Stand p l e R s m args below meth c B.U B.locs B.cells B.slots ∧ Post ⟨T.setVm vm₁, locs, cells, slots⟩ (Value.ref b :: argsL).toArray v B ∧
      ∀ target, Steps p.tables e below (B.U.setTop { g with pc := g.pc + 3, stack := v.toList ++ rest }) target → Steps p.tables e below (T.setTop g) target := by
  obtain ⟨mk, methM, hnamed, hmethM, hstM, habM⟩ := Cond.instanceMethod_spec hinst
  obtain ⟨m8, methM', cM, hn8, hmethM', -, -, -, -, -, -, hsigM⟩ := Cond.codeWith_spec hcode
  cases Option.some.inj (hn8.symm.trans hnamed)
  cases hmethM.symm.trans hmethM'
  obtain ⟨c2, r2, m2, q1, q2, q3, q4, kP, hkP, hkPi⟩ := Cond.selects_spec hsel
  cases hcls.symm.trans q1
  cases (State.methodFound?_of_named hnamed hy).symm.trans q2
  cases hnamed.symm.trans q3
  have hselP : selectMethod e.platform s.vm cellB.cls mk = .method mk := by rw [Launch.admits_selectMethod X.admits]; exact q4
  obtain ⟨vm₁, X₁, hstep₁⟩ := X.invokevirtual hexec hown hlink hnamed hmethM hstM hkP hkPi hy (a := b) (cell := cellB) hcell
    (fun z h => by rw [h] at hobj; cases hobj) hselP hmethM habM hkP hkPi (g := g) hg (argsL := argsL) (rest := rest) (hlen _ hsigM) hstack hdg
  obtain ⟨v, B, X', hpost, hsteps⟩ := hK m meth c ⟨T.setVm vm₁, locs, cells, slots⟩ { g with stack := rest } (.invokevirtual index) mk (Value.ref b :: argsL).toArray X₁ hg hsize hdg hW (X₁.named hnamed) (hpre vm₁ X₁.warmed)
  exact ⟨v, vm₁, B, X₁.warmed, X', hpost, fun target h => hstep₁ _ fun acts => by rw [doInvoke_state]; exact hsteps.trans h⟩
abbrev vx_CVW (R : Room) (s : State) (args : Array Value) (own C : String) (index : Nat) (y : MethodName) (bytes : ByteArray) (maxL : Nat) (ret : Option FieldType) (hh : List (Nat × Nat × Nat × Nat)) (ws : List Cond) (rm : Room) (mc ms n : Nat) : Prop :=
  (rm.cells = mc ∧ rm.slots = ms ∧ rm.frames + 1 ≤ R.frames ∧ 8 + (maxL + 11) + rm.locals ≤ R.locals ∧ (∀ w ∈ ws, ∀ (a' : Array Value) (U : State), s.WarmedH U.vm → w.before a' U = true) ∧ Cond.codeWith y bytes maxL ret hh ∈ ws) ∧
  (Cond.codeWith y bytes maxL ret hh).before args s = true ∧ (Cond.initialized y.cls).before args s = true ∧ (y.cls ≠ "java/lang/invoke/MethodHandle" ∧ y.cls ≠ "java/lang/invoke/VarHandle") ∧
  (∀ sig, parseMethodDescriptor y.desc = some sig → n = sig.parameters.length) ∧ (Cond.methodLink own index y).before args s = true ∧ (Cond.instanceMethod y).before args s = true ∧ (Cond.selects C y y).before args s = true
theorem vx_cwVW {own C : String} {index maxL mc ms : Nat} {y : MethodName} {bytes : ByteArray} {ret : Option FieldType} {hh : List (Nat × Nat × Nat × Nat)} {Ts ws ws' : List Cond} {rm : Room} (n : Nat) (ht : ∀ w ∈ Ts, w.before args s = true) (hT : GoodIn Ts (wsV own index C y ws)) (hw : ws = Cond.codeWith y bytes maxL ret hh :: ws') (hrc : rm.cells = mc) (hrs : rm.slots = ms)
    (hd : y.cls = C ∧ y.cls ≠ "java/lang/invoke/MethodHandle" ∧ y.cls ≠ "java/lang/invoke/VarHandle" ∧ (parseMethodDescriptor y.desc).map (fun d => d.parameters.length) = some n) (hR : rm.frames + 1 ≤ R.frames ∧ 8 + (maxL + 11) + rm.locals ≤ R.locals) :
    vx_CVW R s args own C index y bytes maxL ret hh ws rm mc ms n := by
  obtain ⟨hC, hd⟩ := hd
  subst hC
  have ok : ∀ w ∈ wsV own index y.cls y ws, w.before args s = true := fun w h => ht w (hT w h).1
  have hG : GoodIn Ts ws := fun w h => hT w (by unfold wsV; exact List.mem_append_right _ h)
  have hc : Cond.codeWith y bytes maxL ret hh ∈ ws := by rw [hw]; exact List.mem_cons_self
  refine ⟨⟨hrc, hrs, hR.1, hR.2, pay_in ht hG, hc⟩, ht _ (hG _ hc).1, ok _ (by simp [wsV]), ⟨hd.1, hd.2.1⟩, fun sig h => ?_, ok _ (by simp [wsV]), ok _ (by simp [wsV]), ok _ (by simp [wsV])⟩
  have h2 := hd.2.2
  rw [h] at h2
  exact (Option.some.inj h2).symm
theorem vx_runVW {y : MethodName} {bytes cc : ByteArray} {maxL nL mc ms n index : Nat} {ret : Option FieldType} {hh : List (Nat × Nat × Nat × Nat)} {ws : List Cond} {rm : Room} {Pc : Array Value → State → Prop} {Qc : Array Value → State → Outcome → State → Prop} {free : Addr → Prop} {Ts : List Cond} {own C : String} {b : Addr} {As rest : List Value} {g : JFrame}
    (S : CallFix p m c cc nL s args Ts own) (hM : Met l y ws rm Pc Qc mc ms free) (cw : vx_CVW R s args own C index y bytes maxL ret hh ws rm mc ms n) (hp : PreV s H C b Pc As)
    (hg : g.method = m) (hn : As.length = n) (hsize : g.locals.size = nL) (hstack : g.stack = As.reverse ++ .ref b :: rest) (hW : 2 * g.monitorRoom + (rest.map fun v => v.category).sum ≤ 8) (hdg : decode cc g.pc = .ok (.invokevirtual index, 3)) (hf : cells + mc ≤ R.cells ∧ slots + ms ≤ R.slots) :
    va_Run p l e R s m args below meth c H locs cells slots mc ms g rest (Qc (Value.ref b :: As).toArray) free := by
  obtain ⟨⟨hrc, hrs, hfr, hlo, hws, hcw⟩, hcode, hini, hy, hlen, hl, hin, hse⟩ := cw
  have hK : Back l R p e below s args y 3 8 (PreOf R mc ms Pc) (PostOf Qc mc ms free) := va_backW (hh := hh) (bytes := bytes) (maxL := maxL) (ret := ret) hM hp.1 hrc hrs hfr hlo hws hcw (fun a' U hW => word_at hW (Or.inl (by first | rfl | simp [Cond.onTables, Cond.keeps, Cond.steady])) hini)
  obtain ⟨hx, hb, hml, ho, -⟩ := S
  obtain ⟨-, ⟨cellB, hcB, hoB, hclB⟩, hPc⟩ := hp
  intro T hT X
  obtain ⟨v, vm₁, ⟨U', l2, c2, s2⟩, hW₁, X', ⟨g', mk, t, L, e1, e2, hq, h1, hL, h2, h3⟩, st⟩ := vx_callVW X hx (C := C) (hh := hh) (bytes := bytes) (maxL := maxL) (ret := ret) ho hl hin hse hcode hy hK (by rw [hT]; exact hcB) hoB hclB hg (hsize.trans hml.symm) (argsL := As) (rest := rest) (fun sig h => hn.trans (hlen sig h)) hstack hW (by rw [hb]; exact hdg)
    (fun vm₁ hW₁ => ⟨hf.1, hf.2, hPc (T.setVm vm₁) hT hW₁⟩)
  dsimp only [Pt.U, Pt.locs, Pt.cells, Pt.slots] at X' e1 e2 h1 h2 h3 st
  subst h1; subst h2; subst h3
  exact ⟨v, (T.setVm vm₁).calling g' mk (Value.ref b :: As).toArray, t, U', L, hT, X', hL, e1, e2, hq, st⟩
section
variable {y : MethodName} {bytes cc : ByteArray} {maxL nL mc ms n index : Nat} {ret : Option FieldType} {ws : List Cond} {rm : Room} {Pc : Array Value → State → Prop} {Qc : Array Value → State → Outcome → State → Prop} {XC : String → State → State → Prop} {free : Addr → Prop} {Ts : List Cond} {own C : String} {b : Addr} {As rest : List Value} {g : JFrame}
theorem vx_runVX {hh : List (Nat × Nat × Nat × Nat)} (S : CallFix p m c cc nL s args Ts own) (hM : vx_Met l y ws rm Pc Qc XC mc ms free) (cw : vx_CVW R s args own C index y bytes maxL ret hh ws rm mc ms n) (hp : PreV s H C b Pc As)
    (hg : g.method = m) (hn : As.length = n) (hsize : g.locals.size = nL) (hstack : g.stack = As.reverse ++ .ref b :: rest) (hW : 2 * g.monitorRoom + (rest.map fun v => v.category).sum ≤ 8) (hdg : decode cc g.pc = .ok (.invokevirtual index, 3)) (hf : cells + mc ≤ R.cells ∧ slots + ms ≤ R.slots) :
    vx_Run p l e R s m args below meth c H locs cells slots mc ms g rest (Qc (Value.ref b :: As).toArray) XC free := by
  obtain ⟨⟨hrc, hrs, hfr, hlo, hws, hcw⟩, hcode, hini, hy, hlen, hl, hin, hse⟩ := cw
  have hK : vx_Back l R p e below s args y 3 8 (PreOf R mc ms Pc) (PostOf Qc mc ms free) (vx_Post XC mc ms free) := vx_backW (hh := hh) (bytes := bytes) (maxL := maxL) (ret := ret) hM hp.1 hrc hrs hfr hlo hws hcw (fun a' U hW => word_at hW (Or.inl (by first | rfl | simp [Cond.onTables, Cond.keeps, Cond.steady])) hini)
  obtain ⟨hx, hb, hml, ho, -⟩ := S
  obtain ⟨-, ⟨cellB, hcB, hoB, hclB⟩, hPc⟩ := hp
  intro T hT X
  rcases vx_callVX X hx (C := C) (hh := hh) (bytes := bytes) (maxL := maxL) (ret := ret) ho hl hin hse hcode hy hK (by rw [hT]; exact hcB) hoB hclB hg (hsize.trans hml.symm) (argsL := As) (rest := rest) (fun sig h => hn.trans (hlen sig h)) hstack hW (by rw [hb]; exact hdg)
    (fun vm₁ hW₁ => ⟨hf.1, hf.2, hPc (T.setVm vm₁) hT hW₁⟩) with ⟨v, vm₁, ⟨U', l2, c2, s2⟩, hW₁, X', ⟨g', mk, t, L, e1, e2, hq, h1, hL, h2, h3⟩, st⟩ | ⟨q, vm₁, ⟨U', l2, c2, s2⟩, hW₁, X', ⟨g', mk, t, L, E, ce, e1, e2, hq, hce, hcv, hcl, h1, hL, h2, h3⟩, st⟩
  · dsimp only [Pt.U, Pt.locs, Pt.cells, Pt.slots] at X' e1 e2 h1 h2 h3 st
    subst h1; subst h2; subst h3
    exact Or.inl ⟨v, (T.setVm vm₁).calling g' mk (Value.ref b :: As).toArray, t, U', L, hT, X', hL, e1, e2, hq, st⟩
  · dsimp only [Pt.U, Pt.locs, Pt.cells, Pt.slots] at X' e1 e2 h1 h2 h3 st hcl
    subst h1; subst h2; subst h3
    exact Or.inr ⟨q, (T.setVm vm₁).calling g' mk (Value.ref b :: As).toArray, t, U', L, E, ce, hT, X', hL, e1, e2, hq, hce, hcv, vx_cls hW₁ hcl, st⟩
theorem vx_runSX {hh : List (Nat × Nat × Nat × Nat)} (S : CallFix p m c cc nL s args Ts own) (hM : vx_Met l y ws rm Pc Qc XC mc ms free) (cw : vx_CSW R s args own index y bytes maxL ret hh ws rm mc ms n) (hp : PreS s H Pc As)
    (hg : g.method = m) (hn : As.length = n) (hsize : g.locals.size = nL) (hstack : g.stack = As.reverse ++ rest) (hW : 2 * g.monitorRoom + (rest.map fun v => v.category).sum ≤ 8) (hdg : decode cc g.pc = .ok (.invokestatic index, 3)) (hf : cells + mc ≤ R.cells ∧ slots + ms ≤ R.slots) :
    vx_Run p l e R s m args below meth c H locs cells slots mc ms g rest (Qc As.toArray) XC free := by
  obtain ⟨⟨hrc, hrs, hfr, hlo, hws, hcw⟩, hcode, hini, hy, hlen, hl, hstt⟩ := cw
  have hK : vx_Back l R p e below s args y 3 8 (PreOf R mc ms Pc) (PostOf Qc mc ms free) (vx_Post XC mc ms free) := vx_backW (hh := hh) (bytes := bytes) (maxL := maxL) (ret := ret) hM hp.1 hrc hrs hfr hlo hws hcw (fun a' U hW => word_at hW (Or.inl (by first | rfl | simp [Cond.onTables, Cond.keeps, Cond.steady])) hini)
  obtain ⟨hx, hb, hml, ho, -⟩ := S
  intro T hT X
  rcases vx_callSX X hx (hh := hh) (bytes := bytes) (maxL := maxL) (ret := ret) ho hl hstt hini hcode hy hK hg (hsize.trans hml.symm) (argsL := As) (rest := rest) (fun sig h => hn.trans (hlen sig h)) hstack hW (by rw [hb]; exact hdg)
    (fun vm₁ hW₁ => ⟨hf.1, hf.2, hp.2 (T.setVm vm₁) hT hW₁⟩) with ⟨v, vm₁, ⟨U', l2, c2, s2⟩, hW₁, X', ⟨g', mk, t, L, e1, e2, hq, h1, hL, h2, h3⟩, st⟩ | ⟨q, vm₁, ⟨U', l2, c2, s2⟩, hW₁, X', ⟨g', mk, t, L, E, ce, e1, e2, hq, hce, hcv, hcl, h1, hL, h2, h3⟩, st⟩
  · dsimp only [Pt.U, Pt.locs, Pt.cells, Pt.slots] at X' e1 e2 h1 h2 h3 st
    subst h1; subst h2; subst h3
    exact Or.inl ⟨v, (T.setVm vm₁).calling g' mk As.toArray, t, U', L, hT, X', hL, e1, e2, hq, st⟩
  · dsimp only [Pt.U, Pt.locs, Pt.cells, Pt.slots] at X' e1 e2 h1 h2 h3 st hcl
    subst h1; subst h2; subst h3
    exact Or.inr ⟨q, (T.setVm vm₁).calling g' mk As.toArray, t, U', L, E, ce, hT, X', hL, e1, e2, hq, hce, hcv, vx_cls hW₁ hcl, st⟩
end
end VXH
theorem vx_ofWH {l : Launch} {y : MethodName} {ws ws' : List Cond} {rm : Room} {Pc : Array Value → State → Prop} {Qc : Array Value → State → Outcome → State → Prop} {XC : String → State → State → Prop} {mc ms : Nat} {free : Addr → Prop} {cc : ByteArray} {maxL : Nat} {ret : Option FieldType} {hh : List (Nat × Nat × Nat × Nat)}
    (hy : plainName y.cls = true) (hw : ws = Cond.codeWith y cc maxL ret hh :: ws')
    (body : ∀ p e s m args below meth c s₁, BodyLoose p l y (headSpec ws rm) cc maxL ret e s m args below meth c s₁ → c.maxLocals = maxL → Pc args s →
      W p l e (headSpec ws rm).room s m args below meth c s.heap [] 0 0 (vx_MQ below Qc XC args s mc ms free) (entryFrame m args maxL)) : vx_Met l y ws rm Pc Qc XC mc ms free := by
  refine MetFree.of_bodyS (code := cc) (maxLocals := maxL) (ret := ret) hy ?_ ?_
  · intro args s m h hn
    obtain ⟨m9, meth, c, hn9, h1, h2, h3, h4, -, h5, h6, -⟩ := Cond.codeWith_spec (atoms_spec (ws := ws) h _ (by rw [hw]; exact List.mem_cons_self))
    cases hn.symm.trans hn9
    exact ⟨meth, c, h1, h2, h3, h4, h5, h6⟩
  · intro p e s m args below meth c s₁ B hml hP _
    have hh0 : s₁.heap = s.heap := by rw [B.state]; rfl
    obtain ⟨t, a1, o, b1, b2, b3⟩ := body p e s m args below meth c s₁ B hml hP s₁ hh0 (Stand.of_body B)
    exact ⟨t, o, a1, b1, b2, b3⟩
/-! ===== END ===== -/

/-! ===== tables of the classes ===== -/
def RX0 : String := "Throughcoach$Beds"
def TX0 : u_T := fun k => match k with
  | 0 => ("Throughcoach$Beds", "persons", "[LThroughcoach$Person;", true)
  | 1 => ("Throughcoach$Beds", "personCount", "I", false)
  | 2 => ("Throughcoach$Beds", "sleepers", "[I", true)
  | _ => ("Throughcoach$Beds", "paid", "I", false)
def tyX0 : Nat → FieldType := fun k => match k with
  | 0 => .array (.object "Throughcoach$Person")
  | 1 => .int
  | 2 => .array .int
  | _ => .int
abbrev wsX00 : List Cond := u_ws RX0 TX0 4
theorem nmX0 : ∀ a, a < 4 → ∀ b, b < 4 → a ≠ b → (TX0 a).2.1 ≠ (TX0 b).2.1 := by decide +kernel
theorem tyX0_ok : ∀ k, k < 4 → parseFieldDescriptor (TX0 k).2.2.1 = some (tyX0 k) := by decide +kernel
abbrev cX0_init : ByteArray := prog_2_method_1_code
def yX0_init : MethodName := ⟨RX0, "<init>", "()V"⟩
abbrev cX0_index : ByteArray := prog_2_method_2_code
def yX0_index : MethodName := ⟨RX0, "index", "(III)I"⟩
abbrev cX0_nextPerson : ByteArray := prog_2_method_3_code
def yX0_nextPerson : MethodName := ⟨RX0, "nextPerson", "()LThroughcoach$Person;"⟩
abbrev cX0_roomFor : ByteArray := prog_2_method_4_code
def yX0_roomFor : MethodName := ⟨RX0, "roomFor", "(IZI)I"⟩
abbrev cX0_freeBed : ByteArray := prog_2_method_5_code
def yX0_freeBed : MethodName := ⟨RX0, "freeBed", "(IIZ)I"⟩
abbrev cX0_mayHold : ByteArray := prog_2_method_6_code
def yX0_mayHold : MethodName := ⟨RX0, "mayHold", "(IIZII)Z"⟩
abbrev cX0_place : ByteArray := prog_2_method_7_code
def yX0_place : MethodName := ⟨RX0, "place", "(LThroughcoach$Person;II)V"⟩
abbrev cX0_layDown : ByteArray := prog_2_method_8_code
def yX0_layDown : MethodName := ⟨RX0, "layDown", "(LThroughcoach$Person;III)V"⟩
abbrev cX0_free : ByteArray := prog_2_method_9_code
def yX0_free : MethodName := ⟨RX0, "free", "(LThroughcoach$Person;)V"⟩
abbrev cX0_pay : ByteArray := prog_2_method_10_code
def yX0_pay : MethodName := ⟨RX0, "pay", "(LThroughcoach$Person;I)V"⟩
abbrev cX0_mayChange : ByteArray := prog_2_method_11_code
def yX0_mayChange : MethodName := ⟨RX0, "mayChange", "(LThroughcoach$Person;LThroughcoach$Person;)Z"⟩
abbrev cX0_change : ByteArray := prog_2_method_12_code
def yX0_change : MethodName := ⟨RX0, "change", "(LThroughcoach$Person;LThroughcoach$Person;)V"⟩
def RX1 : String := "Throughcoach$Coach"
def TX1 : u_T := fun k => match k with
  | 0 => ("Throughcoach$Coach", "number", "I", true)
  | 1 => ("Throughcoach$Coach", "station", "I", false)
  | 2 => ("Throughcoach$Coach", "land", "I", false)
  | 3 => ("Throughcoach$Coach", "kind", "I", false)
  | 4 => ("Throughcoach$Coach", "weight", "I", false)
  | 5 => ("Throughcoach$Coach", "brake", "I", false)
  | 6 => ("Throughcoach$Coach", "lands", "I", false)
  | 7 => ("Throughcoach$Coach", "slides", "Z", false)
  | 8 => ("Throughcoach$Coach", "isOut", "Z", false)
  | 9 => ("Throughcoach$Coach", "parts", "I", false)
  | 10 => ("Throughcoach$Coach", "partTrain", "[I", true)
  | 11 => ("Throughcoach$Coach", "partFrom", "[I", true)
  | _ => ("Throughcoach$Coach", "partTo", "[I", true)
def tyX1 : Nat → FieldType := fun k => match k with
  | 0 => .int
  | 1 => .int
  | 2 => .int
  | 3 => .int
  | 4 => .int
  | 5 => .int
  | 6 => .int
  | 7 => .boolean
  | 8 => .boolean
  | 9 => .int
  | 10 => .array .int
  | 11 => .array .int
  | _ => .array .int
abbrev wsX10 : List Cond := u_ws RX1 TX1 13
theorem nmX1 : ∀ a, a < 13 → ∀ b, b < 13 → a ≠ b → (TX1 a).2.1 ≠ (TX1 b).2.1 := by decide +kernel
theorem tyX1_ok : ∀ k, k < 13 → parseFieldDescriptor (TX1 k).2.2.1 = some (tyX1 k) := by decide +kernel
abbrev cX1_init : ByteArray := prog_3_method_1_code
def yX1_init : MethodName := ⟨RX1, "<init>", "(I)V"⟩
abbrev cX1_end : ByteArray := prog_3_method_2_code
def yX1_end : MethodName := ⟨RX1, "end", "()I"⟩
abbrev cX1_addPart : ByteArray := prog_3_method_3_code
def yX1_addPart : MethodName := ⟨RX1, "addPart", "(III)I"⟩
abbrev cX1_isAllowed : ByteArray := prog_3_method_4_code
def yX1_isAllowed : MethodName := ⟨RX1, "isAllowed", "(LThroughcoach$Station;LThroughcoach$Station;)Z"⟩
abbrev cX1_mayReplace : ByteArray := prog_3_method_5_code
def yX1_mayReplace : MethodName := ⟨RX1, "mayReplace", "(LThroughcoach$Coach;)Z"⟩
def RX2 : String := "Throughcoach$Night"
def TX2 : u_T := fun k => match k with
  | 0 => ("Throughcoach$Night", "plan", "LThroughcoach$Plan;", true)
  | 1 => ("Throughcoach$Night", "runs", "[LThroughcoach$Run;", true)
  | 2 => ("Throughcoach$Night", "wagons", "[LThroughcoach$Wagon;", true)
  | 3 => ("Throughcoach$Night", "owed", "[I", true)
  | 4 => ("Throughcoach$Night", "abroad", "I", false)
  | _ => ("Throughcoach$Night", "version", "I", false)
def tyX2 : Nat → FieldType := fun k => match k with
  | 0 => .object "Throughcoach$Plan"
  | 1 => .array (.object "Throughcoach$Run")
  | 2 => .array (.object "Throughcoach$Wagon")
  | 3 => .array .int
  | 4 => .int
  | _ => .int
abbrev wsX20 : List Cond := u_ws RX2 TX2 6
theorem nmX2 : ∀ a, a < 6 → ∀ b, b < 6 → a ≠ b → (TX2 a).2.1 ≠ (TX2 b).2.1 := by decide +kernel
theorem tyX2_ok : ∀ k, k < 6 → parseFieldDescriptor (TX2 k).2.2.1 = some (tyX2 k) := by decide +kernel
abbrev cX2_init : ByteArray := prog_4_method_1_code
def yX2_init : MethodName := ⟨RX2, "<init>", "(LThroughcoach$Plan;)V"⟩
abbrev cX2_reckonByMinutes : ByteArray := prog_4_method_2_code
def yX2_reckonByMinutes : MethodName := ⟨RX2, "reckonByMinutes", "()V"⟩
abbrev cX2_reckonByEvents : ByteArray := prog_4_method_3_code
def yX2_reckonByEvents : MethodName := ⟨RX2, "reckonByEvents", "()V"⟩
abbrev cX2_homesWith : ByteArray := prog_4_method_4_code
def yX2_homesWith : MethodName := ⟨RX2, "homesWith", "(II)I"⟩
abbrev cX2_countHomes : ByteArray := prog_4_method_5_code
def yX2_countHomes : MethodName := ⟨RX2, "countHomes", "()I"⟩
abbrev cX2_begin : ByteArray := prog_4_method_6_code
def yX2_begin : MethodName := ⟨RX2, "begin", "()V"⟩
abbrev cX2_goByEvents : ByteArray := prog_4_method_7_code
def yX2_goByEvents : MethodName := ⟨RX2, "goByEvents", "()V"⟩
abbrev cX2_nextEvent : ByteArray := prog_4_method_8_code
def yX2_nextEvent : MethodName := ⟨RX2, "nextEvent", "(I)I"⟩
abbrev cX2_sooner : ByteArray := prog_4_method_9_code
def yX2_sooner : MethodName := ⟨RX2, "sooner", "(III)I"⟩
abbrev cX2_passMinute : ByteArray := prog_4_method_10_code
def yX2_passMinute : MethodName := ⟨RX2, "passMinute", "(I)V"⟩
abbrev cX2_bringIn : ByteArray := prog_4_method_11_code
def yX2_bringIn : MethodName := ⟨RX2, "bringIn", "(LThroughcoach$Run;I)V"⟩
abbrev cX2_isSetOut : ByteArray := prog_4_method_12_code
def yX2_isSetOut : MethodName := ⟨RX2, "isSetOut", "(LThroughcoach$Wagon;LThroughcoach$Run;II)Z"⟩
abbrev cX2_waitsNoLonger : ByteArray := prog_4_method_13_code
def yX2_waitsNoLonger : MethodName := ⟨RX2, "waitsNoLonger", "(LThroughcoach$Run;I)Z"⟩
abbrev cX2_sendOff : ByteArray := prog_4_method_14_code
def yX2_sendOff : MethodName := ⟨RX2, "sendOff", "(LThroughcoach$Run;I)V"⟩
abbrev cX2_dropForbidden : ByteArray := prog_4_method_15_code
def yX2_dropForbidden : MethodName := ⟨RX2, "dropForbidden", "(LThroughcoach$Run;LThroughcoach$Station;LThroughcoach$Station;I)V"⟩
abbrev cX2_takeWaiting : ByteArray := prog_4_method_16_code
def yX2_takeWaiting : MethodName := ⟨RX2, "takeWaiting", "(LThroughcoach$Run;LThroughcoach$Station;LThroughcoach$Station;I)V"⟩
abbrev cX2_mayTake : ByteArray := prog_4_method_17_code
def yX2_mayTake : MethodName := ⟨RX2, "mayTake", "(LThroughcoach$Run;LThroughcoach$Wagon;I)Z"⟩
abbrev cX2_dropTooHeavy : ByteArray := prog_4_method_18_code
def yX2_dropTooHeavy : MethodName := ⟨RX2, "dropTooHeavy", "(LThroughcoach$Run;I)V"⟩
abbrev cX2_weigh : ByteArray := prog_4_method_19_code
def yX2_weigh : MethodName := ⟨RX2, "weigh", "(LThroughcoach$Run;)V"⟩
abbrev cX2_settle : ByteArray := prog_4_method_20_code
def yX2_settle : MethodName := ⟨RX2, "settle", "(LThroughcoach$Run;III)V"⟩
def RX3 : String := "Throughcoach$Person"
def TX3 : u_T := fun k => match k with
  | 0 => ("Throughcoach$Person", "number", "I", true)
  | 1 => ("Throughcoach$Person", "isWoman", "Z", false)
  | 2 => ("Throughcoach$Person", "age", "I", false)
  | 3 => ("Throughcoach$Person", "party", "I", false)
  | 4 => ("Throughcoach$Person", "coach", "I", false)
  | 5 => ("Throughcoach$Person", "room", "I", false)
  | 6 => ("Throughcoach$Person", "bed", "I", false)
  | _ => ("Throughcoach$Person", "paid", "I", false)
def tyX3 : Nat → FieldType := fun k => match k with
  | 0 => .int
  | 1 => .boolean
  | 2 => .int
  | 3 => .int
  | 4 => .int
  | 5 => .int
  | 6 => .int
  | _ => .int
abbrev wsX30 : List Cond := u_ws RX3 TX3 8
theorem nmX3 : ∀ a, a < 8 → ∀ b, b < 8 → a ≠ b → (TX3 a).2.1 ≠ (TX3 b).2.1 := by decide +kernel
theorem tyX3_ok : ∀ k, k < 8 → parseFieldDescriptor (TX3 k).2.2.1 = some (tyX3 k) := by decide +kernel
abbrev cX3_init : ByteArray := prog_5_method_1_code
def yX3_init : MethodName := ⟨RX3, "<init>", "(I)V"⟩
def RX4 : String := "Throughcoach$Plan"
def TX4 : u_T := fun k => match k with
  | 0 => ("Throughcoach$Plan", "stations", "[LThroughcoach$Station;", true)
  | 1 => ("Throughcoach$Plan", "stationCount", "I", false)
  | 2 => ("Throughcoach$Plan", "trains", "[LThroughcoach$Train;", true)
  | 3 => ("Throughcoach$Plan", "trainCount", "I", false)
  | 4 => ("Throughcoach$Plan", "coaches", "[LThroughcoach$Coach;", true)
  | 5 => ("Throughcoach$Plan", "coachCount", "I", false)
  | _ => ("Throughcoach$Plan", "version", "I", false)
def tyX4 : Nat → FieldType := fun k => match k with
  | 0 => .array (.object "Throughcoach$Station")
  | 1 => .int
  | 2 => .array (.object "Throughcoach$Train")
  | 3 => .int
  | 4 => .array (.object "Throughcoach$Coach")
  | 5 => .int
  | _ => .int
abbrev wsX40 : List Cond := u_ws RX4 TX4 7
theorem nmX4 : ∀ a, a < 7 → ∀ b, b < 7 → a ≠ b → (TX4 a).2.1 ≠ (TX4 b).2.1 := by decide +kernel
theorem tyX4_ok : ∀ k, k < 7 → parseFieldDescriptor (TX4 k).2.2.1 = some (tyX4 k) := by decide +kernel
abbrev cX4_init : ByteArray := prog_6_method_1_code
def yX4_init : MethodName := ⟨RX4, "<init>", "()V"⟩
abbrev cX4_addStation : ByteArray := prog_6_method_2_code
def yX4_addStation : MethodName := ⟨RX4, "addStation", "(II)I"⟩
abbrev cX4_addTrain : ByteArray := prog_6_method_3_code
def yX4_addTrain : MethodName := ⟨RX4, "addTrain", "(III)I"⟩
abbrev cX4_nextCoach : ByteArray := prog_6_method_4_code
def yX4_nextCoach : MethodName := ⟨RX4, "nextCoach", "()LThroughcoach$Coach;"⟩
def RX5 : String := "Throughcoach$Run"
def TX5 : u_T := fun k => match k with
  | 0 => ("Throughcoach$Run", "number", "I", true)
  | 1 => ("Throughcoach$Run", "train", "LThroughcoach$Train;", true)
  | 2 => ("Throughcoach$Run", "patience", "I", false)
  | 3 => ("Throughcoach$Run", "stop", "I", false)
  | 4 => ("Throughcoach$Run", "due", "I", false)
  | 5 => ("Throughcoach$Run", "ripe", "I", false)
  | 6 => ("Throughcoach$Run", "consist", "[I", true)
  | 7 => ("Throughcoach$Run", "length", "I", false)
  | 8 => ("Throughcoach$Run", "weight", "I", false)
  | 9 => ("Throughcoach$Run", "brake", "I", false)
  | 10 => ("Throughcoach$Run", "arrived", "[I", true)
  | 11 => ("Throughcoach$Run", "left", "[I", true)
  | 12 => ("Throughcoach$Run", "behind", "[I", true)
  | _ => ("Throughcoach$Run", "sheets", "[F", true)
def tyX5 : Nat → FieldType := fun k => match k with
  | 0 => .int
  | 1 => .object "Throughcoach$Train"
  | 2 => .int
  | 3 => .int
  | 4 => .int
  | 5 => .int
  | 6 => .array .int
  | 7 => .int
  | 8 => .int
  | 9 => .int
  | 10 => .array .int
  | 11 => .array .int
  | 12 => .array .int
  | _ => .array .float
abbrev wsX50 : List Cond := u_ws RX5 TX5 14
theorem nmX5 : ∀ a, a < 14 → ∀ b, b < 14 → a ≠ b → (TX5 a).2.1 ≠ (TX5 b).2.1 := by decide +kernel
theorem tyX5_ok : ∀ k, k < 14 → parseFieldDescriptor (TX5 k).2.2.1 = some (tyX5 k) := by decide +kernel
abbrev cX5_init : ByteArray := prog_7_method_1_code
def yX5_init : MethodName := ⟨RX5, "<init>", "(ILThroughcoach$Train;)V"⟩
abbrev cX5_begin : ByteArray := prog_7_method_2_code
def yX5_begin : MethodName := ⟨RX5, "begin", "()V"⟩
abbrev cX5_isAtEnd : ByteArray := prog_7_method_3_code
def yX5_isAtEnd : MethodName := ⟨RX5, "isAtEnd", "()Z"⟩
abbrev cX5_patienceEnd : ByteArray := prog_7_method_4_code
def yX5_patienceEnd : MethodName := ⟨RX5, "patienceEnd", "()I"⟩
abbrev cX5_couple : ByteArray := prog_7_method_5_code
def yX5_couple : MethodName := ⟨RX5, "couple", "(I)V"⟩
abbrev cX5_isTooHeavy : ByteArray := prog_7_method_6_code
def yX5_isTooHeavy : MethodName := ⟨RX5, "isTooHeavy", "()Z"⟩
abbrev cX5_writeSheet : ByteArray := prog_7_method_7_code
def yX5_writeSheet : MethodName := ⟨RX5, "writeSheet", "()V"⟩
abbrev cX5_goOff : ByteArray := prog_7_method_8_code
def yX5_goOff : MethodName := ⟨RX5, "goOff", "(II)V"⟩
abbrev cX5_comeIn : ByteArray := prog_7_method_9_code
def yX5_comeIn : MethodName := ⟨RX5, "comeIn", "(I)V"⟩
def RX6 : String := "Throughcoach$Station"
def TX6 : u_T := fun k => match k with
  | 0 => ("Throughcoach$Station", "land", "I", false)
  | _ => ("Throughcoach$Station", "gauge", "I", false)
def tyX6 : Nat → FieldType := fun k => match k with
  | 0 => .int
  | _ => .int
abbrev wsX60 : List Cond := u_ws RX6 TX6 2
theorem nmX6 : ∀ a, a < 2 → ∀ b, b < 2 → a ≠ b → (TX6 a).2.1 ≠ (TX6 b).2.1 := by decide +kernel
theorem tyX6_ok : ∀ k, k < 2 → parseFieldDescriptor (TX6 k).2.2.1 = some (tyX6 k) := by decide +kernel
abbrev cX6_init : ByteArray := prog_8_method_1_code
def yX6_init : MethodName := ⟨RX6, "<init>", "()V"⟩
def RX7 : String := "Throughcoach$Train"
def TX7 : u_T := fun k => match k with
  | 0 => ("Throughcoach$Train", "stops", "I", false)
  | 1 => ("Throughcoach$Train", "pulls", "I", false)
  | 2 => ("Throughcoach$Train", "patience", "I", false)
  | 3 => ("Throughcoach$Train", "station", "[I", true)
  | 4 => ("Throughcoach$Train", "departure", "[I", true)
  | 5 => ("Throughcoach$Train", "run", "[I", true)
  | 6 => ("Throughcoach$Train", "late", "[I", true)
  | 7 => ("Throughcoach$Train", "kilometres", "[I", true)
  | 8 => ("Throughcoach$Train", "stay", "[I", true)
  | _ => ("Throughcoach$Train", "stopOf", "[I", true)
def tyX7 : Nat → FieldType := fun k => match k with
  | 0 => .int
  | 1 => .int
  | 2 => .int
  | 3 => .array .int
  | 4 => .array .int
  | 5 => .array .int
  | 6 => .array .int
  | 7 => .array .int
  | 8 => .array .int
  | _ => .array .int
abbrev wsX70 : List Cond := u_ws RX7 TX7 10
theorem nmX7 : ∀ a, a < 10 → ∀ b, b < 10 → a ≠ b → (TX7 a).2.1 ≠ (TX7 b).2.1 := by decide +kernel
theorem tyX7_ok : ∀ k, k < 10 → parseFieldDescriptor (TX7 k).2.2.1 = some (tyX7 k) := by decide +kernel
abbrev cX7_init : ByteArray := prog_9_method_1_code
def yX7_init : MethodName := ⟨RX7, "<init>", "()V"⟩
abbrev cX7_addStop : ByteArray := prog_9_method_2_code
def yX7_addStop : MethodName := ⟨RX7, "addStop", "(IIII)I"⟩
abbrev cX7_leads : ByteArray := prog_9_method_3_code
def yX7_leads : MethodName := ⟨RX7, "leads", "(II)Z"⟩
def RX8 : String := "Throughcoach$Wagon"
def TX8 : u_T := fun k => match k with
  | 0 => ("Throughcoach$Wagon", "coach", "LThroughcoach$Coach;", true)
  | 1 => ("Throughcoach$Wagon", "station", "I", false)
  | 2 => ("Throughcoach$Wagon", "ready", "I", false)
  | 3 => ("Throughcoach$Wagon", "done", "I", false)
  | _ => ("Throughcoach$Wagon", "changes", "I", false)
def tyX8 : Nat → FieldType := fun k => match k with
  | 0 => .object "Throughcoach$Coach"
  | 1 => .int
  | 2 => .int
  | 3 => .int
  | _ => .int
abbrev wsX80 : List Cond := u_ws RX8 TX8 5
theorem nmX8 : ∀ a, a < 5 → ∀ b, b < 5 → a ≠ b → (TX8 a).2.1 ≠ (TX8 b).2.1 := by decide +kernel
theorem tyX8_ok : ∀ k, k < 5 → parseFieldDescriptor (TX8 k).2.2.1 = some (tyX8 k) := by decide +kernel
abbrev cX8_init : ByteArray := prog_10_method_1_code
def yX8_init : MethodName := ⟨RX8, "<init>", "(LThroughcoach$Coach;)V"⟩
abbrev cX8_begin : ByteArray := prog_10_method_2_code
def yX8_begin : MethodName := ⟨RX8, "begin", "()V"⟩
abbrev cX8_hasToDo : ByteArray := prog_10_method_3_code
def yX8_hasToDo : MethodName := ⟨RX8, "hasToDo", "()Z"⟩
abbrev cX8_isHome : ByteArray := prog_10_method_4_code
def yX8_isHome : MethodName := ⟨RX8, "isHome", "()Z"⟩
abbrev cX8_standsReady : ByteArray := prog_10_method_5_code
def yX8_standsReady : MethodName := ⟨RX8, "standsReady", "(II)Z"⟩
abbrev cX8_isMissed : ByteArray := prog_10_method_6_code
def yX8_isMissed : MethodName := ⟨RX8, "isMissed", "(III)Z"⟩
abbrev cX8_setOut : ByteArray := prog_10_method_7_code
def yX8_setOut : MethodName := ⟨RX8, "setOut", "(II)V"⟩
abbrev cX8_come : ByteArray := prog_10_method_8_code
def yX8_come : MethodName := ⟨RX8, "come", "()V"⟩
def RX9 : String := "Throughcoach"
def TX9 : u_T := fun k => match k with
  | 0 => ("Throughcoach", "plan", "LThroughcoach$Plan;", true)
  | 1 => ("Throughcoach", "night", "LThroughcoach$Night;", true)
  | 2 => ("Throughcoach", "nightAnew", "LThroughcoach$Night;", true)
  | 3 => ("Throughcoach", "trial", "LThroughcoach$Night;", true)
  | _ => ("Throughcoach", "beds", "LThroughcoach$Beds;", true)
def tyX9 : Nat → FieldType := fun k => match k with
  | 0 => .object "Throughcoach$Plan"
  | 1 => .object "Throughcoach$Night"
  | 2 => .object "Throughcoach$Night"
  | 3 => .object "Throughcoach$Night"
  | _ => .object "Throughcoach$Beds"
abbrev wsX90 : List Cond := u_ws RX9 TX9 5
theorem nmX9 : ∀ a, a < 5 → ∀ b, b < 5 → a ≠ b → (TX9 a).2.1 ≠ (TX9 b).2.1 := by decide +kernel
theorem tyX9_ok : ∀ k, k < 5 → parseFieldDescriptor (TX9 k).2.2.1 = some (tyX9 k) := by decide +kernel
abbrev cX9_init : ByteArray := prog_1_method_1_code
def yX9_init : MethodName := ⟨RX9, "<init>", "()V"⟩
abbrev cX9_station : ByteArray := prog_1_method_2_code
def yX9_station : MethodName := ⟨RX9, "station", "(II)I"⟩
abbrev cX9_train : ByteArray := prog_1_method_3_code
def yX9_train : MethodName := ⟨RX9, "train", "(III)I"⟩
abbrev cX9_stop : ByteArray := prog_1_method_4_code
def yX9_stop : MethodName := ⟨RX9, "stop", "(IIIII)I"⟩
abbrev cX9_patience : ByteArray := prog_1_method_5_code
def yX9_patience : MethodName := ⟨RX9, "patience", "(II)I"⟩
abbrev cX9_late : ByteArray := prog_1_method_6_code
def yX9_late : MethodName := ⟨RX9, "late", "(III)I"⟩
abbrev cX9_coach : ByteArray := prog_1_method_7_code
def yX9_coach : MethodName := ⟨RX9, "coach", "(IIIIIIZ)I"⟩
abbrev cX9_part : ByteArray := prog_1_method_8_code
def yX9_part : MethodName := ⟨RX9, "part", "(III)I"⟩
abbrev cX9_takeOut : ByteArray := prog_1_method_9_code
def yX9_takeOut : MethodName := ⟨RX9, "takeOut", "(I)I"⟩
abbrev cX9_book : ByteArray := prog_1_method_10_code
def yX9_book : MethodName := ⟨RX9, "book", "(IZII)I"⟩
abbrev cX9_leave : ByteArray := prog_1_method_11_code
def yX9_leave : MethodName := ⟨RX9, "leave", "(I)I"⟩
abbrev cX9_swap : ByteArray := prog_1_method_12_code
def yX9_swap : MethodName := ⟨RX9, "swap", "(II)V"⟩
abbrev cX9_arrives : ByteArray := prog_1_method_13_code
def yX9_arrives : MethodName := ⟨RX9, "arrives", "(II)I"⟩
abbrev cX9_leaves : ByteArray := prog_1_method_14_code
def yX9_leaves : MethodName := ⟨RX9, "leaves", "(II)I"⟩
abbrev cX9_leavesAnew : ByteArray := prog_1_method_15_code
def yX9_leavesAnew : MethodName := ⟨RX9, "leavesAnew", "(II)I"⟩
abbrev cX9_behind : ByteArray := prog_1_method_16_code
def yX9_behind : MethodName := ⟨RX9, "behind", "(III)I"⟩
abbrev cX9_sheet : ByteArray := prog_1_method_17_code
def yX9_sheet : MethodName := ⟨RX9, "sheet", "(II)F"⟩
abbrev cX9_coachOf : ByteArray := prog_1_method_18_code
def yX9_coachOf : MethodName := ⟨RX9, "coachOf", "(II)I"⟩
abbrev cX9_owes : ByteArray := prog_1_method_19_code
def yX9_owes : MethodName := ⟨RX9, "owes", "(II)I"⟩
abbrev cX9_homes : ByteArray := prog_1_method_20_code
def yX9_homes : MethodName := ⟨RX9, "homes", "()I"⟩
abbrev cX9_best : ByteArray := prog_1_method_21_code
def yX9_best : MethodName := ⟨RX9, "best", "(I)I"⟩
abbrev cX9_personOf : ByteArray := prog_1_method_22_code
def yX9_personOf : MethodName := ⟨RX9, "personOf", "(II)I"⟩
abbrev cX9_sleeper : ByteArray := prog_1_method_23_code
def yX9_sleeper : MethodName := ⟨RX9, "sleeper", "(III)I"⟩
abbrev cX9_holds : ByteArray := prog_1_method_24_code
def yX9_holds : MethodName := ⟨RX9, "holds", "(IZI)Z"⟩
abbrev cX9_paid : ByteArray := prog_1_method_25_code
def yX9_paid : MethodName := ⟨RX9, "paid", "()I"⟩
abbrev cX9_needStation : ByteArray := prog_1_method_26_code
def yX9_needStation : MethodName := ⟨RX9, "needStation", "(I)V"⟩
abbrev cX9_needTrain : ByteArray := prog_1_method_27_code
def yX9_needTrain : MethodName := ⟨RX9, "needTrain", "(I)V"⟩
abbrev cX9_needStop : ByteArray := prog_1_method_28_code
def yX9_needStop : MethodName := ⟨RX9, "needStop", "(II)V"⟩
abbrev cX9_needCoach : ByteArray := prog_1_method_29_code
def yX9_needCoach : MethodName := ⟨RX9, "needCoach", "(I)V"⟩
abbrev cX9_needPerson : ByteArray := prog_1_method_30_code
def yX9_needPerson : MethodName := ⟨RX9, "needPerson", "(I)V"⟩
abbrev cX9_needRange : ByteArray := prog_1_method_31_code
def yX9_needRange : MethodName := ⟨RX9, "needRange", "(III)V"⟩
abbrev cX9_moveSleepers : ByteArray := prog_1_method_32_code
def yX9_moveSleepers : MethodName := ⟨RX9, "moveSleepers", "(LThroughcoach$Coach;)I"⟩
abbrev cX9_moves : ByteArray := prog_1_method_33_code
def yX9_moves : MethodName := ⟨RX9, "moves", "(LThroughcoach$Person;LThroughcoach$Coach;)Z"⟩
def RX10 : String := "ThroughcoachModel"
def TX10 : u_T := fun k => match k with
  | 0 => ("ThroughcoachModel", "thrown", "I", false)
  | 1 => ("ThroughcoachModel", "stations", "I", false)
  | 2 => ("ThroughcoachModel", "landOf", "[I", true)
  | 3 => ("ThroughcoachModel", "gaugeOf", "[I", true)
  | 4 => ("ThroughcoachModel", "trains", "I", false)
  | 5 => ("ThroughcoachModel", "pulls", "[I", true)
  | 6 => ("ThroughcoachModel", "patience", "[I", true)
  | 7 => ("ThroughcoachModel", "stops", "[I", true)
  | 8 => ("ThroughcoachModel", "places", "[I", true)
  | 9 => ("ThroughcoachModel", "planned", "[I", true)
  | 10 => ("ThroughcoachModel", "runs", "[I", true)
  | 11 => ("ThroughcoachModel", "lengths", "[I", true)
  | 12 => ("ThroughcoachModel", "stays", "[I", true)
  | 13 => ("ThroughcoachModel", "lates", "[I", true)
  | 14 => ("ThroughcoachModel", "coaches", "I", false)
  | 15 => ("ThroughcoachModel", "stands", "[I", true)
  | 16 => ("ThroughcoachModel", "owner", "[I", true)
  | 17 => ("ThroughcoachModel", "kinds", "[I", true)
  | 18 => ("ThroughcoachModel", "weights", "[I", true)
  | 19 => ("ThroughcoachModel", "brakes", "[I", true)
  | 20 => ("ThroughcoachModel", "allowances", "[I", true)
  | 21 => ("ThroughcoachModel", "slides", "[Z", true)
  | 22 => ("ThroughcoachModel", "isOut", "[Z", true)
  | 23 => ("ThroughcoachModel", "parts", "[I", true)
  | 24 => ("ThroughcoachModel", "withTrain", "[I", true)
  | 25 => ("ThroughcoachModel", "leads", "[I", true)
  | 26 => ("ThroughcoachModel", "persons", "I", false)
  | 27 => ("ThroughcoachModel", "isWoman", "[Z", true)
  | 28 => ("ThroughcoachModel", "ages", "[I", true)
  | 29 => ("ThroughcoachModel", "parties", "[I", true)
  | 30 => ("ThroughcoachModel", "paid", "[I", true)
  | 31 => ("ThroughcoachModel", "sleepsIn", "[I", true)
  | 32 => ("ThroughcoachModel", "sleepsAt", "[I", true)
  | 33 => ("ThroughcoachModel", "beds", "[I", true)
  | 34 => ("ThroughcoachModel", "isReckoned", "Z", false)
  | 35 => ("ThroughcoachModel", "arrivals", "[I", true)
  | 36 => ("ThroughcoachModel", "departures", "[I", true)
  | 37 => ("ThroughcoachModel", "stopOf", "[I", true)
  | 38 => ("ThroughcoachModel", "runsNow", "[Z", true)
  | 39 => ("ThroughcoachModel", "behind", "[I", true)
  | 40 => ("ThroughcoachModel", "many", "[I", true)
  | 41 => ("ThroughcoachModel", "sheets", "[I", true)
  | 42 => ("ThroughcoachModel", "loads", "[I", true)
  | 43 => ("ThroughcoachModel", "told", "[I", true)
  | 44 => ("ThroughcoachModel", "at", "[I", true)
  | 45 => ("ThroughcoachModel", "ready", "[I", true)
  | 46 => ("ThroughcoachModel", "done", "[I", true)
  | 47 => ("ThroughcoachModel", "times", "[I", true)
  | 48 => ("ThroughcoachModel", "came", "[Z", true)
  | _ => ("ThroughcoachModel", "owed", "[I", true)
def tyX10 : Nat → FieldType := fun k => match k with
  | 0 => .int
  | 1 => .int
  | 2 => .array .int
  | 3 => .array .int
  | 4 => .int
  | 5 => .array .int
  | 6 => .array .int
  | 7 => .array .int
  | 8 => .array .int
  | 9 => .array .int
  | 10 => .array .int
  | 11 => .array .int
  | 12 => .array .int
  | 13 => .array .int
  | 14 => .int
  | 15 => .array .int
  | 16 => .array .int
  | 17 => .array .int
  | 18 => .array .int
  | 19 => .array .int
  | 20 => .array .int
  | 21 => .array .boolean
  | 22 => .array .boolean
  | 23 => .array .int
  | 24 => .array .int
  | 25 => .array .int
  | 26 => .int
  | 27 => .array .boolean
  | 28 => .array .int
  | 29 => .array .int
  | 30 => .array .int
  | 31 => .array .int
  | 32 => .array .int
  | 33 => .array .int
  | 34 => .boolean
  | 35 => .array .int
  | 36 => .array .int
  | 37 => .array .int
  | 38 => .array .boolean
  | 39 => .array .int
  | 40 => .array .int
  | 41 => .array .int
  | 42 => .array .int
  | 43 => .array .int
  | 44 => .array .int
  | 45 => .array .int
  | 46 => .array .int
  | 47 => .array .int
  | 48 => .array .boolean
  | _ => .array .int
abbrev wsX100 : List Cond := u_ws RX10 TX10 50
theorem nmX10 : ∀ a, a < 50 → ∀ b, b < 50 → a ≠ b → (TX10 a).2.1 ≠ (TX10 b).2.1 := by decide +kernel
theorem tyX10_ok : ∀ k, k < 50 → parseFieldDescriptor (TX10 k).2.2.1 = some (tyX10 k) := by decide +kernel
abbrev cX10_init : ByteArray := prog_12_method_1_code
def yX10_init : MethodName := ⟨RX10, "<init>", "()V"⟩
abbrev cX10_thrown : ByteArray := prog_12_method_2_code
def yX10_thrown : MethodName := ⟨RX10, "thrown", "()I"⟩
abbrev cX10_in : ByteArray := prog_12_method_3_code
def yX10_in : MethodName := ⟨RX10, "in", "(III)Z"⟩
abbrev cX10_refused : ByteArray := prog_12_method_4_code
def yX10_refused : MethodName := ⟨RX10, "refused", "(I)Z"⟩
abbrev cX10_isStation : ByteArray := prog_12_method_5_code
def yX10_isStation : MethodName := ⟨RX10, "isStation", "(I)Z"⟩
abbrev cX10_isTrain : ByteArray := prog_12_method_6_code
def yX10_isTrain : MethodName := ⟨RX10, "isTrain", "(I)Z"⟩
abbrev cX10_isStop : ByteArray := prog_12_method_7_code
def yX10_isStop : MethodName := ⟨RX10, "isStop", "(II)Z"⟩
abbrev cX10_isCoach : ByteArray := prog_12_method_8_code
def yX10_isCoach : MethodName := ⟨RX10, "isCoach", "(I)Z"⟩
abbrev cX10_isPerson : ByteArray := prog_12_method_9_code
def yX10_isPerson : MethodName := ⟨RX10, "isPerson", "(I)Z"⟩
abbrev cX10_stopAt : ByteArray := prog_12_method_10_code
def yX10_stopAt : MethodName := ⟨RX10, "stopAt", "(II)I"⟩
abbrev cX10_station : ByteArray := prog_12_method_11_code
def yX10_station : MethodName := ⟨RX10, "station", "(II)I"⟩
abbrev cX10_train : ByteArray := prog_12_method_12_code
def yX10_train : MethodName := ⟨RX10, "train", "(III)I"⟩
abbrev cX10_stop : ByteArray := prog_12_method_13_code
def yX10_stop : MethodName := ⟨RX10, "stop", "(IIIII)I"⟩
abbrev cX10_patience : ByteArray := prog_12_method_14_code
def yX10_patience : MethodName := ⟨RX10, "patience", "(II)I"⟩
abbrev cX10_late : ByteArray := prog_12_method_15_code
def yX10_late : MethodName := ⟨RX10, "late", "(III)I"⟩
abbrev cX10_coach : ByteArray := prog_12_method_16_code
def yX10_coach : MethodName := ⟨RX10, "coach", "(IIIIIIZ)I"⟩
abbrev cX10_beginning : ByteArray := prog_12_method_17_code
def yX10_beginning : MethodName := ⟨RX10, "beginning", "(II)I"⟩
abbrev cX10_part : ByteArray := prog_12_method_18_code
def yX10_part : MethodName := ⟨RX10, "part", "(III)I"⟩
abbrev cX10_begins : ByteArray := prog_12_method_19_code
def yX10_begins : MethodName := ⟨RX10, "begins", "()V"⟩
abbrev cX10_reckon : ByteArray := prog_12_method_20_code
def yX10_reckon : MethodName := ⟨RX10, "reckon", "()V"⟩
abbrev cX10_setOut : ByteArray := prog_12_method_21_code
def yX10_setOut : MethodName := ⟨RX10, "setOut", "(IIII)V"⟩
abbrev cX10_arrive : ByteArray := prog_12_method_22_code
def yX10_arrive : MethodName := ⟨RX10, "arrive", "(II)V"⟩
abbrev cX10_isDoing : ByteArray := prog_12_method_23_code
def yX10_isDoing : MethodName := ⟨RX10, "isDoing", "(I)Z"⟩
abbrev cX10_isReady : ByteArray := prog_12_method_24_code
def yX10_isReady : MethodName := ⟨RX10, "isReady", "(III)Z"⟩
abbrev cX10_canLeave : ByteArray := prog_12_method_25_code
def yX10_canLeave : MethodName := ⟨RX10, "canLeave", "(II)Z"⟩
abbrev cX10_isAllowed : ByteArray := prog_12_method_26_code
def yX10_isAllowed : MethodName := ⟨RX10, "isAllowed", "(III)Z"⟩
abbrev cX10_takes : ByteArray := prog_12_method_27_code
def yX10_takes : MethodName := ⟨RX10, "takes", "(III)Z"⟩
abbrev cX10_loadOf : ByteArray := prog_12_method_28_code
def yX10_loadOf : MethodName := ⟨RX10, "loadOf", "(I)I"⟩
abbrev cX10_brakeOf : ByteArray := prog_12_method_29_code
def yX10_brakeOf : MethodName := ⟨RX10, "brakeOf", "(I)I"⟩
abbrev cX10_couple : ByteArray := prog_12_method_30_code
def yX10_couple : MethodName := ⟨RX10, "couple", "(IIII)V"⟩
abbrev cX10_departs : ByteArray := prog_12_method_31_code
def yX10_departs : MethodName := ⟨RX10, "departs", "(II)V"⟩
abbrev cX10_mayHold : ByteArray := prog_12_method_32_code
def yX10_mayHold : MethodName := ⟨RX10, "mayHold", "(IIII)Z"⟩
abbrev cX10_hasBed : ByteArray := prog_12_method_33_code
def yX10_hasBed : MethodName := ⟨RX10, "hasBed", "(II)Z"⟩
abbrev cX10_roomFor : ByteArray := prog_12_method_34_code
def yX10_roomFor : MethodName := ⟨RX10, "roomFor", "(IZI)I"⟩
abbrev cX10_sleep : ByteArray := prog_12_method_35_code
def yX10_sleep : MethodName := ⟨RX10, "sleep", "(III)V"⟩
abbrev cX10_placeOf : ByteArray := prog_12_method_36_code
def yX10_placeOf : MethodName := ⟨RX10, "placeOf", "(I)I"⟩
abbrev cX10_otherFor : ByteArray := prog_12_method_37_code
def yX10_otherFor : MethodName := ⟨RX10, "otherFor", "(II)I"⟩
abbrev cX10_takeOut : ByteArray := prog_12_method_38_code
def yX10_takeOut : MethodName := ⟨RX10, "takeOut", "(I)I"⟩
abbrev cX10_book : ByteArray := prog_12_method_39_code
def yX10_book : MethodName := ⟨RX10, "book", "(IZII)I"⟩
abbrev cX10_leave : ByteArray := prog_12_method_40_code
def yX10_leave : MethodName := ⟨RX10, "leave", "(I)I"⟩
abbrev cX10_change : ByteArray := prog_12_method_41_code
def yX10_change : MethodName := ⟨RX10, "change", "(II)V"⟩
abbrev cX10_swap : ByteArray := prog_12_method_42_code
def yX10_swap : MethodName := ⟨RX10, "swap", "(II)V"⟩
abbrev cX10_arrives : ByteArray := prog_12_method_43_code
def yX10_arrives : MethodName := ⟨RX10, "arrives", "(II)I"⟩
abbrev cX10_leaves : ByteArray := prog_12_method_44_code
def yX10_leaves : MethodName := ⟨RX10, "leaves", "(II)I"⟩
abbrev cX10_leavesAnew : ByteArray := prog_12_method_45_code
def yX10_leavesAnew : MethodName := ⟨RX10, "leavesAnew", "(II)I"⟩
abbrev cX10_behind : ByteArray := prog_12_method_46_code
def yX10_behind : MethodName := ⟨RX10, "behind", "(III)I"⟩
abbrev cX10_sheet : ByteArray := prog_12_method_47_code
def yX10_sheet : MethodName := ⟨RX10, "sheet", "(II)F"⟩
abbrev cX10_coachOf : ByteArray := prog_12_method_48_code
def yX10_coachOf : MethodName := ⟨RX10, "coachOf", "(II)I"⟩
abbrev cX10_isHome : ByteArray := prog_12_method_49_code
def yX10_isHome : MethodName := ⟨RX10, "isHome", "(I)Z"⟩
abbrev cX10_homesNow : ByteArray := prog_12_method_50_code
def yX10_homesNow : MethodName := ⟨RX10, "homesNow", "()I"⟩
abbrev cX10_owes : ByteArray := prog_12_method_51_code
def yX10_owes : MethodName := ⟨RX10, "owes", "(II)I"⟩
abbrev cX10_homes : ByteArray := prog_12_method_52_code
def yX10_homes : MethodName := ⟨RX10, "homes", "()I"⟩
abbrev cX10_best : ByteArray := prog_12_method_53_code
def yX10_best : MethodName := ⟨RX10, "best", "(I)I"⟩
abbrev cX10_personOf : ByteArray := prog_12_method_54_code
def yX10_personOf : MethodName := ⟨RX10, "personOf", "(II)I"⟩
abbrev cX10_sleeper : ByteArray := prog_12_method_55_code
def yX10_sleeper : MethodName := ⟨RX10, "sleeper", "(III)I"⟩
abbrev cX10_holds : ByteArray := prog_12_method_56_code
def yX10_holds : MethodName := ⟨RX10, "holds", "(IZI)Z"⟩
abbrev cX10_paid : ByteArray := prog_12_method_57_code
def yX10_paid : MethodName := ⟨RX10, "paid", "()I"⟩
def RJx145de : String := "java/io/Serializable"
def TJx145de : u_T := fun k => match k with
  | _ => ("", "", "", false)
def tyJx145de : Nat → FieldType := fun k => match k with
  | _ => .int
abbrev wsJx145de0 : List Cond := u_ws RJx145de TJx145de 0
theorem nmJx145de : ∀ a, a < 0 → ∀ b, b < 0 → a ≠ b → (TJx145de a).2.1 ≠ (TJx145de b).2.1 := by decide +kernel
theorem tyJx145de_ok : ∀ k, k < 0 → parseFieldDescriptor (TJx145de k).2.2.1 = some (tyJx145de k) := by decide +kernel
def RJ9 : String := "java/lang/Math"
def TJ9 : u_T := fun k => match k with
  | _ => ("", "", "", false)
def tyJ9 : Nat → FieldType := fun k => match k with
  | _ => .int
abbrev wsJ90 : List Cond := u_ws RJ9 TJ9 0
theorem nmJ9 : ∀ a, a < 0 → ∀ b, b < 0 → a ≠ b → (TJ9 a).2.1 ≠ (TJ9 b).2.1 := by decide +kernel
theorem tyJ9_ok : ∀ k, k < 0 → parseFieldDescriptor (TJ9 k).2.2.1 = some (tyJ9 k) := by decide +kernel
abbrev cJ9_max_7cf53 : ByteArray := prog_17_method_65_code
def yJ9_max_7cf53 : MethodName := ⟨RJ9, "max", "(II)I"⟩
def RJ0 : String := "java/lang/String"
def TJ0 : u_T := fun k => match k with
  | _ => ("", "", "", false)
def tyJ0 : Nat → FieldType := fun k => match k with
  | _ => .int
abbrev wsJ00 : List Cond := u_ws RJ0 TJ0 0
theorem nmJ0 : ∀ a, a < 0 → ∀ b, b < 0 → a ≠ b → (TJ0 a).2.1 ≠ (TJ0 b).2.1 := by decide +kernel
theorem tyJ0_ok : ∀ k, k < 0 → parseFieldDescriptor (TJ0 k).2.2.1 = some (tyJ0 k) := by decide +kernel
def RJ7 : String := "java/util/Arrays"
def TJ7 : u_T := fun k => match k with
  | _ => ("", "", "", false)
def tyJ7 : Nat → FieldType := fun k => match k with
  | _ => .int
abbrev wsJ70 : List Cond := u_ws RJ7 TJ7 0
theorem nmJ7 : ∀ a, a < 0 → ∀ b, b < 0 → a ≠ b → (TJ7 a).2.1 ≠ (TJ7 b).2.1 := by decide +kernel
theorem tyJ7_ok : ∀ k, k < 0 → parseFieldDescriptor (TJ7 k).2.2.1 = some (tyJ7 k) := by decide +kernel
abbrev cJ7_fill_53178 : ByteArray := prog_21_method_103_code
def yJ7_fill_53178 : MethodName := ⟨RJ7, "fill", "([II)V"⟩
abbrev cJ7_fill_e525d : ByteArray := prog_21_method_115_code
def yJ7_fill_e525d : MethodName := ⟨RJ7, "fill", "([FF)V"⟩
def RL : String := "ThroughcoachLaw"
abbrev cL_station : ByteArray := method_3_code
def yL_station : MethodName := ⟨RL, "station", "(LThroughcoach;II[J)I"⟩
abbrev cL_train : ByteArray := method_4_code
def yL_train : MethodName := ⟨RL, "train", "(LThroughcoach;III[J)I"⟩
abbrev cL_stop : ByteArray := method_5_code
def yL_stop : MethodName := ⟨RL, "stop", "(LThroughcoach;IIIII[J)I"⟩
abbrev cL_patience : ByteArray := method_6_code
def yL_patience : MethodName := ⟨RL, "patience", "(LThroughcoach;II[J)I"⟩
abbrev cL_late : ByteArray := method_7_code
def yL_late : MethodName := ⟨RL, "late", "(LThroughcoach;III[J)I"⟩
abbrev cL_coach : ByteArray := method_8_code
def yL_coach : MethodName := ⟨RL, "coach", "(LThroughcoach;IIIIIIZ[J)I"⟩
abbrev cL_part : ByteArray := method_9_code
def yL_part : MethodName := ⟨RL, "part", "(LThroughcoach;III[J)I"⟩
abbrev cL_takeOut : ByteArray := method_10_code
def yL_takeOut : MethodName := ⟨RL, "takeOut", "(LThroughcoach;I[J)I"⟩
abbrev cL_book : ByteArray := method_11_code
def yL_book : MethodName := ⟨RL, "book", "(LThroughcoach;IZII[J)I"⟩
abbrev cL_leave : ByteArray := method_12_code
def yL_leave : MethodName := ⟨RL, "leave", "(LThroughcoach;I[J)I"⟩
abbrev cL_swap : ByteArray := method_13_code
def yL_swap : MethodName := ⟨RL, "swap", "(LThroughcoach;II)I"⟩
abbrev cL_arrives : ByteArray := method_14_code
def yL_arrives : MethodName := ⟨RL, "arrives", "(LThroughcoach;II[J)I"⟩
abbrev cL_leaves : ByteArray := method_15_code
def yL_leaves : MethodName := ⟨RL, "leaves", "(LThroughcoach;II[J)I"⟩
abbrev cL_leavesAnew : ByteArray := method_16_code
def yL_leavesAnew : MethodName := ⟨RL, "leavesAnew", "(LThroughcoach;II[J)I"⟩
abbrev cL_behind : ByteArray := method_17_code
def yL_behind : MethodName := ⟨RL, "behind", "(LThroughcoach;III[J)I"⟩
abbrev cL_sheet : ByteArray := method_18_code
def yL_sheet : MethodName := ⟨RL, "sheet", "(LThroughcoach;II[D)I"⟩
abbrev cL_coachOf : ByteArray := method_19_code
def yL_coachOf : MethodName := ⟨RL, "coachOf", "(LThroughcoach;II[J)I"⟩
abbrev cL_owes : ByteArray := method_20_code
def yL_owes : MethodName := ⟨RL, "owes", "(LThroughcoach;II[J)I"⟩
abbrev cL_best : ByteArray := method_21_code
def yL_best : MethodName := ⟨RL, "best", "(LThroughcoach;I[J)I"⟩
abbrev cL_personOf : ByteArray := method_22_code
def yL_personOf : MethodName := ⟨RL, "personOf", "(LThroughcoach;II[J)I"⟩
abbrev cL_sleeper : ByteArray := method_23_code
def yL_sleeper : MethodName := ⟨RL, "sleeper", "(LThroughcoach;III[J)I"⟩
abbrev cL_holds : ByteArray := method_24_code
def yL_holds : MethodName := ⟨RL, "holds", "(LThroughcoach;IZI[J)I"⟩
abbrev cL_law : ByteArray := code
def yL_law : MethodName := ⟨RL, "law", "([I)Z"⟩
abbrev vwCl : List vw_C := [(RX0, TX0, 4), (RX1, TX1, 13), (RX2, TX2, 6), (RX3, TX3, 8), (RX4, TX4, 7), (RX5, TX5, 14), (RX6, TX6, 2), (RX7, TX7, 10), (RX8, TX8, 5), (RX9, TX9, 5), (RX10, TX10, 50)]
end
section
/-! ===== my program tables: a method is a list of (pc, instruction); its blocks begin at what a jump names ===== -/
abbrev MV : Type := Sum Int (Sum (Option Nat) (Sum UInt32 (Sum Int64 (Sum UInt64 Bool))))
abbrev vI (a : Int) : MV := Sum.inl a
abbrev vQ (o : Option Nat) : MV := Sum.inr (Sum.inl o)
abbrev vR (o : Nat) : MV := Sum.inr (Sum.inl (some o))
abbrev vN : MV := Sum.inr (Sum.inl none)
abbrev vF (b : UInt32) : MV := Sum.inr (Sum.inr (Sum.inl b))
abbrev vL (a : Int64) : MV := Sum.inr (Sum.inr (Sum.inr (Sum.inl a)))
abbrev vD (b : UInt64) : MV := Sum.inr (Sum.inr (Sum.inr (Sum.inr (Sum.inl b))))
abbrev vS : MV := Sum.inr (Sum.inr (Sum.inr (Sum.inr (Sum.inr true))))
abbrev vU : MV := Sum.inr (Sum.inr (Sum.inr (Sum.inr (Sum.inr false))))
abbrev MCode : Type := List (Nat × Instr)
def b_0_68 : MCode := (68, .return_) :: []
def b_0_42 : MCode := (42, .iload_n 1) :: (43, .bipush 40) :: (45, .if_icmp .ge 23) :: (48, .aload_n 0) :: (49, .getfield 11) :: (52, .iload_n 1) :: (53, .new 9) :: (56, .dup) :: (57, .iload_n 1) :: (58, .invokespecial 34) :: (61, .aastore) :: (62, .iinc 1 1) :: (65, .goto (-23)) :: b_0_68
def b_0_0 : MCode := (0, .aload_n 0) :: (1, .invokespecial 3) :: (4, .aload_n 0) :: (5, .bipush 40) :: (7, .anewarray 9) :: (10, .putfield 11) :: (13, .aload_n 0) :: (14, .iconst 0) :: (15, .putfield 17) :: (18, .aload_n 0) :: (19, .sipush 180) :: (22, .newarray .int) :: (24, .putfield 21) :: (27, .aload_n 0) :: (28, .iconst 0) :: (29, .putfield 25) :: (32, .aload_n 0) :: (33, .getfield 21) :: (36, .iconst (-1)) :: (37, .invokestatic 28) :: (40, .iconst 0) :: (41, .istore_n 1) :: b_0_42
def b_1_0 : MCode := (0, .iload_n 0) :: (1, .bipush 6) :: (3, .imul) :: (4, .iload_n 1) :: (5, .iadd) :: (6, .iconst 3) :: (7, .imul) :: (8, .iload_n 2) :: (9, .iadd) :: (10, .ireturn) :: []
def b_2_0 : MCode := (0, .aload_n 0) :: (1, .getfield 11) :: (4, .aload_n 0) :: (5, .getfield 17) :: (8, .aaload) :: (9, .astore_n 1) :: (10, .aload_n 0) :: (11, .dup) :: (12, .getfield 17) :: (15, .iconst 1) :: (16, .iadd) :: (17, .putfield 17) :: (20, .aload_n 1) :: (21, .areturn) :: []
def b_3_44 : MCode := (44, .iconst (-1)) :: (45, .ireturn) :: []
def b_3_38 : MCode := (38, .iinc 4 1) :: (41, .goto (-38)) :: b_3_44
def b_3_3 : MCode := (3, .iload 4) :: (5, .bipush 6) :: (7, .if_icmp .ge 37) :: (10, .aload_n 0) :: (11, .iload_n 1) :: (12, .iload 4) :: (14, .iconst 1) :: (15, .invokevirtual 37) :: (18, .iconst (-1)) :: (19, .if_icmp .eq 19) :: (22, .aload_n 0) :: (23, .iload_n 1) :: (24, .iload 4) :: (26, .iload_n 2) :: (27, .iload_n 3) :: (28, .iconst (-1)) :: (29, .invokevirtual 41) :: (32, .ifCond .eq 6) :: (35, .iload 4) :: (37, .ireturn) :: b_3_38
def b_3_0 : MCode := (0, .iconst 0) :: (1, .istore 4) :: b_3_3
def b_4_48 : MCode := (48, .iload 4) :: (50, .ireturn) :: []
def b_4_42 : MCode := (42, .iinc 5 1) :: (45, .goto (-39)) :: b_4_48
def b_4_38 : MCode := (38, .iload 5) :: (40, .istore 4) :: b_4_42
def b_4_6 : MCode := (6, .iload 5) :: (8, .iconst 3) :: (9, .if_icmp .ge 39) :: (12, .aload_n 0) :: (13, .getfield 21) :: (16, .iload_n 1) :: (17, .iload_n 2) :: (18, .iload 5) :: (20, .invokestatic 45) :: (23, .iaload) :: (24, .iconst (-1)) :: (25, .if_icmp .ne 17) :: (28, .iload 4) :: (30, .iconst (-1)) :: (31, .if_icmp .eq 7) :: (34, .iload_n 3) :: (35, .ifCond .ne 7) :: b_4_38
def b_4_0 : MCode := (0, .iconst (-1)) :: (1, .istore 4) :: (3, .iconst 0) :: (4, .istore 5) :: b_4_6
def b_5_116 : MCode := (116, .ireturn) :: []
def b_5_115 : MCode := (115, .iconst 0) :: b_5_116
def b_5_111 : MCode := (111, .iconst 1) :: (112, .goto 4) :: b_5_115
def b_5_101 : MCode := (101, .iload 6) :: (103, .ifCond .ne 8) :: (106, .iload 7) :: (108, .ifCond .eq 7) :: b_5_111
def b_5_95 : MCode := (95, .iinc 8 1) :: (98, .goto (-89)) :: b_5_101
def b_5_93 : MCode := (93, .istore 7) :: b_5_95
def b_5_92 : MCode := (92, .iconst 0) :: b_5_93
def b_5_66 : MCode := (66, .istore 6) :: (68, .iload 7) :: (70, .ifCond .eq 22) :: (73, .aload_n 0) :: (74, .getfield 11) :: (77, .iload 9) :: (79, .aaload) :: (80, .getfield 53) :: (83, .iload 4) :: (85, .if_icmp .ne 7) :: (88, .iconst 1) :: (89, .goto 4) :: b_5_92
def b_5_65 : MCode := (65, .iconst 0) :: b_5_66
def b_5_9 : MCode := (9, .iload 8) :: (11, .iconst 3) :: (12, .if_icmp .ge 89) :: (15, .aload_n 0) :: (16, .getfield 21) :: (19, .iload_n 1) :: (20, .iload_n 2) :: (21, .iload 8) :: (23, .invokestatic 45) :: (26, .iaload) :: (27, .istore 9) :: (29, .iload 9) :: (31, .iconst (-1)) :: (32, .if_icmp .eq 63) :: (35, .iload 9) :: (37, .iload 5) :: (39, .if_icmp .eq 56) :: (42, .iload 6) :: (44, .ifCond .eq 21) :: (47, .aload_n 0) :: (48, .getfield 11) :: (51, .iload 9) :: (53, .aaload) :: (54, .getfield 49) :: (57, .iload_n 3) :: (58, .if_icmp .ne 7) :: (61, .iconst 1) :: (62, .goto 4) :: b_5_65
def b_5_0 : MCode := (0, .iconst 1) :: (1, .istore 6) :: (3, .iconst 1) :: (4, .istore 7) :: (6, .iconst 0) :: (7, .istore 8) :: b_5_9
def b_6_37 : MCode := (37, .return_) :: []
def b_6_17 : MCode := (17, .invokevirtual 37) :: (20, .istore 4) :: (22, .iload 4) :: (24, .iconst (-1)) :: (25, .if_icmp .eq 12) :: (28, .aload_n 0) :: (29, .aload_n 1) :: (30, .iload_n 2) :: (31, .iload_n 3) :: (32, .iload 4) :: (34, .invokevirtual 59) :: b_6_37
def b_6_16 : MCode := (16, .iconst 0) :: b_6_17
def b_6_0 : MCode := (0, .aload_n 0) :: (1, .iload_n 2) :: (2, .iload_n 3) :: (3, .aload_n 1) :: (4, .getfield 56) :: (7, .bipush 60) :: (9, .if_icmp .lt 7) :: (12, .iconst 1) :: (13, .goto 4) :: b_6_16
def b_7_0 : MCode := (0, .aload_n 1) :: (1, .iload_n 2) :: (2, .putfield 63) :: (5, .aload_n 1) :: (6, .iload_n 3) :: (7, .putfield 66) :: (10, .aload_n 1) :: (11, .iload 4) :: (13, .putfield 69) :: (16, .aload_n 0) :: (17, .getfield 21) :: (20, .iload_n 2) :: (21, .iload_n 3) :: (22, .iload 4) :: (24, .invokestatic 45) :: (27, .aload_n 1) :: (28, .getfield 72) :: (31, .iastore) :: (32, .return_) :: []
def b_8_0 : MCode := (0, .aload_n 0) :: (1, .getfield 21) :: (4, .aload_n 1) :: (5, .getfield 63) :: (8, .aload_n 1) :: (9, .getfield 66) :: (12, .aload_n 1) :: (13, .getfield 69) :: (16, .invokestatic 45) :: (19, .iconst (-1)) :: (20, .iastore) :: (21, .aload_n 1) :: (22, .iconst (-1)) :: (23, .putfield 63) :: (26, .aload_n 1) :: (27, .iconst (-1)) :: (28, .putfield 66) :: (31, .aload_n 1) :: (32, .iconst (-1)) :: (33, .putfield 69) :: (36, .return_) :: []
def b_9_0 : MCode := (0, .aload_n 1) :: (1, .dup) :: (2, .getfield 75) :: (5, .iload_n 2) :: (6, .iadd) :: (7, .putfield 75) :: (10, .aload_n 0) :: (11, .dup) :: (12, .getfield 25) :: (15, .iload_n 2) :: (16, .iadd) :: (17, .putfield 25) :: (20, .return_) :: []
def b_10_75 : MCode := (75, .ireturn) :: []
def b_10_74 : MCode := (74, .iconst 0) :: b_10_75
def b_10_0 : MCode := (0, .aload_n 1) :: (1, .getfield 63) :: (4, .iconst (-1)) :: (5, .if_icmp .eq 69) :: (8, .aload_n 2) :: (9, .getfield 63) :: (12, .iconst (-1)) :: (13, .if_icmp .eq 61) :: (16, .aload_n 0) :: (17, .aload_n 1) :: (18, .getfield 63) :: (21, .aload_n 1) :: (22, .getfield 66) :: (25, .aload_n 2) :: (26, .getfield 49) :: (29, .aload_n 2) :: (30, .getfield 53) :: (33, .aload_n 1) :: (34, .getfield 72) :: (37, .invokevirtual 41) :: (40, .ifCond .eq 34) :: (43, .aload_n 0) :: (44, .aload_n 2) :: (45, .getfield 63) :: (48, .aload_n 2) :: (49, .getfield 66) :: (52, .aload_n 1) :: (53, .getfield 49) :: (56, .aload_n 1) :: (57, .getfield 53) :: (60, .aload_n 2) :: (61, .getfield 72) :: (64, .invokevirtual 41) :: (67, .ifCond .eq 7) :: (70, .iconst 1) :: (71, .goto 4) :: b_10_74
def b_11_0 : MCode := (0, .aload_n 1) :: (1, .getfield 63) :: (4, .istore_n 3) :: (5, .aload_n 1) :: (6, .getfield 66) :: (9, .istore 4) :: (11, .aload_n 1) :: (12, .getfield 69) :: (15, .istore 5) :: (17, .aload_n 0) :: (18, .aload_n 1) :: (19, .aload_n 2) :: (20, .getfield 63) :: (23, .aload_n 2) :: (24, .getfield 66) :: (27, .aload_n 2) :: (28, .getfield 69) :: (31, .invokevirtual 59) :: (34, .aload_n 0) :: (35, .aload_n 2) :: (36, .iload_n 3) :: (37, .iload 4) :: (39, .iload 5) :: (41, .invokevirtual 59) :: (44, .return_) :: []
def b_12_0 : MCode := (0, .aload_n 0) :: (1, .invokespecial 3) :: (4, .aload_n 0) :: (5, .iconst 0) :: (6, .putfield 9) :: (9, .aload_n 0) :: (10, .iconst 0) :: (11, .putfield 15) :: (14, .aload_n 0) :: (15, .iconst 3) :: (16, .newarray .int) :: (18, .putfield 19) :: (21, .aload_n 0) :: (22, .iconst 3) :: (23, .newarray .int) :: (25, .putfield 23) :: (28, .aload_n 0) :: (29, .iconst 3) :: (30, .newarray .int) :: (32, .putfield 26) :: (35, .aload_n 0) :: (36, .iload_n 1) :: (37, .putfield 29) :: (40, .return_) :: []
def b_13_25 : MCode := (25, .ireturn) :: []
def b_13_21 : MCode := (21, .aload_n 0) :: (22, .getfield 32) :: b_13_25
def b_13_0 : MCode := (0, .aload_n 0) :: (1, .getfield 15) :: (4, .ifCond .le 17) :: (7, .aload_n 0) :: (8, .getfield 26) :: (11, .aload_n 0) :: (12, .getfield 15) :: (15, .iconst 1) :: (16, .isub) :: (17, .iaload) :: (18, .goto 7) :: b_13_21
def b_14_0 : MCode := (0, .aload_n 0) :: (1, .getfield 19) :: (4, .aload_n 0) :: (5, .getfield 15) :: (8, .iload_n 1) :: (9, .iastore) :: (10, .aload_n 0) :: (11, .getfield 23) :: (14, .aload_n 0) :: (15, .getfield 15) :: (18, .iload_n 2) :: (19, .iastore) :: (20, .aload_n 0) :: (21, .getfield 26) :: (24, .aload_n 0) :: (25, .getfield 15) :: (28, .iload_n 3) :: (29, .iastore) :: (30, .aload_n 0) :: (31, .dup) :: (32, .getfield 15) :: (35, .iconst 1) :: (36, .iadd) :: (37, .putfield 15) :: (40, .aload_n 0) :: (41, .getfield 15) :: (44, .ireturn) :: []
def b_15_38 : MCode := (38, .ireturn) :: []
def b_15_37 : MCode := (37, .iconst 0) :: b_15_38
def b_15_33 : MCode := (33, .iconst 1) :: (34, .goto 4) :: b_15_37
def b_15_0 : MCode := (0, .aload_n 0) :: (1, .getfield 35) :: (4, .aload_n 2) :: (5, .getfield 38) :: (8, .ishr) :: (9, .iconst 1) :: (10, .iand) :: (11, .iconst 1) :: (12, .if_icmp .ne 25) :: (15, .aload_n 1) :: (16, .getfield 43) :: (19, .aload_n 2) :: (20, .getfield 43) :: (23, .if_icmp .eq 10) :: (26, .aload_n 0) :: (27, .getfield 46) :: (30, .ifCond .eq 7) :: b_15_33
def b_16_67 : MCode := (67, .ireturn) :: []
def b_16_66 : MCode := (66, .iconst 0) :: b_16_67
def b_16_0 : MCode := (0, .aload_n 0) :: (1, .getfield 9) :: (4, .ifCond .ne 62) :: (7, .aload_n 0) :: (8, .getfield 49) :: (11, .aload_n 1) :: (12, .getfield 49) :: (15, .if_icmp .lt 51) :: (18, .aload_n 0) :: (19, .getfield 15) :: (22, .ifCond .le 44) :: (25, .aload_n 1) :: (26, .getfield 15) :: (29, .ifCond .le 37) :: (32, .aload_n 0) :: (33, .getfield 19) :: (36, .iconst 0) :: (37, .iaload) :: (38, .aload_n 1) :: (39, .getfield 19) :: (42, .iconst 0) :: (43, .iaload) :: (44, .if_icmp .ne 22) :: (47, .aload_n 0) :: (48, .getfield 23) :: (51, .iconst 0) :: (52, .iaload) :: (53, .aload_n 1) :: (54, .getfield 23) :: (57, .iconst 0) :: (58, .iaload) :: (59, .if_icmp .ne 7) :: (62, .iconst 1) :: (63, .goto 4) :: b_16_66
def b_17_107 : MCode := (107, .return_) :: []
def b_17_76 : MCode := (76, .iload_n 2) :: (77, .bipush 10) :: (79, .if_icmp .ge 28) :: (82, .aload_n 0) :: (83, .getfield 19) :: (86, .iload_n 2) :: (87, .new 17) :: (90, .dup) :: (91, .aload_n 1) :: (92, .getfield 44) :: (95, .iload_n 2) :: (96, .aaload) :: (97, .invokespecial 48) :: (100, .aastore) :: (101, .iinc 2 1) :: (104, .goto (-28)) :: b_17_107
def b_17_74 : MCode := (74, .iconst 0) :: (75, .istore_n 2) :: b_17_76
def b_17_42 : MCode := (42, .iload_n 2) :: (43, .bipush 6) :: (45, .if_icmp .ge 29) :: (48, .aload_n 0) :: (49, .getfield 11) :: (52, .iload_n 2) :: (53, .new 9) :: (56, .dup) :: (57, .iload_n 2) :: (58, .aload_n 1) :: (59, .getfield 35) :: (62, .iload_n 2) :: (63, .aaload) :: (64, .invokespecial 41) :: (67, .aastore) :: (68, .iinc 2 1) :: (71, .goto (-29)) :: b_17_74
def b_17_0 : MCode := (0, .aload_n 0) :: (1, .invokespecial 3) :: (4, .aload_n 0) :: (5, .bipush 6) :: (7, .anewarray 9) :: (10, .putfield 11) :: (13, .aload_n 0) :: (14, .bipush 10) :: (16, .anewarray 17) :: (19, .putfield 19) :: (22, .aload_n 0) :: (23, .bipush 36) :: (25, .newarray .int) :: (27, .putfield 23) :: (30, .aload_n 0) :: (31, .iconst (-1)) :: (32, .putfield 27) :: (35, .aload_n 0) :: (36, .aload_n 1) :: (37, .putfield 31) :: (40, .iconst 0) :: (41, .istore_n 2) :: b_17_42
def b_18_56 : MCode := (56, .return_) :: []
def b_18_45 : MCode := (45, .aload_n 0) :: (46, .aload_n 0) :: (47, .getfield 31) :: (50, .getfield 51) :: (53, .putfield 27) :: b_18_56
def b_18_20 : MCode := (20, .iload_n 1) :: (21, .sipush 2000) :: (24, .if_icmp .ge 21) :: (27, .aload_n 0) :: (28, .getfield 55) :: (31, .ifCond .le 14) :: (34, .aload_n 0) :: (35, .iload_n 1) :: (36, .invokevirtual 58) :: (39, .iinc 1 1) :: (42, .goto (-22)) :: b_18_45
def b_18_0 : MCode := (0, .aload_n 0) :: (1, .getfield 27) :: (4, .aload_n 0) :: (5, .getfield 31) :: (8, .getfield 51) :: (11, .if_icmp .eq 45) :: (14, .aload_n 0) :: (15, .invokevirtual 52) :: (18, .iconst 0) :: (19, .istore_n 1) :: b_18_20
def b_19_33 : MCode := (33, .return_) :: []
def b_19_0 : MCode := (0, .aload_n 0) :: (1, .getfield 27) :: (4, .aload_n 0) :: (5, .getfield 31) :: (8, .getfield 51) :: (11, .if_icmp .eq 22) :: (14, .aload_n 0) :: (15, .invokevirtual 52) :: (18, .aload_n 0) :: (19, .invokevirtual 62) :: (22, .aload_n 0) :: (23, .aload_n 0) :: (24, .getfield 31) :: (27, .getfield 51) :: (30, .putfield 27) :: b_19_33
def b_20_0 : MCode := (0, .aload_n 0) :: (1, .invokevirtual 52) :: (4, .aload_n 0) :: (5, .getfield 11) :: (8, .iload_n 1) :: (9, .aaload) :: (10, .iload_n 2) :: (11, .putfield 65) :: (14, .aload_n 0) :: (15, .invokevirtual 62) :: (18, .aload_n 0) :: (19, .invokevirtual 68) :: (22, .ireturn) :: []
def b_21_36 : MCode := (36, .iload_n 1) :: (37, .ireturn) :: []
def b_21_30 : MCode := (30, .iinc 2 1) :: (33, .goto (-29)) :: b_21_36
def b_21_4 : MCode := (4, .iload_n 2) :: (5, .aload_n 0) :: (6, .getfield 31) :: (9, .getfield 72) :: (12, .if_icmp .ge 24) :: (15, .aload_n 0) :: (16, .getfield 19) :: (19, .iload_n 2) :: (20, .aaload) :: (21, .invokevirtual 75) :: (24, .ifCond .eq 6) :: (27, .iinc 1 1) :: b_21_30
def b_21_0 : MCode := (0, .iconst 0) :: (1, .istore_n 1) :: (2, .iconst 0) :: (3, .istore_n 2) :: b_21_4
def b_22_88 : MCode := (88, .aload_n 0) :: (89, .getfield 23) :: (92, .iconst 0) :: (93, .invokestatic 87) :: (96, .return_) :: []
def b_22_62 : MCode := (62, .iload_n 1) :: (63, .aload_n 0) :: (64, .getfield 31) :: (67, .getfield 72) :: (70, .if_icmp .ge 18) :: (73, .aload_n 0) :: (74, .getfield 19) :: (77, .iload_n 1) :: (78, .aaload) :: (79, .invokevirtual 86) :: (82, .iinc 1 1) :: (85, .goto (-23)) :: b_22_88
def b_22_60 : MCode := (60, .iconst 0) :: (61, .istore_n 1) :: b_22_62
def b_22_54 : MCode := (54, .iinc 1 1) :: (57, .goto (-45)) :: b_22_60
def b_22_12 : MCode := (12, .iload_n 1) :: (13, .aload_n 0) :: (14, .getfield 31) :: (17, .getfield 79) :: (20, .if_icmp .ge 40) :: (23, .aload_n 0) :: (24, .getfield 11) :: (27, .iload_n 1) :: (28, .aaload) :: (29, .invokevirtual 82) :: (32, .aload_n 0) :: (33, .getfield 11) :: (36, .iload_n 1) :: (37, .aaload) :: (38, .invokevirtual 83) :: (41, .ifCond .ne 13) :: (44, .aload_n 0) :: (45, .dup) :: (46, .getfield 55) :: (49, .iconst 1) :: (50, .iadd) :: (51, .putfield 55) :: b_22_54
def b_22_0 : MCode := (0, .aload_n 0) :: (1, .iconst (-1)) :: (2, .putfield 27) :: (5, .aload_n 0) :: (6, .iconst 0) :: (7, .putfield 55) :: (10, .iconst 0) :: (11, .istore_n 1) :: b_22_12
def b_23_39 : MCode := (39, .return_) :: []
def b_23_8 : MCode := (8, .iload_n 2) :: (9, .sipush 2000) :: (12, .if_icmp .ge 27) :: (15, .iload_n 1) :: (16, .sipush 2000) :: (19, .if_icmp .ge 20) :: (22, .aload_n 0) :: (23, .iload_n 1) :: (24, .invokevirtual 58) :: (27, .aload_n 0) :: (28, .iload_n 1) :: (29, .invokevirtual 93) :: (32, .istore_n 1) :: (33, .iinc 2 1) :: (36, .goto (-28)) :: b_23_39
def b_23_0 : MCode := (0, .aload_n 0) :: (1, .iconst (-1)) :: (2, .invokevirtual 93) :: (5, .istore_n 1) :: (6, .iconst 0) :: (7, .istore_n 2) :: b_23_8
def b_24_108 : MCode := (108, .iload_n 2) :: (109, .ireturn) :: []
def b_24_76 : MCode := (76, .iload_n 3) :: (77, .aload_n 0) :: (78, .getfield 31) :: (81, .getfield 72) :: (84, .if_icmp .ge 24) :: (87, .iload_n 2) :: (88, .aload_n 0) :: (89, .getfield 19) :: (92, .iload_n 3) :: (93, .aaload) :: (94, .getfield 111) :: (97, .iload_n 1) :: (98, .invokestatic 100) :: (101, .istore_n 2) :: (102, .iinc 3 1) :: (105, .goto (-29)) :: b_24_108
def b_24_74 : MCode := (74, .iconst 0) :: (75, .istore_n 3) :: b_24_76
def b_24_68 : MCode := (68, .iinc 3 1) :: (71, .goto (-65)) :: b_24_74
def b_24_6 : MCode := (6, .iload_n 3) :: (7, .aload_n 0) :: (8, .getfield 31) :: (11, .getfield 79) :: (14, .if_icmp .ge 60) :: (17, .aload_n 0) :: (18, .getfield 11) :: (21, .iload_n 3) :: (22, .aaload) :: (23, .astore 4) :: (25, .iload_n 2) :: (26, .aload 4) :: (28, .getfield 97) :: (31, .iload_n 1) :: (32, .invokestatic 100) :: (35, .istore_n 2) :: (36, .aload 4) :: (38, .getfield 104) :: (41, .ldc 107) :: (43, .if_icmp .eq 25) :: (46, .iload_n 2) :: (47, .aload 4) :: (49, .getfield 104) :: (52, .iload_n 1) :: (53, .invokestatic 100) :: (56, .istore_n 2) :: (57, .iload_n 2) :: (58, .aload 4) :: (60, .invokevirtual 108) :: (63, .iload_n 1) :: (64, .invokestatic 100) :: (67, .istore_n 2) :: b_24_68
def b_24_0 : MCode := (0, .sipush 2000) :: (3, .istore_n 2) :: (4, .iconst 0) :: (5, .istore_n 3) :: b_24_6
def b_25_15 : MCode := (15, .ireturn) :: []
def b_25_14 : MCode := (14, .iload_n 0) :: b_25_15
def b_25_0 : MCode := (0, .iload_n 1) :: (1, .iload_n 2) :: (2, .if_icmp .le 12) :: (5, .iload_n 1) :: (6, .iload_n 0) :: (7, .if_icmp .ge 7) :: (10, .iload_n 1) :: (11, .goto 4) :: b_25_14
def b_26_100 : MCode := (100, .return_) :: []
def b_26_94 : MCode := (94, .iinc 2 1) :: (97, .goto (-52)) :: b_26_100
def b_26_45 : MCode := (45, .iload_n 2) :: (46, .aload_n 0) :: (47, .getfield 31) :: (50, .getfield 79) :: (53, .if_icmp .ge 47) :: (56, .aload_n 0) :: (57, .getfield 11) :: (60, .iload_n 2) :: (61, .aaload) :: (62, .getfield 104) :: (65, .iload_n 1) :: (66, .if_icmp .gt 28) :: (69, .aload_n 0) :: (70, .aload_n 0) :: (71, .getfield 11) :: (74, .iload_n 2) :: (75, .aaload) :: (76, .iload_n 1) :: (77, .invokevirtual 118) :: (80, .ifCond .eq 14) :: (83, .aload_n 0) :: (84, .aload_n 0) :: (85, .getfield 11) :: (88, .iload_n 2) :: (89, .aaload) :: (90, .iload_n 1) :: (91, .invokevirtual 122) :: b_26_94
def b_26_43 : MCode := (43, .iconst 0) :: (44, .istore_n 2) :: b_26_45
def b_26_37 : MCode := (37, .iinc 2 1) :: (40, .goto (-38)) :: b_26_43
def b_26_2 : MCode := (2, .iload_n 2) :: (3, .aload_n 0) :: (4, .getfield 31) :: (7, .getfield 79) :: (10, .if_icmp .ge 33) :: (13, .aload_n 0) :: (14, .getfield 11) :: (17, .iload_n 2) :: (18, .aaload) :: (19, .getfield 97) :: (22, .iload_n 1) :: (23, .if_icmp .ne 14) :: (26, .aload_n 0) :: (27, .aload_n 0) :: (28, .getfield 11) :: (31, .iload_n 2) :: (32, .aaload) :: (33, .iload_n 1) :: (34, .invokevirtual 114) :: b_26_37
def b_26_0 : MCode := (0, .iconst 0) :: (1, .istore_n 2) :: b_26_2
def b_27_107 : MCode := (107, .return_) :: []
def b_27_84 : MCode := (84, .aload_n 1) :: (85, .iload 4) :: (87, .putfield 140) :: (90, .aload_n 1) :: (91, .invokevirtual 83) :: (94, .ifCond .eq 13) :: (97, .aload_n 0) :: (98, .dup) :: (99, .getfield 55) :: (102, .iconst 1) :: (103, .isub) :: (104, .putfield 55) :: b_27_107
def b_27_78 : MCode := (78, .iinc 5 1) :: (81, .goto (-49)) :: b_27_84
def b_27_32 : MCode := (32, .iload 5) :: (34, .aload_n 1) :: (35, .getfield 140) :: (38, .if_icmp .ge 46) :: (41, .aload_n 1) :: (42, .getfield 143) :: (45, .iload 5) :: (47, .iaload) :: (48, .istore 6) :: (50, .aload_n 0) :: (51, .getfield 19) :: (54, .iload 6) :: (56, .aaload) :: (57, .aload_n 1) :: (58, .iload_n 3) :: (59, .iload_n 2) :: (60, .invokestatic 146) :: (63, .ifCond .ne 15) :: (66, .aload_n 1) :: (67, .getfield 143) :: (70, .iload 4) :: (72, .iload 6) :: (74, .iastore) :: (75, .iinc 4 1) :: b_27_78
def b_27_8 : MCode := (8, .aload_n 1) :: (9, .iload_n 2) :: (10, .invokevirtual 125) :: (13, .aload_n 1) :: (14, .getfield 128) :: (17, .getfield 132) :: (20, .aload_n 1) :: (21, .getfield 137) :: (24, .iaload) :: (25, .istore_n 3) :: (26, .iconst 0) :: (27, .istore 4) :: (29, .iconst 0) :: (30, .istore 5) :: b_27_32
def b_27_0 : MCode := (0, .aload_n 1) :: (1, .invokevirtual 83) :: (4, .ifCond .eq 4) :: (7, .return_) :: b_27_8
def b_28_65 : MCode := (65, .iconst 1) :: (66, .ireturn) :: []
def b_28_44 : MCode := (44, .aload_n 0) :: (45, .iload_n 2) :: (46, .iload_n 3) :: (47, .invokevirtual 165) :: (50, .iload 4) :: (52, .ifCond .eq 13) :: (55, .aload_n 0) :: (56, .dup) :: (57, .getfield 162) :: (60, .iconst 1) :: (61, .iadd) :: (62, .putfield 162) :: b_28_65
def b_28_28 : MCode := (28, .istore 4) :: (30, .iload 4) :: (32, .ifCond .ne 12) :: (35, .aload_n 1) :: (36, .invokevirtual 83) :: (39, .ifCond .ne 5) :: (42, .iconst 0) :: (43, .ireturn) :: b_28_44
def b_28_27 : MCode := (27, .iconst 0) :: b_28_28
def b_28_0 : MCode := (0, .aload_n 0) :: (1, .invokevirtual 150) :: (4, .ifCond .eq 23) :: (7, .aload_n 0) :: (8, .getfield 153) :: (11, .getfield 157) :: (14, .aload_n 0) :: (15, .getfield 162) :: (18, .iaload) :: (19, .iload_n 2) :: (20, .if_icmp .ne 7) :: (23, .iconst 1) :: (24, .goto 4) :: b_28_27
def b_29_65 : MCode := (65, .iconst 1) :: (66, .ireturn) :: []
def b_29_59 : MCode := (59, .iinc 4 1) :: (62, .goto (-36)) :: b_29_65
def b_29_26 : MCode := (26, .iload 4) :: (28, .aload_n 0) :: (29, .getfield 31) :: (32, .getfield 72) :: (35, .if_icmp .ge 30) :: (38, .aload_n 0) :: (39, .getfield 19) :: (42, .iload 4) :: (44, .aaload) :: (45, .aload_n 1) :: (46, .getfield 169) :: (49, .iload_n 3) :: (50, .iload_n 2) :: (51, .invokevirtual 172) :: (54, .ifCond .eq 5) :: (57, .iconst 0) :: (58, .ireturn) :: b_29_59
def b_29_10 : MCode := (10, .aload_n 1) :: (11, .getfield 128) :: (14, .getfield 132) :: (17, .aload_n 1) :: (18, .getfield 137) :: (21, .iaload) :: (22, .istore_n 3) :: (23, .iconst 0) :: (24, .istore 4) :: b_29_26
def b_29_0 : MCode := (0, .aload_n 1) :: (1, .invokevirtual 108) :: (4, .iload_n 2) :: (5, .if_icmp .gt 5) :: (8, .iconst 1) :: (9, .ireturn) :: b_29_10
def b_30_132 : MCode := (132, .istore 7) :: (134, .aload_n 1) :: (135, .iload_n 2) :: (136, .aload_n 1) :: (137, .getfield 128) :: (140, .getfield 208) :: (143, .iload_n 3) :: (144, .iaload) :: (145, .aload_n 1) :: (146, .getfield 128) :: (149, .getfield 211) :: (152, .iload_n 3) :: (153, .iaload) :: (154, .iadd) :: (155, .iload 7) :: (157, .iadd) :: (158, .invokevirtual 214) :: (161, .return_) :: []
def b_30_130 : MCode := (130, .bipush 15) :: b_30_132
def b_30_8 : MCode := (8, .aload_n 1) :: (9, .getfield 137) :: (12, .iconst 1) :: (13, .iadd) :: (14, .istore_n 3) :: (15, .aload_n 0) :: (16, .getfield 31) :: (19, .getfield 176) :: (22, .aload_n 1) :: (23, .getfield 128) :: (26, .getfield 132) :: (29, .aload_n 1) :: (30, .getfield 137) :: (33, .iaload) :: (34, .aaload) :: (35, .astore 4) :: (37, .aload_n 0) :: (38, .getfield 31) :: (41, .getfield 176) :: (44, .aload_n 1) :: (45, .getfield 128) :: (48, .getfield 132) :: (51, .iload_n 3) :: (52, .iaload) :: (53, .aaload) :: (54, .astore 5) :: (56, .aload_n 0) :: (57, .aload_n 1) :: (58, .aload 4) :: (60, .aload 5) :: (62, .iload_n 2) :: (63, .invokevirtual 180) :: (66, .aload_n 1) :: (67, .getfield 140) :: (70, .istore 6) :: (72, .aload_n 0) :: (73, .aload_n 1) :: (74, .aload 4) :: (76, .aload 5) :: (78, .iload_n 2) :: (79, .invokevirtual 184) :: (82, .aload_n 0) :: (83, .aload_n 1) :: (84, .iload_n 2) :: (85, .invokevirtual 187) :: (88, .aload_n 1) :: (89, .invokevirtual 190) :: (92, .aload_n 0) :: (93, .aload_n 1) :: (94, .iload 6) :: (96, .aload 5) :: (98, .getfield 193) :: (101, .aload_n 1) :: (102, .getfield 128) :: (105, .getfield 198) :: (108, .iload_n 3) :: (109, .iaload) :: (110, .invokevirtual 201) :: (113, .aload 4) :: (115, .getfield 205) :: (118, .aload 5) :: (120, .getfield 205) :: (123, .if_icmp .ne 7) :: (126, .iconst 0) :: (127, .goto 5) :: b_30_130
def b_30_0 : MCode := (0, .aload_n 1) :: (1, .invokevirtual 83) :: (4, .ifCond .eq 4) :: (7, .return_) :: b_30_8
def b_31_87 : MCode := (87, .aload_n 1) :: (88, .iload 5) :: (90, .putfield 140) :: (93, .return_) :: []
def b_31_81 : MCode := (81, .iinc 6 1) :: (84, .goto (-78)) :: b_31_87
def b_31_57 : MCode := (57, .aload_n 0) :: (58, .getfield 19) :: (61, .iload 7) :: (63, .aaload) :: (64, .aload_n 1) :: (65, .getfield 128) :: (68, .getfield 132) :: (71, .aload_n 1) :: (72, .getfield 137) :: (75, .iaload) :: (76, .iload 4) :: (78, .invokevirtual 165) :: b_31_81
def b_31_6 : MCode := (6, .iload 6) :: (8, .aload_n 1) :: (9, .getfield 140) :: (12, .if_icmp .ge 75) :: (15, .aload_n 1) :: (16, .getfield 143) :: (19, .iload 6) :: (21, .iaload) :: (22, .istore 7) :: (24, .aload_n 0) :: (25, .getfield 31) :: (28, .getfield 44) :: (31, .iload 7) :: (33, .aaload) :: (34, .aload_n 2) :: (35, .aload_n 3) :: (36, .invokevirtual 217) :: (39, .ifCond .eq 18) :: (42, .aload_n 1) :: (43, .getfield 143) :: (46, .iload 5) :: (48, .iload 7) :: (50, .iastore) :: (51, .iinc 5 1) :: (54, .goto 27) :: b_31_57
def b_31_0 : MCode := (0, .iconst 0) :: (1, .istore 5) :: (3, .iconst 0) :: (4, .istore 6) :: b_31_6
def b_32_105 : MCode := (105, .return_) :: []
def b_32_99 : MCode := (99, .iinc 6 1) :: (102, .goto (-85)) :: b_32_105
def b_32_17 : MCode := (17, .iload 6) :: (19, .aload_n 0) :: (20, .getfield 31) :: (23, .getfield 72) :: (26, .if_icmp .ge 79) :: (29, .aload_n 0) :: (30, .getfield 19) :: (33, .iload 6) :: (35, .aaload) :: (36, .astore 7) :: (38, .aload 7) :: (40, .iload 5) :: (42, .iload 4) :: (44, .invokevirtual 221) :: (47, .ifCond .eq 52) :: (50, .aload 7) :: (52, .invokevirtual 150) :: (55, .ifCond .eq 44) :: (58, .aload_n 0) :: (59, .getfield 31) :: (62, .getfield 44) :: (65, .iload 6) :: (67, .aaload) :: (68, .aload_n 2) :: (69, .aload_n 3) :: (70, .invokevirtual 217) :: (73, .ifCond .eq 26) :: (76, .aload_n 0) :: (77, .aload_n 1) :: (78, .aload 7) :: (80, .iload 5) :: (82, .invokevirtual 225) :: (85, .ifCond .eq 14) :: (88, .aload_n 1) :: (89, .iload 6) :: (91, .invokevirtual 229) :: (94, .aload 7) :: (96, .invokevirtual 232) :: b_32_99
def b_32_0 : MCode := (0, .aload_n 1) :: (1, .getfield 128) :: (4, .getfield 132) :: (7, .aload_n 1) :: (8, .getfield 137) :: (11, .iaload) :: (12, .istore 5) :: (14, .iconst 0) :: (15, .istore 6) :: b_32_17
def b_33_101 : MCode := (101, .ireturn) :: []
def b_33_100 : MCode := (100, .iconst 0) :: b_33_101
def b_33_96 : MCode := (96, .iconst 1) :: (97, .goto 4) :: b_33_100
def b_33_66 : MCode := (66, .aload 5) :: (68, .getfield 128) :: (71, .getfield 235) :: (74, .iload_n 3) :: (75, .iaload) :: (76, .istore 6) :: (78, .iload 6) :: (80, .iconst (-1)) :: (81, .if_icmp .eq 15) :: (84, .aload 5) :: (86, .getfield 241) :: (89, .iload 6) :: (91, .iaload) :: (92, .iconst (-1)) :: (93, .if_icmp .eq 7) :: b_33_96
def b_33_33 : MCode := (33, .aload_n 0) :: (34, .getfield 11) :: (37, .aload_n 2) :: (38, .getfield 153) :: (41, .getfield 238) :: (44, .aload_n 2) :: (45, .getfield 162) :: (48, .iaload) :: (49, .aaload) :: (50, .astore 5) :: (52, .aload 5) :: (54, .getfield 169) :: (57, .aload_n 1) :: (58, .getfield 169) :: (61, .if_icmp .ne 5) :: (64, .iconst 1) :: (65, .ireturn) :: b_33_66
def b_33_0 : MCode := (0, .aload_n 2) :: (1, .getfield 153) :: (4, .getfield 157) :: (7, .aload_n 2) :: (8, .getfield 162) :: (11, .iaload) :: (12, .istore 4) :: (14, .aload_n 1) :: (15, .getfield 128) :: (18, .getfield 235) :: (21, .iload 4) :: (23, .iaload) :: (24, .aload_n 1) :: (25, .getfield 137) :: (28, .if_icmp .gt 5) :: (31, .iconst 0) :: (32, .ireturn) :: b_33_33
def b_34_66 : MCode := (66, .return_) :: []
def b_34_12 : MCode := (12, .iload_n 3) :: (13, .ifCond .lt 53) :: (16, .aload_n 1) :: (17, .invokevirtual 248) :: (20, .ifCond .eq 46) :: (23, .aload_n 0) :: (24, .getfield 19) :: (27, .aload_n 1) :: (28, .getfield 143) :: (31, .iload_n 3) :: (32, .iaload) :: (33, .aaload) :: (34, .aload_n 1) :: (35, .getfield 128) :: (38, .getfield 132) :: (41, .aload_n 1) :: (42, .getfield 137) :: (45, .iaload) :: (46, .iload_n 2) :: (47, .invokevirtual 165) :: (50, .aload_n 1) :: (51, .iload_n 3) :: (52, .putfield 140) :: (55, .aload_n 0) :: (56, .aload_n 1) :: (57, .invokevirtual 244) :: (60, .iinc 3 (-1)) :: (63, .goto (-51)) :: b_34_66
def b_34_0 : MCode := (0, .aload_n 0) :: (1, .aload_n 1) :: (2, .invokevirtual 244) :: (5, .aload_n 1) :: (6, .getfield 140) :: (9, .iconst 1) :: (10, .isub) :: (11, .istore_n 3) :: b_34_12
def b_35_67 : MCode := (67, .return_) :: []
def b_35_12 : MCode := (12, .iload_n 2) :: (13, .aload_n 1) :: (14, .getfield 140) :: (17, .if_icmp .ge 50) :: (20, .aload_n 0) :: (21, .getfield 31) :: (24, .getfield 44) :: (27, .aload_n 1) :: (28, .getfield 143) :: (31, .iload_n 2) :: (32, .iaload) :: (33, .aaload) :: (34, .astore_n 3) :: (35, .aload_n 1) :: (36, .dup) :: (37, .getfield 251) :: (40, .aload_n 3) :: (41, .getfield 257) :: (44, .iadd) :: (45, .putfield 251) :: (48, .aload_n 1) :: (49, .dup) :: (50, .getfield 254) :: (53, .aload_n 3) :: (54, .getfield 258) :: (57, .iadd) :: (58, .putfield 254) :: (61, .iinc 2 1) :: (64, .goto (-52)) :: b_35_67
def b_35_0 : MCode := (0, .aload_n 1) :: (1, .iconst 0) :: (2, .putfield 251) :: (5, .aload_n 1) :: (6, .iconst 0) :: (7, .putfield 254) :: (10, .iconst 0) :: (11, .istore_n 2) :: b_35_12
def b_36_86 : MCode := (86, .return_) :: []
def b_36_80 : MCode := (80, .iinc 5 1) :: (83, .goto (-80)) :: b_36_86
def b_36_43 : MCode := (43, .aload 6) :: (45, .getfield 153) :: (48, .getfield 262) :: (51, .iload_n 3) :: (52, .if_icmp .eq 28) :: (55, .aload_n 0) :: (56, .getfield 23) :: (59, .bipush 6) :: (61, .aload 6) :: (63, .getfield 153) :: (66, .getfield 262) :: (69, .imul) :: (70, .iload_n 3) :: (71, .iadd) :: (72, .dup2) :: (73, .iaload) :: (74, .iconst 4) :: (75, .iload 4) :: (77, .imul) :: (78, .iadd) :: (79, .iastore) :: b_36_80
def b_36_3 : MCode := (3, .iload 5) :: (5, .aload_n 1) :: (6, .getfield 140) :: (9, .if_icmp .ge 77) :: (12, .aload_n 0) :: (13, .getfield 19) :: (16, .aload_n 1) :: (17, .getfield 143) :: (20, .iload 5) :: (22, .iaload) :: (23, .aaload) :: (24, .astore 6) :: (26, .iload 5) :: (28, .iload_n 2) :: (29, .if_icmp .lt 14) :: (32, .aload 6) :: (34, .dup) :: (35, .getfield 259) :: (38, .iconst 1) :: (39, .iadd) :: (40, .putfield 259) :: b_36_43
def b_36_0 : MCode := (0, .iconst 0) :: (1, .istore 5) :: b_36_3
def b_37_0 : MCode := (0, .aload_n 0) :: (1, .invokespecial 3) :: (4, .aload_n 0) :: (5, .iconst (-1)) :: (6, .putfield 9) :: (9, .aload_n 0) :: (10, .iconst (-1)) :: (11, .putfield 15) :: (14, .aload_n 0) :: (15, .iconst (-1)) :: (16, .putfield 18) :: (19, .aload_n 0) :: (20, .iconst 0) :: (21, .putfield 21) :: (24, .aload_n 0) :: (25, .iload_n 1) :: (26, .putfield 24) :: (29, .return_) :: []
def b_38_133 : MCode := (133, .return_) :: []
def b_38_107 : MCode := (107, .iload_n 1) :: (108, .bipush 10) :: (110, .if_icmp .ge 23) :: (113, .aload_n 0) :: (114, .getfield 32) :: (117, .iload_n 1) :: (118, .new 30) :: (121, .dup) :: (122, .iload_n 1) :: (123, .invokespecial 44) :: (126, .aastore) :: (127, .iinc 1 1) :: (130, .goto (-23)) :: b_38_133
def b_38_105 : MCode := (105, .iconst 0) :: (106, .istore_n 1) :: b_38_107
def b_38_80 : MCode := (80, .iload_n 1) :: (81, .bipush 6) :: (83, .if_icmp .ge 22) :: (86, .aload_n 0) :: (87, .getfield 23) :: (90, .iload_n 1) :: (91, .new 21) :: (94, .dup) :: (95, .invokespecial 43) :: (98, .aastore) :: (99, .iinc 1 1) :: (102, .goto (-22)) :: b_38_105
def b_38_78 : MCode := (78, .iconst 0) :: (79, .istore_n 1) :: b_38_80
def b_38_53 : MCode := (53, .iload_n 1) :: (54, .bipush 10) :: (56, .if_icmp .ge 22) :: (59, .aload_n 0) :: (60, .getfield 11) :: (63, .iload_n 1) :: (64, .new 9) :: (67, .dup) :: (68, .invokespecial 42) :: (71, .aastore) :: (72, .iinc 1 1) :: (75, .goto (-22)) :: b_38_78
def b_38_0 : MCode := (0, .aload_n 0) :: (1, .invokespecial 3) :: (4, .aload_n 0) :: (5, .bipush 10) :: (7, .anewarray 9) :: (10, .putfield 11) :: (13, .aload_n 0) :: (14, .iconst 0) :: (15, .putfield 17) :: (18, .aload_n 0) :: (19, .bipush 6) :: (21, .anewarray 21) :: (24, .putfield 23) :: (27, .aload_n 0) :: (28, .iconst 0) :: (29, .putfield 27) :: (32, .aload_n 0) :: (33, .bipush 10) :: (35, .anewarray 30) :: (38, .putfield 32) :: (41, .aload_n 0) :: (42, .iconst 0) :: (43, .putfield 36) :: (46, .aload_n 0) :: (47, .iconst 0) :: (48, .putfield 39) :: (51, .iconst 0) :: (52, .istore_n 1) :: b_38_53
def b_39_0 : MCode := (0, .aload_n 0) :: (1, .getfield 17) :: (4, .istore_n 3) :: (5, .aload_n 0) :: (6, .getfield 11) :: (9, .iload_n 3) :: (10, .aaload) :: (11, .iload_n 1) :: (12, .putfield 47) :: (15, .aload_n 0) :: (16, .getfield 11) :: (19, .iload_n 3) :: (20, .aaload) :: (21, .iload_n 2) :: (22, .putfield 50) :: (25, .aload_n 0) :: (26, .iload_n 3) :: (27, .iconst 1) :: (28, .iadd) :: (29, .putfield 17) :: (32, .aload_n 0) :: (33, .dup) :: (34, .getfield 39) :: (37, .iconst 1) :: (38, .iadd) :: (39, .putfield 39) :: (42, .iload_n 3) :: (43, .ireturn) :: []
def b_40_0 : MCode := (0, .aload_n 0) :: (1, .getfield 27) :: (4, .istore 4) :: (6, .aload_n 0) :: (7, .getfield 23) :: (10, .iload 4) :: (12, .aaload) :: (13, .astore 5) :: (15, .aload 5) :: (17, .iload_n 3) :: (18, .putfield 53) :: (21, .aload 5) :: (23, .getfield 56) :: (26, .iconst 0) :: (27, .iload_n 1) :: (28, .iastore) :: (29, .aload 5) :: (31, .getfield 60) :: (34, .iconst 0) :: (35, .iload_n 2) :: (36, .iastore) :: (37, .aload 5) :: (39, .getfield 63) :: (42, .iload_n 1) :: (43, .iconst 0) :: (44, .iastore) :: (45, .aload 5) :: (47, .iconst 1) :: (48, .putfield 66) :: (51, .aload_n 0) :: (52, .iload 4) :: (54, .iconst 1) :: (55, .iadd) :: (56, .putfield 27) :: (59, .aload_n 0) :: (60, .dup) :: (61, .getfield 39) :: (64, .iconst 1) :: (65, .iadd) :: (66, .putfield 39) :: (69, .iload 4) :: (71, .ireturn) :: []
def b_41_0 : MCode := (0, .aload_n 0) :: (1, .getfield 32) :: (4, .aload_n 0) :: (5, .getfield 36) :: (8, .aaload) :: (9, .astore_n 1) :: (10, .aload_n 0) :: (11, .dup) :: (12, .getfield 36) :: (15, .iconst 1) :: (16, .iadd) :: (17, .putfield 36) :: (20, .aload_n 0) :: (21, .dup) :: (22, .getfield 39) :: (25, .iconst 1) :: (26, .iadd) :: (27, .putfield 39) :: (30, .aload_n 1) :: (31, .areturn) :: []
def b_42_0 : MCode := (0, .aload_n 0) :: (1, .invokespecial 3) :: (4, .aload_n 0) :: (5, .bipush 10) :: (7, .newarray .int) :: (9, .putfield 9) :: (12, .aload_n 0) :: (13, .bipush 6) :: (15, .newarray .int) :: (17, .putfield 15) :: (20, .aload_n 0) :: (21, .bipush 6) :: (23, .newarray .int) :: (25, .putfield 18) :: (28, .aload_n 0) :: (29, .bipush 60) :: (31, .newarray .int) :: (33, .putfield 21) :: (36, .aload_n 0) :: (37, .bipush 6) :: (39, .newarray .float) :: (41, .putfield 24) :: (44, .aload_n 0) :: (45, .iload_n 1) :: (46, .putfield 28) :: (49, .aload_n 0) :: (50, .aload_n 2) :: (51, .putfield 32) :: (54, .return_) :: []
def b_43_44 : MCode := (44, .putfield 56) :: (47, .aload_n 0) :: (48, .iconst 0) :: (49, .putfield 59) :: (52, .aload_n 0) :: (53, .getfield 15) :: (56, .iconst (-1)) :: (57, .invokestatic 62) :: (60, .aload_n 0) :: (61, .getfield 15) :: (64, .iconst 0) :: (65, .iconst 0) :: (66, .iastore) :: (67, .aload_n 0) :: (68, .getfield 18) :: (71, .iconst (-1)) :: (72, .invokestatic 62) :: (75, .aload_n 0) :: (76, .getfield 21) :: (79, .iconst (-1)) :: (80, .invokestatic 62) :: (83, .aload_n 0) :: (84, .getfield 24) :: (87, .fconst 0) :: (88, .invokestatic 68) :: (91, .return_) :: []
def b_43_35 : MCode := (35, .aload_n 0) :: (36, .getfield 32) :: (39, .getfield 53) :: (42, .iconst 0) :: (43, .iaload) :: b_43_44
def b_43_0 : MCode := (0, .aload_n 0) :: (1, .aload_n 0) :: (2, .getfield 32) :: (5, .getfield 36) :: (8, .putfield 41) :: (11, .aload_n 0) :: (12, .iconst 0) :: (13, .putfield 42) :: (16, .aload_n 0) :: (17, .ldc 45) :: (19, .putfield 46) :: (22, .aload_n 0) :: (23, .aload_n 0) :: (24, .invokevirtual 49) :: (27, .ifCond .eq 8) :: (30, .ldc 45) :: (32, .goto 12) :: b_43_35
def b_44_21 : MCode := (21, .ireturn) :: []
def b_44_20 : MCode := (20, .iconst 0) :: b_44_21
def b_44_0 : MCode := (0, .aload_n 0) :: (1, .getfield 42) :: (4, .iconst 1) :: (5, .iadd) :: (6, .aload_n 0) :: (7, .getfield 32) :: (10, .getfield 71) :: (13, .if_icmp .lt 7) :: (16, .iconst 1) :: (17, .goto 4) :: b_44_20
def b_45_0 : MCode := (0, .aload_n 0) :: (1, .getfield 32) :: (4, .getfield 53) :: (7, .aload_n 0) :: (8, .getfield 42) :: (11, .iaload) :: (12, .aload_n 0) :: (13, .getfield 41) :: (16, .iadd) :: (17, .ireturn) :: []
def b_46_29 : MCode := (29, .return_) :: []
def b_46_0 : MCode := (0, .aload_n 0) :: (1, .getfield 59) :: (4, .bipush 10) :: (6, .if_icmp .ge 23) :: (9, .aload_n 0) :: (10, .getfield 9) :: (13, .aload_n 0) :: (14, .getfield 59) :: (17, .iload_n 1) :: (18, .iastore) :: (19, .aload_n 0) :: (20, .dup) :: (21, .getfield 59) :: (24, .iconst 1) :: (25, .iadd) :: (26, .putfield 59) :: b_46_29
def b_47_42 : MCode := (42, .ireturn) :: []
def b_47_41 : MCode := (41, .iconst 0) :: b_47_42
def b_47_37 : MCode := (37, .iconst 1) :: (38, .goto 4) :: b_47_41
def b_47_0 : MCode := (0, .aload_n 0) :: (1, .getfield 74) :: (4, .aload_n 0) :: (5, .getfield 32) :: (8, .getfield 77) :: (11, .if_icmp .gt 26) :: (14, .bipush 100) :: (16, .aload_n 0) :: (17, .getfield 80) :: (20, .bipush 60) :: (22, .iadd) :: (23, .imul) :: (24, .bipush 65) :: (26, .aload_n 0) :: (27, .getfield 74) :: (30, .bipush 80) :: (32, .iadd) :: (33, .imul) :: (34, .if_icmp .ge 7) :: b_47_37
def b_48_79 : MCode := (79, .return_) :: []
def b_48_45 : MCode := (45, .iload_n 3) :: (46, .aload_n 0) :: (47, .getfield 59) :: (50, .if_icmp .ge 29) :: (53, .aload_n 0) :: (54, .getfield 21) :: (57, .bipush 10) :: (59, .aload_n 0) :: (60, .getfield 42) :: (63, .imul) :: (64, .iload_n 3) :: (65, .iadd) :: (66, .aload_n 0) :: (67, .getfield 9) :: (70, .iload_n 3) :: (71, .iaload) :: (72, .iastore) :: (73, .iinc 3 1) :: (76, .goto (-31)) :: b_48_79
def b_48_42 : MCode := (42, .fastore) :: (43, .iconst 0) :: (44, .istore_n 3) :: b_48_45
def b_48_41 : MCode := (41, .fconst 0) :: b_48_42
def b_48_0 : MCode := (0, .aload_n 0) :: (1, .getfield 80) :: (4, .bipush 60) :: (6, .iadd) :: (7, .i2f) :: (8, .fstore_n 1) :: (9, .aload_n 0) :: (10, .getfield 74) :: (13, .bipush 80) :: (15, .iadd) :: (16, .i2f) :: (17, .fstore_n 2) :: (18, .aload_n 0) :: (19, .getfield 24) :: (22, .aload_n 0) :: (23, .getfield 42) :: (26, .fload_n 2) :: (27, .fconst 0) :: (28, .fcmp .l) :: (29, .ifCond .le 12) :: (32, .ldc 83) :: (34, .fload_n 1) :: (35, .fload_n 2) :: (36, .fdiv) :: (37, .fmul) :: (38, .goto 4) :: b_48_41
def b_49_0 : MCode := (0, .aload_n 0) :: (1, .getfield 18) :: (4, .aload_n 0) :: (5, .getfield 42) :: (8, .iload_n 1) :: (9, .iastore) :: (10, .aload_n 0) :: (11, .iload_n 1) :: (12, .iload_n 2) :: (13, .iadd) :: (14, .putfield 46) :: (17, .aload_n 0) :: (18, .ldc 45) :: (20, .putfield 56) :: (23, .return_) :: []
def b_50_68 : MCode := (68, .putfield 56) :: (71, .return_) :: []
def b_50_39 : MCode := (39, .aload_n 0) :: (40, .getfield 32) :: (43, .getfield 53) :: (46, .aload_n 0) :: (47, .getfield 42) :: (50, .iaload) :: (51, .iload_n 1) :: (52, .aload_n 0) :: (53, .getfield 32) :: (56, .getfield 84) :: (59, .aload_n 0) :: (60, .getfield 42) :: (63, .iaload) :: (64, .iadd) :: (65, .invokestatic 87) :: b_50_68
def b_50_0 : MCode := (0, .aload_n 0) :: (1, .dup) :: (2, .getfield 42) :: (5, .iconst 1) :: (6, .iadd) :: (7, .putfield 42) :: (10, .aload_n 0) :: (11, .getfield 15) :: (14, .aload_n 0) :: (15, .getfield 42) :: (18, .iload_n 1) :: (19, .iastore) :: (20, .aload_n 0) :: (21, .ldc 45) :: (23, .putfield 46) :: (26, .aload_n 0) :: (27, .aload_n 0) :: (28, .invokevirtual 49) :: (31, .ifCond .eq 8) :: (34, .ldc 45) :: (36, .goto 32) :: b_50_39
def b_51_0 : MCode := (0, .aload_n 0) :: (1, .invokespecial 1) :: (4, .return_) :: []
def b_52_0 : MCode := (0, .aload_n 0) :: (1, .invokespecial 3) :: (4, .aload_n 0) :: (5, .iconst 0) :: (6, .putfield 9) :: (9, .aload_n 0) :: (10, .iconst 0) :: (11, .putfield 15) :: (14, .aload_n 0) :: (15, .bipush 6) :: (17, .newarray .int) :: (19, .putfield 18) :: (22, .aload_n 0) :: (23, .bipush 6) :: (25, .newarray .int) :: (27, .putfield 22) :: (30, .aload_n 0) :: (31, .bipush 6) :: (33, .newarray .int) :: (35, .putfield 25) :: (38, .aload_n 0) :: (39, .bipush 6) :: (41, .newarray .int) :: (43, .putfield 28) :: (46, .aload_n 0) :: (47, .bipush 6) :: (49, .newarray .int) :: (51, .putfield 31) :: (54, .aload_n 0) :: (55, .bipush 6) :: (57, .newarray .int) :: (59, .putfield 34) :: (62, .aload_n 0) :: (63, .bipush 10) :: (65, .newarray .int) :: (67, .putfield 37) :: (70, .aload_n 0) :: (71, .getfield 37) :: (74, .iconst (-1)) :: (75, .invokestatic 40) :: (78, .return_) :: []
def b_53_0 : MCode := (0, .aload_n 0) :: (1, .getfield 9) :: (4, .istore 5) :: (6, .aload_n 0) :: (7, .getfield 18) :: (10, .iload 5) :: (12, .iload_n 1) :: (13, .iastore) :: (14, .aload_n 0) :: (15, .getfield 25) :: (18, .iload 5) :: (20, .iload_n 2) :: (21, .iastore) :: (22, .aload_n 0) :: (23, .getfield 31) :: (26, .iload 5) :: (28, .iload_n 3) :: (29, .iastore) :: (30, .aload_n 0) :: (31, .getfield 34) :: (34, .iload 5) :: (36, .iload 4) :: (38, .iastore) :: (39, .aload_n 0) :: (40, .getfield 22) :: (43, .iload 5) :: (45, .aload_n 0) :: (46, .getfield 22) :: (49, .iload 5) :: (51, .iconst 1) :: (52, .isub) :: (53, .iaload) :: (54, .iload_n 2) :: (55, .iadd) :: (56, .iload 4) :: (58, .iadd) :: (59, .iastore) :: (60, .aload_n 0) :: (61, .getfield 37) :: (64, .iload_n 1) :: (65, .iload 5) :: (67, .iastore) :: (68, .aload_n 0) :: (69, .iload 5) :: (71, .iconst 1) :: (72, .iadd) :: (73, .putfield 9) :: (76, .iload 5) :: (78, .ireturn) :: []
def b_54_30 : MCode := (30, .ireturn) :: []
def b_54_29 : MCode := (29, .iconst 0) :: b_54_30
def b_54_0 : MCode := (0, .aload_n 0) :: (1, .getfield 37) :: (4, .iload_n 1) :: (5, .iaload) :: (6, .iconst (-1)) :: (7, .if_icmp .eq 22) :: (10, .aload_n 0) :: (11, .getfield 37) :: (14, .iload_n 2) :: (15, .iaload) :: (16, .aload_n 0) :: (17, .getfield 37) :: (20, .iload_n 1) :: (21, .iaload) :: (22, .if_icmp .le 7) :: (25, .iconst 1) :: (26, .goto 4) :: b_54_29
def b_55_0 : MCode := (0, .aload_n 0) :: (1, .invokespecial 3) :: (4, .aload_n 0) :: (5, .aload_n 1) :: (6, .putfield 9) :: (9, .return_) :: []
def b_56_0 : MCode := (0, .aload_n 0) :: (1, .aload_n 0) :: (2, .getfield 9) :: (5, .getfield 15) :: (8, .putfield 21) :: (11, .aload_n 0) :: (12, .iconst 0) :: (13, .putfield 22) :: (16, .aload_n 0) :: (17, .iconst 0) :: (18, .putfield 25) :: (21, .aload_n 0) :: (22, .iconst 0) :: (23, .putfield 28) :: (26, .return_) :: []
def b_57_29 : MCode := (29, .ireturn) :: []
def b_57_28 : MCode := (28, .iconst 0) :: b_57_29
def b_57_0 : MCode := (0, .aload_n 0) :: (1, .getfield 9) :: (4, .getfield 31) :: (7, .ifCond .ne 21) :: (10, .aload_n 0) :: (11, .getfield 25) :: (14, .aload_n 0) :: (15, .getfield 9) :: (18, .getfield 35) :: (21, .if_icmp .ge 7) :: (24, .iconst 1) :: (25, .goto 4) :: b_57_28
def b_58_29 : MCode := (29, .ireturn) :: []
def b_58_28 : MCode := (28, .iconst 0) :: b_58_29
def b_58_0 : MCode := (0, .aload_n 0) :: (1, .getfield 9) :: (4, .getfield 35) :: (7, .ifCond .le 21) :: (10, .aload_n 0) :: (11, .getfield 25) :: (14, .aload_n 0) :: (15, .getfield 9) :: (18, .getfield 35) :: (21, .if_icmp .lt 7) :: (24, .iconst 1) :: (25, .goto 4) :: b_58_28
def b_59_21 : MCode := (21, .ireturn) :: []
def b_59_20 : MCode := (20, .iconst 0) :: b_59_21
def b_59_0 : MCode := (0, .aload_n 0) :: (1, .getfield 21) :: (4, .iload_n 1) :: (5, .if_icmp .ne 15) :: (8, .aload_n 0) :: (9, .getfield 22) :: (12, .iload_n 2) :: (13, .if_icmp .gt 7) :: (16, .iconst 1) :: (17, .goto 4) :: b_59_20
def b_60_84 : MCode := (84, .iconst 0) :: (85, .ireturn) :: []
def b_60_78 : MCode := (78, .iinc 4 1) :: (81, .goto (-63)) :: b_60_84
def b_60_76 : MCode := (76, .iconst 1) :: (77, .ireturn) :: b_60_78
def b_60_18 : MCode := (18, .iload 4) :: (20, .aload_n 0) :: (21, .getfield 9) :: (24, .getfield 35) :: (27, .if_icmp .ge 57) :: (30, .aload_n 0) :: (31, .getfield 9) :: (34, .getfield 38) :: (37, .iload 4) :: (39, .iaload) :: (40, .iload_n 1) :: (41, .if_icmp .ne 37) :: (44, .aload_n 0) :: (45, .getfield 9) :: (48, .getfield 42) :: (51, .iload 4) :: (53, .iaload) :: (54, .iload_n 2) :: (55, .if_icmp .ne 23) :: (58, .iload 4) :: (60, .aload_n 0) :: (61, .getfield 25) :: (64, .if_icmp .ne 12) :: (67, .aload_n 0) :: (68, .iload_n 2) :: (69, .iload_n 3) :: (70, .invokevirtual 45) :: (73, .ifCond .ne 5) :: b_60_76
def b_60_12 : MCode := (12, .aload_n 0) :: (13, .getfield 25) :: (16, .istore 4) :: b_60_18
def b_60_0 : MCode := (0, .aload_n 0) :: (1, .getfield 9) :: (4, .getfield 31) :: (7, .ifCond .eq 5) :: (10, .iconst 0) :: (11, .ireturn) :: b_60_12
def b_61_0 : MCode := (0, .aload_n 0) :: (1, .iload_n 1) :: (2, .putfield 21) :: (5, .aload_n 0) :: (6, .iload_n 2) :: (7, .bipush 10) :: (9, .iadd) :: (10, .putfield 22) :: (13, .return_) :: []
def b_62_0 : MCode := (0, .aload_n 0) :: (1, .iconst (-1)) :: (2, .putfield 21) :: (5, .aload_n 0) :: (6, .iconst (-1)) :: (7, .putfield 22) :: (10, .return_) :: []
def b_63_0 : MCode := (0, .aload_n 0) :: (1, .invokespecial 1) :: (4, .aload_n 0) :: (5, .new 7) :: (8, .dup) :: (9, .invokespecial 9) :: (12, .putfield 10) :: (15, .aload_n 0) :: (16, .new 16) :: (19, .dup) :: (20, .aload_n 0) :: (21, .getfield 10) :: (24, .invokespecial 18) :: (27, .putfield 21) :: (30, .aload_n 0) :: (31, .new 16) :: (34, .dup) :: (35, .aload_n 0) :: (36, .getfield 10) :: (39, .invokespecial 18) :: (42, .putfield 25) :: (45, .aload_n 0) :: (46, .new 16) :: (49, .dup) :: (50, .aload_n 0) :: (51, .getfield 10) :: (54, .invokespecial 18) :: (57, .putfield 28) :: (60, .aload_n 0) :: (61, .new 31) :: (64, .dup) :: (65, .invokespecial 33) :: (68, .putfield 34) :: (71, .return_) :: []
def b_64_34 : MCode := (34, .aload_n 0) :: (35, .getfield 10) :: (38, .iload_n 1) :: (39, .iload_n 2) :: (40, .invokevirtual 53) :: (43, .ireturn) :: []
def b_64_0 : MCode := (0, .iload_n 1) :: (1, .iconst 0) :: (2, .iconst 5) :: (3, .invokestatic 38) :: (6, .iload_n 2) :: (7, .iconst 0) :: (8, .iconst 1) :: (9, .invokestatic 38) :: (12, .aload_n 0) :: (13, .getfield 10) :: (16, .getfield 42) :: (19, .bipush 10) :: (21, .if_icmp .lt 13) :: (24, .new 46) :: (27, .dup) :: (28, .ldc 48) :: (30, .invokespecial 50) :: (33, .athrow) :: b_64_34
def b_65_43 : MCode := (43, .aload_n 0) :: (44, .getfield 10) :: (47, .iload_n 1) :: (48, .iload_n 2) :: (49, .iload_n 3) :: (50, .invokevirtual 66) :: (53, .ireturn) :: []
def b_65_0 : MCode := (0, .aload_n 0) :: (1, .iload_n 1) :: (2, .invokevirtual 57) :: (5, .iload_n 2) :: (6, .iconst 0) :: (7, .sipush 1439) :: (10, .invokestatic 38) :: (13, .iload_n 3) :: (14, .iconst 0) :: (15, .sipush 1000) :: (18, .invokestatic 38) :: (21, .aload_n 0) :: (22, .getfield 10) :: (25, .getfield 61) :: (28, .bipush 6) :: (30, .if_icmp .lt 13) :: (33, .new 46) :: (36, .dup) :: (37, .ldc 64) :: (39, .invokespecial 50) :: (42, .athrow) :: b_65_43
def b_66_86 : MCode := (86, .aload_n 0) :: (87, .getfield 10) :: (90, .dup) :: (91, .getfield 88) :: (94, .iconst 1) :: (95, .iadd) :: (96, .putfield 88) :: (99, .aload 6) :: (101, .iload_n 2) :: (102, .iload_n 3) :: (103, .iload 4) :: (105, .iload 5) :: (107, .invokevirtual 91) :: (110, .ireturn) :: []
def b_66_76 : MCode := (76, .new 46) :: (79, .dup) :: (80, .ldc 86) :: (82, .invokespecial 50) :: (85, .athrow) :: b_66_86
def b_66_0 : MCode := (0, .aload_n 0) :: (1, .iload_n 1) :: (2, .invokevirtual 70) :: (5, .aload_n 0) :: (6, .iload_n 2) :: (7, .invokevirtual 57) :: (10, .iload_n 3) :: (11, .iconst 1) :: (12, .sipush 300) :: (15, .invokestatic 38) :: (18, .iload 4) :: (20, .iconst 1) :: (21, .sipush 500) :: (24, .invokestatic 38) :: (27, .iload 5) :: (29, .iconst 0) :: (30, .bipush 60) :: (32, .invokestatic 38) :: (35, .aload_n 0) :: (36, .getfield 10) :: (39, .getfield 73) :: (42, .iload_n 1) :: (43, .aaload) :: (44, .astore 6) :: (46, .aload 6) :: (48, .getfield 77) :: (51, .iload_n 2) :: (52, .iaload) :: (53, .iconst (-1)) :: (54, .if_icmp .ne 22) :: (57, .aload 6) :: (59, .getfield 83) :: (62, .iconst 1) :: (63, .if_icmp .lt 13) :: (66, .aload 6) :: (68, .getfield 83) :: (71, .bipush 6) :: (73, .if_icmp .lt 13) :: b_66_76
def b_67_0 : MCode := (0, .aload_n 0) :: (1, .iload_n 1) :: (2, .invokevirtual 70) :: (5, .iload_n 2) :: (6, .iconst 0) :: (7, .sipush 180) :: (10, .invokestatic 38) :: (13, .aload_n 0) :: (14, .getfield 10) :: (17, .getfield 73) :: (20, .iload_n 1) :: (21, .aaload) :: (22, .astore_n 3) :: (23, .aload_n 3) :: (24, .getfield 95) :: (27, .istore 4) :: (29, .aload_n 3) :: (30, .iload_n 2) :: (31, .putfield 95) :: (34, .aload_n 0) :: (35, .getfield 10) :: (38, .dup) :: (39, .getfield 88) :: (42, .iconst 1) :: (43, .iadd) :: (44, .putfield 88) :: (47, .iload 4) :: (49, .ireturn) :: []
def b_68_20 : MCode := (20, .iload_n 3) :: (21, .iconst 0) :: (22, .sipush 300) :: (25, .invokestatic 38) :: (28, .aload_n 0) :: (29, .getfield 10) :: (32, .getfield 73) :: (35, .iload_n 1) :: (36, .aaload) :: (37, .astore 4) :: (39, .aload 4) :: (41, .getfield 107) :: (44, .iload_n 2) :: (45, .iaload) :: (46, .istore 5) :: (48, .aload 4) :: (50, .getfield 107) :: (53, .iload_n 2) :: (54, .iload_n 3) :: (55, .iastore) :: (56, .aload_n 0) :: (57, .getfield 10) :: (60, .dup) :: (61, .getfield 88) :: (64, .iconst 1) :: (65, .iadd) :: (66, .putfield 88) :: (69, .iload 5) :: (71, .ireturn) :: []
def b_68_0 : MCode := (0, .aload_n 0) :: (1, .iload_n 1) :: (2, .iload_n 2) :: (3, .invokevirtual 98) :: (6, .iload_n 2) :: (7, .ifCond .ne 13) :: (10, .new 102) :: (13, .dup) :: (14, .ldc 104) :: (16, .invokespecial 106) :: (19, .athrow) :: b_68_20
def b_69_64 : MCode := (64, .aload_n 0) :: (65, .getfield 10) :: (68, .invokevirtual 115) :: (71, .astore 8) :: (73, .aload 8) :: (75, .iload_n 1) :: (76, .putfield 119) :: (79, .aload 8) :: (81, .iload_n 2) :: (82, .putfield 124) :: (85, .aload 8) :: (87, .iload_n 3) :: (88, .putfield 127) :: (91, .aload 8) :: (93, .iload 4) :: (95, .putfield 130) :: (98, .aload 8) :: (100, .iload 5) :: (102, .putfield 133) :: (105, .aload 8) :: (107, .iload 6) :: (109, .putfield 136) :: (112, .aload 8) :: (114, .iload 7) :: (116, .putfield 139) :: (119, .aload 8) :: (121, .getfield 143) :: (124, .ireturn) :: []
def b_69_0 : MCode := (0, .aload_n 0) :: (1, .iload_n 1) :: (2, .invokevirtual 57) :: (5, .iload_n 2) :: (6, .iconst 0) :: (7, .iconst 5) :: (8, .invokestatic 38) :: (11, .iload_n 3) :: (12, .iconst 0) :: (13, .iconst 2) :: (14, .invokestatic 38) :: (17, .iload 4) :: (19, .bipush 20) :: (21, .bipush 60) :: (23, .invokestatic 38) :: (26, .iload 5) :: (28, .iconst 0) :: (29, .bipush 80) :: (31, .invokestatic 38) :: (34, .iload 6) :: (36, .iconst 0) :: (37, .bipush 63) :: (39, .invokestatic 38) :: (42, .aload_n 0) :: (43, .getfield 10) :: (46, .getfield 110) :: (49, .bipush 10) :: (51, .if_icmp .lt 13) :: (54, .new 46) :: (57, .dup) :: (58, .ldc 113) :: (60, .invokespecial 50) :: (63, .athrow) :: b_69_64
def b_70_88 : MCode := (88, .aload_n 0) :: (89, .getfield 10) :: (92, .dup) :: (93, .getfield 88) :: (96, .iconst 1) :: (97, .iadd) :: (98, .putfield 88) :: (101, .aload 4) :: (103, .iload_n 2) :: (104, .iload 5) :: (106, .iload_n 3) :: (107, .invokevirtual 171) :: (110, .ireturn) :: []
def b_70_53 : MCode := (53, .aload 4) :: (55, .invokevirtual 161) :: (58, .istore 5) :: (60, .aload_n 0) :: (61, .getfield 10) :: (64, .getfield 73) :: (67, .iload_n 2) :: (68, .aaload) :: (69, .iload 5) :: (71, .iload_n 3) :: (72, .invokevirtual 165) :: (75, .ifCond .ne 13) :: (78, .new 46) :: (81, .dup) :: (82, .ldc 169) :: (84, .invokespecial 50) :: (87, .athrow) :: b_70_88
def b_70_43 : MCode := (43, .new 46) :: (46, .dup) :: (47, .ldc 159) :: (49, .invokespecial 50) :: (52, .athrow) :: b_70_53
def b_70_0 : MCode := (0, .aload_n 0) :: (1, .iload_n 1) :: (2, .invokevirtual 146) :: (5, .aload_n 0) :: (6, .iload_n 2) :: (7, .invokevirtual 70) :: (10, .aload_n 0) :: (11, .iload_n 3) :: (12, .invokevirtual 57) :: (15, .aload_n 0) :: (16, .getfield 10) :: (19, .getfield 149) :: (22, .iload_n 1) :: (23, .aaload) :: (24, .astore 4) :: (26, .aload 4) :: (28, .getfield 153) :: (31, .iconst 3) :: (32, .if_icmp .ge 11) :: (35, .aload 4) :: (37, .getfield 156) :: (40, .ifCond .eq 13) :: b_70_43
def b_71_32 : MCode := (32, .aload_n 2) :: (33, .iconst 1) :: (34, .putfield 156) :: (37, .aload_n 0) :: (38, .getfield 10) :: (41, .dup) :: (42, .getfield 88) :: (45, .iconst 1) :: (46, .iadd) :: (47, .putfield 88) :: (50, .aload_n 0) :: (51, .aload_n 2) :: (52, .invokevirtual 176) :: (55, .ireturn) :: []
def b_71_0 : MCode := (0, .aload_n 0) :: (1, .iload_n 1) :: (2, .invokevirtual 146) :: (5, .aload_n 0) :: (6, .getfield 10) :: (9, .getfield 149) :: (12, .iload_n 1) :: (13, .aaload) :: (14, .astore_n 2) :: (15, .aload_n 2) :: (16, .getfield 156) :: (19, .ifCond .eq 13) :: (22, .new 46) :: (25, .dup) :: (26, .ldc 174) :: (28, .invokespecial 50) :: (31, .athrow) :: b_71_32
def b_72_86 : MCode := (86, .aload_n 0) :: (87, .getfield 34) :: (90, .invokevirtual 191) :: (93, .astore 6) :: (95, .aload 6) :: (97, .iload_n 2) :: (98, .putfield 195) :: (101, .aload 6) :: (103, .iload_n 3) :: (104, .putfield 200) :: (107, .aload 6) :: (109, .iload 4) :: (111, .putfield 203) :: (114, .aload_n 0) :: (115, .getfield 34) :: (118, .aload 6) :: (120, .iload_n 1) :: (121, .iload 5) :: (123, .invokevirtual 206) :: (126, .aload 6) :: (128, .getfield 210) :: (131, .ireturn) :: []
def b_72_57 : MCode := (57, .aload_n 0) :: (58, .getfield 34) :: (61, .iload_n 1) :: (62, .iload_n 2) :: (63, .iload 4) :: (65, .invokevirtual 185) :: (68, .istore 5) :: (70, .iload 5) :: (72, .iconst (-1)) :: (73, .if_icmp .ne 13) :: (76, .new 46) :: (79, .dup) :: (80, .ldc 189) :: (82, .invokespecial 50) :: (85, .athrow) :: b_72_86
def b_72_47 : MCode := (47, .new 46) :: (50, .dup) :: (51, .ldc 183) :: (53, .invokespecial 50) :: (56, .athrow) :: b_72_57
def b_72_0 : MCode := (0, .aload_n 0) :: (1, .iload_n 1) :: (2, .invokevirtual 146) :: (5, .iload_n 3) :: (6, .iconst 0) :: (7, .bipush 99) :: (9, .invokestatic 38) :: (12, .iload 4) :: (14, .iconst 0) :: (15, .bipush 9) :: (17, .invokestatic 38) :: (20, .aload_n 0) :: (21, .getfield 10) :: (24, .getfield 149) :: (27, .iload_n 1) :: (28, .aaload) :: (29, .getfield 156) :: (32, .ifCond .ne 15) :: (35, .aload_n 0) :: (36, .getfield 34) :: (39, .getfield 180) :: (42, .bipush 40) :: (44, .if_icmp .lt 13) :: b_72_47
def b_73_33 : MCode := (33, .bipush 10) :: (35, .aload_n 2) :: (36, .getfield 223) :: (39, .imul) :: (40, .aload_n 2) :: (41, .getfield 226) :: (44, .iadd) :: (45, .istore_n 3) :: (46, .aload_n 0) :: (47, .getfield 34) :: (50, .aload_n 2) :: (51, .invokevirtual 229) :: (54, .iload_n 3) :: (55, .ireturn) :: []
def b_73_0 : MCode := (0, .aload_n 0) :: (1, .iload_n 1) :: (2, .invokevirtual 211) :: (5, .aload_n 0) :: (6, .getfield 34) :: (9, .getfield 214) :: (12, .iload_n 1) :: (13, .aaload) :: (14, .astore_n 2) :: (15, .aload_n 2) :: (16, .getfield 218) :: (19, .iconst (-1)) :: (20, .if_icmp .ne 13) :: (23, .new 46) :: (26, .dup) :: (27, .ldc 221) :: (29, .invokespecial 50) :: (32, .athrow) :: b_73_33
def b_74_63 : MCode := (63, .aload_n 0) :: (64, .getfield 34) :: (67, .aload_n 0) :: (68, .getfield 34) :: (71, .getfield 214) :: (74, .iload_n 1) :: (75, .aaload) :: (76, .aload_n 0) :: (77, .getfield 34) :: (80, .getfield 214) :: (83, .iload_n 2) :: (84, .aaload) :: (85, .invokevirtual 244) :: (88, .return_) :: []
def b_74_25 : MCode := (25, .aload_n 0) :: (26, .getfield 34) :: (29, .aload_n 0) :: (30, .getfield 34) :: (33, .getfield 214) :: (36, .iload_n 1) :: (37, .aaload) :: (38, .aload_n 0) :: (39, .getfield 34) :: (42, .getfield 214) :: (45, .iload_n 2) :: (46, .aaload) :: (47, .invokevirtual 238) :: (50, .ifCond .ne 13) :: (53, .new 46) :: (56, .dup) :: (57, .ldc 242) :: (59, .invokespecial 50) :: (62, .athrow) :: b_74_63
def b_74_0 : MCode := (0, .aload_n 0) :: (1, .iload_n 1) :: (2, .invokevirtual 211) :: (5, .aload_n 0) :: (6, .iload_n 2) :: (7, .invokevirtual 211) :: (10, .iload_n 1) :: (11, .iload_n 2) :: (12, .if_icmp .ne 13) :: (15, .new 233) :: (18, .dup) :: (19, .ldc 235) :: (21, .invokespecial 237) :: (24, .athrow) :: b_74_25
def b_75_0 : MCode := (0, .aload_n 0) :: (1, .iload_n 1) :: (2, .iload_n 2) :: (3, .invokevirtual 98) :: (6, .aload_n 0) :: (7, .getfield 21) :: (10, .invokevirtual 248) :: (13, .aload_n 0) :: (14, .getfield 21) :: (17, .getfield 251) :: (20, .iload_n 1) :: (21, .aaload) :: (22, .getfield 255) :: (25, .iload_n 2) :: (26, .iaload) :: (27, .ireturn) :: []
def b_76_0 : MCode := (0, .aload_n 0) :: (1, .iload_n 1) :: (2, .iload_n 2) :: (3, .invokevirtual 98) :: (6, .aload_n 0) :: (7, .getfield 21) :: (10, .invokevirtual 248) :: (13, .aload_n 0) :: (14, .getfield 21) :: (17, .getfield 251) :: (20, .iload_n 1) :: (21, .aaload) :: (22, .getfield 260) :: (25, .iload_n 2) :: (26, .iaload) :: (27, .ireturn) :: []
def b_77_0 : MCode := (0, .aload_n 0) :: (1, .iload_n 1) :: (2, .iload_n 2) :: (3, .invokevirtual 98) :: (6, .aload_n 0) :: (7, .getfield 25) :: (10, .invokevirtual 263) :: (13, .aload_n 0) :: (14, .getfield 25) :: (17, .getfield 251) :: (20, .iload_n 1) :: (21, .aaload) :: (22, .getfield 260) :: (25, .iload_n 2) :: (26, .iaload) :: (27, .ireturn) :: []
def b_78_0 : MCode := (0, .aload_n 0) :: (1, .iload_n 1) :: (2, .iload_n 2) :: (3, .invokevirtual 98) :: (6, .iload_n 3) :: (7, .iconst 0) :: (8, .bipush 9) :: (10, .invokestatic 38) :: (13, .aload_n 0) :: (14, .getfield 21) :: (17, .invokevirtual 248) :: (20, .aload_n 0) :: (21, .getfield 21) :: (24, .getfield 251) :: (27, .iload_n 1) :: (28, .aaload) :: (29, .getfield 266) :: (32, .bipush 10) :: (34, .iload_n 2) :: (35, .imul) :: (36, .iload_n 3) :: (37, .iadd) :: (38, .iaload) :: (39, .ireturn) :: []
def b_79_0 : MCode := (0, .aload_n 0) :: (1, .iload_n 1) :: (2, .iload_n 2) :: (3, .invokevirtual 98) :: (6, .aload_n 0) :: (7, .getfield 21) :: (10, .invokevirtual 248) :: (13, .aload_n 0) :: (14, .getfield 21) :: (17, .getfield 251) :: (20, .iload_n 1) :: (21, .aaload) :: (22, .getfield 269) :: (25, .iload_n 2) :: (26, .faload) :: (27, .freturn) :: []
def b_80_117 : MCode := (117, .ireturn) :: []
def b_80_116 : MCode := (116, .iconst 0) :: b_80_117
def b_80_97 : MCode := (97, .aload_n 0) :: (98, .getfield 10) :: (101, .getfield 149) :: (104, .iload_n 1) :: (105, .aaload) :: (106, .getfield 156) :: (109, .ifCond .eq 7) :: (112, .iconst 1) :: (113, .goto 4) :: b_80_116
def b_80_92 : MCode := (92, .aload_n 3) :: (93, .getfield 290) :: (96, .ireturn) :: b_80_97
def b_80_91 : MCode := (91, .ireturn) :: b_80_92
def b_80_90 : MCode := (90, .iconst 0) :: b_80_91
def b_80_79 : MCode := (79, .aload_n 3) :: (80, .invokevirtual 286) :: (83, .ifCond .eq 7) :: (86, .iconst 1) :: (87, .goto 4) :: b_80_90
def b_80_74 : MCode := (74, .aload_n 3) :: (75, .getfield 283) :: (78, .ireturn) :: b_80_79
def b_80_69 : MCode := (69, .aload_n 3) :: (70, .getfield 280) :: (73, .ireturn) :: b_80_74
def b_80_64 : MCode := (64, .aload_n 3) :: (65, .getfield 277) :: (68, .ireturn) :: b_80_69
def b_80_0 : MCode := (0, .aload_n 0) :: (1, .iload_n 1) :: (2, .invokevirtual 146) :: (5, .iload_n 2) :: (6, .iconst 0) :: (7, .iconst 5) :: (8, .invokestatic 38) :: (11, .aload_n 0) :: (12, .getfield 21) :: (15, .invokevirtual 248) :: (18, .aload_n 0) :: (19, .getfield 21) :: (22, .getfield 273) :: (25, .iload_n 1) :: (26, .aaload) :: (27, .astore_n 3) :: (28, .iload_n 2) :: (29, .tableswitch 68 0 4 #[35, 40, 45, 50, 63]) :: b_80_64
def b_81_0 : MCode := (0, .iload_n 1) :: (1, .iconst 0) :: (2, .iconst 5) :: (3, .invokestatic 38) :: (6, .iload_n 2) :: (7, .iconst 0) :: (8, .iconst 5) :: (9, .invokestatic 38) :: (12, .aload_n 0) :: (13, .getfield 21) :: (16, .invokevirtual 248) :: (19, .aload_n 0) :: (20, .getfield 21) :: (23, .getfield 293) :: (26, .bipush 6) :: (28, .iload_n 1) :: (29, .imul) :: (30, .iload_n 2) :: (31, .iadd) :: (32, .iaload) :: (33, .ireturn) :: []
def b_82_0 : MCode := (0, .aload_n 0) :: (1, .getfield 21) :: (4, .invokevirtual 248) :: (7, .aload_n 0) :: (8, .getfield 21) :: (11, .invokevirtual 296) :: (14, .ireturn) :: []
def b_83_50 : MCode := (50, .iload_n 2) :: (51, .ireturn) :: []
def b_83_44 : MCode := (44, .iinc 4 10) :: (47, .goto (-35)) :: b_83_50
def b_83_12 : MCode := (12, .iload 4) :: (14, .sipush 180) :: (17, .if_icmp .gt 33) :: (20, .aload_n 0) :: (21, .getfield 28) :: (24, .iload_n 1) :: (25, .iload 4) :: (27, .invokevirtual 299) :: (30, .istore 5) :: (32, .iload 5) :: (34, .iload_n 3) :: (35, .if_icmp .le 9) :: (38, .iload 5) :: (40, .istore_n 3) :: (41, .iload 4) :: (43, .istore_n 2) :: b_83_44
def b_83_0 : MCode := (0, .aload_n 0) :: (1, .iload_n 1) :: (2, .invokevirtual 70) :: (5, .iconst 0) :: (6, .istore_n 2) :: (7, .iconst (-1)) :: (8, .istore_n 3) :: (9, .iconst 0) :: (10, .istore 4) :: b_83_12
def b_84_63 : MCode := (63, .aload_n 3) :: (64, .getfield 302) :: (67, .ireturn) :: []
def b_84_58 : MCode := (58, .aload_n 3) :: (59, .getfield 226) :: (62, .ireturn) :: b_84_63
def b_84_53 : MCode := (53, .aload_n 3) :: (54, .getfield 223) :: (57, .ireturn) :: b_84_58
def b_84_48 : MCode := (48, .aload_n 3) :: (49, .getfield 218) :: (52, .ireturn) :: b_84_53
def b_84_0 : MCode := (0, .aload_n 0) :: (1, .iload_n 1) :: (2, .invokevirtual 211) :: (5, .iload_n 2) :: (6, .iconst 0) :: (7, .iconst 3) :: (8, .invokestatic 38) :: (11, .aload_n 0) :: (12, .getfield 34) :: (15, .getfield 214) :: (18, .iload_n 1) :: (19, .aaload) :: (20, .astore_n 3) :: (21, .iload_n 2) :: (22, .tableswitch 41 0 2 #[26, 31, 36]) :: b_84_48
def b_85_0 : MCode := (0, .aload_n 0) :: (1, .iload_n 1) :: (2, .invokevirtual 146) :: (5, .iload_n 2) :: (6, .iconst 0) :: (7, .iconst 5) :: (8, .invokestatic 38) :: (11, .iload_n 3) :: (12, .iconst 0) :: (13, .iconst 2) :: (14, .invokestatic 38) :: (17, .aload_n 0) :: (18, .getfield 34) :: (21, .getfield 305) :: (24, .iload_n 1) :: (25, .iload_n 2) :: (26, .iload_n 3) :: (27, .invokestatic 308) :: (30, .iaload) :: (31, .ireturn) :: []
def b_86_31 : MCode := (31, .ireturn) :: []
def b_86_30 : MCode := (30, .iconst 0) :: b_86_31
def b_86_0 : MCode := (0, .aload_n 0) :: (1, .iload_n 1) :: (2, .invokevirtual 146) :: (5, .iload_n 3) :: (6, .iconst 0) :: (7, .bipush 9) :: (9, .invokestatic 38) :: (12, .aload_n 0) :: (13, .getfield 34) :: (16, .iload_n 1) :: (17, .iload_n 2) :: (18, .iload_n 3) :: (19, .invokevirtual 185) :: (22, .iconst (-1)) :: (23, .if_icmp .eq 7) :: (26, .iconst 1) :: (27, .goto 4) :: b_86_30
def b_87_0 : MCode := (0, .aload_n 0) :: (1, .getfield 34) :: (4, .getfield 311) :: (7, .ireturn) :: []
def b_88_26 : MCode := (26, .return_) :: []
def b_88_15 : MCode := (15, .new 102) :: (18, .dup) :: (19, .ldc_w 312) :: (22, .invokespecial 106) :: (25, .athrow) :: b_88_26
def b_88_0 : MCode := (0, .iload_n 1) :: (1, .ifCond .lt 14) :: (4, .iload_n 1) :: (5, .aload_n 0) :: (6, .getfield 10) :: (9, .getfield 42) :: (12, .if_icmp .lt 14) :: b_88_15
def b_89_26 : MCode := (26, .return_) :: []
def b_89_15 : MCode := (15, .new 102) :: (18, .dup) :: (19, .ldc_w 314) :: (22, .invokespecial 106) :: (25, .athrow) :: b_89_26
def b_89_0 : MCode := (0, .iload_n 1) :: (1, .ifCond .lt 14) :: (4, .iload_n 1) :: (5, .aload_n 0) :: (6, .getfield 10) :: (9, .getfield 61) :: (12, .if_icmp .lt 14) :: b_89_15
def b_90_36 : MCode := (36, .return_) :: []
def b_90_25 : MCode := (25, .new 102) :: (28, .dup) :: (29, .ldc_w 316) :: (32, .invokespecial 106) :: (35, .athrow) :: b_90_36
def b_90_0 : MCode := (0, .aload_n 0) :: (1, .iload_n 1) :: (2, .invokevirtual 70) :: (5, .iload_n 2) :: (6, .ifCond .lt 19) :: (9, .iload_n 2) :: (10, .aload_n 0) :: (11, .getfield 10) :: (14, .getfield 73) :: (17, .iload_n 1) :: (18, .aaload) :: (19, .getfield 83) :: (22, .if_icmp .lt 14) :: b_90_25
def b_91_26 : MCode := (26, .return_) :: []
def b_91_15 : MCode := (15, .new 102) :: (18, .dup) :: (19, .ldc_w 318) :: (22, .invokespecial 106) :: (25, .athrow) :: b_91_26
def b_91_0 : MCode := (0, .iload_n 1) :: (1, .ifCond .lt 14) :: (4, .iload_n 1) :: (5, .aload_n 0) :: (6, .getfield 10) :: (9, .getfield 110) :: (12, .if_icmp .lt 14) :: b_91_15
def b_92_26 : MCode := (26, .return_) :: []
def b_92_15 : MCode := (15, .new 102) :: (18, .dup) :: (19, .ldc_w 320) :: (22, .invokespecial 106) :: (25, .athrow) :: b_92_26
def b_92_0 : MCode := (0, .iload_n 1) :: (1, .ifCond .lt 14) :: (4, .iload_n 1) :: (5, .aload_n 0) :: (6, .getfield 34) :: (9, .getfield 180) :: (12, .if_icmp .lt 14) :: b_92_15
def b_93_21 : MCode := (21, .return_) :: []
def b_93_10 : MCode := (10, .new 233) :: (13, .dup) :: (14, .ldc_w 322) :: (17, .invokespecial 237) :: (20, .athrow) :: b_93_21
def b_93_0 : MCode := (0, .iload_n 0) :: (1, .iload_n 1) :: (2, .if_icmp .lt 8) :: (5, .iload_n 0) :: (6, .iload_n 2) :: (7, .if_icmp .le 14) :: b_93_10
def b_94_82 : MCode := (82, .iload_n 2) :: (83, .ireturn) :: []
def b_94_76 : MCode := (76, .iinc 3 1) :: (79, .goto (-75)) :: b_94_82
def b_94_4 : MCode := (4, .iload_n 3) :: (5, .aload_n 0) :: (6, .getfield 34) :: (9, .getfield 180) :: (12, .if_icmp .ge 70) :: (15, .aload_n 0) :: (16, .getfield 34) :: (19, .getfield 214) :: (22, .iload_n 3) :: (23, .aaload) :: (24, .astore 4) :: (26, .aload 4) :: (28, .getfield 218) :: (31, .aload_n 1) :: (32, .getfield 143) :: (35, .if_icmp .ne 41) :: (38, .aload_n 0) :: (39, .getfield 34) :: (42, .aload 4) :: (44, .invokevirtual 229) :: (47, .aload_n 0) :: (48, .aload 4) :: (50, .aload_n 1) :: (51, .invokevirtual 324) :: (54, .ifCond .ne 22) :: (57, .aload_n 0) :: (58, .getfield 34) :: (61, .aload 4) :: (63, .bipush 50) :: (65, .aload_n 1) :: (66, .getfield 153) :: (69, .imul) :: (70, .invokevirtual 328) :: (73, .iinc 2 1) :: b_94_76
def b_94_0 : MCode := (0, .iconst 0) :: (1, .istore_n 2) :: (2, .iconst 0) :: (3, .istore_n 3) :: b_94_4
def b_95_72 : MCode := (72, .iconst 0) :: (73, .ireturn) :: []
def b_95_66 : MCode := (66, .iinc 3 1) :: (69, .goto (-67)) :: b_95_72
def b_95_2 : MCode := (2, .iload_n 3) :: (3, .aload_n 0) :: (4, .getfield 10) :: (7, .getfield 110) :: (10, .if_icmp .ge 62) :: (13, .aload_n 0) :: (14, .getfield 10) :: (17, .getfield 149) :: (20, .iload_n 3) :: (21, .aaload) :: (22, .aload_n 2) :: (23, .invokevirtual 332) :: (26, .ifCond .eq 40) :: (29, .aload_n 0) :: (30, .getfield 34) :: (33, .iload_n 3) :: (34, .aload_n 1) :: (35, .getfield 195) :: (38, .aload_n 1) :: (39, .getfield 203) :: (42, .invokevirtual 185) :: (45, .istore 4) :: (47, .iload 4) :: (49, .iconst (-1)) :: (50, .if_icmp .eq 16) :: (53, .aload_n 0) :: (54, .getfield 34) :: (57, .aload_n 1) :: (58, .iload_n 3) :: (59, .iload 4) :: (61, .invokevirtual 206) :: (64, .iconst 1) :: (65, .ireturn) :: b_95_66
def b_95_0 : MCode := (0, .iconst 0) :: (1, .istore_n 3) :: b_95_2
def b_96_380 : MCode := (380, .return_) :: []
def b_96_360 : MCode := (360, .iload_n 1) :: (361, .sipush 180) :: (364, .if_icmp .ge 16) :: (367, .aload_n 0) :: (368, .getfield 95) :: (371, .iload_n 1) :: (372, .iconst (-1)) :: (373, .iastore) :: (374, .iinc 1 1) :: (377, .goto (-17)) :: b_96_380
def b_96_0 : MCode := (0, .aload_n 0) :: (1, .invokespecial 1) :: (4, .aload_n 0) :: (5, .bipush 10) :: (7, .newarray .int) :: (9, .putfield 7) :: (12, .aload_n 0) :: (13, .bipush 10) :: (15, .newarray .int) :: (17, .putfield 13) :: (20, .aload_n 0) :: (21, .bipush 6) :: (23, .newarray .int) :: (25, .putfield 16) :: (28, .aload_n 0) :: (29, .bipush 6) :: (31, .newarray .int) :: (33, .putfield 19) :: (36, .aload_n 0) :: (37, .bipush 6) :: (39, .newarray .int) :: (41, .putfield 22) :: (44, .aload_n 0) :: (45, .bipush 36) :: (47, .newarray .int) :: (49, .putfield 25) :: (52, .aload_n 0) :: (53, .bipush 36) :: (55, .newarray .int) :: (57, .putfield 28) :: (60, .aload_n 0) :: (61, .bipush 36) :: (63, .newarray .int) :: (65, .putfield 31) :: (68, .aload_n 0) :: (69, .bipush 36) :: (71, .newarray .int) :: (73, .putfield 34) :: (76, .aload_n 0) :: (77, .bipush 36) :: (79, .newarray .int) :: (81, .putfield 37) :: (84, .aload_n 0) :: (85, .bipush 36) :: (87, .newarray .int) :: (89, .putfield 40) :: (92, .aload_n 0) :: (93, .bipush 10) :: (95, .newarray .int) :: (97, .putfield 43) :: (100, .aload_n 0) :: (101, .bipush 10) :: (103, .newarray .int) :: (105, .putfield 46) :: (108, .aload_n 0) :: (109, .bipush 10) :: (111, .newarray .int) :: (113, .putfield 49) :: (116, .aload_n 0) :: (117, .bipush 10) :: (119, .newarray .int) :: (121, .putfield 52) :: (124, .aload_n 0) :: (125, .bipush 10) :: (127, .newarray .int) :: (129, .putfield 55) :: (132, .aload_n 0) :: (133, .bipush 10) :: (135, .newarray .int) :: (137, .putfield 58) :: (140, .aload_n 0) :: (141, .bipush 10) :: (143, .newarray .boolean) :: (145, .putfield 61) :: (148, .aload_n 0) :: (149, .bipush 10) :: (151, .newarray .boolean) :: (153, .putfield 65) :: (156, .aload_n 0) :: (157, .bipush 10) :: (159, .newarray .int) :: (161, .putfield 68) :: (164, .aload_n 0) :: (165, .bipush 30) :: (167, .newarray .int) :: (169, .putfield 71) :: (172, .aload_n 0) :: (173, .bipush 30) :: (175, .newarray .int) :: (177, .putfield 74) :: (180, .aload_n 0) :: (181, .bipush 40) :: (183, .newarray .boolean) :: (185, .putfield 77) :: (188, .aload_n 0) :: (189, .bipush 40) :: (191, .newarray .int) :: (193, .putfield 80) :: (196, .aload_n 0) :: (197, .bipush 40) :: (199, .newarray .int) :: (201, .putfield 83) :: (204, .aload_n 0) :: (205, .bipush 40) :: (207, .newarray .int) :: (209, .putfield 86) :: (212, .aload_n 0) :: (213, .bipush 40) :: (215, .newarray .int) :: (217, .putfield 89) :: (220, .aload_n 0) :: (221, .bipush 40) :: (223, .newarray .int) :: (225, .putfield 92) :: (228, .aload_n 0) :: (229, .sipush 180) :: (232, .newarray .int) :: (234, .putfield 95) :: (237, .aload_n 0) :: (238, .bipush 36) :: (240, .newarray .int) :: (242, .putfield 98) :: (245, .aload_n 0) :: (246, .bipush 36) :: (248, .newarray .int) :: (250, .putfield 101) :: (253, .aload_n 0) :: (254, .bipush 6) :: (256, .newarray .int) :: (258, .putfield 104) :: (261, .aload_n 0) :: (262, .bipush 6) :: (264, .newarray .boolean) :: (266, .putfield 107) :: (269, .aload_n 0) :: (270, .bipush 60) :: (272, .newarray .int) :: (274, .putfield 110) :: (277, .aload_n 0) :: (278, .bipush 6) :: (280, .newarray .int) :: (282, .putfield 113) :: (285, .aload_n 0) :: (286, .bipush 36) :: (288, .newarray .int) :: (290, .putfield 116) :: (293, .aload_n 0) :: (294, .bipush 36) :: (296, .newarray .int) :: (298, .putfield 119) :: (301, .aload_n 0) :: (302, .sipush 360) :: (305, .newarray .int) :: (307, .putfield 122) :: (310, .aload_n 0) :: (311, .bipush 10) :: (313, .newarray .int) :: (315, .putfield 125) :: (318, .aload_n 0) :: (319, .bipush 10) :: (321, .newarray .int) :: (323, .putfield 128) :: (326, .aload_n 0) :: (327, .bipush 10) :: (329, .newarray .int) :: (331, .putfield 131) :: (334, .aload_n 0) :: (335, .bipush 10) :: (337, .newarray .int) :: (339, .putfield 134) :: (342, .aload_n 0) :: (343, .bipush 10) :: (345, .newarray .boolean) :: (347, .putfield 137) :: (350, .aload_n 0) :: (351, .bipush 36) :: (353, .newarray .int) :: (355, .putfield 140) :: (358, .iconst 0) :: (359, .istore_n 1) :: b_96_360
def b_97_0 : MCode := (0, .aload_n 0) :: (1, .getfield 143) :: (4, .ireturn) :: []
def b_98_15 : MCode := (15, .ireturn) :: []
def b_98_14 : MCode := (14, .iconst 0) :: b_98_15
def b_98_0 : MCode := (0, .iload_n 0) :: (1, .iload_n 1) :: (2, .if_icmp .lt 12) :: (5, .iload_n 0) :: (6, .iload_n 2) :: (7, .if_icmp .gt 7) :: (10, .iconst 1) :: (11, .goto 4) :: b_98_14
def b_99_14 : MCode := (14, .ireturn) :: []
def b_99_13 : MCode := (13, .iconst 0) :: b_99_14
def b_99_0 : MCode := (0, .aload_n 0) :: (1, .iload_n 1) :: (2, .putfield 143) :: (5, .iload_n 1) :: (6, .ifCond .eq 7) :: (9, .iconst 1) :: (10, .goto 4) :: b_99_13
def b_100_0 : MCode := (0, .iload_n 1) :: (1, .iconst 0) :: (2, .aload_n 0) :: (3, .getfield 147) :: (6, .iconst 1) :: (7, .isub) :: (8, .invokestatic 150) :: (11, .ireturn) :: []
def b_101_0 : MCode := (0, .iload_n 1) :: (1, .iconst 0) :: (2, .aload_n 0) :: (3, .getfield 154) :: (6, .iconst 1) :: (7, .isub) :: (8, .invokestatic 150) :: (11, .ireturn) :: []
def b_102_29 : MCode := (29, .ireturn) :: []
def b_102_28 : MCode := (28, .iconst 0) :: b_102_29
def b_102_0 : MCode := (0, .aload_n 0) :: (1, .iload_n 1) :: (2, .invokevirtual 157) :: (5, .ifCond .eq 23) :: (8, .iload_n 2) :: (9, .iconst 0) :: (10, .aload_n 0) :: (11, .getfield 22) :: (14, .iload_n 1) :: (15, .iaload) :: (16, .iconst 1) :: (17, .isub) :: (18, .invokestatic 150) :: (21, .ifCond .eq 7) :: (24, .iconst 1) :: (25, .goto 4) :: b_102_28
def b_103_0 : MCode := (0, .iload_n 1) :: (1, .iconst 0) :: (2, .aload_n 0) :: (3, .getfield 161) :: (6, .iconst 1) :: (7, .isub) :: (8, .invokestatic 150) :: (11, .ireturn) :: []
def b_104_0 : MCode := (0, .iload_n 1) :: (1, .iconst 0) :: (2, .aload_n 0) :: (3, .getfield 164) :: (6, .iconst 1) :: (7, .isub) :: (8, .invokestatic 150) :: (11, .ireturn) :: []
def b_105_45 : MCode := (45, .iload_n 3) :: (46, .ireturn) :: []
def b_105_38 : MCode := (38, .istore_n 3) :: (39, .iinc 4 1) :: (42, .goto (-37)) :: b_105_45
def b_105_37 : MCode := (37, .iload_n 3) :: b_105_38
def b_105_5 : MCode := (5, .iload 4) :: (7, .aload_n 0) :: (8, .getfield 22) :: (11, .iload_n 1) :: (12, .iaload) :: (13, .if_icmp .ge 32) :: (16, .aload_n 0) :: (17, .getfield 25) :: (20, .bipush 6) :: (22, .iload_n 1) :: (23, .imul) :: (24, .iload 4) :: (26, .iadd) :: (27, .iaload) :: (28, .iload_n 2) :: (29, .if_icmp .ne 8) :: (32, .iload 4) :: (34, .goto 4) :: b_105_37
def b_105_0 : MCode := (0, .iconst (-1)) :: (1, .istore_n 3) :: (2, .iconst 0) :: (3, .istore 4) :: b_105_5
def b_106_55 : MCode := (55, .aload_n 0) :: (56, .getfield 7) :: (59, .aload_n 0) :: (60, .getfield 147) :: (63, .iload_n 1) :: (64, .iastore) :: (65, .aload_n 0) :: (66, .getfield 13) :: (69, .aload_n 0) :: (70, .getfield 147) :: (73, .iload_n 2) :: (74, .iastore) :: (75, .aload_n 0) :: (76, .dup) :: (77, .getfield 147) :: (80, .iconst 1) :: (81, .iadd) :: (82, .putfield 147) :: (85, .aload_n 0) :: (86, .getfield 147) :: (89, .iconst 1) :: (90, .isub) :: (91, .ireturn) :: []
def b_106_47 : MCode := (47, .invokevirtual 167) :: (50, .ifCond .eq 5) :: (53, .iconst 0) :: (54, .ireturn) :: b_106_55
def b_106_46 : MCode := (46, .iconst 0) :: b_106_47
def b_106_33 : MCode := (33, .aload_n 0) :: (34, .getfield 147) :: (37, .bipush 10) :: (39, .if_icmp .ne 7) :: (42, .iconst 2) :: (43, .goto 4) :: b_106_46
def b_106_23 : MCode := (23, .istore_n 3) :: (24, .aload_n 0) :: (25, .iload_n 3) :: (26, .ifCond .ne 7) :: (29, .iconst 1) :: (30, .goto 17) :: b_106_33
def b_106_22 : MCode := (22, .iconst 0) :: b_106_23
def b_106_0 : MCode := (0, .iload_n 1) :: (1, .iconst 0) :: (2, .iconst 5) :: (3, .invokestatic 150) :: (6, .ifCond .eq 16) :: (9, .iload_n 2) :: (10, .iconst 0) :: (11, .iconst 1) :: (12, .invokestatic 150) :: (15, .ifCond .eq 7) :: (18, .iconst 1) :: (19, .goto 4) :: b_106_22
def b_107_73 : MCode := (73, .aload_n 0) :: (74, .getfield 25) :: (77, .bipush 6) :: (79, .aload_n 0) :: (80, .getfield 154) :: (83, .imul) :: (84, .iload_n 1) :: (85, .iastore) :: (86, .aload_n 0) :: (87, .getfield 28) :: (90, .bipush 6) :: (92, .aload_n 0) :: (93, .getfield 154) :: (96, .imul) :: (97, .iload_n 2) :: (98, .iastore) :: (99, .aload_n 0) :: (100, .getfield 16) :: (103, .aload_n 0) :: (104, .getfield 154) :: (107, .iload_n 3) :: (108, .iastore) :: (109, .aload_n 0) :: (110, .getfield 22) :: (113, .aload_n 0) :: (114, .getfield 154) :: (117, .iconst 1) :: (118, .iastore) :: (119, .aload_n 0) :: (120, .dup) :: (121, .getfield 154) :: (124, .iconst 1) :: (125, .iadd) :: (126, .putfield 154) :: (129, .aload_n 0) :: (130, .iconst 0) :: (131, .putfield 173) :: (134, .aload_n 0) :: (135, .getfield 154) :: (138, .iconst 1) :: (139, .isub) :: (140, .ireturn) :: []
def b_107_65 : MCode := (65, .invokevirtual 167) :: (68, .ifCond .eq 5) :: (71, .iconst 0) :: (72, .ireturn) :: b_107_73
def b_107_64 : MCode := (64, .iconst 0) :: b_107_65
def b_107_51 : MCode := (51, .aload_n 0) :: (52, .getfield 154) :: (55, .bipush 6) :: (57, .if_icmp .ne 7) :: (60, .iconst 3) :: (61, .goto 4) :: b_107_64
def b_107_42 : MCode := (42, .iload 4) :: (44, .ifCond .ne 7) :: (47, .iconst 2) :: (48, .goto 17) :: b_107_51
def b_107_27 : MCode := (27, .istore 4) :: (29, .aload_n 0) :: (30, .aload_n 0) :: (31, .iload_n 1) :: (32, .invokevirtual 170) :: (35, .ifCond .ne 7) :: (38, .iconst 1) :: (39, .goto 26) :: b_107_42
def b_107_26 : MCode := (26, .iconst 0) :: b_107_27
def b_107_0 : MCode := (0, .iload_n 2) :: (1, .iconst 0) :: (2, .sipush 1439) :: (5, .invokestatic 150) :: (8, .ifCond .eq 18) :: (11, .iload_n 3) :: (12, .iconst 0) :: (13, .sipush 1000) :: (16, .invokestatic 150) :: (19, .ifCond .eq 7) :: (22, .iconst 1) :: (23, .goto 4) :: b_107_26
def b_108_139 : MCode := (139, .bipush 6) :: (141, .iload_n 1) :: (142, .imul) :: (143, .aload_n 0) :: (144, .getfield 22) :: (147, .iload_n 1) :: (148, .iaload) :: (149, .iadd) :: (150, .istore 9) :: (152, .aload_n 0) :: (153, .getfield 25) :: (156, .iload 9) :: (158, .iload_n 2) :: (159, .iastore) :: (160, .aload_n 0) :: (161, .getfield 28) :: (164, .iload 9) :: (166, .aload_n 0) :: (167, .getfield 28) :: (170, .iload 9) :: (172, .iconst 1) :: (173, .isub) :: (174, .iaload) :: (175, .iload_n 3) :: (176, .iadd) :: (177, .iload 5) :: (179, .iadd) :: (180, .iastore) :: (181, .aload_n 0) :: (182, .getfield 31) :: (185, .iload 9) :: (187, .iload_n 3) :: (188, .iastore) :: (189, .aload_n 0) :: (190, .getfield 34) :: (193, .iload 9) :: (195, .iload 4) :: (197, .iastore) :: (198, .aload_n 0) :: (199, .getfield 37) :: (202, .iload 9) :: (204, .iload 5) :: (206, .iastore) :: (207, .aload_n 0) :: (208, .getfield 40) :: (211, .iload 9) :: (213, .iconst 0) :: (214, .iastore) :: (215, .aload_n 0) :: (216, .getfield 22) :: (219, .iload_n 1) :: (220, .dup2) :: (221, .iaload) :: (222, .iconst 1) :: (223, .iadd) :: (224, .iastore) :: (225, .aload_n 0) :: (226, .iconst 0) :: (227, .putfield 173) :: (230, .aload_n 0) :: (231, .getfield 22) :: (234, .iload_n 1) :: (235, .iaload) :: (236, .iconst 1) :: (237, .isub) :: (238, .ireturn) :: []
def b_108_131 : MCode := (131, .invokevirtual 167) :: (134, .ifCond .eq 5) :: (137, .iconst 0) :: (138, .ireturn) :: b_108_139
def b_108_130 : MCode := (130, .iconst 3) :: b_108_131
def b_108_121 : MCode := (121, .iload 8) :: (123, .ifCond .eq 7) :: (126, .iconst 0) :: (127, .goto 4) :: b_108_130
def b_108_112 : MCode := (112, .iload 7) :: (114, .ifCond .ne 7) :: (117, .iconst 2) :: (118, .goto 13) :: b_108_121
def b_108_100 : MCode := (100, .istore 8) :: (102, .aload_n 0) :: (103, .iload 6) :: (105, .ifCond .ne 7) :: (108, .iconst 1) :: (109, .goto 22) :: b_108_112
def b_108_99 : MCode := (99, .iconst 0) :: b_108_100
def b_108_62 : MCode := (62, .istore 7) :: (64, .iload 6) :: (66, .ifCond .eq 33) :: (69, .iload 7) :: (71, .ifCond .eq 28) :: (74, .aload_n 0) :: (75, .getfield 22) :: (78, .iload_n 1) :: (79, .iaload) :: (80, .bipush 6) :: (82, .if_icmp .ge 17) :: (85, .aload_n 0) :: (86, .iload_n 1) :: (87, .iload_n 2) :: (88, .invokevirtual 177) :: (91, .iconst (-1)) :: (92, .if_icmp .ne 7) :: (95, .iconst 1) :: (96, .goto 4) :: b_108_99
def b_108_61 : MCode := (61, .iconst 0) :: b_108_62
def b_108_21 : MCode := (21, .istore 6) :: (23, .iload_n 3) :: (24, .iconst 1) :: (25, .sipush 300) :: (28, .invokestatic 150) :: (31, .ifCond .eq 30) :: (34, .iload 4) :: (36, .iconst 1) :: (37, .sipush 500) :: (40, .invokestatic 150) :: (43, .ifCond .eq 18) :: (46, .iload 5) :: (48, .iconst 0) :: (49, .bipush 60) :: (51, .invokestatic 150) :: (54, .ifCond .eq 7) :: (57, .iconst 1) :: (58, .goto 4) :: b_108_61
def b_108_20 : MCode := (20, .iconst 0) :: b_108_21
def b_108_0 : MCode := (0, .aload_n 0) :: (1, .iload_n 1) :: (2, .invokevirtual 157) :: (5, .ifCond .eq 15) :: (8, .aload_n 0) :: (9, .iload_n 2) :: (10, .invokevirtual 170) :: (13, .ifCond .eq 7) :: (16, .iconst 1) :: (17, .goto 4) :: b_108_20
def b_109_37 : MCode := (37, .aload_n 0) :: (38, .getfield 19) :: (41, .iload_n 1) :: (42, .iaload) :: (43, .istore_n 3) :: (44, .aload_n 0) :: (45, .getfield 19) :: (48, .iload_n 1) :: (49, .iload_n 2) :: (50, .iastore) :: (51, .aload_n 0) :: (52, .iconst 0) :: (53, .putfield 173) :: (56, .iload_n 3) :: (57, .ireturn) :: []
def b_109_29 : MCode := (29, .invokevirtual 167) :: (32, .ifCond .eq 5) :: (35, .iconst 0) :: (36, .ireturn) :: b_109_37
def b_109_28 : MCode := (28, .iconst 2) :: b_109_29
def b_109_13 : MCode := (13, .iload_n 2) :: (14, .iconst 0) :: (15, .sipush 180) :: (18, .invokestatic 150) :: (21, .ifCond .eq 7) :: (24, .iconst 0) :: (25, .goto 4) :: b_109_28
def b_109_0 : MCode := (0, .aload_n 0) :: (1, .aload_n 0) :: (2, .iload_n 1) :: (3, .invokevirtual 157) :: (6, .ifCond .ne 7) :: (9, .iconst 1) :: (10, .goto 19) :: b_109_13
def b_110_54 : MCode := (54, .aload_n 0) :: (55, .getfield 40) :: (58, .bipush 6) :: (60, .iload_n 1) :: (61, .imul) :: (62, .iload_n 2) :: (63, .iadd) :: (64, .iaload) :: (65, .istore 5) :: (67, .aload_n 0) :: (68, .getfield 40) :: (71, .bipush 6) :: (73, .iload_n 1) :: (74, .imul) :: (75, .iload_n 2) :: (76, .iadd) :: (77, .iload_n 3) :: (78, .iastore) :: (79, .aload_n 0) :: (80, .iconst 0) :: (81, .putfield 173) :: (84, .iload 5) :: (86, .ireturn) :: []
def b_110_46 : MCode := (46, .invokevirtual 167) :: (49, .ifCond .eq 5) :: (52, .iconst 0) :: (53, .ireturn) :: b_110_54
def b_110_45 : MCode := (45, .iconst 2) :: b_110_46
def b_110_30 : MCode := (30, .iload_n 3) :: (31, .iconst 0) :: (32, .sipush 300) :: (35, .invokestatic 150) :: (38, .ifCond .eq 7) :: (41, .iconst 0) :: (42, .goto 4) :: b_110_45
def b_110_18 : MCode := (18, .istore 4) :: (20, .aload_n 0) :: (21, .iload 4) :: (23, .ifCond .ne 7) :: (26, .iconst 1) :: (27, .goto 19) :: b_110_30
def b_110_17 : MCode := (17, .iconst 0) :: b_110_18
def b_110_0 : MCode := (0, .aload_n 0) :: (1, .iload_n 1) :: (2, .iload_n 2) :: (3, .invokevirtual 181) :: (6, .ifCond .eq 11) :: (9, .iload_n 2) :: (10, .ifCond .le 7) :: (13, .iconst 1) :: (14, .goto 4) :: b_110_17
def b_111_103 : MCode := (103, .aload_n 0) :: (104, .getfield 43) :: (107, .aload_n 0) :: (108, .getfield 161) :: (111, .iload_n 1) :: (112, .iastore) :: (113, .aload_n 0) :: (114, .getfield 46) :: (117, .aload_n 0) :: (118, .getfield 161) :: (121, .iload_n 2) :: (122, .iastore) :: (123, .aload_n 0) :: (124, .getfield 49) :: (127, .aload_n 0) :: (128, .getfield 161) :: (131, .iload_n 3) :: (132, .iastore) :: (133, .aload_n 0) :: (134, .getfield 52) :: (137, .aload_n 0) :: (138, .getfield 161) :: (141, .iload 4) :: (143, .iastore) :: (144, .aload_n 0) :: (145, .getfield 55) :: (148, .aload_n 0) :: (149, .getfield 161) :: (152, .iload 5) :: (154, .iastore) :: (155, .aload_n 0) :: (156, .getfield 58) :: (159, .aload_n 0) :: (160, .getfield 161) :: (163, .iload 6) :: (165, .iastore) :: (166, .aload_n 0) :: (167, .getfield 61) :: (170, .aload_n 0) :: (171, .getfield 161) :: (174, .iload 7) :: (176, .bastore) :: (177, .aload_n 0) :: (178, .dup) :: (179, .getfield 161) :: (182, .iconst 1) :: (183, .iadd) :: (184, .putfield 161) :: (187, .aload_n 0) :: (188, .iconst 0) :: (189, .putfield 173) :: (192, .aload_n 0) :: (193, .getfield 161) :: (196, .iconst 1) :: (197, .isub) :: (198, .ireturn) :: []
def b_111_95 : MCode := (95, .invokevirtual 167) :: (98, .ifCond .eq 5) :: (101, .iconst 0) :: (102, .ireturn) :: b_111_103
def b_111_94 : MCode := (94, .iconst 0) :: b_111_95
def b_111_81 : MCode := (81, .aload_n 0) :: (82, .getfield 161) :: (85, .bipush 10) :: (87, .if_icmp .ne 7) :: (90, .iconst 3) :: (91, .goto 4) :: b_111_94
def b_111_72 : MCode := (72, .iload 8) :: (74, .ifCond .ne 7) :: (77, .iconst 2) :: (78, .goto 17) :: b_111_81
def b_111_57 : MCode := (57, .istore 8) :: (59, .aload_n 0) :: (60, .aload_n 0) :: (61, .iload_n 1) :: (62, .invokevirtual 170) :: (65, .ifCond .ne 7) :: (68, .iconst 1) :: (69, .goto 26) :: b_111_72
def b_111_56 : MCode := (56, .iconst 0) :: b_111_57
def b_111_0 : MCode := (0, .iload_n 2) :: (1, .iconst 0) :: (2, .iconst 5) :: (3, .invokestatic 150) :: (6, .ifCond .eq 50) :: (9, .iload_n 3) :: (10, .iconst 0) :: (11, .iconst 2) :: (12, .invokestatic 150) :: (15, .ifCond .eq 41) :: (18, .iload 4) :: (20, .bipush 20) :: (22, .bipush 60) :: (24, .invokestatic 150) :: (27, .ifCond .eq 29) :: (30, .iload 5) :: (32, .iconst 0) :: (33, .bipush 80) :: (35, .invokestatic 150) :: (38, .ifCond .eq 18) :: (41, .iload 6) :: (43, .iconst 0) :: (44, .bipush 63) :: (46, .invokestatic 150) :: (49, .ifCond .eq 7) :: (52, .iconst 1) :: (53, .goto 4) :: b_111_56
def b_112_25 : MCode := (25, .ireturn) :: []
def b_112_13 : MCode := (13, .aload_n 0) :: (14, .getfield 74) :: (17, .iconst 3) :: (18, .iload_n 1) :: (19, .imul) :: (20, .iload_n 2) :: (21, .iadd) :: (22, .iconst 1) :: (23, .isub) :: (24, .iaload) :: b_112_25
def b_112_0 : MCode := (0, .iload_n 2) :: (1, .ifCond .ne 12) :: (4, .aload_n 0) :: (5, .getfield 43) :: (8, .iload_n 1) :: (9, .iaload) :: (10, .goto 15) :: b_112_13
def b_113_141 : MCode := (141, .aload_n 0) :: (142, .getfield 71) :: (145, .iconst 3) :: (146, .iload_n 1) :: (147, .imul) :: (148, .aload_n 0) :: (149, .getfield 68) :: (152, .iload_n 1) :: (153, .iaload) :: (154, .iadd) :: (155, .iload_n 2) :: (156, .iastore) :: (157, .aload_n 0) :: (158, .getfield 74) :: (161, .iconst 3) :: (162, .iload_n 1) :: (163, .imul) :: (164, .aload_n 0) :: (165, .getfield 68) :: (168, .iload_n 1) :: (169, .iaload) :: (170, .iadd) :: (171, .iload_n 3) :: (172, .iastore) :: (173, .aload_n 0) :: (174, .getfield 68) :: (177, .iload_n 1) :: (178, .dup2) :: (179, .iaload) :: (180, .iconst 1) :: (181, .iadd) :: (182, .iastore) :: (183, .aload_n 0) :: (184, .iconst 0) :: (185, .putfield 173) :: (188, .aload_n 0) :: (189, .getfield 68) :: (192, .iload_n 1) :: (193, .iaload) :: (194, .ireturn) :: []
def b_113_133 : MCode := (133, .invokevirtual 167) :: (136, .ifCond .eq 5) :: (139, .iconst 0) :: (140, .ireturn) :: b_113_141
def b_113_132 : MCode := (132, .iconst 2) :: b_113_133
def b_113_123 : MCode := (123, .iload 7) :: (125, .ifCond .eq 7) :: (128, .iconst 0) :: (129, .goto 4) :: b_113_132
def b_113_111 : MCode := (111, .istore 7) :: (113, .aload_n 0) :: (114, .iload 4) :: (116, .ifCond .ne 7) :: (119, .iconst 1) :: (120, .goto 13) :: b_113_123
def b_113_110 : MCode := (110, .iconst 0) :: b_113_111
def b_113_87 : MCode := (87, .istore 6) :: (89, .iload 6) :: (91, .iconst (-1)) :: (92, .if_icmp .eq 18) :: (95, .aload_n 0) :: (96, .iload_n 2) :: (97, .iload_n 3) :: (98, .invokevirtual 177) :: (101, .iload 6) :: (103, .if_icmp .le 7) :: (106, .iconst 1) :: (107, .goto 4) :: b_113_110
def b_113_86 : MCode := (86, .iconst (-1)) :: b_113_87
def b_113_60 : MCode := (60, .istore 5) :: (62, .iload 5) :: (64, .ifCond .eq 22) :: (67, .aload_n 0) :: (68, .iload_n 2) :: (69, .aload_n 0) :: (70, .iload_n 1) :: (71, .aload_n 0) :: (72, .getfield 68) :: (75, .iload_n 1) :: (76, .iaload) :: (77, .invokevirtual 188) :: (80, .invokevirtual 177) :: (83, .goto 4) :: b_113_86
def b_113_59 : MCode := (59, .iconst 0) :: b_113_60
def b_113_29 : MCode := (29, .istore 4) :: (31, .iload 4) :: (33, .ifCond .eq 26) :: (36, .aload_n 0) :: (37, .getfield 68) :: (40, .iload_n 1) :: (41, .iaload) :: (42, .iconst 3) :: (43, .if_icmp .ge 16) :: (46, .aload_n 0) :: (47, .getfield 65) :: (50, .iload_n 1) :: (51, .baload) :: (52, .ifCond .ne 7) :: (55, .iconst 1) :: (56, .goto 4) :: b_113_59
def b_113_28 : MCode := (28, .iconst 0) :: b_113_29
def b_113_0 : MCode := (0, .aload_n 0) :: (1, .iload_n 1) :: (2, .invokevirtual 185) :: (5, .ifCond .eq 23) :: (8, .aload_n 0) :: (9, .iload_n 2) :: (10, .invokevirtual 157) :: (13, .ifCond .eq 15) :: (16, .aload_n 0) :: (17, .iload_n 3) :: (18, .invokevirtual 170) :: (21, .ifCond .eq 7) :: (24, .iconst 1) :: (25, .goto 4) :: b_113_28
def b_114_150 : MCode := (150, .return_) :: []
def b_114_130 : MCode := (130, .iload_n 1) :: (131, .sipush 360) :: (134, .if_icmp .ge 16) :: (137, .aload_n 0) :: (138, .getfield 122) :: (141, .iload_n 1) :: (142, .iconst (-1)) :: (143, .iastore) :: (144, .iinc 1 1) :: (147, .goto (-17)) :: b_114_150
def b_114_128 : MCode := (128, .iconst 0) :: (129, .istore_n 1) :: b_114_130
def b_114_83 : MCode := (83, .iload_n 1) :: (84, .bipush 10) :: (86, .if_icmp .ge 42) :: (89, .aload_n 0) :: (90, .getfield 125) :: (93, .iload_n 1) :: (94, .aload_n 0) :: (95, .getfield 43) :: (98, .iload_n 1) :: (99, .iaload) :: (100, .iastore) :: (101, .aload_n 0) :: (102, .getfield 128) :: (105, .iload_n 1) :: (106, .iconst 0) :: (107, .iastore) :: (108, .aload_n 0) :: (109, .getfield 131) :: (112, .iload_n 1) :: (113, .iconst 0) :: (114, .iastore) :: (115, .aload_n 0) :: (116, .getfield 134) :: (119, .iload_n 1) :: (120, .iconst 0) :: (121, .iastore) :: (122, .iinc 1 1) :: (125, .goto (-42)) :: b_114_128
def b_114_81 : MCode := (81, .iconst 0) :: (82, .istore_n 1) :: b_114_83
def b_114_48 : MCode := (48, .iload_n 1) :: (49, .bipush 6) :: (51, .if_icmp .ge 30) :: (54, .aload_n 0) :: (55, .getfield 104) :: (58, .iload_n 1) :: (59, .iconst 0) :: (60, .iastore) :: (61, .aload_n 0) :: (62, .getfield 107) :: (65, .iload_n 1) :: (66, .iconst 0) :: (67, .bastore) :: (68, .aload_n 0) :: (69, .getfield 113) :: (72, .iload_n 1) :: (73, .iconst 0) :: (74, .iastore) :: (75, .iinc 1 1) :: (78, .goto (-30)) :: b_114_81
def b_114_46 : MCode := (46, .iconst 0) :: (47, .istore_n 1) :: b_114_48
def b_114_25 : MCode := (25, .iastore) :: (26, .aload_n 0) :: (27, .getfield 101) :: (30, .iload_n 1) :: (31, .iconst (-1)) :: (32, .iastore) :: (33, .aload_n 0) :: (34, .getfield 140) :: (37, .iload_n 1) :: (38, .iconst 0) :: (39, .iastore) :: (40, .iinc 1 1) :: (43, .goto (-41)) :: b_114_46
def b_114_24 : MCode := (24, .iconst (-1)) :: b_114_25
def b_114_2 : MCode := (2, .iload_n 1) :: (3, .bipush 36) :: (5, .if_icmp .ge 41) :: (8, .aload_n 0) :: (9, .getfield 98) :: (12, .iload_n 1) :: (13, .iload_n 1) :: (14, .bipush 6) :: (16, .irem) :: (17, .ifCond .ne 7) :: (20, .iconst 0) :: (21, .goto 4) :: b_114_24
def b_114_0 : MCode := (0, .iconst 0) :: (1, .istore_n 1) :: b_114_2
def b_115_137 : MCode := (137, .aload_n 0) :: (138, .iconst 1) :: (139, .putfield 173) :: (142, .return_) :: []
def b_115_131 : MCode := (131, .iinc 1 1) :: (134, .goto (-120)) :: b_115_137
def b_115_125 : MCode := (125, .iinc 2 1) :: (128, .goto (-52)) :: b_115_131
def b_115_76 : MCode := (76, .iload_n 2) :: (77, .aload_n 0) :: (78, .getfield 154) :: (81, .if_icmp .ge 50) :: (84, .aload_n 0) :: (85, .getfield 107) :: (88, .iload_n 2) :: (89, .baload) :: (90, .ifCond .ne 35) :: (93, .aload_n 0) :: (94, .getfield 104) :: (97, .iload_n 2) :: (98, .iaload) :: (99, .aload_n 0) :: (100, .getfield 22) :: (103, .iload_n 2) :: (104, .iaload) :: (105, .iconst 1) :: (106, .isub) :: (107, .if_icmp .ge 18) :: (110, .aload_n 0) :: (111, .iload_n 2) :: (112, .iload_n 1) :: (113, .invokevirtual 198) :: (116, .ifCond .eq 9) :: (119, .aload_n 0) :: (120, .iload_n 2) :: (121, .iload_n 1) :: (122, .invokevirtual 201) :: b_115_125
def b_115_74 : MCode := (74, .iconst 0) :: (75, .istore_n 2) :: b_115_76
def b_115_68 : MCode := (68, .iinc 2 1) :: (71, .goto (-48)) :: b_115_74
def b_115_23 : MCode := (23, .iload_n 2) :: (24, .aload_n 0) :: (25, .getfield 154) :: (28, .if_icmp .ge 46) :: (31, .aload_n 0) :: (32, .getfield 107) :: (35, .iload_n 2) :: (36, .baload) :: (37, .ifCond .eq 31) :: (40, .aload_n 0) :: (41, .getfield 98) :: (44, .bipush 6) :: (46, .iload_n 2) :: (47, .imul) :: (48, .aload_n 0) :: (49, .getfield 104) :: (52, .iload_n 2) :: (53, .iaload) :: (54, .iadd) :: (55, .iconst 1) :: (56, .iadd) :: (57, .iaload) :: (58, .iload_n 1) :: (59, .if_icmp .ne 9) :: (62, .aload_n 0) :: (63, .iload_n 2) :: (64, .iload_n 1) :: (65, .invokevirtual 194) :: b_115_68
def b_115_14 : MCode := (14, .iload_n 1) :: (15, .sipush 2000) :: (18, .if_icmp .ge 119) :: (21, .iconst 0) :: (22, .istore_n 2) :: b_115_23
def b_115_8 : MCode := (8, .aload_n 0) :: (9, .invokevirtual 191) :: (12, .iconst 0) :: (13, .istore_n 1) :: b_115_14
def b_115_0 : MCode := (0, .aload_n 0) :: (1, .getfield 173) :: (4, .ifCond .eq 4) :: (7, .return_) :: b_115_8
def b_116_69 : MCode := (69, .aload_n 0) :: (70, .getfield 125) :: (73, .iload 5) :: (75, .iload_n 3) :: (76, .iastore) :: (77, .aload_n 0) :: (78, .getfield 128) :: (81, .iload 5) :: (83, .iload 4) :: (85, .bipush 10) :: (87, .iadd) :: (88, .iastore) :: (89, .return_) :: []
def b_116_26 : MCode := (26, .iload 6) :: (28, .aload_n 0) :: (29, .getfield 113) :: (32, .iload_n 1) :: (33, .iaload) :: (34, .if_icmp .ge 35) :: (37, .aload_n 0) :: (38, .getfield 110) :: (41, .bipush 10) :: (43, .iload_n 1) :: (44, .imul) :: (45, .iload 6) :: (47, .iadd) :: (48, .aload_n 0) :: (49, .getfield 110) :: (52, .bipush 10) :: (54, .iload_n 1) :: (55, .imul) :: (56, .iload 6) :: (58, .iadd) :: (59, .iconst 1) :: (60, .iadd) :: (61, .iaload) :: (62, .iastore) :: (63, .iinc 6 1) :: (66, .goto (-40)) :: b_116_69
def b_116_0 : MCode := (0, .aload_n 0) :: (1, .getfield 110) :: (4, .bipush 10) :: (6, .iload_n 1) :: (7, .imul) :: (8, .iload_n 2) :: (9, .iadd) :: (10, .iaload) :: (11, .istore 5) :: (13, .aload_n 0) :: (14, .getfield 113) :: (17, .iload_n 1) :: (18, .dup2) :: (19, .iaload) :: (20, .iconst 1) :: (21, .isub) :: (22, .iastore) :: (23, .iload_n 2) :: (24, .istore 6) :: b_116_26
def b_117_162 : MCode := (162, .return_) :: []
def b_117_159 : MCode := (159, .goto (-98)) :: b_117_162
def b_117_156 : MCode := (156, .iinc 5 1) :: b_117_159
def b_117_151 : MCode := (151, .iadd) :: (152, .iastore) :: (153, .goto 6) :: b_117_156
def b_117_150 : MCode := (150, .iconst 0) :: b_117_151
def b_117_124 : MCode := (124, .aload_n 0) :: (125, .iload_n 1) :: (126, .iload 5) :: (128, .iload_n 3) :: (129, .iload_n 2) :: (130, .invokevirtual 204) :: (133, .aload_n 0) :: (134, .getfield 131) :: (137, .iload 6) :: (139, .dup2) :: (140, .iaload) :: (141, .iload 7) :: (143, .ifCond .eq 7) :: (146, .iconst 1) :: (147, .goto 4) :: b_117_150
def b_117_112 : MCode := (112, .istore 7) :: (114, .iload 4) :: (116, .ifCond .ne 8) :: (119, .iload 7) :: (121, .ifCond .eq 35) :: b_117_124
def b_117_111 : MCode := (111, .iconst 0) :: b_117_112
def b_117_61 : MCode := (61, .iload 5) :: (63, .aload_n 0) :: (64, .getfield 113) :: (67, .iload_n 1) :: (68, .iaload) :: (69, .if_icmp .ge 93) :: (72, .aload_n 0) :: (73, .getfield 110) :: (76, .bipush 10) :: (78, .iload_n 1) :: (79, .imul) :: (80, .iload 5) :: (82, .iadd) :: (83, .iaload) :: (84, .istore 6) :: (86, .aload_n 0) :: (87, .getfield 74) :: (90, .iconst 3) :: (91, .iload 6) :: (93, .imul) :: (94, .aload_n 0) :: (95, .getfield 131) :: (98, .iload 6) :: (100, .iaload) :: (101, .iadd) :: (102, .iaload) :: (103, .iload_n 3) :: (104, .if_icmp .ne 7) :: (107, .iconst 1) :: (108, .goto 4) :: b_117_111
def b_117_56 : MCode := (56, .istore 4) :: (58, .iconst 0) :: (59, .istore 5) :: b_117_61
def b_117_55 : MCode := (55, .iconst 0) :: b_117_56
def b_117_0 : MCode := (0, .aload_n 0) :: (1, .getfield 107) :: (4, .iload_n 1) :: (5, .iconst 0) :: (6, .bastore) :: (7, .aload_n 0) :: (8, .getfield 104) :: (11, .iload_n 1) :: (12, .dup2) :: (13, .iaload) :: (14, .iconst 1) :: (15, .iadd) :: (16, .iastore) :: (17, .aload_n 0) :: (18, .getfield 25) :: (21, .bipush 6) :: (23, .iload_n 1) :: (24, .imul) :: (25, .aload_n 0) :: (26, .getfield 104) :: (29, .iload_n 1) :: (30, .iaload) :: (31, .iadd) :: (32, .iaload) :: (33, .istore_n 3) :: (34, .aload_n 0) :: (35, .getfield 104) :: (38, .iload_n 1) :: (39, .iaload) :: (40, .aload_n 0) :: (41, .getfield 22) :: (44, .iload_n 1) :: (45, .iaload) :: (46, .iconst 1) :: (47, .isub) :: (48, .if_icmp .ne 7) :: (51, .iconst 1) :: (52, .goto 4) :: b_117_55
def b_118_29 : MCode := (29, .ireturn) :: []
def b_118_28 : MCode := (28, .iconst 0) :: b_118_29
def b_118_0 : MCode := (0, .aload_n 0) :: (1, .getfield 65) :: (4, .iload_n 1) :: (5, .baload) :: (6, .ifCond .ne 22) :: (9, .aload_n 0) :: (10, .getfield 131) :: (13, .iload_n 1) :: (14, .iaload) :: (15, .aload_n 0) :: (16, .getfield 68) :: (19, .iload_n 1) :: (20, .iaload) :: (21, .if_icmp .ge 7) :: (24, .iconst 1) :: (25, .goto 4) :: b_118_28
def b_119_25 : MCode := (25, .ireturn) :: []
def b_119_24 : MCode := (24, .iconst 0) :: b_119_25
def b_119_0 : MCode := (0, .aload_n 0) :: (1, .getfield 125) :: (4, .iload_n 1) :: (5, .iaload) :: (6, .iload_n 2) :: (7, .if_icmp .ne 17) :: (10, .aload_n 0) :: (11, .getfield 128) :: (14, .iload_n 1) :: (15, .iaload) :: (16, .iload_n 3) :: (17, .if_icmp .gt 7) :: (20, .iconst 1) :: (21, .goto 4) :: b_119_24
def b_120_231 : MCode := (231, .iload 5) :: (233, .ireturn) :: []
def b_120_225 : MCode := (225, .iinc 6 1) :: (228, .goto (-134)) :: b_120_231
def b_120_217 : MCode := (217, .istore 5) :: (219, .iinc 7 1) :: (222, .goto (-110)) :: b_120_225
def b_120_216 : MCode := (216, .iconst 0) :: b_120_217
def b_120_212 : MCode := (212, .iconst 1) :: (213, .goto 4) :: b_120_216
def b_120_172 : MCode := (172, .istore 8) :: (174, .iload 5) :: (176, .ifCond .eq 40) :: (179, .iload 8) :: (181, .ifCond .eq 31) :: (184, .iload 7) :: (186, .aload_n 0) :: (187, .getfield 131) :: (190, .iload 6) :: (192, .iaload) :: (193, .if_icmp .ne 23) :: (196, .aload_n 0) :: (197, .iload 6) :: (199, .aload_n 0) :: (200, .getfield 25) :: (203, .iload_n 3) :: (204, .iaload) :: (205, .iload_n 2) :: (206, .invokevirtual 208) :: (209, .ifCond .eq 7) :: b_120_212
def b_120_171 : MCode := (171, .iconst 0) :: b_120_172
def b_120_112 : MCode := (112, .iload 7) :: (114, .aload_n 0) :: (115, .getfield 68) :: (118, .iload 6) :: (120, .iaload) :: (121, .if_icmp .ge 104) :: (124, .aload_n 0) :: (125, .getfield 65) :: (128, .iload 6) :: (130, .baload) :: (131, .ifCond .ne 94) :: (134, .aload_n 0) :: (135, .getfield 71) :: (138, .iconst 3) :: (139, .iload 6) :: (141, .imul) :: (142, .iload 7) :: (144, .iadd) :: (145, .iaload) :: (146, .iload_n 1) :: (147, .if_icmp .ne 24) :: (150, .aload_n 0) :: (151, .iload 6) :: (153, .iload 7) :: (155, .invokevirtual 188) :: (158, .aload_n 0) :: (159, .getfield 25) :: (162, .iload_n 3) :: (163, .iaload) :: (164, .if_icmp .ne 7) :: (167, .iconst 1) :: (168, .goto 4) :: b_120_171
def b_120_94 : MCode := (94, .iload 6) :: (96, .aload_n 0) :: (97, .getfield 161) :: (100, .if_icmp .ge 131) :: (103, .aload_n 0) :: (104, .getfield 131) :: (107, .iload 6) :: (109, .iaload) :: (110, .istore 7) :: b_120_112
def b_120_88 : MCode := (88, .iconst 1) :: (89, .istore 5) :: (91, .iconst 0) :: (92, .istore 6) :: b_120_94
def b_120_87 : MCode := (87, .ireturn) :: b_120_88
def b_120_86 : MCode := (86, .iconst 0) :: b_120_87
def b_120_77 : MCode := (77, .iload 4) :: (79, .ifCond .ne 7) :: (82, .iconst 1) :: (83, .goto 4) :: b_120_86
def b_120_53 : MCode := (53, .istore 4) :: (55, .iload 4) :: (57, .ifCond .ne 20) :: (60, .iload_n 2) :: (61, .aload_n 0) :: (62, .getfield 28) :: (65, .iload_n 3) :: (66, .iaload) :: (67, .isub) :: (68, .aload_n 0) :: (69, .getfield 19) :: (72, .iload_n 1) :: (73, .iaload) :: (74, .if_icmp .lt 14) :: b_120_77
def b_120_52 : MCode := (52, .iconst 0) :: b_120_53
def b_120_48 : MCode := (48, .iconst 1) :: (49, .goto 4) :: b_120_52
def b_120_0 : MCode := (0, .bipush 6) :: (2, .iload_n 1) :: (3, .imul) :: (4, .aload_n 0) :: (5, .getfield 104) :: (8, .iload_n 1) :: (9, .iaload) :: (10, .iadd) :: (11, .istore_n 3) :: (12, .iload_n 2) :: (13, .aload_n 0) :: (14, .getfield 28) :: (17, .iload_n 3) :: (18, .iaload) :: (19, .if_icmp .lt 29) :: (22, .aload_n 0) :: (23, .getfield 104) :: (26, .iload_n 1) :: (27, .iaload) :: (28, .ifCond .le 24) :: (31, .iload_n 2) :: (32, .aload_n 0) :: (33, .getfield 98) :: (36, .iload_n 3) :: (37, .iaload) :: (38, .aload_n 0) :: (39, .getfield 37) :: (42, .iload_n 3) :: (43, .iaload) :: (44, .iadd) :: (45, .if_icmp .ge 7) :: b_120_48
def b_121_60 : MCode := (60, .ireturn) :: []
def b_121_59 : MCode := (59, .iconst 0) :: b_121_60
def b_121_55 : MCode := (55, .iconst 1) :: (56, .goto 4) :: b_121_59
def b_121_24 : MCode := (24, .istore 4) :: (26, .iload 4) :: (28, .ifCond .eq 31) :: (31, .aload_n 0) :: (32, .getfield 13) :: (35, .iload_n 2) :: (36, .iaload) :: (37, .aload_n 0) :: (38, .getfield 13) :: (41, .iload_n 3) :: (42, .iaload) :: (43, .if_icmp .eq 12) :: (46, .aload_n 0) :: (47, .getfield 61) :: (50, .iload_n 1) :: (51, .baload) :: (52, .ifCond .eq 7) :: b_121_55
def b_121_23 : MCode := (23, .iconst 0) :: b_121_24
def b_121_0 : MCode := (0, .aload_n 0) :: (1, .getfield 58) :: (4, .iload_n 1) :: (5, .iaload) :: (6, .aload_n 0) :: (7, .getfield 7) :: (10, .iload_n 3) :: (11, .iaload) :: (12, .ishr) :: (13, .iconst 1) :: (14, .iand) :: (15, .iconst 1) :: (16, .if_icmp .ne 7) :: (19, .iconst 1) :: (20, .goto 4) :: b_121_23
def b_122_113 : MCode := (113, .ireturn) :: []
def b_122_112 : MCode := (112, .iconst 0) :: b_122_113
def b_122_96 : MCode := (96, .istore 7) :: (98, .iload 5) :: (100, .ifCond .eq 12) :: (103, .iload 7) :: (105, .ifCond .eq 7) :: (108, .iconst 1) :: (109, .goto 4) :: b_122_112
def b_122_95 : MCode := (95, .iconst 0) :: b_122_96
def b_122_91 : MCode := (91, .iconst 1) :: (92, .goto 4) :: b_122_95
def b_122_51 : MCode := (51, .istore 5) :: (53, .aload_n 0) :: (54, .iload 4) :: (56, .iload_n 3) :: (57, .invokevirtual 177) :: (60, .istore 6) :: (62, .iload 4) :: (64, .iload_n 1) :: (65, .if_icmp .eq 26) :: (68, .iload 6) :: (70, .iconst (-1)) :: (71, .if_icmp .eq 20) :: (74, .aload_n 0) :: (75, .getfield 101) :: (78, .bipush 6) :: (80, .iload 4) :: (82, .imul) :: (83, .iload 6) :: (85, .iadd) :: (86, .iaload) :: (87, .iconst (-1)) :: (88, .if_icmp .eq 7) :: b_122_91
def b_122_50 : MCode := (50, .iconst 0) :: b_122_51
def b_122_0 : MCode := (0, .aload_n 0) :: (1, .getfield 71) :: (4, .iconst 3) :: (5, .iload_n 2) :: (6, .imul) :: (7, .aload_n 0) :: (8, .getfield 131) :: (11, .iload_n 2) :: (12, .iaload) :: (13, .iadd) :: (14, .iaload) :: (15, .istore 4) :: (17, .aload_n 0) :: (18, .iload_n 1) :: (19, .aload_n 0) :: (20, .getfield 74) :: (23, .iconst 3) :: (24, .iload_n 2) :: (25, .imul) :: (26, .aload_n 0) :: (27, .getfield 131) :: (30, .iload_n 2) :: (31, .iaload) :: (32, .iadd) :: (33, .iaload) :: (34, .invokevirtual 177) :: (37, .aload_n 0) :: (38, .getfield 104) :: (41, .iload_n 1) :: (42, .iaload) :: (43, .if_icmp .le 7) :: (46, .iconst 1) :: (47, .goto 4) :: b_122_50
def b_123_39 : MCode := (39, .iload_n 2) :: (40, .ireturn) :: []
def b_123_4 : MCode := (4, .iload_n 3) :: (5, .aload_n 0) :: (6, .getfield 113) :: (9, .iload_n 1) :: (10, .iaload) :: (11, .if_icmp .ge 28) :: (14, .iload_n 2) :: (15, .aload_n 0) :: (16, .getfield 52) :: (19, .aload_n 0) :: (20, .getfield 110) :: (23, .bipush 10) :: (25, .iload_n 1) :: (26, .imul) :: (27, .iload_n 3) :: (28, .iadd) :: (29, .iaload) :: (30, .iaload) :: (31, .iadd) :: (32, .istore_n 2) :: (33, .iinc 3 1) :: (36, .goto (-32)) :: b_123_39
def b_123_0 : MCode := (0, .iconst 0) :: (1, .istore_n 2) :: (2, .iconst 0) :: (3, .istore_n 3) :: b_123_4
def b_124_39 : MCode := (39, .iload_n 2) :: (40, .ireturn) :: []
def b_124_4 : MCode := (4, .iload_n 3) :: (5, .aload_n 0) :: (6, .getfield 113) :: (9, .iload_n 1) :: (10, .iaload) :: (11, .if_icmp .ge 28) :: (14, .iload_n 2) :: (15, .aload_n 0) :: (16, .getfield 55) :: (19, .aload_n 0) :: (20, .getfield 110) :: (23, .bipush 10) :: (25, .iload_n 1) :: (26, .imul) :: (27, .iload_n 3) :: (28, .iadd) :: (29, .iaload) :: (30, .iaload) :: (31, .iadd) :: (32, .istore_n 2) :: (33, .iinc 3 1) :: (36, .goto (-32)) :: b_124_39
def b_124_0 : MCode := (0, .iconst 0) :: (1, .istore_n 2) :: (2, .iconst 0) :: (3, .istore_n 3) :: b_124_4
def b_125_230 : MCode := (230, .return_) :: []
def b_125_212 : MCode := (212, .aload_n 0) :: (213, .iload_n 1) :: (214, .aload_n 0) :: (215, .getfield 113) :: (218, .iload_n 1) :: (219, .iaload) :: (220, .iconst 1) :: (221, .isub) :: (222, .iload_n 3) :: (223, .iload_n 2) :: (224, .invokevirtual 204) :: (227, .goto (-54)) :: b_125_230
def b_125_173 : MCode := (173, .aload_n 0) :: (174, .iload_n 1) :: (175, .invokevirtual 220) :: (178, .aload_n 0) :: (179, .getfield 16) :: (182, .iload_n 1) :: (183, .iaload) :: (184, .if_icmp .gt 28) :: (187, .bipush 100) :: (189, .aload_n 0) :: (190, .iload_n 1) :: (191, .invokevirtual 224) :: (194, .bipush 60) :: (196, .iadd) :: (197, .imul) :: (198, .bipush 65) :: (200, .aload_n 0) :: (201, .iload_n 1) :: (202, .invokevirtual 220) :: (205, .bipush 80) :: (207, .iadd) :: (208, .imul) :: (209, .if_icmp .ge 21) :: b_125_212
def b_125_167 : MCode := (167, .iinc 6 1) :: (170, .goto (-113)) :: b_125_173
def b_125_120 : MCode := (120, .bastore) :: (121, .aload_n 0) :: (122, .getfield 137) :: (125, .iload 6) :: (127, .baload) :: (128, .ifCond .eq 39) :: (131, .aload_n 0) :: (132, .getfield 110) :: (135, .bipush 10) :: (137, .iload_n 1) :: (138, .imul) :: (139, .aload_n 0) :: (140, .getfield 113) :: (143, .iload_n 1) :: (144, .iaload) :: (145, .iadd) :: (146, .iload 6) :: (148, .iastore) :: (149, .aload_n 0) :: (150, .getfield 113) :: (153, .iload_n 1) :: (154, .dup2) :: (155, .iaload) :: (156, .iconst 1) :: (157, .iadd) :: (158, .iastore) :: (159, .aload_n 0) :: (160, .getfield 125) :: (163, .iload 6) :: (165, .iconst (-1)) :: (166, .iastore) :: b_125_167
def b_125_119 : MCode := (119, .iconst 0) :: b_125_120
def b_125_57 : MCode := (57, .iload 6) :: (59, .aload_n 0) :: (60, .getfield 161) :: (63, .if_icmp .ge 110) :: (66, .aload_n 0) :: (67, .getfield 137) :: (70, .iload 6) :: (72, .aload_n 0) :: (73, .iload 6) :: (75, .invokevirtual 214) :: (78, .ifCond .eq 41) :: (81, .aload_n 0) :: (82, .iload 6) :: (84, .iload_n 3) :: (85, .iload_n 2) :: (86, .invokevirtual 208) :: (89, .ifCond .eq 30) :: (92, .aload_n 0) :: (93, .iload 6) :: (95, .iload_n 3) :: (96, .iload 4) :: (98, .invokevirtual 211) :: (101, .ifCond .eq 18) :: (104, .aload_n 0) :: (105, .iload_n 1) :: (106, .iload 6) :: (108, .iload_n 3) :: (109, .invokevirtual 217) :: (112, .ifCond .eq 7) :: (115, .iconst 1) :: (116, .goto 4) :: b_125_119
def b_125_54 : MCode := (54, .iconst 0) :: (55, .istore 6) :: b_125_57
def b_125_42 : MCode := (42, .aload_n 0) :: (43, .iload_n 1) :: (44, .iload 5) :: (46, .iload_n 3) :: (47, .iload_n 2) :: (48, .invokevirtual 204) :: (51, .goto (-48)) :: b_125_54
def b_125_3 : MCode := (3, .iload 5) :: (5, .aload_n 0) :: (6, .getfield 113) :: (9, .iload_n 1) :: (10, .iaload) :: (11, .if_icmp .ge 43) :: (14, .aload_n 0) :: (15, .aload_n 0) :: (16, .getfield 110) :: (19, .bipush 10) :: (21, .iload_n 1) :: (22, .imul) :: (23, .iload 5) :: (25, .iadd) :: (26, .iaload) :: (27, .iload_n 3) :: (28, .iload 4) :: (30, .invokevirtual 211) :: (33, .ifCond .eq 9) :: (36, .iinc 5 1) :: (39, .goto (-36)) :: b_125_42
def b_125_0 : MCode := (0, .iconst 0) :: (1, .istore 5) :: b_125_3
def b_126_261 : MCode := (261, .iadd) :: (262, .iastore) :: (263, .return_) :: []
def b_126_259 : MCode := (259, .bipush 15) :: b_126_261
def b_126_205 : MCode := (205, .aload_n 0) :: (206, .getfield 107) :: (209, .iload_n 1) :: (210, .iconst 1) :: (211, .bastore) :: (212, .aload_n 0) :: (213, .getfield 98) :: (216, .iload_n 3) :: (217, .iconst 1) :: (218, .iadd) :: (219, .iload_n 2) :: (220, .aload_n 0) :: (221, .getfield 31) :: (224, .iload_n 3) :: (225, .iconst 1) :: (226, .iadd) :: (227, .iaload) :: (228, .iadd) :: (229, .aload_n 0) :: (230, .getfield 40) :: (233, .iload_n 3) :: (234, .iconst 1) :: (235, .iadd) :: (236, .iaload) :: (237, .iadd) :: (238, .aload_n 0) :: (239, .getfield 13) :: (242, .iload 4) :: (244, .iaload) :: (245, .aload_n 0) :: (246, .getfield 13) :: (249, .iload 5) :: (251, .iaload) :: (252, .if_icmp .ne 7) :: (255, .iconst 0) :: (256, .goto 5) :: b_126_259
def b_126_197 : MCode := (197, .iadd) :: (198, .iastore) :: (199, .iinc 6 1) :: (202, .goto (-124)) :: b_126_205
def b_126_187 : MCode := (187, .iconst 4) :: (188, .aload_n 0) :: (189, .getfield 34) :: (192, .iload_n 3) :: (193, .iconst 1) :: (194, .iadd) :: (195, .iaload) :: (196, .imul) :: b_126_197
def b_126_140 : MCode := (140, .iadd) :: (141, .iastore) :: (142, .aload_n 0) :: (143, .getfield 140) :: (146, .bipush 6) :: (148, .aload_n 0) :: (149, .getfield 46) :: (152, .iload 7) :: (154, .iaload) :: (155, .imul) :: (156, .aload_n 0) :: (157, .getfield 7) :: (160, .iload 5) :: (162, .iaload) :: (163, .iadd) :: (164, .dup2) :: (165, .iaload) :: (166, .aload_n 0) :: (167, .getfield 46) :: (170, .iload 7) :: (172, .iaload) :: (173, .aload_n 0) :: (174, .getfield 7) :: (177, .iload 5) :: (179, .iaload) :: (180, .if_icmp .ne 7) :: (183, .iconst 0) :: (184, .goto 13) :: b_126_187
def b_126_139 : MCode := (139, .iconst 0) :: b_126_140
def b_126_78 : MCode := (78, .iload 6) :: (80, .aload_n 0) :: (81, .getfield 113) :: (84, .iload_n 1) :: (85, .iaload) :: (86, .if_icmp .ge 119) :: (89, .aload_n 0) :: (90, .getfield 110) :: (93, .bipush 10) :: (95, .iload_n 1) :: (96, .imul) :: (97, .iload 6) :: (99, .iadd) :: (100, .iaload) :: (101, .istore 7) :: (103, .aload_n 0) :: (104, .getfield 122) :: (107, .bipush 10) :: (109, .iload_n 3) :: (110, .imul) :: (111, .iload 6) :: (113, .iadd) :: (114, .iload 7) :: (116, .iastore) :: (117, .aload_n 0) :: (118, .getfield 134) :: (121, .iload 7) :: (123, .dup2) :: (124, .iaload) :: (125, .aload_n 0) :: (126, .getfield 137) :: (129, .iload 7) :: (131, .baload) :: (132, .ifCond .eq 7) :: (135, .iconst 1) :: (136, .goto 4) :: b_126_139
def b_126_0 : MCode := (0, .bipush 6) :: (2, .iload_n 1) :: (3, .imul) :: (4, .aload_n 0) :: (5, .getfield 104) :: (8, .iload_n 1) :: (9, .iaload) :: (10, .iadd) :: (11, .istore_n 3) :: (12, .aload_n 0) :: (13, .getfield 25) :: (16, .iload_n 3) :: (17, .iaload) :: (18, .istore 4) :: (20, .aload_n 0) :: (21, .getfield 25) :: (24, .iload_n 3) :: (25, .iconst 1) :: (26, .iadd) :: (27, .iaload) :: (28, .istore 5) :: (30, .aload_n 0) :: (31, .iload_n 1) :: (32, .iload_n 2) :: (33, .iload 4) :: (35, .iload 5) :: (37, .invokevirtual 227) :: (40, .aload_n 0) :: (41, .getfield 101) :: (44, .iload_n 3) :: (45, .iload_n 2) :: (46, .iastore) :: (47, .aload_n 0) :: (48, .getfield 119) :: (51, .iload_n 3) :: (52, .aload_n 0) :: (53, .iload_n 1) :: (54, .invokevirtual 220) :: (57, .bipush 80) :: (59, .iadd) :: (60, .iastore) :: (61, .aload_n 0) :: (62, .getfield 116) :: (65, .iload_n 3) :: (66, .aload_n 0) :: (67, .iload_n 1) :: (68, .invokevirtual 224) :: (71, .bipush 60) :: (73, .iadd) :: (74, .iastore) :: (75, .iconst 0) :: (76, .istore 6) :: b_126_78
def b_127_163 : MCode := (163, .ireturn) :: []
def b_127_162 : MCode := (162, .iconst 0) :: b_127_163
def b_127_158 : MCode := (158, .iconst 1) :: (159, .goto 4) :: b_127_162
def b_127_141 : MCode := (141, .iload 8) :: (143, .ifCond .ne 15) :: (146, .iload 5) :: (148, .ifCond .eq 10) :: (151, .iload 5) :: (153, .iload 6) :: (155, .if_icmp .ne 7) :: b_127_158
def b_127_135 : MCode := (135, .iinc 9 1) :: (138, .goto (-95)) :: b_127_141
def b_127_124 : MCode := (124, .istore 8) :: (126, .aload_n 0) :: (127, .getfield 83) :: (130, .iload 10) :: (132, .iaload) :: (133, .istore 7) :: b_127_135
def b_127_123 : MCode := (123, .iconst 0) :: b_127_124
def b_127_119 : MCode := (119, .iconst 1) :: (120, .goto 4) :: b_127_123
def b_127_90 : MCode := (90, .iadd) :: (91, .istore 5) :: (93, .iinc 6 1) :: (96, .iload 8) :: (98, .ifCond .eq 25) :: (101, .iload 7) :: (103, .iconst (-1)) :: (104, .if_icmp .eq 15) :: (107, .aload_n 0) :: (108, .getfield 83) :: (111, .iload 10) :: (113, .iaload) :: (114, .iload 7) :: (116, .if_icmp .ne 7) :: b_127_119
def b_127_89 : MCode := (89, .iconst 0) :: b_127_90
def b_127_43 : MCode := (43, .iload 9) :: (45, .iconst 3) :: (46, .if_icmp .ge 95) :: (49, .aload_n 0) :: (50, .getfield 95) :: (53, .bipush 18) :: (55, .iload_n 1) :: (56, .imul) :: (57, .iconst 3) :: (58, .iload_n 2) :: (59, .imul) :: (60, .iadd) :: (61, .iload 9) :: (63, .iadd) :: (64, .iaload) :: (65, .istore 10) :: (67, .iload 10) :: (69, .iconst (-1)) :: (70, .if_icmp .eq 65) :: (73, .iload 5) :: (75, .aload_n 0) :: (76, .getfield 77) :: (79, .iload 10) :: (81, .baload) :: (82, .ifCond .eq 7) :: (85, .iconst 1) :: (86, .goto 4) :: b_127_89
def b_127_35 : MCode := (35, .istore 7) :: (37, .iconst 1) :: (38, .istore 8) :: (40, .iconst 0) :: (41, .istore 9) :: b_127_43
def b_127_33 : MCode := (33, .iload 4) :: b_127_35
def b_127_22 : MCode := (22, .istore 6) :: (24, .iload_n 3) :: (25, .iconst (-1)) :: (26, .if_icmp .ne 7) :: (29, .iconst (-1)) :: (30, .goto 5) :: b_127_33
def b_127_21 : MCode := (21, .iconst 1) :: b_127_22
def b_127_10 : MCode := (10, .istore 5) :: (12, .iload_n 3) :: (13, .iconst (-1)) :: (14, .if_icmp .ne 7) :: (17, .iconst 0) :: (18, .goto 4) :: b_127_21
def b_127_9 : MCode := (9, .iconst 0) :: b_127_10
def b_127_0 : MCode := (0, .iload_n 3) :: (1, .iconst 1) :: (2, .if_icmp .ne 7) :: (5, .iconst 1) :: (6, .goto 4) :: b_127_9
def b_128_47 : MCode := (47, .iload_n 3) :: (48, .ireturn) :: []
def b_128_40 : MCode := (40, .istore_n 3) :: (41, .iinc 4 1) :: (44, .goto (-39)) :: b_128_47
def b_128_39 : MCode := (39, .iconst 0) :: b_128_40
def b_128_35 : MCode := (35, .iconst 1) :: (36, .goto 4) :: b_128_39
def b_128_5 : MCode := (5, .iload 4) :: (7, .iconst 3) :: (8, .if_icmp .ge 39) :: (11, .iload_n 3) :: (12, .ifCond .ne 23) :: (15, .aload_n 0) :: (16, .getfield 95) :: (19, .bipush 18) :: (21, .iload_n 1) :: (22, .imul) :: (23, .iconst 3) :: (24, .iload_n 2) :: (25, .imul) :: (26, .iadd) :: (27, .iload 4) :: (29, .iadd) :: (30, .iaload) :: (31, .iconst (-1)) :: (32, .if_icmp .ne 7) :: b_128_35
def b_128_0 : MCode := (0, .iconst 0) :: (1, .istore_n 3) :: (2, .iconst 0) :: (3, .istore 4) :: b_128_5
def b_129_56 : MCode := (56, .iload 4) :: (58, .ireturn) :: []
def b_129_48 : MCode := (48, .istore 4) :: (50, .iinc 5 (-1)) :: (53, .goto (-47)) :: b_129_56
def b_129_46 : MCode := (46, .iload 4) :: b_129_48
def b_129_34 : MCode := (34, .iload_n 3) :: (35, .invokevirtual 233) :: (38, .ifCond .eq 8) :: (41, .iload 5) :: (43, .goto 5) :: b_129_46
def b_129_33 : MCode := (33, .iconst 0) :: b_129_34
def b_129_6 : MCode := (6, .iload 5) :: (8, .ifCond .lt 48) :: (11, .aload_n 0) :: (12, .iload_n 1) :: (13, .iload 5) :: (15, .invokevirtual 230) :: (18, .ifCond .eq 28) :: (21, .aload_n 0) :: (22, .iload_n 1) :: (23, .iload 5) :: (25, .iload_n 2) :: (26, .ifCond .eq 7) :: (29, .iconst 1) :: (30, .goto 4) :: b_129_33
def b_129_0 : MCode := (0, .iconst (-1)) :: (1, .istore 4) :: (3, .iconst 5) :: (4, .istore 5) :: b_129_6
def b_130_76 : MCode := (76, .aload_n 0) :: (77, .getfield 95) :: (80, .bipush 18) :: (82, .iload_n 2) :: (83, .imul) :: (84, .iconst 3) :: (85, .iload_n 3) :: (86, .imul) :: (87, .iadd) :: (88, .iload 4) :: (90, .iadd) :: (91, .iload_n 1) :: (92, .iastore) :: (93, .aload_n 0) :: (94, .getfield 89) :: (97, .iload_n 1) :: (98, .iload_n 2) :: (99, .iastore) :: (100, .aload_n 0) :: (101, .getfield 92) :: (104, .iload_n 1) :: (105, .bipush 10) :: (107, .iload_n 3) :: (108, .imul) :: (109, .iload 4) :: (111, .iadd) :: (112, .iastore) :: (113, .return_) :: []
def b_130_68 : MCode := (68, .istore 4) :: (70, .iinc 5 1) :: (73, .goto (-67)) :: b_130_76
def b_130_66 : MCode := (66, .iload 4) :: b_130_68
def b_130_61 : MCode := (61, .iload 5) :: (63, .goto 5) :: b_130_66
def b_130_37 : MCode := (37, .istore 6) :: (39, .iload 6) :: (41, .ifCond .eq 25) :: (44, .iload 4) :: (46, .iconst (-1)) :: (47, .if_icmp .eq 14) :: (50, .aload_n 0) :: (51, .getfield 80) :: (54, .iload_n 1) :: (55, .iaload) :: (56, .bipush 60) :: (58, .if_icmp .ge 8) :: b_130_61
def b_130_36 : MCode := (36, .iconst 0) :: b_130_37
def b_130_6 : MCode := (6, .iload 5) :: (8, .iconst 3) :: (9, .if_icmp .ge 67) :: (12, .aload_n 0) :: (13, .getfield 95) :: (16, .bipush 18) :: (18, .iload_n 2) :: (19, .imul) :: (20, .iconst 3) :: (21, .iload_n 3) :: (22, .imul) :: (23, .iadd) :: (24, .iload 5) :: (26, .iadd) :: (27, .iaload) :: (28, .iconst (-1)) :: (29, .if_icmp .ne 7) :: (32, .iconst 1) :: (33, .goto 4) :: b_130_36
def b_130_0 : MCode := (0, .iconst (-1)) :: (1, .istore 4) :: (3, .iconst 0) :: (4, .istore 5) :: b_130_6
def b_131_0 : MCode := (0, .bipush 18) :: (2, .aload_n 0) :: (3, .getfield 89) :: (6, .iload_n 1) :: (7, .iaload) :: (8, .imul) :: (9, .aload_n 0) :: (10, .getfield 92) :: (13, .iload_n 1) :: (14, .iaload) :: (15, .bipush 10) :: (17, .idiv) :: (18, .iconst 3) :: (19, .imul) :: (20, .iadd) :: (21, .aload_n 0) :: (22, .getfield 92) :: (25, .iload_n 1) :: (26, .iaload) :: (27, .bipush 10) :: (29, .irem) :: (30, .iadd) :: (31, .ireturn) :: []
def b_132_143 : MCode := (143, .iload_n 3) :: (144, .ireturn) :: []
def b_132_136 : MCode := (136, .istore_n 3) :: (137, .iinc 4 (-1)) :: (140, .goto (-130)) :: b_132_143
def b_132_135 : MCode := (135, .iload_n 3) :: b_132_136
def b_132_101 : MCode := (101, .istore 5) :: (103, .iload 5) :: (105, .ifCond .eq 30) :: (108, .aload_n 0) :: (109, .iload 4) :: (111, .aload_n 0) :: (112, .getfield 77) :: (115, .iload_n 2) :: (116, .baload) :: (117, .aload_n 0) :: (118, .getfield 83) :: (121, .iload_n 2) :: (122, .iaload) :: (123, .invokevirtual 237) :: (126, .iconst (-1)) :: (127, .if_icmp .eq 8) :: (130, .iload 4) :: (132, .goto 4) :: b_132_135
def b_132_100 : MCode := (100, .iconst 0) :: b_132_101
def b_132_10 : MCode := (10, .iload 4) :: (12, .ifCond .lt 131) :: (15, .aload_n 0) :: (16, .getfield 68) :: (19, .iload_n 1) :: (20, .iaload) :: (21, .ifCond .le 79) :: (24, .aload_n 0) :: (25, .getfield 68) :: (28, .iload 4) :: (30, .iaload) :: (31, .ifCond .le 69) :: (34, .aload_n 0) :: (35, .getfield 65) :: (38, .iload 4) :: (40, .baload) :: (41, .ifCond .ne 59) :: (44, .aload_n 0) :: (45, .getfield 49) :: (48, .iload 4) :: (50, .iaload) :: (51, .aload_n 0) :: (52, .getfield 49) :: (55, .iload_n 1) :: (56, .iaload) :: (57, .if_icmp .lt 43) :: (60, .aload_n 0) :: (61, .getfield 71) :: (64, .iconst 3) :: (65, .iload 4) :: (67, .imul) :: (68, .iaload) :: (69, .aload_n 0) :: (70, .getfield 71) :: (73, .iconst 3) :: (74, .iload_n 1) :: (75, .imul) :: (76, .iaload) :: (77, .if_icmp .ne 23) :: (80, .aload_n 0) :: (81, .getfield 43) :: (84, .iload 4) :: (86, .iaload) :: (87, .aload_n 0) :: (88, .getfield 43) :: (91, .iload_n 1) :: (92, .iaload) :: (93, .if_icmp .ne 7) :: (96, .iconst 1) :: (97, .goto 4) :: b_132_100
def b_132_0 : MCode := (0, .iconst (-1)) :: (1, .istore_n 3) :: (2, .aload_n 0) :: (3, .getfield 161) :: (6, .iconst 1) :: (7, .isub) :: (8, .istore 4) :: b_132_10
def b_133_168 : MCode := (168, .iload_n 3) :: (169, .ireturn) :: []
def b_133_162 : MCode := (162, .iinc 4 1) :: (165, .goto (-111)) :: b_133_168
def b_133_134 : MCode := (134, .aload_n 0) :: (135, .iload 4) :: (137, .iload 5) :: (139, .aload_n 0) :: (140, .iload 5) :: (142, .aload_n 0) :: (143, .getfield 77) :: (146, .iload 4) :: (148, .baload) :: (149, .aload_n 0) :: (150, .getfield 83) :: (153, .iload 4) :: (155, .iaload) :: (156, .invokevirtual 237) :: (159, .invokevirtual 247) :: b_133_162
def b_133_54 : MCode := (54, .iload 4) :: (56, .aload_n 0) :: (57, .getfield 164) :: (60, .if_icmp .ge 108) :: (63, .aload_n 0) :: (64, .getfield 89) :: (67, .iload 4) :: (69, .iaload) :: (70, .iload_n 1) :: (71, .if_icmp .ne 91) :: (74, .aload_n 0) :: (75, .getfield 95) :: (78, .aload_n 0) :: (79, .iload 4) :: (81, .invokevirtual 241) :: (84, .iconst (-1)) :: (85, .iastore) :: (86, .aload_n 0) :: (87, .getfield 89) :: (90, .iload 4) :: (92, .iconst (-1)) :: (93, .iastore) :: (94, .aload_n 0) :: (95, .iload_n 1) :: (96, .iload 4) :: (98, .invokevirtual 244) :: (101, .istore 5) :: (103, .iload 5) :: (105, .iconst (-1)) :: (106, .if_icmp .ne 28) :: (109, .aload_n 0) :: (110, .getfield 86) :: (113, .iload 4) :: (115, .dup2) :: (116, .iaload) :: (117, .bipush 50) :: (119, .aload_n 0) :: (120, .getfield 68) :: (123, .iload_n 1) :: (124, .iaload) :: (125, .imul) :: (126, .iadd) :: (127, .iastore) :: (128, .iinc 3 1) :: (131, .goto 31) :: b_133_134
def b_133_37 : MCode := (37, .aload_n 0) :: (38, .getfield 65) :: (41, .iload_n 1) :: (42, .iconst 1) :: (43, .bastore) :: (44, .aload_n 0) :: (45, .iconst 0) :: (46, .putfield 173) :: (49, .iconst 0) :: (50, .istore_n 3) :: (51, .iconst 0) :: (52, .istore 4) :: b_133_54
def b_133_29 : MCode := (29, .invokevirtual 167) :: (32, .ifCond .eq 5) :: (35, .iconst 0) :: (36, .ireturn) :: b_133_37
def b_133_28 : MCode := (28, .iconst 0) :: b_133_29
def b_133_15 : MCode := (15, .aload_n 0) :: (16, .getfield 65) :: (19, .iload_n 1) :: (20, .baload) :: (21, .ifCond .eq 7) :: (24, .iconst 2) :: (25, .goto 4) :: b_133_28
def b_133_0 : MCode := (0, .aload_n 0) :: (1, .iload_n 1) :: (2, .invokevirtual 185) :: (5, .istore_n 2) :: (6, .aload_n 0) :: (7, .iload_n 2) :: (8, .ifCond .ne 7) :: (11, .iconst 1) :: (12, .goto 17) :: b_133_15
def b_134_119 : MCode := (119, .aload_n 0) :: (120, .getfield 77) :: (123, .aload_n 0) :: (124, .getfield 164) :: (127, .iload_n 2) :: (128, .bastore) :: (129, .aload_n 0) :: (130, .getfield 80) :: (133, .aload_n 0) :: (134, .getfield 164) :: (137, .iload_n 3) :: (138, .iastore) :: (139, .aload_n 0) :: (140, .getfield 83) :: (143, .aload_n 0) :: (144, .getfield 164) :: (147, .iload 4) :: (149, .iastore) :: (150, .aload_n 0) :: (151, .aload_n 0) :: (152, .getfield 164) :: (155, .iload_n 1) :: (156, .aload_n 0) :: (157, .iload_n 1) :: (158, .iload_n 2) :: (159, .iload 4) :: (161, .invokevirtual 237) :: (164, .invokevirtual 247) :: (167, .aload_n 0) :: (168, .dup) :: (169, .getfield 164) :: (172, .iconst 1) :: (173, .iadd) :: (174, .putfield 164) :: (177, .aload_n 0) :: (178, .getfield 164) :: (181, .iconst 1) :: (182, .isub) :: (183, .ireturn) :: []
def b_134_111 : MCode := (111, .invokevirtual 167) :: (114, .ifCond .eq 5) :: (117, .iconst 0) :: (118, .ireturn) :: b_134_119
def b_134_110 : MCode := (110, .iconst 3) :: b_134_111
def b_134_101 : MCode := (101, .iload 7) :: (103, .ifCond .eq 7) :: (106, .iconst 0) :: (107, .goto 4) :: b_134_110
def b_134_92 : MCode := (92, .iload 6) :: (94, .ifCond .ne 7) :: (97, .iconst 2) :: (98, .goto 13) :: b_134_101
def b_134_80 : MCode := (80, .istore 7) :: (82, .aload_n 0) :: (83, .iload 5) :: (85, .ifCond .ne 7) :: (88, .iconst 1) :: (89, .goto 22) :: b_134_92
def b_134_79 : MCode := (79, .iconst 0) :: b_134_80
def b_134_33 : MCode := (33, .istore 6) :: (35, .iload 5) :: (37, .ifCond .eq 42) :: (40, .iload 6) :: (42, .ifCond .eq 37) :: (45, .aload_n 0) :: (46, .getfield 65) :: (49, .iload_n 1) :: (50, .baload) :: (51, .ifCond .ne 28) :: (54, .aload_n 0) :: (55, .getfield 164) :: (58, .bipush 40) :: (60, .if_icmp .ge 19) :: (63, .aload_n 0) :: (64, .iload_n 1) :: (65, .iload_n 2) :: (66, .iload 4) :: (68, .invokevirtual 237) :: (71, .iconst (-1)) :: (72, .if_icmp .eq 7) :: (75, .iconst 1) :: (76, .goto 4) :: b_134_79
def b_134_32 : MCode := (32, .iconst 0) :: b_134_33
def b_134_0 : MCode := (0, .aload_n 0) :: (1, .iload_n 1) :: (2, .invokevirtual 185) :: (5, .istore 5) :: (7, .iload_n 3) :: (8, .iconst 0) :: (9, .bipush 99) :: (11, .invokestatic 150) :: (14, .ifCond .eq 18) :: (17, .iload 4) :: (19, .iconst 0) :: (20, .bipush 9) :: (22, .invokestatic 150) :: (25, .ifCond .eq 7) :: (28, .iconst 1) :: (29, .goto 4) :: b_134_32
def b_135_38 : MCode := (38, .aload_n 0) :: (39, .getfield 95) :: (42, .aload_n 0) :: (43, .iload_n 1) :: (44, .invokevirtual 241) :: (47, .iconst (-1)) :: (48, .iastore) :: (49, .aload_n 0) :: (50, .getfield 89) :: (53, .iload_n 1) :: (54, .iconst (-1)) :: (55, .iastore) :: (56, .aload_n 0) :: (57, .getfield 92) :: (60, .iload_n 1) :: (61, .iaload) :: (62, .ireturn) :: []
def b_135_30 : MCode := (30, .invokevirtual 167) :: (33, .ifCond .eq 5) :: (36, .iconst 0) :: (37, .ireturn) :: b_135_38
def b_135_29 : MCode := (29, .iconst 0) :: b_135_30
def b_135_15 : MCode := (15, .aload_n 0) :: (16, .getfield 89) :: (19, .iload_n 1) :: (20, .iaload) :: (21, .iconst (-1)) :: (22, .if_icmp .ne 7) :: (25, .iconst 2) :: (26, .goto 4) :: b_135_29
def b_135_0 : MCode := (0, .aload_n 0) :: (1, .iload_n 1) :: (2, .invokevirtual 251) :: (5, .istore_n 2) :: (6, .aload_n 0) :: (7, .iload_n 2) :: (8, .ifCond .ne 7) :: (11, .iconst 1) :: (12, .goto 18) :: b_135_15
def b_136_0 : MCode := (0, .aload_n 0) :: (1, .getfield 89) :: (4, .iload_n 1) :: (5, .iaload) :: (6, .istore_n 3) :: (7, .aload_n 0) :: (8, .getfield 92) :: (11, .iload_n 1) :: (12, .iaload) :: (13, .istore 4) :: (15, .aload_n 0) :: (16, .getfield 95) :: (19, .aload_n 0) :: (20, .iload_n 1) :: (21, .invokevirtual 241) :: (24, .iload_n 2) :: (25, .iastore) :: (26, .aload_n 0) :: (27, .getfield 95) :: (30, .aload_n 0) :: (31, .iload_n 2) :: (32, .invokevirtual 241) :: (35, .iload_n 1) :: (36, .iastore) :: (37, .aload_n 0) :: (38, .getfield 89) :: (41, .iload_n 1) :: (42, .aload_n 0) :: (43, .getfield 89) :: (46, .iload_n 2) :: (47, .iaload) :: (48, .iastore) :: (49, .aload_n 0) :: (50, .getfield 92) :: (53, .iload_n 1) :: (54, .aload_n 0) :: (55, .getfield 92) :: (58, .iload_n 2) :: (59, .iaload) :: (60, .iastore) :: (61, .aload_n 0) :: (62, .getfield 89) :: (65, .iload_n 2) :: (66, .iload_n 3) :: (67, .iastore) :: (68, .aload_n 0) :: (69, .getfield 92) :: (72, .iload_n 2) :: (73, .iload 4) :: (75, .iastore) :: (76, .return_) :: []
def b_137_166 : MCode := (166, .invokevirtual 167) :: (169, .pop) :: (170, .return_) :: []
def b_137_165 : MCode := (165, .iconst 3) :: b_137_166
def b_137_156 : MCode := (156, .iload 5) :: (158, .ifCond .eq 7) :: (161, .iconst 0) :: (162, .goto 4) :: b_137_165
def b_137_147 : MCode := (147, .iload_n 1) :: (148, .iload_n 2) :: (149, .if_icmp .ne 7) :: (152, .iconst 2) :: (153, .goto 13) :: b_137_156
def b_137_138 : MCode := (138, .aload_n 0) :: (139, .iload_n 3) :: (140, .ifCond .ne 7) :: (143, .iconst 1) :: (144, .goto 22) :: b_137_147
def b_137_125 : MCode := (125, .istore 5) :: (127, .iload 5) :: (129, .ifCond .ne 9) :: (132, .aload_n 0) :: (133, .iload_n 1) :: (134, .iload_n 2) :: (135, .invokevirtual 254) :: b_137_138
def b_137_124 : MCode := (124, .iconst 0) :: b_137_125
def b_137_56 : MCode := (56, .istore 4) :: (58, .iconst 0) :: (59, .istore 5) :: (61, .iload 4) :: (63, .ifCond .eq 75) :: (66, .aload_n 0) :: (67, .iload_n 1) :: (68, .iload_n 2) :: (69, .invokevirtual 254) :: (72, .aload_n 0) :: (73, .aload_n 0) :: (74, .getfield 89) :: (77, .iload_n 1) :: (78, .iaload) :: (79, .aload_n 0) :: (80, .getfield 92) :: (83, .iload_n 1) :: (84, .iaload) :: (85, .bipush 10) :: (87, .idiv) :: (88, .iconst (-1)) :: (89, .iconst (-1)) :: (90, .invokevirtual 233) :: (93, .ifCond .eq 31) :: (96, .aload_n 0) :: (97, .aload_n 0) :: (98, .getfield 89) :: (101, .iload_n 2) :: (102, .iaload) :: (103, .aload_n 0) :: (104, .getfield 92) :: (107, .iload_n 2) :: (108, .iaload) :: (109, .bipush 10) :: (111, .idiv) :: (112, .iconst (-1)) :: (113, .iconst (-1)) :: (114, .invokevirtual 233) :: (117, .ifCond .eq 7) :: (120, .iconst 1) :: (121, .goto 4) :: b_137_124
def b_137_55 : MCode := (55, .iconst 0) :: b_137_56
def b_137_21 : MCode := (21, .istore_n 3) :: (22, .iload_n 3) :: (23, .ifCond .eq 32) :: (26, .iload_n 1) :: (27, .iload_n 2) :: (28, .if_icmp .eq 27) :: (31, .aload_n 0) :: (32, .getfield 89) :: (35, .iload_n 1) :: (36, .iaload) :: (37, .iconst (-1)) :: (38, .if_icmp .eq 17) :: (41, .aload_n 0) :: (42, .getfield 89) :: (45, .iload_n 2) :: (46, .iaload) :: (47, .iconst (-1)) :: (48, .if_icmp .eq 7) :: (51, .iconst 1) :: (52, .goto 4) :: b_137_55
def b_137_20 : MCode := (20, .iconst 0) :: b_137_21
def b_137_0 : MCode := (0, .aload_n 0) :: (1, .iload_n 1) :: (2, .invokevirtual 251) :: (5, .ifCond .eq 15) :: (8, .aload_n 0) :: (9, .iload_n 2) :: (10, .invokevirtual 251) :: (13, .ifCond .eq 7) :: (16, .iconst 1) :: (17, .goto 4) :: b_137_20
def b_138_51 : MCode := (51, .ireturn) :: []
def b_138_50 : MCode := (50, .iconst (-1)) :: b_138_51
def b_138_23 : MCode := (23, .aload_n 0) :: (24, .invokevirtual 257) :: (27, .aload_n 0) :: (28, .getfield 98) :: (31, .bipush 6) :: (33, .iload_n 1) :: (34, .imul) :: (35, .iload_n 2) :: (36, .iadd) :: (37, .iaload) :: (38, .istore_n 3) :: (39, .iload_n 3) :: (40, .sipush 2000) :: (43, .if_icmp .ge 7) :: (46, .iload_n 3) :: (47, .goto 4) :: b_138_50
def b_138_15 : MCode := (15, .invokevirtual 167) :: (18, .ifCond .eq 5) :: (21, .iconst 0) :: (22, .ireturn) :: b_138_23
def b_138_14 : MCode := (14, .iconst 1) :: b_138_15
def b_138_0 : MCode := (0, .aload_n 0) :: (1, .aload_n 0) :: (2, .iload_n 1) :: (3, .iload_n 2) :: (4, .invokevirtual 181) :: (7, .ifCond .eq 7) :: (10, .iconst 0) :: (11, .goto 4) :: b_138_14
def b_139_23 : MCode := (23, .aload_n 0) :: (24, .invokevirtual 257) :: (27, .aload_n 0) :: (28, .getfield 101) :: (31, .bipush 6) :: (33, .iload_n 1) :: (34, .imul) :: (35, .iload_n 2) :: (36, .iadd) :: (37, .iaload) :: (38, .ireturn) :: []
def b_139_15 : MCode := (15, .invokevirtual 167) :: (18, .ifCond .eq 5) :: (21, .iconst 0) :: (22, .ireturn) :: b_139_23
def b_139_14 : MCode := (14, .iconst 1) :: b_139_15
def b_139_0 : MCode := (0, .aload_n 0) :: (1, .aload_n 0) :: (2, .iload_n 1) :: (3, .iload_n 2) :: (4, .invokevirtual 181) :: (7, .ifCond .eq 7) :: (10, .iconst 0) :: (11, .goto 4) :: b_139_14
def b_140_0 : MCode := (0, .aload_n 0) :: (1, .iload_n 1) :: (2, .iload_n 2) :: (3, .invokevirtual 260) :: (6, .ireturn) :: []
def b_141_37 : MCode := (37, .aload_n 0) :: (38, .invokevirtual 257) :: (41, .aload_n 0) :: (42, .getfield 122) :: (45, .bipush 10) :: (47, .bipush 6) :: (49, .iload_n 1) :: (50, .imul) :: (51, .iload_n 2) :: (52, .iadd) :: (53, .imul) :: (54, .iload_n 3) :: (55, .iadd) :: (56, .iaload) :: (57, .ireturn) :: []
def b_141_29 : MCode := (29, .invokevirtual 167) :: (32, .ifCond .eq 5) :: (35, .iconst 0) :: (36, .ireturn) :: b_141_37
def b_141_28 : MCode := (28, .iconst 2) :: b_141_29
def b_141_14 : MCode := (14, .iload_n 3) :: (15, .iconst 0) :: (16, .bipush 9) :: (18, .invokestatic 150) :: (21, .ifCond .eq 7) :: (24, .iconst 0) :: (25, .goto 4) :: b_141_28
def b_141_0 : MCode := (0, .aload_n 0) :: (1, .aload_n 0) :: (2, .iload_n 1) :: (3, .iload_n 2) :: (4, .invokevirtual 181) :: (7, .ifCond .ne 7) :: (10, .iconst 1) :: (11, .goto 18) :: b_141_14
def b_142_67 : MCode := (67, .freturn) :: []
def b_142_48 : MCode := (48, .ldc_w 263) :: (51, .aload_n 0) :: (52, .getfield 116) :: (55, .iload_n 3) :: (56, .iaload) :: (57, .i2f) :: (58, .aload_n 0) :: (59, .getfield 119) :: (62, .iload_n 3) :: (63, .iaload) :: (64, .i2f) :: (65, .fdiv) :: (66, .fmul) :: b_142_67
def b_142_23 : MCode := (23, .aload_n 0) :: (24, .invokevirtual 257) :: (27, .bipush 6) :: (29, .iload_n 1) :: (30, .imul) :: (31, .iload_n 2) :: (32, .iadd) :: (33, .istore_n 3) :: (34, .aload_n 0) :: (35, .getfield 101) :: (38, .iload_n 3) :: (39, .iaload) :: (40, .iconst (-1)) :: (41, .if_icmp .ne 7) :: (44, .fconst 0) :: (45, .goto 22) :: b_142_48
def b_142_15 : MCode := (15, .invokevirtual 167) :: (18, .ifCond .eq 5) :: (21, .fconst 0) :: (22, .freturn) :: b_142_23
def b_142_14 : MCode := (14, .iconst 1) :: b_142_15
def b_142_0 : MCode := (0, .aload_n 0) :: (1, .aload_n 0) :: (2, .iload_n 1) :: (3, .iload_n 2) :: (4, .invokevirtual 181) :: (7, .ifCond .eq 7) :: (10, .iconst 0) :: (11, .goto 4) :: b_142_14
def b_143_146 : MCode := (146, .ireturn) :: []
def b_143_145 : MCode := (145, .iconst 0) :: b_143_146
def b_143_132 : MCode := (132, .aload_n 0) :: (133, .getfield 65) :: (136, .iload_n 1) :: (137, .baload) :: (138, .ifCond .eq 7) :: (141, .iconst 1) :: (142, .goto 4) :: b_143_145
def b_143_125 : MCode := (125, .aload_n 0) :: (126, .getfield 134) :: (129, .iload_n 1) :: (130, .iaload) :: (131, .ireturn) :: b_143_132
def b_143_124 : MCode := (124, .ireturn) :: b_143_125
def b_143_123 : MCode := (123, .iconst 0) :: b_143_124
def b_143_111 : MCode := (111, .aload_n 0) :: (112, .iload_n 1) :: (113, .invokevirtual 264) :: (116, .ifCond .eq 7) :: (119, .iconst 1) :: (120, .goto 4) :: b_143_123
def b_143_104 : MCode := (104, .aload_n 0) :: (105, .getfield 131) :: (108, .iload_n 1) :: (109, .iaload) :: (110, .ireturn) :: b_143_111
def b_143_103 : MCode := (103, .ireturn) :: b_143_104
def b_143_97 : MCode := (97, .aload_n 0) :: (98, .getfield 128) :: (101, .iload_n 1) :: (102, .iaload) :: b_143_103
def b_143_83 : MCode := (83, .aload_n 0) :: (84, .getfield 125) :: (87, .iload_n 1) :: (88, .iaload) :: (89, .iconst (-1)) :: (90, .if_icmp .ne 7) :: (93, .iconst (-1)) :: (94, .goto 9) :: b_143_97
def b_143_76 : MCode := (76, .aload_n 0) :: (77, .getfield 125) :: (80, .iload_n 1) :: (81, .iaload) :: (82, .ireturn) :: b_143_83
def b_143_35 : MCode := (35, .aload_n 0) :: (36, .invokevirtual 257) :: (39, .iload_n 2) :: (40, .tableswitch 92 0 4 #[36, 43, 64, 71, 85]) :: b_143_76
def b_143_27 : MCode := (27, .invokevirtual 167) :: (30, .ifCond .eq 5) :: (33, .iconst 0) :: (34, .ireturn) :: b_143_35
def b_143_26 : MCode := (26, .iconst 2) :: b_143_27
def b_143_13 : MCode := (13, .iload_n 2) :: (14, .iconst 0) :: (15, .iconst 5) :: (16, .invokestatic 150) :: (19, .ifCond .eq 7) :: (22, .iconst 0) :: (23, .goto 4) :: b_143_26
def b_143_0 : MCode := (0, .aload_n 0) :: (1, .aload_n 0) :: (2, .iload_n 1) :: (3, .invokevirtual 185) :: (6, .ifCond .ne 7) :: (9, .iconst 1) :: (10, .goto 17) :: b_143_13
def b_144_38 : MCode := (38, .ireturn) :: []
def b_144_37 : MCode := (37, .iconst 0) :: b_144_38
def b_144_0 : MCode := (0, .aload_n 0) :: (1, .getfield 65) :: (4, .iload_n 1) :: (5, .baload) :: (6, .ifCond .ne 31) :: (9, .aload_n 0) :: (10, .getfield 68) :: (13, .iload_n 1) :: (14, .iaload) :: (15, .ifCond .le 22) :: (18, .aload_n 0) :: (19, .getfield 131) :: (22, .iload_n 1) :: (23, .iaload) :: (24, .aload_n 0) :: (25, .getfield 68) :: (28, .iload_n 1) :: (29, .iaload) :: (30, .if_icmp .ne 7) :: (33, .iconst 1) :: (34, .goto 4) :: b_144_37
def b_145_38 : MCode := (38, .iload_n 1) :: (39, .ireturn) :: []
def b_145_30 : MCode := (30, .iadd) :: (31, .istore_n 1) :: (32, .iinc 2 1) :: (35, .goto (-27)) :: b_145_38
def b_145_29 : MCode := (29, .iconst 0) :: b_145_30
def b_145_8 : MCode := (8, .iload_n 2) :: (9, .aload_n 0) :: (10, .getfield 161) :: (13, .if_icmp .ge 25) :: (16, .iload_n 1) :: (17, .aload_n 0) :: (18, .iload_n 2) :: (19, .invokevirtual 264) :: (22, .ifCond .eq 7) :: (25, .iconst 1) :: (26, .goto 4) :: b_145_29
def b_145_0 : MCode := (0, .aload_n 0) :: (1, .invokevirtual 257) :: (4, .iconst 0) :: (5, .istore_n 1) :: (6, .iconst 0) :: (7, .istore_n 2) :: b_145_8
def b_146_32 : MCode := (32, .aload_n 0) :: (33, .invokevirtual 257) :: (36, .aload_n 0) :: (37, .getfield 140) :: (40, .bipush 6) :: (42, .iload_n 1) :: (43, .imul) :: (44, .iload_n 2) :: (45, .iadd) :: (46, .iaload) :: (47, .ireturn) :: []
def b_146_24 : MCode := (24, .invokevirtual 167) :: (27, .ifCond .eq 5) :: (30, .iconst 0) :: (31, .ireturn) :: b_146_32
def b_146_23 : MCode := (23, .iconst 1) :: b_146_24
def b_146_0 : MCode := (0, .aload_n 0) :: (1, .iload_n 1) :: (2, .iconst 0) :: (3, .iconst 5) :: (4, .invokestatic 150) :: (7, .ifCond .eq 16) :: (10, .iload_n 2) :: (11, .iconst 0) :: (12, .iconst 5) :: (13, .invokestatic 150) :: (16, .ifCond .eq 7) :: (19, .iconst 0) :: (20, .goto 4) :: b_146_23
def b_147_0 : MCode := (0, .aload_n 0) :: (1, .iconst 0) :: (2, .putfield 143) :: (5, .aload_n 0) :: (6, .invokevirtual 267) :: (9, .ireturn) :: []
def b_148_100 : MCode := (100, .aload_n 0) :: (101, .getfield 19) :: (104, .iload_n 1) :: (105, .iload_n 2) :: (106, .iastore) :: (107, .aload_n 0) :: (108, .iconst 0) :: (109, .putfield 173) :: (112, .iload_n 3) :: (113, .ireturn) :: []
def b_148_92 : MCode := (92, .istore 4) :: (94, .iinc 5 10) :: (97, .goto (-60)) :: b_148_100
def b_148_90 : MCode := (90, .iload 4) :: b_148_92
def b_148_77 : MCode := (77, .istore_n 3) :: (78, .iload 6) :: (80, .iload 4) :: (82, .if_icmp .le 8) :: (85, .iload 6) :: (87, .goto 5) :: b_148_90
def b_148_76 : MCode := (76, .iload_n 3) :: b_148_77
def b_148_37 : MCode := (37, .iload 5) :: (39, .sipush 180) :: (42, .if_icmp .gt 58) :: (45, .aload_n 0) :: (46, .getfield 19) :: (49, .iload_n 1) :: (50, .iload 5) :: (52, .iastore) :: (53, .aload_n 0) :: (54, .iconst 0) :: (55, .putfield 173) :: (58, .aload_n 0) :: (59, .invokevirtual 267) :: (62, .istore 6) :: (64, .iload 6) :: (66, .iload 4) :: (68, .if_icmp .le 8) :: (71, .iload 5) :: (73, .goto 4) :: b_148_76
def b_148_22 : MCode := (22, .aload_n 0) :: (23, .getfield 19) :: (26, .iload_n 1) :: (27, .iaload) :: (28, .istore_n 2) :: (29, .iconst 0) :: (30, .istore_n 3) :: (31, .iconst (-1)) :: (32, .istore 4) :: (34, .iconst 0) :: (35, .istore 5) :: b_148_37
def b_148_14 : MCode := (14, .invokevirtual 167) :: (17, .ifCond .eq 5) :: (20, .iconst 0) :: (21, .ireturn) :: b_148_22
def b_148_13 : MCode := (13, .iconst 1) :: b_148_14
def b_148_0 : MCode := (0, .aload_n 0) :: (1, .aload_n 0) :: (2, .iload_n 1) :: (3, .invokevirtual 157) :: (6, .ifCond .eq 7) :: (9, .iconst 0) :: (10, .goto 4) :: b_148_13
def b_149_123 : MCode := (123, .aload_n 0) :: (124, .getfield 86) :: (127, .iload_n 1) :: (128, .iaload) :: (129, .ireturn) :: []
def b_149_122 : MCode := (122, .ireturn) :: b_149_123
def b_149_113 : MCode := (113, .aload_n 0) :: (114, .getfield 92) :: (117, .iload_n 1) :: (118, .iaload) :: (119, .bipush 10) :: (121, .irem) :: b_149_122
def b_149_105 : MCode := (105, .iload_n 3) :: (106, .ifCond .eq 7) :: (109, .iconst (-1)) :: (110, .goto 12) :: b_149_113
def b_149_104 : MCode := (104, .ireturn) :: b_149_105
def b_149_95 : MCode := (95, .aload_n 0) :: (96, .getfield 92) :: (99, .iload_n 1) :: (100, .iaload) :: (101, .bipush 10) :: (103, .idiv) :: b_149_104
def b_149_87 : MCode := (87, .iload_n 3) :: (88, .ifCond .eq 7) :: (91, .iconst (-1)) :: (92, .goto 12) :: b_149_95
def b_149_80 : MCode := (80, .aload_n 0) :: (81, .getfield 89) :: (84, .iload_n 1) :: (85, .iaload) :: (86, .ireturn) :: b_149_87
def b_149_50 : MCode := (50, .istore_n 3) :: (51, .iload_n 2) :: (52, .tableswitch 71 0 2 #[28, 35, 53]) :: b_149_80
def b_149_49 : MCode := (49, .iconst 0) :: b_149_50
def b_149_35 : MCode := (35, .aload_n 0) :: (36, .getfield 89) :: (39, .iload_n 1) :: (40, .iaload) :: (41, .iconst (-1)) :: (42, .if_icmp .ne 7) :: (45, .iconst 1) :: (46, .goto 4) :: b_149_49
def b_149_27 : MCode := (27, .invokevirtual 167) :: (30, .ifCond .eq 5) :: (33, .iconst 0) :: (34, .ireturn) :: b_149_35
def b_149_26 : MCode := (26, .iconst 2) :: b_149_27
def b_149_13 : MCode := (13, .iload_n 2) :: (14, .iconst 0) :: (15, .iconst 3) :: (16, .invokestatic 150) :: (19, .ifCond .eq 7) :: (22, .iconst 0) :: (23, .goto 4) :: b_149_26
def b_149_0 : MCode := (0, .aload_n 0) :: (1, .aload_n 0) :: (2, .iload_n 1) :: (3, .invokevirtual 251) :: (6, .ifCond .ne 7) :: (9, .iconst 1) :: (10, .goto 17) :: b_149_13
def b_150_73 : MCode := (73, .ireturn) :: []
def b_150_58 : MCode := (58, .aload_n 0) :: (59, .getfield 95) :: (62, .bipush 18) :: (64, .iload_n 1) :: (65, .imul) :: (66, .iconst 3) :: (67, .iload_n 2) :: (68, .imul) :: (69, .iadd) :: (70, .iload_n 3) :: (71, .iadd) :: (72, .iaload) :: b_150_73
def b_150_48 : MCode := (48, .invokevirtual 167) :: (51, .ifCond .eq 7) :: (54, .iconst 0) :: (55, .goto 18) :: b_150_58
def b_150_47 : MCode := (47, .iconst 2) :: b_150_48
def b_150_38 : MCode := (38, .iload 4) :: (40, .ifCond .eq 7) :: (43, .iconst 0) :: (44, .goto 4) :: b_150_47
def b_150_23 : MCode := (23, .istore 4) :: (25, .aload_n 0) :: (26, .aload_n 0) :: (27, .iload_n 1) :: (28, .invokevirtual 185) :: (31, .ifCond .ne 7) :: (34, .iconst 1) :: (35, .goto 13) :: b_150_38
def b_150_22 : MCode := (22, .iconst 0) :: b_150_23
def b_150_0 : MCode := (0, .iload_n 2) :: (1, .iconst 0) :: (2, .iconst 5) :: (3, .invokestatic 150) :: (6, .ifCond .eq 16) :: (9, .iload_n 3) :: (10, .iconst 0) :: (11, .iconst 2) :: (12, .invokestatic 150) :: (15, .ifCond .eq 7) :: (18, .iconst 1) :: (19, .goto 4) :: b_150_22
def b_151_50 : MCode := (50, .ireturn) :: []
def b_151_49 : MCode := (49, .iconst 0) :: b_151_50
def b_151_28 : MCode := (28, .invokevirtual 167) :: (31, .ifCond .ne 18) :: (34, .aload_n 0) :: (35, .iload_n 1) :: (36, .iload_n 2) :: (37, .iload_n 3) :: (38, .invokevirtual 237) :: (41, .iconst (-1)) :: (42, .if_icmp .eq 7) :: (45, .iconst 1) :: (46, .goto 4) :: b_151_49
def b_151_27 : MCode := (27, .iconst 2) :: b_151_28
def b_151_13 : MCode := (13, .iload_n 3) :: (14, .iconst 0) :: (15, .bipush 9) :: (17, .invokestatic 150) :: (20, .ifCond .eq 7) :: (23, .iconst 0) :: (24, .goto 4) :: b_151_27
def b_151_0 : MCode := (0, .aload_n 0) :: (1, .aload_n 0) :: (2, .iload_n 1) :: (3, .invokevirtual 185) :: (6, .ifCond .ne 7) :: (9, .iconst 1) :: (10, .goto 18) :: b_151_13
def b_152_32 : MCode := (32, .iload_n 1) :: (33, .ireturn) :: []
def b_152_9 : MCode := (9, .iload_n 2) :: (10, .aload_n 0) :: (11, .getfield 164) :: (14, .if_icmp .ge 18) :: (17, .iload_n 1) :: (18, .aload_n 0) :: (19, .getfield 86) :: (22, .iload_n 2) :: (23, .iaload) :: (24, .iadd) :: (25, .istore_n 1) :: (26, .iinc 2 1) :: (29, .goto (-20)) :: b_152_32
def b_152_0 : MCode := (0, .aload_n 0) :: (1, .iconst 0) :: (2, .putfield 143) :: (5, .iconst 0) :: (6, .istore_n 1) :: (7, .iconst 0) :: (8, .istore_n 2) :: b_152_9
def b_153_20 : MCode := (20, .return_) :: []
def b_153_5 : MCode := (5, .iload_n 2) :: (6, .iload_n 3) :: (7, .if_icmp .ge 13) :: (10, .aload_n 0) :: (11, .iload_n 2) :: (12, .iload_n 1) :: (13, .iastore) :: (14, .iinc 2 1) :: (17, .goto (-12)) :: b_153_20
def b_153_0 : MCode := (0, .iconst 0) :: (1, .istore_n 2) :: (2, .aload_n 0) :: (3, .arraylength) :: (4, .istore_n 3) :: b_153_5
def b_154_20 : MCode := (20, .return_) :: []
def b_154_5 : MCode := (5, .iload_n 2) :: (6, .iload_n 3) :: (7, .if_icmp .ge 13) :: (10, .aload_n 0) :: (11, .iload_n 2) :: (12, .fload_n 1) :: (13, .fastore) :: (14, .iinc 2 1) :: (17, .goto (-12)) :: b_154_20
def b_154_0 : MCode := (0, .iconst 0) :: (1, .istore_n 2) :: (2, .aload_n 0) :: (3, .arraylength) :: (4, .istore_n 3) :: b_154_5
def b_155_21 : MCode := (21, .iconst 0) :: (22, .ireturn) :: []
def b_155_17 : MCode := (17, .astore 4) :: (19, .iconst 2) :: (20, .ireturn) :: b_155_21
def b_155_13 : MCode := (13, .astore 4) :: (15, .iconst 1) :: (16, .ireturn) :: b_155_17
def b_155_0 : MCode := (0, .aload_n 3) :: (1, .iconst 0) :: (2, .aload_n 0) :: (3, .iload_n 1) :: (4, .iload_n 2) :: (5, .invokevirtual 7) :: (8, .i2l) :: (9, .lastore) :: (10, .goto 11) :: b_155_13
def b_156_27 : MCode := (27, .iconst 0) :: (28, .ireturn) :: []
def b_156_23 : MCode := (23, .astore 5) :: (25, .iconst 3) :: (26, .ireturn) :: b_156_27
def b_156_19 : MCode := (19, .astore 5) :: (21, .iconst 2) :: (22, .ireturn) :: b_156_23
def b_156_15 : MCode := (15, .astore 5) :: (17, .iconst 1) :: (18, .ireturn) :: b_156_19
def b_156_0 : MCode := (0, .aload 4) :: (2, .iconst 0) :: (3, .aload_n 0) :: (4, .iload_n 1) :: (5, .iload_n 2) :: (6, .iload_n 3) :: (7, .invokevirtual 17) :: (10, .i2l) :: (11, .lastore) :: (12, .goto 15) :: b_156_15
def b_157_31 : MCode := (31, .iconst 0) :: (32, .ireturn) :: []
def b_157_27 : MCode := (27, .astore 7) :: (29, .iconst 3) :: (30, .ireturn) :: b_157_31
def b_157_23 : MCode := (23, .astore 7) :: (25, .iconst 2) :: (26, .ireturn) :: b_157_27
def b_157_19 : MCode := (19, .astore 7) :: (21, .iconst 1) :: (22, .ireturn) :: b_157_23
def b_157_0 : MCode := (0, .aload 6) :: (2, .iconst 0) :: (3, .aload_n 0) :: (4, .iload_n 1) :: (5, .iload_n 2) :: (6, .iload_n 3) :: (7, .iload 4) :: (9, .iload 5) :: (11, .invokevirtual 23) :: (14, .i2l) :: (15, .lastore) :: (16, .goto 15) :: b_157_19
def b_158_21 : MCode := (21, .iconst 0) :: (22, .ireturn) :: []
def b_158_17 : MCode := (17, .astore 4) :: (19, .iconst 2) :: (20, .ireturn) :: b_158_21
def b_158_13 : MCode := (13, .astore 4) :: (15, .iconst 1) :: (16, .ireturn) :: b_158_17
def b_158_0 : MCode := (0, .aload_n 3) :: (1, .iconst 0) :: (2, .aload_n 0) :: (3, .iload_n 1) :: (4, .iload_n 2) :: (5, .invokevirtual 27) :: (8, .i2l) :: (9, .lastore) :: (10, .goto 11) :: b_158_13
def b_159_23 : MCode := (23, .iconst 0) :: (24, .ireturn) :: []
def b_159_19 : MCode := (19, .astore 5) :: (21, .iconst 2) :: (22, .ireturn) :: b_159_23
def b_159_15 : MCode := (15, .astore 5) :: (17, .iconst 1) :: (18, .ireturn) :: b_159_19
def b_159_0 : MCode := (0, .aload 4) :: (2, .iconst 0) :: (3, .aload_n 0) :: (4, .iload_n 1) :: (5, .iload_n 2) :: (6, .iload_n 3) :: (7, .invokevirtual 30) :: (10, .i2l) :: (11, .lastore) :: (12, .goto 11) :: b_159_15
def b_160_35 : MCode := (35, .iconst 0) :: (36, .ireturn) :: []
def b_160_31 : MCode := (31, .astore 9) :: (33, .iconst 3) :: (34, .ireturn) :: b_160_35
def b_160_27 : MCode := (27, .astore 9) :: (29, .iconst 2) :: (30, .ireturn) :: b_160_31
def b_160_23 : MCode := (23, .astore 9) :: (25, .iconst 1) :: (26, .ireturn) :: b_160_27
def b_160_0 : MCode := (0, .aload 8) :: (2, .iconst 0) :: (3, .aload_n 0) :: (4, .iload_n 1) :: (5, .iload_n 2) :: (6, .iload_n 3) :: (7, .iload 4) :: (9, .iload 5) :: (11, .iload 6) :: (13, .iload 7) :: (15, .invokevirtual 33) :: (18, .i2l) :: (19, .lastore) :: (20, .goto 15) :: b_160_23
def b_161_23 : MCode := (23, .iconst 0) :: (24, .ireturn) :: []
def b_161_19 : MCode := (19, .astore 5) :: (21, .iconst 2) :: (22, .ireturn) :: b_161_23
def b_161_15 : MCode := (15, .astore 5) :: (17, .iconst 1) :: (18, .ireturn) :: b_161_19
def b_161_0 : MCode := (0, .aload 4) :: (2, .iconst 0) :: (3, .aload_n 0) :: (4, .iload_n 1) :: (5, .iload_n 2) :: (6, .iload_n 3) :: (7, .invokevirtual 37) :: (10, .i2l) :: (11, .lastore) :: (12, .goto 11) :: b_161_15
def b_162_18 : MCode := (18, .iconst 0) :: (19, .ireturn) :: []
def b_162_15 : MCode := (15, .astore_n 3) :: (16, .iconst 2) :: (17, .ireturn) :: b_162_18
def b_162_12 : MCode := (12, .astore_n 3) :: (13, .iconst 1) :: (14, .ireturn) :: b_162_15
def b_162_0 : MCode := (0, .aload_n 2) :: (1, .iconst 0) :: (2, .aload_n 0) :: (3, .iload_n 1) :: (4, .invokevirtual 40) :: (7, .i2l) :: (8, .lastore) :: (9, .goto 9) :: b_162_12
def b_163_29 : MCode := (29, .iconst 0) :: (30, .ireturn) :: []
def b_163_25 : MCode := (25, .astore 6) :: (27, .iconst 3) :: (28, .ireturn) :: b_163_29
def b_163_21 : MCode := (21, .astore 6) :: (23, .iconst 2) :: (24, .ireturn) :: b_163_25
def b_163_17 : MCode := (17, .astore 6) :: (19, .iconst 1) :: (20, .ireturn) :: b_163_21
def b_163_0 : MCode := (0, .aload 5) :: (2, .iconst 0) :: (3, .aload_n 0) :: (4, .iload_n 1) :: (5, .iload_n 2) :: (6, .iload_n 3) :: (7, .iload 4) :: (9, .invokevirtual 44) :: (12, .i2l) :: (13, .lastore) :: (14, .goto 15) :: b_163_17
def b_164_18 : MCode := (18, .iconst 0) :: (19, .ireturn) :: []
def b_164_15 : MCode := (15, .astore_n 3) :: (16, .iconst 2) :: (17, .ireturn) :: b_164_18
def b_164_12 : MCode := (12, .astore_n 3) :: (13, .iconst 1) :: (14, .ireturn) :: b_164_15
def b_164_0 : MCode := (0, .aload_n 2) :: (1, .iconst 0) :: (2, .aload_n 0) :: (3, .iload_n 1) :: (4, .invokevirtual 48) :: (7, .i2l) :: (8, .lastore) :: (9, .goto 9) :: b_164_12
def b_165_18 : MCode := (18, .iconst 0) :: (19, .ireturn) :: []
def b_165_15 : MCode := (15, .astore_n 3) :: (16, .iconst 3) :: (17, .ireturn) :: b_165_18
def b_165_12 : MCode := (12, .astore_n 3) :: (13, .iconst 2) :: (14, .ireturn) :: b_165_15
def b_165_9 : MCode := (9, .astore_n 3) :: (10, .iconst 1) :: (11, .ireturn) :: b_165_12
def b_165_0 : MCode := (0, .aload_n 0) :: (1, .iload_n 1) :: (2, .iload_n 2) :: (3, .invokevirtual 51) :: (6, .goto 12) :: b_165_9
def b_166_17 : MCode := (17, .iconst 0) :: (18, .ireturn) :: []
def b_166_13 : MCode := (13, .astore 4) :: (15, .iconst 1) :: (16, .ireturn) :: b_166_17
def b_166_0 : MCode := (0, .aload_n 3) :: (1, .iconst 0) :: (2, .aload_n 0) :: (3, .iload_n 1) :: (4, .iload_n 2) :: (5, .invokevirtual 55) :: (8, .i2l) :: (9, .lastore) :: (10, .goto 7) :: b_166_13
def b_167_17 : MCode := (17, .iconst 0) :: (18, .ireturn) :: []
def b_167_13 : MCode := (13, .astore 4) :: (15, .iconst 1) :: (16, .ireturn) :: b_167_17
def b_167_0 : MCode := (0, .aload_n 3) :: (1, .iconst 0) :: (2, .aload_n 0) :: (3, .iload_n 1) :: (4, .iload_n 2) :: (5, .invokevirtual 58) :: (8, .i2l) :: (9, .lastore) :: (10, .goto 7) :: b_167_13
def b_168_17 : MCode := (17, .iconst 0) :: (18, .ireturn) :: []
def b_168_13 : MCode := (13, .astore 4) :: (15, .iconst 1) :: (16, .ireturn) :: b_168_17
def b_168_0 : MCode := (0, .aload_n 3) :: (1, .iconst 0) :: (2, .aload_n 0) :: (3, .iload_n 1) :: (4, .iload_n 2) :: (5, .invokevirtual 61) :: (8, .i2l) :: (9, .lastore) :: (10, .goto 7) :: b_168_13
def b_169_23 : MCode := (23, .iconst 0) :: (24, .ireturn) :: []
def b_169_19 : MCode := (19, .astore 5) :: (21, .iconst 2) :: (22, .ireturn) :: b_169_23
def b_169_15 : MCode := (15, .astore 5) :: (17, .iconst 1) :: (18, .ireturn) :: b_169_19
def b_169_0 : MCode := (0, .aload 4) :: (2, .iconst 0) :: (3, .aload_n 0) :: (4, .iload_n 1) :: (5, .iload_n 2) :: (6, .iload_n 3) :: (7, .invokevirtual 64) :: (10, .i2l) :: (11, .lastore) :: (12, .goto 11) :: b_169_15
def b_170_17 : MCode := (17, .iconst 0) :: (18, .ireturn) :: []
def b_170_13 : MCode := (13, .astore 4) :: (15, .iconst 1) :: (16, .ireturn) :: b_170_17
def b_170_0 : MCode := (0, .aload_n 3) :: (1, .iconst 0) :: (2, .aload_n 0) :: (3, .iload_n 1) :: (4, .iload_n 2) :: (5, .invokevirtual 67) :: (8, .f2d) :: (9, .dastore) :: (10, .goto 7) :: b_170_13
def b_171_21 : MCode := (21, .iconst 0) :: (22, .ireturn) :: []
def b_171_17 : MCode := (17, .astore 4) :: (19, .iconst 2) :: (20, .ireturn) :: b_171_21
def b_171_13 : MCode := (13, .astore 4) :: (15, .iconst 1) :: (16, .ireturn) :: b_171_17
def b_171_0 : MCode := (0, .aload_n 3) :: (1, .iconst 0) :: (2, .aload_n 0) :: (3, .iload_n 1) :: (4, .iload_n 2) :: (5, .invokevirtual 71) :: (8, .i2l) :: (9, .lastore) :: (10, .goto 11) :: b_171_13
def b_172_17 : MCode := (17, .iconst 0) :: (18, .ireturn) :: []
def b_172_13 : MCode := (13, .astore 4) :: (15, .iconst 1) :: (16, .ireturn) :: b_172_17
def b_172_0 : MCode := (0, .aload_n 3) :: (1, .iconst 0) :: (2, .aload_n 0) :: (3, .iload_n 1) :: (4, .iload_n 2) :: (5, .invokevirtual 74) :: (8, .i2l) :: (9, .lastore) :: (10, .goto 7) :: b_172_13
def b_173_15 : MCode := (15, .iconst 0) :: (16, .ireturn) :: []
def b_173_12 : MCode := (12, .astore_n 3) :: (13, .iconst 1) :: (14, .ireturn) :: b_173_15
def b_173_0 : MCode := (0, .aload_n 2) :: (1, .iconst 0) :: (2, .aload_n 0) :: (3, .iload_n 1) :: (4, .invokevirtual 77) :: (7, .i2l) :: (8, .lastore) :: (9, .goto 6) :: b_173_12
def b_174_21 : MCode := (21, .iconst 0) :: (22, .ireturn) :: []
def b_174_17 : MCode := (17, .astore 4) :: (19, .iconst 2) :: (20, .ireturn) :: b_174_21
def b_174_13 : MCode := (13, .astore 4) :: (15, .iconst 1) :: (16, .ireturn) :: b_174_17
def b_174_0 : MCode := (0, .aload_n 3) :: (1, .iconst 0) :: (2, .aload_n 0) :: (3, .iload_n 1) :: (4, .iload_n 2) :: (5, .invokevirtual 80) :: (8, .i2l) :: (9, .lastore) :: (10, .goto 11) :: b_174_13
def b_175_23 : MCode := (23, .iconst 0) :: (24, .ireturn) :: []
def b_175_19 : MCode := (19, .astore 5) :: (21, .iconst 2) :: (22, .ireturn) :: b_175_23
def b_175_15 : MCode := (15, .astore 5) :: (17, .iconst 1) :: (18, .ireturn) :: b_175_19
def b_175_0 : MCode := (0, .aload 4) :: (2, .iconst 0) :: (3, .aload_n 0) :: (4, .iload_n 1) :: (5, .iload_n 2) :: (6, .iload_n 3) :: (7, .invokevirtual 83) :: (10, .i2l) :: (11, .lastore) :: (12, .goto 11) :: b_175_15
def b_176_30 : MCode := (30, .iconst 0) :: (31, .ireturn) :: []
def b_176_26 : MCode := (26, .astore 5) :: (28, .iconst 2) :: (29, .ireturn) :: b_176_30
def b_176_22 : MCode := (22, .astore 5) :: (24, .iconst 1) :: (25, .ireturn) :: b_176_26
def b_176_18 : MCode := (18, .lastore) :: (19, .goto 11) :: b_176_22
def b_176_17 : MCode := (17, .lconst 0) :: b_176_18
def b_176_0 : MCode := (0, .aload 4) :: (2, .iconst 0) :: (3, .aload_n 0) :: (4, .iload_n 1) :: (5, .iload_n 2) :: (6, .iload_n 3) :: (7, .invokevirtual 86) :: (10, .ifCond .eq 7) :: (13, .lconst 1) :: (14, .goto 4) :: b_176_17
def b_177_1901 : MCode := (1901, .iconst 1) :: (1902, .ireturn) :: []
def b_177_1895 : MCode := (1895, .iinc 5 8) :: (1898, .goto (-1870)) :: b_177_1901
def b_177_1882 : MCode := (1882, .aload_n 1) :: (1883, .invokevirtual 179) :: (1886, .aload_n 2) :: (1887, .invokevirtual 182) :: (1890, .if_icmp .eq 5) :: (1893, .iconst 0) :: (1894, .ireturn) :: b_177_1895
def b_177_1879 : MCode := (1879, .goto 16) :: b_177_1882
def b_177_1873 : MCode := (1873, .lcmp) :: (1874, .ifCond .eq 5) :: (1877, .iconst 0) :: (1878, .ireturn) :: b_177_1879
def b_177_1872 : MCode := (1872, .lconst 0) :: b_177_1873
def b_177_1855 : MCode := (1855, .iload 6) :: (1857, .ifCond .ne 22) :: (1860, .aload_n 3) :: (1861, .iconst 0) :: (1862, .laload) :: (1863, .iload 7) :: (1865, .ifCond .eq 7) :: (1868, .lconst 1) :: (1869, .goto 4) :: b_177_1872
def b_177_1833 : MCode := (1833, .aload_n 0) :: (1834, .iload 5) :: (1836, .iconst 3) :: (1837, .iadd) :: (1838, .iaload) :: (1839, .invokevirtual 178) :: (1842, .istore 7) :: (1844, .aload_n 2) :: (1845, .invokevirtual 100) :: (1848, .iload 6) :: (1850, .if_icmp .eq 5) :: (1853, .iconst 0) :: (1854, .ireturn) :: b_177_1855
def b_177_1832 : MCode := (1832, .iconst 0) :: b_177_1833
def b_177_1800 : MCode := (1800, .aload_n 0) :: (1801, .iload 5) :: (1803, .iconst 3) :: (1804, .iadd) :: (1805, .iaload) :: (1806, .aload_n 3) :: (1807, .invokestatic 175) :: (1810, .istore 6) :: (1812, .aload_n 2) :: (1813, .aload_n 0) :: (1814, .iload 5) :: (1816, .iconst 1) :: (1817, .iadd) :: (1818, .iaload) :: (1819, .aload_n 0) :: (1820, .iload 5) :: (1822, .iconst 2) :: (1823, .iadd) :: (1824, .iaload) :: (1825, .ifCond .eq 7) :: (1828, .iconst 1) :: (1829, .goto 4) :: b_177_1832
def b_177_1799 : MCode := (1799, .iconst 0) :: b_177_1800
def b_177_1779 : MCode := (1779, .aload_n 1) :: (1780, .aload_n 0) :: (1781, .iload 5) :: (1783, .iconst 1) :: (1784, .iadd) :: (1785, .iaload) :: (1786, .aload_n 0) :: (1787, .iload 5) :: (1789, .iconst 2) :: (1790, .iadd) :: (1791, .iaload) :: (1792, .ifCond .eq 7) :: (1795, .iconst 1) :: (1796, .goto 4) :: b_177_1799
def b_177_1776 : MCode := (1776, .goto 119) :: b_177_1779
def b_177_1759 : MCode := (1759, .iload 6) :: (1761, .ifCond .ne 15) :: (1764, .aload_n 3) :: (1765, .iconst 0) :: (1766, .laload) :: (1767, .iload 7) :: (1769, .i2l) :: (1770, .lcmp) :: (1771, .ifCond .eq 5) :: (1774, .iconst 0) :: (1775, .ireturn) :: b_177_1776
def b_177_1699 : MCode := (1699, .aload_n 1) :: (1700, .aload_n 0) :: (1701, .iload 5) :: (1703, .iconst 1) :: (1704, .iadd) :: (1705, .iaload) :: (1706, .aload_n 0) :: (1707, .iload 5) :: (1709, .iconst 2) :: (1710, .iadd) :: (1711, .iaload) :: (1712, .aload_n 0) :: (1713, .iload 5) :: (1715, .iconst 3) :: (1716, .iadd) :: (1717, .iaload) :: (1718, .aload_n 3) :: (1719, .invokestatic 172) :: (1722, .istore 6) :: (1724, .aload_n 2) :: (1725, .aload_n 0) :: (1726, .iload 5) :: (1728, .iconst 1) :: (1729, .iadd) :: (1730, .iaload) :: (1731, .aload_n 0) :: (1732, .iload 5) :: (1734, .iconst 2) :: (1735, .iadd) :: (1736, .iaload) :: (1737, .aload_n 0) :: (1738, .iload 5) :: (1740, .iconst 3) :: (1741, .iadd) :: (1742, .iaload) :: (1743, .invokevirtual 174) :: (1746, .istore 7) :: (1748, .aload_n 2) :: (1749, .invokevirtual 100) :: (1752, .iload 6) :: (1754, .if_icmp .eq 5) :: (1757, .iconst 0) :: (1758, .ireturn) :: b_177_1759
def b_177_1696 : MCode := (1696, .goto 199) :: b_177_1699
def b_177_1679 : MCode := (1679, .iload 6) :: (1681, .ifCond .ne 15) :: (1684, .aload_n 3) :: (1685, .iconst 0) :: (1686, .laload) :: (1687, .iload 7) :: (1689, .i2l) :: (1690, .lcmp) :: (1691, .ifCond .eq 5) :: (1694, .iconst 0) :: (1695, .ireturn) :: b_177_1696
def b_177_1631 : MCode := (1631, .aload_n 1) :: (1632, .aload_n 0) :: (1633, .iload 5) :: (1635, .iconst 1) :: (1636, .iadd) :: (1637, .iaload) :: (1638, .aload_n 0) :: (1639, .iload 5) :: (1641, .iconst 2) :: (1642, .iadd) :: (1643, .iaload) :: (1644, .aload_n 3) :: (1645, .invokestatic 169) :: (1648, .istore 6) :: (1650, .aload_n 2) :: (1651, .aload_n 0) :: (1652, .iload 5) :: (1654, .iconst 1) :: (1655, .iadd) :: (1656, .iaload) :: (1657, .aload_n 0) :: (1658, .iload 5) :: (1660, .iconst 2) :: (1661, .iadd) :: (1662, .iaload) :: (1663, .invokevirtual 171) :: (1666, .istore 7) :: (1668, .aload_n 2) :: (1669, .invokevirtual 100) :: (1672, .iload 6) :: (1674, .if_icmp .eq 5) :: (1677, .iconst 0) :: (1678, .ireturn) :: b_177_1679
def b_177_1628 : MCode := (1628, .goto 267) :: b_177_1631
def b_177_1611 : MCode := (1611, .iload 6) :: (1613, .ifCond .ne 15) :: (1616, .aload_n 3) :: (1617, .iconst 0) :: (1618, .laload) :: (1619, .iload 7) :: (1621, .i2l) :: (1622, .lcmp) :: (1623, .ifCond .eq 5) :: (1626, .iconst 0) :: (1627, .ireturn) :: b_177_1628
def b_177_1575 : MCode := (1575, .aload_n 1) :: (1576, .aload_n 0) :: (1577, .iload 5) :: (1579, .iconst 1) :: (1580, .iadd) :: (1581, .iaload) :: (1582, .aload_n 3) :: (1583, .invokestatic 166) :: (1586, .istore 6) :: (1588, .aload_n 2) :: (1589, .aload_n 0) :: (1590, .iload 5) :: (1592, .iconst 1) :: (1593, .iadd) :: (1594, .iaload) :: (1595, .invokevirtual 168) :: (1598, .istore 7) :: (1600, .aload_n 2) :: (1601, .invokevirtual 100) :: (1604, .iload 6) :: (1606, .if_icmp .eq 5) :: (1609, .iconst 0) :: (1610, .ireturn) :: b_177_1611
def b_177_1562 : MCode := (1562, .aload_n 1) :: (1563, .invokevirtual 162) :: (1566, .aload_n 2) :: (1567, .invokevirtual 165) :: (1570, .if_icmp .eq 325) :: (1573, .iconst 0) :: (1574, .ireturn) :: b_177_1575
def b_177_1559 : MCode := (1559, .goto 336) :: b_177_1562
def b_177_1542 : MCode := (1542, .iload 6) :: (1544, .ifCond .ne 15) :: (1547, .aload_n 3) :: (1548, .iconst 0) :: (1549, .laload) :: (1550, .iload 7) :: (1552, .i2l) :: (1553, .lcmp) :: (1554, .ifCond .eq 5) :: (1557, .iconst 0) :: (1558, .ireturn) :: b_177_1559
def b_177_1494 : MCode := (1494, .aload_n 1) :: (1495, .aload_n 0) :: (1496, .iload 5) :: (1498, .iconst 1) :: (1499, .iadd) :: (1500, .iaload) :: (1501, .aload_n 0) :: (1502, .iload 5) :: (1504, .iconst 2) :: (1505, .iadd) :: (1506, .iaload) :: (1507, .aload_n 3) :: (1508, .invokestatic 159) :: (1511, .istore 6) :: (1513, .aload_n 2) :: (1514, .aload_n 0) :: (1515, .iload 5) :: (1517, .iconst 1) :: (1518, .iadd) :: (1519, .iaload) :: (1520, .aload_n 0) :: (1521, .iload 5) :: (1523, .iconst 2) :: (1524, .iadd) :: (1525, .iaload) :: (1526, .invokevirtual 161) :: (1529, .istore 7) :: (1531, .aload_n 2) :: (1532, .invokevirtual 100) :: (1535, .iload 6) :: (1537, .if_icmp .eq 5) :: (1540, .iconst 0) :: (1541, .ireturn) :: b_177_1542
def b_177_1491 : MCode := (1491, .goto 404) :: b_177_1494
def b_177_1474 : MCode := (1474, .iload 6) :: (1476, .ifCond .ne 15) :: (1479, .aload_n 3) :: (1480, .iconst 0) :: (1481, .laload) :: (1482, .iload 7) :: (1484, .i2l) :: (1485, .lcmp) :: (1486, .ifCond .eq 5) :: (1489, .iconst 0) :: (1490, .ireturn) :: b_177_1491
def b_177_1426 : MCode := (1426, .aload_n 1) :: (1427, .aload_n 0) :: (1428, .iload 5) :: (1430, .iconst 1) :: (1431, .iadd) :: (1432, .iaload) :: (1433, .aload_n 0) :: (1434, .iload 5) :: (1436, .iconst 2) :: (1437, .iadd) :: (1438, .iaload) :: (1439, .aload_n 3) :: (1440, .invokestatic 156) :: (1443, .istore 6) :: (1445, .aload_n 2) :: (1446, .aload_n 0) :: (1447, .iload 5) :: (1449, .iconst 1) :: (1450, .iadd) :: (1451, .iaload) :: (1452, .aload_n 0) :: (1453, .iload 5) :: (1455, .iconst 2) :: (1456, .iadd) :: (1457, .iaload) :: (1458, .invokevirtual 158) :: (1461, .istore 7) :: (1463, .aload_n 2) :: (1464, .invokevirtual 100) :: (1467, .iload 6) :: (1469, .if_icmp .eq 5) :: (1472, .iconst 0) :: (1473, .ireturn) :: b_177_1474
def b_177_1423 : MCode := (1423, .goto 472) :: b_177_1426
def b_177_1421 : MCode := (1421, .iconst 0) :: (1422, .ireturn) :: b_177_1423
def b_177_1385 : MCode := (1385, .iload 6) :: (1387, .ifCond .ne 36) :: (1390, .aload 4) :: (1392, .iconst 0) :: (1393, .daload) :: (1394, .fload 7) :: (1396, .f2d) :: (1397, .dcmp .l) :: (1398, .ifCond .eq 25) :: (1401, .aload 4) :: (1403, .iconst 0) :: (1404, .daload) :: (1405, .aload 4) :: (1407, .iconst 0) :: (1408, .daload) :: (1409, .dcmp .l) :: (1410, .ifCond .eq 11) :: (1413, .fload 7) :: (1415, .fload 7) :: (1417, .fcmp .l) :: (1418, .ifCond .ne 5) :: b_177_1421
def b_177_1336 : MCode := (1336, .aload_n 1) :: (1337, .aload_n 0) :: (1338, .iload 5) :: (1340, .iconst 1) :: (1341, .iadd) :: (1342, .iaload) :: (1343, .aload_n 0) :: (1344, .iload 5) :: (1346, .iconst 2) :: (1347, .iadd) :: (1348, .iaload) :: (1349, .aload 4) :: (1351, .invokestatic 152) :: (1354, .istore 6) :: (1356, .aload_n 2) :: (1357, .aload_n 0) :: (1358, .iload 5) :: (1360, .iconst 1) :: (1361, .iadd) :: (1362, .iaload) :: (1363, .aload_n 0) :: (1364, .iload 5) :: (1366, .iconst 2) :: (1367, .iadd) :: (1368, .iaload) :: (1369, .invokevirtual 155) :: (1372, .fstore 7) :: (1374, .aload_n 2) :: (1375, .invokevirtual 100) :: (1378, .iload 6) :: (1380, .if_icmp .eq 5) :: (1383, .iconst 0) :: (1384, .ireturn) :: b_177_1385
def b_177_1333 : MCode := (1333, .goto 562) :: b_177_1336
def b_177_1316 : MCode := (1316, .iload 6) :: (1318, .ifCond .ne 15) :: (1321, .aload_n 3) :: (1322, .iconst 0) :: (1323, .laload) :: (1324, .iload 7) :: (1326, .i2l) :: (1327, .lcmp) :: (1328, .ifCond .eq 5) :: (1331, .iconst 0) :: (1332, .ireturn) :: b_177_1333
def b_177_1256 : MCode := (1256, .aload_n 1) :: (1257, .aload_n 0) :: (1258, .iload 5) :: (1260, .iconst 1) :: (1261, .iadd) :: (1262, .iaload) :: (1263, .aload_n 0) :: (1264, .iload 5) :: (1266, .iconst 2) :: (1267, .iadd) :: (1268, .iaload) :: (1269, .aload_n 0) :: (1270, .iload 5) :: (1272, .iconst 3) :: (1273, .iadd) :: (1274, .iaload) :: (1275, .aload_n 3) :: (1276, .invokestatic 149) :: (1279, .istore 6) :: (1281, .aload_n 2) :: (1282, .aload_n 0) :: (1283, .iload 5) :: (1285, .iconst 1) :: (1286, .iadd) :: (1287, .iaload) :: (1288, .aload_n 0) :: (1289, .iload 5) :: (1291, .iconst 2) :: (1292, .iadd) :: (1293, .iaload) :: (1294, .aload_n 0) :: (1295, .iload 5) :: (1297, .iconst 3) :: (1298, .iadd) :: (1299, .iaload) :: (1300, .invokevirtual 151) :: (1303, .istore 7) :: (1305, .aload_n 2) :: (1306, .invokevirtual 100) :: (1309, .iload 6) :: (1311, .if_icmp .eq 5) :: (1314, .iconst 0) :: (1315, .ireturn) :: b_177_1316
def b_177_1253 : MCode := (1253, .goto 642) :: b_177_1256
def b_177_1236 : MCode := (1236, .iload 6) :: (1238, .ifCond .ne 15) :: (1241, .aload_n 3) :: (1242, .iconst 0) :: (1243, .laload) :: (1244, .iload 7) :: (1246, .i2l) :: (1247, .lcmp) :: (1248, .ifCond .eq 5) :: (1251, .iconst 0) :: (1252, .ireturn) :: b_177_1253
def b_177_1188 : MCode := (1188, .aload_n 1) :: (1189, .aload_n 0) :: (1190, .iload 5) :: (1192, .iconst 1) :: (1193, .iadd) :: (1194, .iaload) :: (1195, .aload_n 0) :: (1196, .iload 5) :: (1198, .iconst 2) :: (1199, .iadd) :: (1200, .iaload) :: (1201, .aload_n 3) :: (1202, .invokestatic 146) :: (1205, .istore 6) :: (1207, .aload_n 2) :: (1208, .aload_n 0) :: (1209, .iload 5) :: (1211, .iconst 1) :: (1212, .iadd) :: (1213, .iaload) :: (1214, .aload_n 0) :: (1215, .iload 5) :: (1217, .iconst 2) :: (1218, .iadd) :: (1219, .iaload) :: (1220, .invokevirtual 148) :: (1223, .istore 7) :: (1225, .aload_n 2) :: (1226, .invokevirtual 100) :: (1229, .iload 6) :: (1231, .if_icmp .eq 5) :: (1234, .iconst 0) :: (1235, .ireturn) :: b_177_1236
def b_177_1185 : MCode := (1185, .goto 710) :: b_177_1188
def b_177_1168 : MCode := (1168, .iload 6) :: (1170, .ifCond .ne 15) :: (1173, .aload_n 3) :: (1174, .iconst 0) :: (1175, .laload) :: (1176, .iload 7) :: (1178, .i2l) :: (1179, .lcmp) :: (1180, .ifCond .eq 5) :: (1183, .iconst 0) :: (1184, .ireturn) :: b_177_1185
def b_177_1120 : MCode := (1120, .aload_n 1) :: (1121, .aload_n 0) :: (1122, .iload 5) :: (1124, .iconst 1) :: (1125, .iadd) :: (1126, .iaload) :: (1127, .aload_n 0) :: (1128, .iload 5) :: (1130, .iconst 2) :: (1131, .iadd) :: (1132, .iaload) :: (1133, .aload_n 3) :: (1134, .invokestatic 143) :: (1137, .istore 6) :: (1139, .aload_n 2) :: (1140, .aload_n 0) :: (1141, .iload 5) :: (1143, .iconst 1) :: (1144, .iadd) :: (1145, .iaload) :: (1146, .aload_n 0) :: (1147, .iload 5) :: (1149, .iconst 2) :: (1150, .iadd) :: (1151, .iaload) :: (1152, .invokevirtual 145) :: (1155, .istore 7) :: (1157, .aload_n 2) :: (1158, .invokevirtual 100) :: (1161, .iload 6) :: (1163, .if_icmp .eq 5) :: (1166, .iconst 0) :: (1167, .ireturn) :: b_177_1168
def b_177_1117 : MCode := (1117, .goto 778) :: b_177_1120
def b_177_1100 : MCode := (1100, .iload 6) :: (1102, .ifCond .ne 15) :: (1105, .aload_n 3) :: (1106, .iconst 0) :: (1107, .laload) :: (1108, .iload 7) :: (1110, .i2l) :: (1111, .lcmp) :: (1112, .ifCond .eq 5) :: (1115, .iconst 0) :: (1116, .ireturn) :: b_177_1117
def b_177_1052 : MCode := (1052, .aload_n 1) :: (1053, .aload_n 0) :: (1054, .iload 5) :: (1056, .iconst 1) :: (1057, .iadd) :: (1058, .iaload) :: (1059, .aload_n 0) :: (1060, .iload 5) :: (1062, .iconst 2) :: (1063, .iadd) :: (1064, .iaload) :: (1065, .aload_n 3) :: (1066, .invokestatic 140) :: (1069, .istore 6) :: (1071, .aload_n 2) :: (1072, .aload_n 0) :: (1073, .iload 5) :: (1075, .iconst 1) :: (1076, .iadd) :: (1077, .iaload) :: (1078, .aload_n 0) :: (1079, .iload 5) :: (1081, .iconst 2) :: (1082, .iadd) :: (1083, .iaload) :: (1084, .invokevirtual 142) :: (1087, .istore 7) :: (1089, .aload_n 2) :: (1090, .invokevirtual 100) :: (1093, .iload 6) :: (1095, .if_icmp .eq 5) :: (1098, .iconst 0) :: (1099, .ireturn) :: b_177_1100
def b_177_1049 : MCode := (1049, .goto 846) :: b_177_1052
def b_177_1004 : MCode := (1004, .aload_n 1) :: (1005, .aload_n 0) :: (1006, .iload 5) :: (1008, .iconst 1) :: (1009, .iadd) :: (1010, .iaload) :: (1011, .aload_n 0) :: (1012, .iload 5) :: (1014, .iconst 2) :: (1015, .iadd) :: (1016, .iaload) :: (1017, .invokestatic 136) :: (1020, .istore 6) :: (1022, .aload_n 2) :: (1023, .aload_n 0) :: (1024, .iload 5) :: (1026, .iconst 1) :: (1027, .iadd) :: (1028, .iaload) :: (1029, .aload_n 0) :: (1030, .iload 5) :: (1032, .iconst 2) :: (1033, .iadd) :: (1034, .iaload) :: (1035, .invokevirtual 139) :: (1038, .aload_n 2) :: (1039, .invokevirtual 100) :: (1042, .iload 6) :: (1044, .if_icmp .eq 5) :: (1047, .iconst 0) :: (1048, .ireturn) :: b_177_1049
def b_177_1001 : MCode := (1001, .goto 894) :: b_177_1004
def b_177_984 : MCode := (984, .iload 6) :: (986, .ifCond .ne 15) :: (989, .aload_n 3) :: (990, .iconst 0) :: (991, .laload) :: (992, .iload 7) :: (994, .i2l) :: (995, .lcmp) :: (996, .ifCond .eq 5) :: (999, .iconst 0) :: (1000, .ireturn) :: b_177_1001
def b_177_948 : MCode := (948, .aload_n 1) :: (949, .aload_n 0) :: (950, .iload 5) :: (952, .iconst 1) :: (953, .iadd) :: (954, .iaload) :: (955, .aload_n 3) :: (956, .invokestatic 133) :: (959, .istore 6) :: (961, .aload_n 2) :: (962, .aload_n 0) :: (963, .iload 5) :: (965, .iconst 1) :: (966, .iadd) :: (967, .iaload) :: (968, .invokevirtual 135) :: (971, .istore 7) :: (973, .aload_n 2) :: (974, .invokevirtual 100) :: (977, .iload 6) :: (979, .if_icmp .eq 5) :: (982, .iconst 0) :: (983, .ireturn) :: b_177_984
def b_177_945 : MCode := (945, .goto 950) :: b_177_948
def b_177_928 : MCode := (928, .iload 6) :: (930, .ifCond .ne 15) :: (933, .aload_n 3) :: (934, .iconst 0) :: (935, .laload) :: (936, .iload 7) :: (938, .i2l) :: (939, .lcmp) :: (940, .ifCond .eq 5) :: (943, .iconst 0) :: (944, .ireturn) :: b_177_945
def b_177_900 : MCode := (900, .aload_n 0) :: (901, .iload 5) :: (903, .iconst 3) :: (904, .iadd) :: (905, .iaload) :: (906, .aload_n 0) :: (907, .iload 5) :: (909, .iconst 4) :: (910, .iadd) :: (911, .iaload) :: (912, .invokevirtual 132) :: (915, .istore 7) :: (917, .aload_n 2) :: (918, .invokevirtual 100) :: (921, .iload 6) :: (923, .if_icmp .eq 5) :: (926, .iconst 0) :: (927, .ireturn) :: b_177_928
def b_177_899 : MCode := (899, .iconst 0) :: b_177_900
def b_177_861 : MCode := (861, .aload_n 0) :: (862, .iload 5) :: (864, .iconst 3) :: (865, .iadd) :: (866, .iaload) :: (867, .aload_n 0) :: (868, .iload 5) :: (870, .iconst 4) :: (871, .iadd) :: (872, .iaload) :: (873, .aload_n 3) :: (874, .invokestatic 129) :: (877, .istore 6) :: (879, .aload_n 2) :: (880, .aload_n 0) :: (881, .iload 5) :: (883, .iconst 1) :: (884, .iadd) :: (885, .iaload) :: (886, .aload_n 0) :: (887, .iload 5) :: (889, .iconst 2) :: (890, .iadd) :: (891, .iaload) :: (892, .ifCond .eq 7) :: (895, .iconst 1) :: (896, .goto 4) :: b_177_899
def b_177_860 : MCode := (860, .iconst 0) :: b_177_861
def b_177_840 : MCode := (840, .aload_n 1) :: (841, .aload_n 0) :: (842, .iload 5) :: (844, .iconst 1) :: (845, .iadd) :: (846, .iaload) :: (847, .aload_n 0) :: (848, .iload 5) :: (850, .iconst 2) :: (851, .iadd) :: (852, .iaload) :: (853, .ifCond .eq 7) :: (856, .iconst 1) :: (857, .goto 4) :: b_177_860
def b_177_837 : MCode := (837, .goto 1058) :: b_177_840
def b_177_820 : MCode := (820, .iload 6) :: (822, .ifCond .ne 15) :: (825, .aload_n 3) :: (826, .iconst 0) :: (827, .laload) :: (828, .iload 7) :: (830, .i2l) :: (831, .lcmp) :: (832, .ifCond .eq 5) :: (835, .iconst 0) :: (836, .ireturn) :: b_177_837
def b_177_784 : MCode := (784, .aload_n 1) :: (785, .aload_n 0) :: (786, .iload 5) :: (788, .iconst 1) :: (789, .iadd) :: (790, .iaload) :: (791, .aload_n 3) :: (792, .invokestatic 125) :: (795, .istore 6) :: (797, .aload_n 2) :: (798, .aload_n 0) :: (799, .iload 5) :: (801, .iconst 1) :: (802, .iadd) :: (803, .iaload) :: (804, .invokevirtual 128) :: (807, .istore 7) :: (809, .aload_n 2) :: (810, .invokevirtual 100) :: (813, .iload 6) :: (815, .if_icmp .eq 5) :: (818, .iconst 0) :: (819, .ireturn) :: b_177_820
def b_177_781 : MCode := (781, .goto 1114) :: b_177_784
def b_177_764 : MCode := (764, .iload 6) :: (766, .ifCond .ne 15) :: (769, .aload_n 3) :: (770, .iconst 0) :: (771, .laload) :: (772, .iload 7) :: (774, .i2l) :: (775, .lcmp) :: (776, .ifCond .eq 5) :: (779, .iconst 0) :: (780, .ireturn) :: b_177_781
def b_177_704 : MCode := (704, .aload_n 1) :: (705, .aload_n 0) :: (706, .iload 5) :: (708, .iconst 1) :: (709, .iadd) :: (710, .iaload) :: (711, .aload_n 0) :: (712, .iload 5) :: (714, .iconst 2) :: (715, .iadd) :: (716, .iaload) :: (717, .aload_n 0) :: (718, .iload 5) :: (720, .iconst 3) :: (721, .iadd) :: (722, .iaload) :: (723, .aload_n 3) :: (724, .invokestatic 122) :: (727, .istore 6) :: (729, .aload_n 2) :: (730, .aload_n 0) :: (731, .iload 5) :: (733, .iconst 1) :: (734, .iadd) :: (735, .iaload) :: (736, .aload_n 0) :: (737, .iload 5) :: (739, .iconst 2) :: (740, .iadd) :: (741, .iaload) :: (742, .aload_n 0) :: (743, .iload 5) :: (745, .iconst 3) :: (746, .iadd) :: (747, .iaload) :: (748, .invokevirtual 124) :: (751, .istore 7) :: (753, .aload_n 2) :: (754, .invokevirtual 100) :: (757, .iload 6) :: (759, .if_icmp .eq 5) :: (762, .iconst 0) :: (763, .ireturn) :: b_177_764
def b_177_701 : MCode := (701, .goto 1194) :: b_177_704
def b_177_684 : MCode := (684, .iload 6) :: (686, .ifCond .ne 15) :: (689, .aload_n 3) :: (690, .iconst 0) :: (691, .laload) :: (692, .iload 7) :: (694, .i2l) :: (695, .lcmp) :: (696, .ifCond .eq 5) :: (699, .iconst 0) :: (700, .ireturn) :: b_177_701
def b_177_668 : MCode := (668, .invokevirtual 121) :: (671, .istore 7) :: (673, .aload_n 2) :: (674, .invokevirtual 100) :: (677, .iload 6) :: (679, .if_icmp .eq 5) :: (682, .iconst 0) :: (683, .ireturn) :: b_177_684
def b_177_667 : MCode := (667, .iconst 0) :: b_177_668
def b_177_609 : MCode := (609, .aload_n 3) :: (610, .invokestatic 118) :: (613, .istore 6) :: (615, .aload_n 2) :: (616, .aload_n 0) :: (617, .iload 5) :: (619, .iconst 1) :: (620, .iadd) :: (621, .iaload) :: (622, .aload_n 0) :: (623, .iload 5) :: (625, .iconst 2) :: (626, .iadd) :: (627, .iaload) :: (628, .aload_n 0) :: (629, .iload 5) :: (631, .iconst 3) :: (632, .iadd) :: (633, .iaload) :: (634, .aload_n 0) :: (635, .iload 5) :: (637, .iconst 4) :: (638, .iadd) :: (639, .iaload) :: (640, .aload_n 0) :: (641, .iload 5) :: (643, .iconst 5) :: (644, .iadd) :: (645, .iaload) :: (646, .aload_n 0) :: (647, .iload 5) :: (649, .bipush 6) :: (651, .iadd) :: (652, .iaload) :: (653, .aload_n 0) :: (654, .iload 5) :: (656, .bipush 7) :: (658, .iadd) :: (659, .iaload) :: (660, .ifCond .eq 7) :: (663, .iconst 1) :: (664, .goto 4) :: b_177_667
def b_177_608 : MCode := (608, .iconst 0) :: b_177_609
def b_177_556 : MCode := (556, .aload_n 1) :: (557, .aload_n 0) :: (558, .iload 5) :: (560, .iconst 1) :: (561, .iadd) :: (562, .iaload) :: (563, .aload_n 0) :: (564, .iload 5) :: (566, .iconst 2) :: (567, .iadd) :: (568, .iaload) :: (569, .aload_n 0) :: (570, .iload 5) :: (572, .iconst 3) :: (573, .iadd) :: (574, .iaload) :: (575, .aload_n 0) :: (576, .iload 5) :: (578, .iconst 4) :: (579, .iadd) :: (580, .iaload) :: (581, .aload_n 0) :: (582, .iload 5) :: (584, .iconst 5) :: (585, .iadd) :: (586, .iaload) :: (587, .aload_n 0) :: (588, .iload 5) :: (590, .bipush 6) :: (592, .iadd) :: (593, .iaload) :: (594, .aload_n 0) :: (595, .iload 5) :: (597, .bipush 7) :: (599, .iadd) :: (600, .iaload) :: (601, .ifCond .eq 7) :: (604, .iconst 1) :: (605, .goto 4) :: b_177_608
def b_177_553 : MCode := (553, .goto 1342) :: b_177_556
def b_177_536 : MCode := (536, .iload 6) :: (538, .ifCond .ne 15) :: (541, .aload_n 3) :: (542, .iconst 0) :: (543, .laload) :: (544, .iload 7) :: (546, .i2l) :: (547, .lcmp) :: (548, .ifCond .eq 5) :: (551, .iconst 0) :: (552, .ireturn) :: b_177_553
def b_177_476 : MCode := (476, .aload_n 1) :: (477, .aload_n 0) :: (478, .iload 5) :: (480, .iconst 1) :: (481, .iadd) :: (482, .iaload) :: (483, .aload_n 0) :: (484, .iload 5) :: (486, .iconst 2) :: (487, .iadd) :: (488, .iaload) :: (489, .aload_n 0) :: (490, .iload 5) :: (492, .iconst 3) :: (493, .iadd) :: (494, .iaload) :: (495, .aload_n 3) :: (496, .invokestatic 115) :: (499, .istore 6) :: (501, .aload_n 2) :: (502, .aload_n 0) :: (503, .iload 5) :: (505, .iconst 1) :: (506, .iadd) :: (507, .iaload) :: (508, .aload_n 0) :: (509, .iload 5) :: (511, .iconst 2) :: (512, .iadd) :: (513, .iaload) :: (514, .aload_n 0) :: (515, .iload 5) :: (517, .iconst 3) :: (518, .iadd) :: (519, .iaload) :: (520, .invokevirtual 117) :: (523, .istore 7) :: (525, .aload_n 2) :: (526, .invokevirtual 100) :: (529, .iload 6) :: (531, .if_icmp .eq 5) :: (534, .iconst 0) :: (535, .ireturn) :: b_177_536
def b_177_473 : MCode := (473, .goto 1422) :: b_177_476
def b_177_456 : MCode := (456, .iload 6) :: (458, .ifCond .ne 15) :: (461, .aload_n 3) :: (462, .iconst 0) :: (463, .laload) :: (464, .iload 7) :: (466, .i2l) :: (467, .lcmp) :: (468, .ifCond .eq 5) :: (471, .iconst 0) :: (472, .ireturn) :: b_177_473
def b_177_408 : MCode := (408, .aload_n 1) :: (409, .aload_n 0) :: (410, .iload 5) :: (412, .iconst 1) :: (413, .iadd) :: (414, .iaload) :: (415, .aload_n 0) :: (416, .iload 5) :: (418, .iconst 2) :: (419, .iadd) :: (420, .iaload) :: (421, .aload_n 3) :: (422, .invokestatic 112) :: (425, .istore 6) :: (427, .aload_n 2) :: (428, .aload_n 0) :: (429, .iload 5) :: (431, .iconst 1) :: (432, .iadd) :: (433, .iaload) :: (434, .aload_n 0) :: (435, .iload 5) :: (437, .iconst 2) :: (438, .iadd) :: (439, .iaload) :: (440, .invokevirtual 114) :: (443, .istore 7) :: (445, .aload_n 2) :: (446, .invokevirtual 100) :: (449, .iload 6) :: (451, .if_icmp .eq 5) :: (454, .iconst 0) :: (455, .ireturn) :: b_177_456
def b_177_405 : MCode := (405, .goto 1490) :: b_177_408
def b_177_388 : MCode := (388, .iload 6) :: (390, .ifCond .ne 15) :: (393, .aload_n 3) :: (394, .iconst 0) :: (395, .laload) :: (396, .iload 7) :: (398, .i2l) :: (399, .lcmp) :: (400, .ifCond .eq 5) :: (403, .iconst 0) :: (404, .ireturn) :: b_177_405
def b_177_304 : MCode := (304, .aload_n 1) :: (305, .aload_n 0) :: (306, .iload 5) :: (308, .iconst 1) :: (309, .iadd) :: (310, .iaload) :: (311, .aload_n 0) :: (312, .iload 5) :: (314, .iconst 2) :: (315, .iadd) :: (316, .iaload) :: (317, .aload_n 0) :: (318, .iload 5) :: (320, .iconst 3) :: (321, .iadd) :: (322, .iaload) :: (323, .aload_n 0) :: (324, .iload 5) :: (326, .iconst 4) :: (327, .iadd) :: (328, .iaload) :: (329, .aload_n 0) :: (330, .iload 5) :: (332, .iconst 5) :: (333, .iadd) :: (334, .iaload) :: (335, .aload_n 3) :: (336, .invokestatic 108) :: (339, .istore 6) :: (341, .aload_n 2) :: (342, .aload_n 0) :: (343, .iload 5) :: (345, .iconst 1) :: (346, .iadd) :: (347, .iaload) :: (348, .aload_n 0) :: (349, .iload 5) :: (351, .iconst 2) :: (352, .iadd) :: (353, .iaload) :: (354, .aload_n 0) :: (355, .iload 5) :: (357, .iconst 3) :: (358, .iadd) :: (359, .iaload) :: (360, .aload_n 0) :: (361, .iload 5) :: (363, .iconst 4) :: (364, .iadd) :: (365, .iaload) :: (366, .aload_n 0) :: (367, .iload 5) :: (369, .iconst 5) :: (370, .iadd) :: (371, .iaload) :: (372, .invokevirtual 111) :: (375, .istore 7) :: (377, .aload_n 2) :: (378, .invokevirtual 100) :: (381, .iload 6) :: (383, .if_icmp .eq 5) :: (386, .iconst 0) :: (387, .ireturn) :: b_177_388
def b_177_301 : MCode := (301, .goto 1594) :: b_177_304
def b_177_284 : MCode := (284, .iload 6) :: (286, .ifCond .ne 15) :: (289, .aload_n 3) :: (290, .iconst 0) :: (291, .laload) :: (292, .iload 7) :: (294, .i2l) :: (295, .lcmp) :: (296, .ifCond .eq 5) :: (299, .iconst 0) :: (300, .ireturn) :: b_177_301
def b_177_224 : MCode := (224, .aload_n 1) :: (225, .aload_n 0) :: (226, .iload 5) :: (228, .iconst 1) :: (229, .iadd) :: (230, .iaload) :: (231, .aload_n 0) :: (232, .iload 5) :: (234, .iconst 2) :: (235, .iadd) :: (236, .iaload) :: (237, .aload_n 0) :: (238, .iload 5) :: (240, .iconst 3) :: (241, .iadd) :: (242, .iaload) :: (243, .aload_n 3) :: (244, .invokestatic 104) :: (247, .istore 6) :: (249, .aload_n 2) :: (250, .aload_n 0) :: (251, .iload 5) :: (253, .iconst 1) :: (254, .iadd) :: (255, .iaload) :: (256, .aload_n 0) :: (257, .iload 5) :: (259, .iconst 2) :: (260, .iadd) :: (261, .iaload) :: (262, .aload_n 0) :: (263, .iload 5) :: (265, .iconst 3) :: (266, .iadd) :: (267, .iaload) :: (268, .invokevirtual 107) :: (271, .istore 7) :: (273, .aload_n 2) :: (274, .invokevirtual 100) :: (277, .iload 6) :: (279, .if_icmp .eq 5) :: (282, .iconst 0) :: (283, .ireturn) :: b_177_284
def b_177_221 : MCode := (221, .goto 1674) :: b_177_224
def b_177_204 : MCode := (204, .iload 6) :: (206, .ifCond .ne 15) :: (209, .aload_n 3) :: (210, .iconst 0) :: (211, .laload) :: (212, .iload 7) :: (214, .i2l) :: (215, .lcmp) :: (216, .ifCond .eq 5) :: (219, .iconst 0) :: (220, .ireturn) :: b_177_221
def b_177_156 : MCode := (156, .aload_n 1) :: (157, .aload_n 0) :: (158, .iload 5) :: (160, .iconst 1) :: (161, .iadd) :: (162, .iaload) :: (163, .aload_n 0) :: (164, .iload 5) :: (166, .iconst 2) :: (167, .iadd) :: (168, .iaload) :: (169, .aload_n 3) :: (170, .invokestatic 94) :: (173, .istore 6) :: (175, .aload_n 2) :: (176, .aload_n 0) :: (177, .iload 5) :: (179, .iconst 1) :: (180, .iadd) :: (181, .iaload) :: (182, .aload_n 0) :: (183, .iload 5) :: (185, .iconst 2) :: (186, .iadd) :: (187, .iaload) :: (188, .invokevirtual 99) :: (191, .istore 7) :: (193, .aload_n 2) :: (194, .invokevirtual 100) :: (197, .iload 6) :: (199, .if_icmp .eq 5) :: (202, .iconst 0) :: (203, .ireturn) :: b_177_204
def b_177_28 : MCode := (28, .iload 5) :: (30, .aload_n 0) :: (31, .arraylength) :: (32, .bipush 8) :: (34, .isub) :: (35, .if_icmp .gt 1866) :: (38, .aload_n 0) :: (39, .iload 5) :: (41, .iaload) :: (42, .bipush 31) :: (44, .iand) :: (45, .tableswitch 1850 0 23 #[111, 179, 259, 363, 431, 511, 659, 739, 795, 903, 959, 1007, 1075, 1143, 1211, 1291, 1381, 1449, 1517, 1530, 1586, 1654, 1734, 1837]) :: b_177_156
def b_177_0 : MCode := (0, .new 8) :: (3, .dup) :: (4, .invokespecial 90) :: (7, .astore_n 1) :: (8, .new 91) :: (11, .dup) :: (12, .invokespecial 93) :: (15, .astore_n 2) :: (16, .iconst 1) :: (17, .newarray .long) :: (19, .astore_n 3) :: (20, .iconst 1) :: (21, .newarray .double) :: (23, .astore 4) :: (25, .iconst 0) :: (26, .istore 5) :: b_177_28
abbrev MInfo : Type := (Nat × Nat × Nat × Nat) × (MethodName × ByteArray × Option FieldType) × (Nat × Nat) × List (Nat × Nat × Nat × Nat × Nat) × MCode × List (Nat × Nat)
def i_0 : MInfo := ((0, 2, 0, 2), (yX0_init, cX0_init, none), (2, 41), [], b_0_0, [(0, 0), (42, 22), (68, 35)])
def i_1 : MInfo := ((0, 0, 3, 3), (yX0_index, cX0_index, (some .int)), (0, 0), [], b_1_0, [(0, 0)])
def i_2 : MInfo := ((0, 1, 0, 2), (yX0_nextPerson, cX0_nextPerson, (some (.object "Throughcoach$Person"))), (0, 0), [], b_2_0, [(0, 0)])
def i_3 : MInfo := ((0, 1, 3, 5), (yX0_roomFor, cX0_roomFor, (some .int)), (2, 51), [], b_3_0, [(0, 0), (3, 2), (38, 22), (44, 24)])
def i_4 : MInfo := ((0, 1, 3, 6), (yX0_freeBed, cX0_freeBed, (some .int)), (1, 22), [], b_4_0, [(0, 0), (6, 4), (38, 21), (42, 23), (48, 25)])
def i_5 : MInfo := ((0, 1, 5, 10), (yX0_mayHold, cX0_mayHold, (some .boolean)), (1, 22), [], b_5_0, [(0, 0), (9, 6), (65, 34), (66, 35), (92, 47), (93, 48), (95, 49), (101, 51), (111, 55), (115, 57), (116, 58)])
def i_6 : MInfo := ((0, 1, 3, 5), (yX0_place, cX0_place, none), (2, 47), [], b_6_0, [(0, 0), (16, 9), (17, 10), (37, 21)])
def i_7 : MInfo := ((0, 1, 4, 5), (yX0_layDown, cX0_layDown, none), (1, 22), [], b_7_0, [(0, 0)])
def i_8 : MInfo := ((0, 1, 1, 2), (yX0_free, cX0_free, none), (1, 22), [], b_8_0, [(0, 0)])
def i_9 : MInfo := ((0, 1, 2, 3), (yX0_pay, cX0_pay, none), (0, 0), [], b_9_0, [(0, 0)])
def i_10 : MInfo := ((0, 1, 2, 3), (yX0_mayChange, cX0_mayChange, (some .boolean)), (2, 51), [], b_10_0, [(0, 0), (74, 36), (75, 37)])
def i_11 : MInfo := ((0, 1, 2, 6), (yX0_change, cX0_change, none), (2, 46), [], b_11_0, [(0, 0)])
def i_12 : MInfo := ((1, 2, 1, 2), (yX1_init, cX1_init, none), (1, 20), [], b_12_0, [(0, 0)])
def i_13 : MInfo := ((1, 1, 0, 1), (yX1_end, cX1_end, (some .int)), (0, 0), [], b_13_0, [(0, 0), (21, 11), (25, 13)])
def i_14 : MInfo := ((1, 1, 3, 4), (yX1_addPart, cX1_addPart, (some .int)), (0, 0), [], b_14_0, [(0, 0)])
def i_15 : MInfo := ((1, 1, 2, 3), (yX1_isAllowed, cX1_isAllowed, (some .boolean)), (0, 0), [], b_15_0, [(0, 0), (33, 17), (37, 19), (38, 20)])
def i_16 : MInfo := ((1, 1, 1, 2), (yX1_mayReplace, cX1_mayReplace, (some .boolean)), (0, 0), [], b_16_0, [(0, 0), (66, 34), (67, 35)])
def i_17 : MInfo := ((2, 2, 1, 3), (yX2_init, cX2_init, none), (2, 42), [], b_17_0, [(0, 0), (42, 22), (74, 39), (76, 41), (107, 57)])
def i_18 : MInfo := ((2, 1, 0, 2), (yX2_reckonByMinutes, cX2_reckonByMinutes, none), (4, 102), [], b_18_0, [(0, 0), (20, 10), (45, 21), (56, 26)])
def i_19 : MInfo := ((2, 1, 0, 1), (yX2_reckonByEvents, cX2_reckonByEvents, none), (5, 124), [], b_19_0, [(0, 0), (33, 15)])
def i_20 : MInfo := ((2, 1, 2, 3), (yX2_homesWith, cX2_homesWith, (some .int)), (5, 124), [], b_20_0, [(0, 0)])
def i_21 : MInfo := ((2, 1, 0, 3), (yX2_countHomes, cX2_countHomes, (some .int)), (1, 20), [], b_21_0, [(0, 0), (4, 4), (30, 16), (36, 18)])
def i_22 : MInfo := ((2, 1, 0, 2), (yX2_begin, cX2_begin, none), (2, 43), [], b_22_0, [(0, 0), (12, 8), (54, 30), (60, 32), (62, 34), (88, 46)])
def i_23 : MInfo := ((2, 1, 0, 3), (yX2_goByEvents, cX2_goByEvents, none), (4, 102), [], b_23_0, [(0, 0), (8, 6), (39, 21)])
def i_24 : MInfo := ((2, 1, 1, 5), (yX2_nextEvent, cX2_nextEvent, (some .int)), (1, 22), [], b_24_0, [(0, 0), (6, 4), (68, 36), (74, 38), (76, 40), (108, 56)])
def i_25 : MInfo := ((2, 0, 3, 3), (yX2_sooner, cX2_sooner, (some .int)), (0, 0), [], b_25_0, [(0, 0), (14, 8), (15, 9)])
def i_26 : MInfo := ((2, 1, 1, 3), (yX2_passMinute, cX2_passMinute, none), (3, 80), [], b_26_0, [(0, 0), (2, 2), (37, 21), (43, 23), (45, 25), (94, 52), (100, 54)])
def i_27 : MInfo := ((2, 1, 2, 7), (yX2_bringIn, cX2_bringIn, none), (2, 46), [], b_27_0, [(0, 0), (8, 4), (32, 18), (78, 42), (84, 44), (107, 56)])
def i_28 : MInfo := ((2, 0, 4, 5), (yX2_isSetOut, cX2_isSetOut, (some .boolean)), (1, 22), [], b_28_0, [(0, 0), (27, 13), (28, 14), (44, 22), (65, 34)])
def i_29 : MInfo := ((2, 1, 2, 5), (yX2_waitsNoLonger, cX2_waitsNoLonger, (some .boolean)), (2, 46), [], b_29_0, [(0, 0), (10, 6), (26, 15), (59, 32), (65, 34)])
def i_30 : MInfo := ((2, 1, 2, 8), (yX2_sendOff, cX2_sendOff, none), (2, 53), [], b_30_0, [(0, 0), (8, 4), (130, 69), (132, 70)])
def i_31 : MInfo := ((2, 1, 4, 8), (yX2_dropForbidden, cX2_dropForbidden, none), (1, 22), [], b_31_0, [(0, 0), (6, 4), (57, 29), (81, 41), (87, 43)])
def i_32 : MInfo := ((2, 1, 4, 8), (yX2_takeWaiting, cX2_takeWaiting, none), (1, 26), [], b_32_0, [(0, 0), (17, 9), (99, 47), (105, 49)])
def i_33 : MInfo := ((2, 1, 3, 7), (yX2_mayTake, cX2_mayTake, (some .boolean)), (0, 0), [], b_33_0, [(0, 0), (33, 17), (66, 34), (96, 49), (100, 51), (101, 52)])
def i_34 : MInfo := ((2, 1, 2, 4), (yX2_dropTooHeavy, cX2_dropTooHeavy, none), (1, 23), [], b_34_0, [(0, 0), (12, 8), (66, 36)])
def i_35 : MInfo := ((2, 1, 1, 4), (yX2_weigh, cX2_weigh, none), (0, 0), [], b_35_0, [(0, 0), (12, 8), (67, 37)])
def i_36 : MInfo := ((2, 1, 4, 7), (yX2_settle, cX2_settle, none), (0, 0), [], b_36_0, [(0, 0), (3, 2), (43, 23), (80, 44), (86, 46)])
def i_37 : MInfo := ((3, 2, 1, 2), (yX3_init, cX3_init, none), (1, 20), [], b_37_0, [(0, 0)])
def i_38 : MInfo := ((4, 2, 0, 2), (yX4_init, cX4_init, none), (2, 43), [], b_38_0, [(0, 0), (53, 28), (78, 40), (80, 42), (105, 54), (107, 56), (133, 69)])
def i_39 : MInfo := ((4, 1, 2, 4), (yX4_addStation, cX4_addStation, (some .int)), (0, 0), [], b_39_0, [(0, 0)])
def i_40 : MInfo := ((4, 1, 3, 6), (yX4_addTrain, cX4_addTrain, (some .int)), (0, 0), [], b_40_0, [(0, 0)])
def i_41 : MInfo := ((4, 1, 0, 2), (yX4_nextCoach, cX4_nextCoach, (some (.object "Throughcoach$Coach"))), (0, 0), [], b_41_0, [(0, 0)])
def i_42 : MInfo := ((5, 2, 2, 3), (yX5_init, cX5_init, none), (1, 20), [], b_42_0, [(0, 0)])
def i_43 : MInfo := ((5, 1, 0, 1), (yX5_begin, cX5_begin, none), (1, 23), [], b_43_0, [(0, 0), (35, 17), (44, 22)])
def i_44 : MInfo := ((5, 1, 0, 1), (yX5_isAtEnd, cX5_isAtEnd, (some .boolean)), (0, 0), [], b_44_0, [(0, 0), (20, 10), (21, 11)])
def i_45 : MInfo := ((5, 1, 0, 1), (yX5_patienceEnd, cX5_patienceEnd, (some .int)), (0, 0), [], b_45_0, [(0, 0)])
def i_46 : MInfo := ((5, 1, 1, 2), (yX5_couple, cX5_couple, none), (0, 0), [], b_46_0, [(0, 0), (29, 16)])
def i_47 : MInfo := ((5, 1, 0, 1), (yX5_isTooHeavy, cX5_isTooHeavy, (some .boolean)), (0, 0), [], b_47_0, [(0, 0), (37, 19), (41, 21), (42, 22)])
def i_48 : MInfo := ((5, 1, 0, 4), (yX5_writeSheet, cX5_writeSheet, none), (0, 0), [], b_48_0, [(0, 0), (41, 26), (42, 27), (45, 30), (79, 49)])
def i_49 : MInfo := ((5, 1, 2, 3), (yX5_goOff, cX5_goOff, none), (0, 0), [], b_49_0, [(0, 0)])
def i_50 : MInfo := ((5, 1, 1, 2), (yX5_comeIn, cX5_comeIn, none), (1, 21), [], b_50_0, [(0, 0), (39, 21), (68, 36)])
def i_51 : MInfo := ((6, 2, 0, 1), (yX6_init, cX6_init, none), (1, 20), [], b_51_0, [(0, 0)])
def i_52 : MInfo := ((7, 2, 0, 1), (yX7_init, cX7_init, none), (1, 23), [], b_52_0, [(0, 0)])
def i_53 : MInfo := ((7, 1, 4, 6), (yX7_addStop, cX7_addStop, (some .int)), (0, 0), [], b_53_0, [(0, 0)])
def i_54 : MInfo := ((7, 1, 2, 3), (yX7_leads, cX7_leads, (some .boolean)), (0, 0), [], b_54_0, [(0, 0), (29, 17), (30, 18)])
def i_55 : MInfo := ((8, 2, 1, 2), (yX8_init, cX8_init, none), (1, 20), [], b_55_0, [(0, 0)])
def i_56 : MInfo := ((8, 1, 0, 1), (yX8_begin, cX8_begin, none), (0, 0), [], b_56_0, [(0, 0)])
def i_57 : MInfo := ((8, 1, 0, 1), (yX8_hasToDo, cX8_hasToDo, (some .boolean)), (0, 0), [], b_57_0, [(0, 0), (28, 12), (29, 13)])
def i_58 : MInfo := ((8, 1, 0, 1), (yX8_isHome, cX8_isHome, (some .boolean)), (0, 0), [], b_58_0, [(0, 0), (28, 12), (29, 13)])
def i_59 : MInfo := ((8, 1, 2, 3), (yX8_standsReady, cX8_standsReady, (some .boolean)), (0, 0), [], b_59_0, [(0, 0), (20, 10), (21, 11)])
def i_60 : MInfo := ((8, 1, 3, 5), (yX8_isMissed, cX8_isMissed, (some .boolean)), (1, 22), [], b_60_0, [(0, 0), (12, 6), (18, 9), (76, 37), (78, 39), (84, 41)])
def i_61 : MInfo := ((8, 1, 2, 3), (yX8_setOut, cX8_setOut, none), (0, 0), [], b_61_0, [(0, 0)])
def i_62 : MInfo := ((8, 1, 0, 1), (yX8_come, cX8_come, none), (0, 0), [], b_62_0, [(0, 0)])
def i_63 : MInfo := ((9, 2, 0, 1), (yX9_init, cX9_init, none), (3, 64), [], b_63_0, [(0, 0)])
def i_64 : MInfo := ((9, 1, 2, 3), (yX9_station, cX9_station, (some .int)), (7, 112), [], b_64_0, [(0, 0), (34, 18)])
def i_65 : MInfo := ((9, 1, 3, 4), (yX9_train, cX9_train, (some .int)), (7, 112), [], b_65_0, [(0, 0), (43, 21)])
def i_66 : MInfo := ((9, 1, 5, 7), (yX9_stop, cX9_stop, (some .int)), (7, 112), [], b_66_0, [(0, 0), (76, 38), (86, 43)])
def i_67 : MInfo := ((9, 1, 2, 5), (yX9_patience, cX9_patience, (some .int)), (7, 112), [], b_67_0, [(0, 0)])
def i_68 : MInfo := ((9, 1, 3, 6), (yX9_late, cX9_late, (some .int)), (8, 133), [], b_68_0, [(0, 0), (20, 11)])
def i_69 : MInfo := ((9, 1, 7, 9), (yX9_coach, cX9_coach, (some .int)), (7, 112), [], b_69_0, [(0, 0), (64, 33)])
def i_70 : MInfo := ((9, 1, 3, 6), (yX9_part, cX9_part, (some .int)), (7, 111), [], b_70_0, [(0, 0), (43, 22), (53, 27), (88, 44)])
def i_71 : MInfo := ((9, 1, 1, 3), (yX9_takeOut, cX9_takeOut, (some .int)), (7, 123), [], b_71_0, [(0, 0), (32, 17)])
def i_72 : MInfo := ((9, 1, 4, 7), (yX9_book, cX9_book, (some .int)), (7, 112), [], b_72_0, [(0, 0), (47, 23), (57, 28), (86, 43)])
def i_73 : MInfo := ((9, 1, 1, 4), (yX9_leave, cX9_leave, (some .int)), (7, 111), [], b_73_0, [(0, 0), (33, 18)])
def i_74 : MInfo := ((9, 1, 2, 3), (yX9_swap, cX9_swap, none), (7, 111), [], b_74_0, [(0, 0), (25, 14), (63, 33)])
def i_75 : MInfo := ((9, 1, 2, 3), (yX9_arrives, cX9_arrives, (some .int)), (8, 133), [], b_75_0, [(0, 0)])
def i_76 : MInfo := ((9, 1, 2, 3), (yX9_leaves, cX9_leaves, (some .int)), (8, 133), [], b_76_0, [(0, 0)])
def i_77 : MInfo := ((9, 1, 2, 3), (yX9_leavesAnew, cX9_leavesAnew, (some .int)), (8, 144), [], b_77_0, [(0, 0)])
def i_78 : MInfo := ((9, 1, 3, 4), (yX9_behind, cX9_behind, (some .int)), (8, 133), [], b_78_0, [(0, 0)])
def i_79 : MInfo := ((9, 1, 2, 3), (yX9_sheet, cX9_sheet, (some .float)), (8, 133), [], b_79_0, [(0, 0)])
def i_80 : MInfo := ((9, 1, 2, 4), (yX9_coachOf, cX9_coachOf, (some .int)), (7, 123), [], b_80_0, [(0, 0), (64, 18), (69, 21), (74, 24), (79, 27), (90, 32), (91, 33), (92, 34), (97, 37), (116, 46), (117, 47)])
def i_81 : MInfo := ((9, 1, 2, 3), (yX9_owes, cX9_owes, (some .int)), (7, 123), [], b_81_0, [(0, 0)])
def i_82 : MInfo := ((9, 1, 0, 1), (yX9_homes, cX9_homes, (some .int)), (5, 123), [], b_82_0, [(0, 0)])
def i_83 : MInfo := ((9, 1, 1, 6), (yX9_best, cX9_best, (some .int)), (7, 146), [], b_83_0, [(0, 0), (12, 9), (44, 25), (50, 27)])
def i_84 : MInfo := ((9, 1, 2, 4), (yX9_personOf, cX9_personOf, (some .int)), (7, 112), [], b_84_0, [(0, 0), (48, 15), (53, 18), (58, 21), (63, 24)])
def i_85 : MInfo := ((9, 1, 3, 4), (yX9_sleeper, cX9_sleeper, (some .int)), (7, 112), [], b_85_0, [(0, 0)])
def i_86 : MInfo := ((9, 1, 3, 4), (yX9_holds, cX9_holds, (some .boolean)), (7, 112), [], b_86_0, [(0, 0), (30, 17), (31, 18)])
def i_87 : MInfo := ((9, 1, 0, 1), (yX9_paid, cX9_paid, (some .int)), (0, 0), [], b_87_0, [(0, 0)])
def i_88 : MInfo := ((9, 1, 1, 2), (yX9_needStation, cX9_needStation, none), (6, 90), [], b_88_0, [(0, 0), (15, 7), (26, 12)])
def i_89 : MInfo := ((9, 1, 1, 2), (yX9_needTrain, cX9_needTrain, none), (6, 90), [], b_89_0, [(0, 0), (15, 7), (26, 12)])
def i_90 : MInfo := ((9, 1, 2, 3), (yX9_needStop, cX9_needStop, none), (7, 111), [], b_90_0, [(0, 0), (25, 13), (36, 18)])
def i_91 : MInfo := ((9, 1, 1, 2), (yX9_needCoach, cX9_needCoach, none), (6, 90), [], b_91_0, [(0, 0), (15, 7), (26, 12)])
def i_92 : MInfo := ((9, 1, 1, 2), (yX9_needPerson, cX9_needPerson, none), (6, 90), [], b_92_0, [(0, 0), (15, 7), (26, 12)])
def i_93 : MInfo := ((9, 0, 3, 3), (yX9_needRange, cX9_needRange, none), (6, 90), [], b_93_0, [(0, 0), (10, 6), (21, 11)])
def i_94 : MInfo := ((9, 1, 1, 5), (yX9_moveSleepers, cX9_moveSleepers, (some .int)), (4, 99), [], b_94_0, [(0, 0), (4, 4), (76, 38), (82, 40)])
def i_95 : MInfo := ((9, 1, 2, 5), (yX9_moves, cX9_moves, (some .boolean)), (3, 75), [], b_95_0, [(0, 0), (2, 2), (66, 35), (72, 37)])
def i_96 : MInfo := ((10, 2, 0, 2), (yX10_init, cX10_init, none), (1, 20), [], b_96_0, [(0, 0), (360, 180), (380, 190)])
def i_97 : MInfo := ((10, 1, 0, 1), (yX10_thrown, cX10_thrown, (some .int)), (0, 0), [], b_97_0, [(0, 0)])
def i_98 : MInfo := ((10, 0, 3, 3), (yX10_in, cX10_in, (some .boolean)), (0, 0), [], b_98_0, [(0, 0), (14, 8), (15, 9)])
def i_99 : MInfo := ((10, 1, 1, 2), (yX10_refused, cX10_refused, (some .boolean)), (0, 0), [], b_99_0, [(0, 0), (13, 7), (14, 8)])
def i_100 : MInfo := ((10, 1, 1, 2), (yX10_isStation, cX10_isStation, (some .boolean)), (1, 22), [], b_100_0, [(0, 0)])
def i_101 : MInfo := ((10, 1, 1, 2), (yX10_isTrain, cX10_isTrain, (some .boolean)), (1, 22), [], b_101_0, [(0, 0)])
def i_102 : MInfo := ((10, 1, 2, 3), (yX10_isStop, cX10_isStop, (some .boolean)), (2, 43), [], b_102_0, [(0, 0), (28, 16), (29, 17)])
def i_103 : MInfo := ((10, 1, 1, 2), (yX10_isCoach, cX10_isCoach, (some .boolean)), (1, 22), [], b_103_0, [(0, 0)])
def i_104 : MInfo := ((10, 1, 1, 2), (yX10_isPerson, cX10_isPerson, (some .boolean)), (1, 22), [], b_104_0, [(0, 0)])
def i_105 : MInfo := ((10, 1, 2, 5), (yX10_stopAt, cX10_stopAt, (some .int)), (0, 0), [], b_105_0, [(0, 0), (5, 4), (37, 22), (38, 23), (45, 26)])
def i_106 : MInfo := ((10, 1, 2, 4), (yX10_station, cX10_station, (some .int)), (1, 22), [], b_106_0, [(0, 0), (22, 12), (23, 13), (33, 19), (46, 25), (47, 26), (55, 30)])
def i_107 : MInfo := ((10, 1, 3, 5), (yX10_train, cX10_train, (some .int)), (2, 43), [], b_107_0, [(0, 0), (26, 12), (27, 13), (42, 21), (51, 25), (64, 31), (65, 32), (73, 36)])
def i_108 : MInfo := ((10, 1, 5, 10), (yX10_stop, cX10_stop, (some .int)), (2, 43), [], b_108_0, [(0, 0), (20, 10), (21, 11), (61, 29), (62, 30), (99, 49), (100, 50), (112, 56), (121, 60), (130, 64), (131, 65), (139, 69)])
def i_109 : MInfo := ((10, 1, 2, 4), (yX10_patience, cX10_patience, (some .int)), (2, 43), [], b_109_0, [(0, 0), (13, 7), (28, 14), (29, 15), (37, 19)])
def i_110 : MInfo := ((10, 1, 3, 6), (yX10_late, cX10_late, (some .int)), (3, 65), [], b_110_0, [(0, 0), (17, 9), (18, 10), (30, 16), (45, 23), (46, 24), (54, 28)])
def i_111 : MInfo := ((10, 1, 7, 9), (yX10_coach, cX10_coach, (some .int)), (2, 43), [], b_111_0, [(0, 0), (56, 27), (57, 28), (72, 36), (81, 40), (94, 46), (95, 47), (103, 51)])
def i_112 : MInfo := ((10, 1, 2, 3), (yX10_beginning, cX10_beginning, (some .int)), (0, 0), [], b_112_0, [(0, 0), (13, 7), (25, 17)])
def i_113 : MInfo := ((10, 1, 3, 8), (yX10_part, cX10_part, (some .int)), (2, 43), [], b_113_0, [(0, 0), (28, 14), (29, 15), (59, 31), (60, 32), (86, 46), (87, 47), (110, 59), (111, 60), (123, 66), (132, 70), (133, 71), (141, 75)])
def i_114 : MInfo := ((10, 1, 0, 2), (yX10_begins, cX10_begins, none), (0, 0), [], b_114_0, [(0, 0), (2, 2), (24, 14), (25, 15), (46, 28), (48, 30), (81, 50), (83, 52), (128, 80), (130, 82), (150, 92)])
def i_115 : MInfo := ((10, 1, 0, 3), (yX10_reckon, cX10_reckon, none), (4, 104), [], b_115_0, [(0, 0), (8, 4), (14, 8), (23, 13), (68, 41), (74, 43), (76, 45), (125, 74), (131, 76), (137, 78)])
def i_116 : MInfo := ((10, 1, 4, 7), (yX10_setOut, cX10_setOut, none), (0, 0), [], b_116_0, [(0, 0), (26, 19), (69, 45)])
def i_117 : MInfo := ((10, 1, 2, 8), (yX10_arrive, cX10_arrive, none), (1, 26), [], b_117_0, [(0, 0), (55, 38), (56, 39), (61, 42), (111, 72), (112, 73), (124, 78), (150, 93), (151, 94), (156, 97), (159, 98), (162, 99)])
def i_118 : MInfo := ((10, 1, 1, 2), (yX10_isDoing, cX10_isDoing, (some .boolean)), (0, 0), [], b_118_0, [(0, 0), (28, 16), (29, 17)])
def i_119 : MInfo := ((10, 1, 3, 4), (yX10_isReady, cX10_isReady, (some .boolean)), (0, 0), [], b_119_0, [(0, 0), (24, 14), (25, 15)])
def i_120 : MInfo := ((10, 1, 2, 9), (yX10_canLeave, cX10_canLeave, (some .boolean)), (1, 23), [], b_120_0, [(0, 0), (48, 31), (52, 33), (53, 34), (77, 48), (86, 52), (87, 53), (88, 54), (94, 58), (112, 67), (171, 99), (172, 100), (212, 120), (216, 122), (217, 123), (225, 126), (231, 128)])
def i_121 : MInfo := ((10, 1, 3, 5), (yX10_isAllowed, cX10_isAllowed, (some .boolean)), (0, 0), [], b_121_0, [(0, 0), (23, 15), (24, 16), (55, 33), (59, 35), (60, 36)])
def i_122 : MInfo := ((10, 1, 3, 8), (yX10_takes, cX10_takes, (some .boolean)), (1, 24), [], b_122_0, [(0, 0), (50, 33), (51, 34), (91, 56), (95, 58), (96, 59), (112, 66), (113, 67)])
def i_123 : MInfo := ((10, 1, 1, 4), (yX10_loadOf, cX10_loadOf, (some .int)), (0, 0), [], b_123_0, [(0, 0), (4, 4), (39, 26)])
def i_124 : MInfo := ((10, 1, 1, 4), (yX10_brakeOf, cX10_brakeOf, (some .int)), (0, 0), [], b_124_0, [(0, 0), (4, 4), (39, 26)])
def i_125 : MInfo := ((10, 1, 4, 7), (yX10_couple, cX10_couple, none), (2, 51), [], b_125_0, [(0, 0), (3, 2), (42, 23), (54, 30), (57, 32), (119, 63), (120, 64), (167, 95), (173, 97), (212, 120), (230, 132)])
def i_126 : MInfo := ((10, 1, 2, 8), (yX10_departs, cX10_departs, none), (3, 77), [], b_126_0, [(0, 0), (78, 52), (139, 88), (140, 89), (187, 117), (197, 125), (205, 129), (259, 165), (261, 166)])
def i_127 : MInfo := ((10, 1, 4, 11), (yX10_mayHold, cX10_mayHold, (some .boolean)), (0, 0), [], b_127_0, [(0, 0), (9, 5), (10, 6), (21, 12), (22, 13), (33, 19), (35, 20), (43, 25), (89, 52), (90, 53), (119, 67), (123, 69), (124, 70), (135, 76), (141, 78), (158, 85), (162, 87), (163, 88)])
def i_128 : MInfo := ((10, 1, 2, 5), (yX10_hasBed, cX10_hasBed, (some .boolean)), (0, 0), [], b_128_0, [(0, 0), (5, 4), (35, 23), (39, 25), (40, 26), (47, 29)])
def i_129 : MInfo := ((10, 1, 3, 6), (yX10_roomFor, cX10_roomFor, (some .int)), (1, 30), [], b_129_0, [(0, 0), (6, 4), (33, 18), (34, 19), (46, 24), (48, 25), (56, 28)])
def i_130 : MInfo := ((10, 1, 3, 7), (yX10_sleep, cX10_sleep, none), (0, 0), [], b_130_0, [(0, 0), (6, 4), (36, 23), (37, 24), (61, 36), (66, 38), (68, 39), (76, 42)])
def i_131 : MInfo := ((10, 1, 1, 2), (yX10_placeOf, cX10_placeOf, (some .int)), (0, 0), [], b_131_0, [(0, 0)])
def i_132 : MInfo := ((10, 1, 2, 6), (yX10_otherFor, cX10_otherFor, (some .int)), (2, 55), [], b_132_0, [(0, 0), (10, 7), (100, 57), (101, 58), (135, 76), (136, 77), (143, 80)])
def i_133 : MInfo := ((10, 1, 1, 6), (yX10_takeOut, cX10_takeOut, (some .int)), (3, 80), [], b_133_0, [(0, 0), (15, 9), (28, 16), (29, 17), (37, 21), (54, 33), (134, 78), (162, 93), (168, 95)])
def i_134 : MInfo := ((10, 1, 4, 8), (yX10_book, cX10_book, (some .int)), (2, 55), [], b_134_0, [(0, 0), (32, 16), (33, 17), (79, 40), (80, 41), (92, 47), (101, 51), (110, 55), (111, 56), (119, 60)])
def i_135 : MInfo := ((10, 1, 1, 3), (yX10_leave, cX10_leave, (some .int)), (2, 43), [], b_135_0, [(0, 0), (15, 9), (29, 17), (30, 18), (38, 22)])
def i_136 : MInfo := ((10, 1, 2, 5), (yX10_change, cX10_change, none), (1, 21), [], b_136_0, [(0, 0)])
def i_137 : MInfo := ((10, 1, 2, 6), (yX10_swap, cX10_swap, none), (2, 45), [], b_137_0, [(0, 0), (20, 10), (21, 11), (55, 31), (56, 32), (124, 73), (125, 74), (138, 81), (147, 86), (156, 91), (165, 95), (166, 96)])
def i_138 : MInfo := ((10, 1, 2, 4), (yX10_arrives, cX10_arrives, (some .int)), (5, 126), [], b_138_0, [(0, 0), (14, 8), (15, 9), (23, 13), (50, 29), (51, 30)])
def i_139 : MInfo := ((10, 1, 2, 3), (yX10_leaves, cX10_leaves, (some .int)), (5, 126), [], b_139_0, [(0, 0), (14, 8), (15, 9), (23, 13)])
def i_140 : MInfo := ((10, 1, 2, 3), (yX10_leavesAnew, cX10_leavesAnew, (some .int)), (6, 148), [], b_140_0, [(0, 0)])
def i_141 : MInfo := ((10, 1, 3, 4), (yX10_behind, cX10_behind, (some .int)), (5, 126), [], b_141_0, [(0, 0), (14, 8), (28, 15), (29, 16), (37, 20)])
def i_142 : MInfo := ((10, 1, 2, 4), (yX10_sheet, cX10_sheet, (some .float)), (5, 126), [], b_142_0, [(0, 0), (14, 8), (15, 9), (23, 13), (48, 29), (67, 42)])
def i_143 : MInfo := ((10, 1, 2, 3), (yX10_coachOf, cX10_coachOf, (some .int)), (5, 126), [], b_143_0, [(0, 0), (13, 7), (26, 14), (27, 15), (35, 19), (76, 23), (83, 28), (97, 36), (103, 40), (104, 41), (111, 46), (123, 52), (124, 53), (125, 54), (132, 59), (145, 66), (146, 67)])
def i_144 : MInfo := ((10, 1, 1, 2), (yX10_isHome, cX10_isHome, (some .boolean)), (0, 0), [], b_144_0, [(0, 0), (37, 21), (38, 22)])
def i_145 : MInfo := ((10, 1, 0, 3), (yX10_homesNow, cX10_homesNow, (some .int)), (5, 126), [], b_145_0, [(0, 0), (8, 6), (29, 17), (30, 18), (38, 22)])
def i_146 : MInfo := ((10, 1, 2, 3), (yX10_owes, cX10_owes, (some .int)), (5, 126), [], b_146_0, [(0, 0), (23, 13), (24, 14), (32, 18)])
def i_147 : MInfo := ((10, 1, 0, 1), (yX10_homes, cX10_homes, (some .int)), (6, 148), [], b_147_0, [(0, 0)])
def i_148 : MInfo := ((10, 1, 1, 7), (yX10_best, cX10_best, (some .int)), (6, 148), [], b_148_0, [(0, 0), (13, 7), (14, 8), (22, 12), (37, 23), (76, 42), (77, 43), (90, 49), (92, 50), (100, 53)])
def i_149 : MInfo := ((10, 1, 2, 4), (yX10_personOf, cX10_personOf, (some .int)), (2, 43), [], b_149_0, [(0, 0), (13, 7), (26, 14), (27, 15), (35, 19), (49, 27), (50, 28), (80, 31), (87, 36), (95, 40), (104, 46), (105, 47), (113, 51), (122, 57), (123, 58)])
def i_150 : MInfo := ((10, 1, 3, 5), (yX10_sleeper, cX10_sleeper, (some .int)), (2, 43), [], b_150_0, [(0, 0), (22, 12), (23, 13), (38, 21), (47, 25), (48, 26), (58, 30), (73, 42)])
def i_151 : MInfo := ((10, 1, 3, 4), (yX10_holds, cX10_holds, (some .boolean)), (2, 55), [], b_151_0, [(0, 0), (13, 7), (27, 14), (28, 15), (49, 26), (50, 27)])
def i_152 : MInfo := ((10, 1, 0, 3), (yX10_paid, cX10_paid, (some .int)), (0, 0), [], b_152_0, [(0, 0), (9, 7), (32, 20)])
def i_153 : MInfo := ((11, 0, 2, 4), (yJ7_fill_53178, cJ7_fill_53178, none), (0, 0), [], b_153_0, [(0, 0), (5, 5), (20, 14)])
def i_154 : MInfo := ((11, 0, 2, 4), (yJ7_fill_e525d, cJ7_fill_e525d, none), (0, 0), [], b_154_0, [(0, 0), (5, 5), (20, 14)])
def i_155 : MInfo := ((12, 0, 4, 5), (yL_station, cL_station, (some .int)), (8, 134), [(0, 10, 13, 13, 1), (0, 10, 17, 15, 2)], b_155_0, [(0, 0), (13, 9), (17, 12), (21, 15)])
def i_156 : MInfo := ((12, 0, 5, 6), (yL_train, cL_train, (some .int)), (8, 135), [(0, 12, 15, 21, 0), (0, 12, 19, 13, 1), (0, 12, 23, 15, 2)], b_156_0, [(0, 0), (15, 10), (19, 13), (23, 16), (27, 19)])
def i_157 : MInfo := ((12, 0, 7, 8), (yL_stop, cL_stop, (some .int)), (8, 138), [(0, 16, 19, 21, 0), (0, 16, 23, 13, 1), (0, 16, 27, 15, 2)], b_157_0, [(0, 0), (19, 12), (23, 15), (27, 18), (31, 21)])
def i_158 : MInfo := ((12, 0, 4, 5), (yL_patience, cL_patience, (some .int)), (8, 136), [(0, 10, 13, 21, 0), (0, 10, 17, 13, 1)], b_158_0, [(0, 0), (13, 9), (17, 12), (21, 15)])
def i_159 : MInfo := ((12, 0, 5, 6), (yL_late, cL_late, (some .int)), (9, 158), [(0, 12, 15, 21, 0), (0, 12, 19, 13, 1)], b_159_0, [(0, 0), (15, 10), (19, 13), (23, 16)])
def i_160 : MInfo := ((12, 0, 9, 10), (yL_coach, cL_coach, (some .int)), (8, 140), [(0, 20, 23, 21, 0), (0, 20, 27, 13, 1), (0, 20, 31, 15, 2)], b_160_0, [(0, 0), (23, 14), (27, 17), (31, 20), (35, 23)])
def i_161 : MInfo := ((12, 0, 5, 6), (yL_part, cL_part, (some .int)), (8, 136), [(0, 12, 15, 21, 0), (0, 12, 19, 15, 2)], b_161_0, [(0, 0), (15, 10), (19, 13), (23, 16)])
def i_162 : MInfo := ((12, 0, 3, 4), (yL_takeOut, cL_takeOut, (some .int)), (8, 145), [(0, 9, 12, 21, 0), (0, 9, 15, 15, 2)], b_162_0, [(0, 0), (12, 8), (15, 11), (18, 14)])
def i_163 : MInfo := ((12, 0, 6, 7), (yL_book, cL_book, (some .int)), (8, 138), [(0, 14, 17, 21, 0), (0, 14, 21, 13, 1), (0, 14, 25, 15, 2)], b_163_0, [(0, 0), (17, 11), (21, 14), (25, 17), (29, 20)])
def i_164 : MInfo := ((12, 0, 3, 4), (yL_leave, cL_leave, (some .int)), (8, 134), [(0, 9, 12, 21, 0), (0, 9, 15, 15, 2)], b_164_0, [(0, 0), (12, 8), (15, 11), (18, 14)])
def i_165 : MInfo := ((12, 0, 3, 4), (yL_swap, cL_swap, (some .int)), (8, 133), [(0, 6, 9, 21, 0), (0, 6, 12, 13, 1), (0, 6, 15, 15, 2)], b_165_0, [(0, 0), (9, 5), (12, 8), (15, 11), (18, 14)])
def i_166 : MInfo := ((12, 0, 4, 5), (yL_arrives, cL_arrives, (some .int)), (9, 155), [(0, 10, 13, 21, 0)], b_166_0, [(0, 0), (13, 9), (17, 12)])
def i_167 : MInfo := ((12, 0, 4, 5), (yL_leaves, cL_leaves, (some .int)), (9, 155), [(0, 10, 13, 21, 0)], b_167_0, [(0, 0), (13, 9), (17, 12)])
def i_168 : MInfo := ((12, 0, 4, 5), (yL_leavesAnew, cL_leavesAnew, (some .int)), (9, 166), [(0, 10, 13, 21, 0)], b_168_0, [(0, 0), (13, 9), (17, 12)])
def i_169 : MInfo := ((12, 0, 5, 6), (yL_behind, cL_behind, (some .int)), (9, 156), [(0, 12, 15, 21, 0), (0, 12, 19, 13, 1)], b_169_0, [(0, 0), (15, 10), (19, 13), (23, 16)])
def i_170 : MInfo := ((12, 0, 4, 5), (yL_sheet, cL_sheet, (some .int)), (9, 155), [(0, 10, 13, 21, 0)], b_170_0, [(0, 0), (13, 9), (17, 12)])
def i_171 : MInfo := ((12, 0, 4, 5), (yL_coachOf, cL_coachOf, (some .int)), (8, 146), [(0, 10, 13, 21, 0), (0, 10, 17, 13, 1)], b_171_0, [(0, 0), (13, 9), (17, 12), (21, 15)])
def i_172 : MInfo := ((12, 0, 4, 5), (yL_owes, cL_owes, (some .int)), (8, 145), [(0, 10, 13, 13, 1)], b_172_0, [(0, 0), (13, 9), (17, 12)])
def i_173 : MInfo := ((12, 0, 3, 4), (yL_best, cL_best, (some .int)), (8, 171), [(0, 9, 12, 21, 0)], b_173_0, [(0, 0), (12, 8), (15, 11)])
def i_174 : MInfo := ((12, 0, 4, 5), (yL_personOf, cL_personOf, (some .int)), (8, 135), [(0, 10, 13, 21, 0), (0, 10, 17, 13, 1)], b_174_0, [(0, 0), (13, 9), (17, 12), (21, 15)])
def i_175 : MInfo := ((12, 0, 5, 6), (yL_sleeper, cL_sleeper, (some .int)), (8, 135), [(0, 12, 15, 21, 0), (0, 12, 19, 13, 1)], b_175_0, [(0, 0), (15, 10), (19, 13), (23, 16)])
def i_176 : MInfo := ((12, 0, 5, 6), (yL_holds, cL_holds, (some .int)), (8, 135), [(0, 19, 22, 21, 0), (0, 19, 26, 13, 1)], b_176_0, [(0, 0), (17, 10), (18, 11), (22, 13), (26, 16), (30, 19)])
def i_177 : MInfo := ((12, 0, 1, 8), (yL_law, cL_law, (some .boolean)), (10, 194), [], b_177_0, [(0, 0), (28, 16), (156, 28), (204, 61), (221, 72), (224, 73), (284, 116), (301, 127), (304, 128), (388, 191), (405, 202), (408, 203), (456, 236), (473, 247), (476, 248), (536, 291), (553, 302), (556, 303), (608, 342), (609, 343), (667, 385), (668, 386), (684, 394), (701, 405), (704, 406), (764, 449), (781, 460), (784, 461), (820, 484), (837, 495), (840, 496), (860, 510), (861, 511), (899, 538), (900, 539), (928, 557), (945, 568), (948, 569), (984, 592), (1001, 603), (1004, 604), (1049, 635), (1052, 636), (1100, 669), (1117, 680), (1120, 681), (1168, 714), (1185, 725), (1188, 726), (1236, 759), (1253, 770), (1256, 771), (1316, 814), (1333, 825), (1336, 826), (1385, 859), (1421, 880), (1423, 882), (1426, 883), (1474, 916), (1491, 927), (1494, 928), (1542, 961), (1559, 972), (1562, 973), (1575, 980), (1611, 1003), (1628, 1014), (1631, 1015), (1679, 1048), (1696, 1059), (1699, 1060), (1759, 1103), (1776, 1114), (1779, 1115), (1799, 1129), (1800, 1130), (1832, 1152), (1833, 1153), (1855, 1166), (1872, 1175), (1873, 1176), (1879, 1180), (1882, 1181), (1895, 1188), (1901, 1190)])
def tM : List MInfo := [i_0, i_1, i_2, i_3, i_4, i_5, i_6, i_7, i_8, i_9, i_10, i_11, i_12, i_13, i_14, i_15, i_16, i_17, i_18, i_19, i_20, i_21, i_22, i_23, i_24, i_25, i_26, i_27, i_28, i_29, i_30, i_31, i_32, i_33, i_34, i_35, i_36, i_37, i_38, i_39, i_40, i_41, i_42, i_43, i_44, i_45, i_46, i_47, i_48, i_49, i_50, i_51, i_52, i_53, i_54, i_55, i_56, i_57, i_58, i_59, i_60, i_61, i_62, i_63, i_64, i_65, i_66, i_67, i_68, i_69, i_70, i_71, i_72, i_73, i_74, i_75, i_76, i_77, i_78, i_79, i_80, i_81, i_82, i_83, i_84, i_85, i_86, i_87, i_88, i_89, i_90, i_91, i_92, i_93, i_94, i_95, i_96, i_97, i_98, i_99, i_100, i_101, i_102, i_103, i_104, i_105, i_106, i_107, i_108, i_109, i_110, i_111, i_112, i_113, i_114, i_115, i_116, i_117, i_118, i_119, i_120, i_121, i_122, i_123, i_124, i_125, i_126, i_127, i_128, i_129, i_130, i_131, i_132, i_133, i_134, i_135, i_136, i_137, i_138, i_139, i_140, i_141, i_142, i_143, i_144, i_145, i_146, i_147, i_148, i_149, i_150, i_151, i_152, i_153, i_154, i_155, i_156, i_157, i_158, i_159, i_160, i_161, i_162, i_163, i_164, i_165, i_166, i_167, i_168, i_169, i_170, i_171, i_172, i_173, i_174, i_175, i_176, i_177]
def oN : List String := [RX0, RX1, RX2, RX3, RX4, RX5, RX6, RX7, RX8, RX9, RX10, RJ7, RL]
def tF : List (List (Nat × Nat × Nat × Nat × Bool)) := [[(72, 3, 0, 0, true), (49, 3, 1, 1, false), (56, 3, 2, 0, false), (53, 3, 3, 0, false), (63, 3, 4, 0, false), (66, 3, 5, 0, false), (69, 3, 6, 0, false), (75, 3, 7, 0, false), (11, 0, 0, 2, true), (17, 0, 1, 0, false), (21, 0, 2, 2, true), (25, 0, 3, 0, false)], [(38, 6, 0, 0, false), (43, 6, 1, 0, false), (29, 1, 0, 0, true), (32, 1, 1, 0, false), (49, 1, 3, 0, false), (35, 1, 6, 0, false), (46, 1, 7, 1, false), (9, 1, 8, 1, false), (15, 1, 9, 0, false), (19, 1, 10, 2, true), (23, 1, 11, 2, true), (26, 1, 12, 2, true)], [(193, 6, 0, 0, false), (205, 6, 1, 0, false), (132, 7, 3, 2, true), (208, 7, 5, 2, true), (211, 7, 6, 2, true), (198, 7, 7, 2, true), (235, 7, 9, 2, true), (262, 1, 2, 0, false), (257, 1, 4, 0, false), (258, 1, 5, 0, false), (238, 1, 10, 2, true), (157, 1, 12, 2, true), (176, 4, 0, 2, true), (35, 4, 2, 2, true), (79, 4, 3, 0, false), (44, 4, 4, 2, true), (72, 4, 5, 0, false), (51, 4, 6, 0, false), (169, 5, 0, 0, true), (128, 5, 1, 2, true), (65, 5, 2, 0, false), (137, 5, 3, 0, false), (97, 5, 4, 0, false), (104, 5, 5, 0, false), (143, 5, 6, 2, true), (140, 5, 7, 0, false), (251, 5, 8, 0, false), (254, 5, 9, 0, false), (241, 5, 11, 2, true), (153, 8, 0, 2, true), (111, 8, 2, 0, false), (162, 8, 3, 0, false), (259, 8, 4, 0, false), (31, 2, 0, 2, true), (11, 2, 1, 2, true), (19, 2, 2, 2, true), (23, 2, 3, 2, true), (55, 2, 4, 0, false), (27, 2, 5, 0, false)], [(24, 3, 0, 0, true), (9, 3, 4, 0, false), (15, 3, 5, 0, false), (18, 3, 6, 0, false), (21, 3, 7, 0, false)], [(47, 6, 0, 0, false), (50, 6, 1, 0, false), (66, 7, 0, 0, false), (53, 7, 1, 0, false), (56, 7, 3, 2, true), (60, 7, 4, 2, true), (63, 7, 9, 2, true), (11, 4, 0, 2, true), (17, 4, 1, 0, false), (23, 4, 2, 2, true), (27, 4, 3, 0, false), (32, 4, 4, 2, true), (36, 4, 5, 0, false), (39, 4, 6, 0, false)], [(71, 7, 0, 0, false), (77, 7, 1, 0, false), (36, 7, 2, 0, false), (53, 7, 4, 2, true), (84, 7, 8, 2, true), (28, 5, 0, 0, true), (32, 5, 1, 2, true), (41, 5, 2, 0, false), (42, 5, 3, 0, false), (46, 5, 4, 0, false), (56, 5, 5, 0, false), (9, 5, 6, 2, true), (59, 5, 7, 0, false), (74, 5, 8, 0, false), (80, 5, 9, 0, false), (15, 5, 10, 2, true), (18, 5, 11, 2, true), (21, 5, 12, 2, true), (24, 5, 13, 2, true)], [], [(9, 7, 0, 0, false), (15, 7, 2, 0, false), (18, 7, 3, 2, true), (22, 7, 4, 2, true), (25, 7, 5, 2, true), (28, 7, 6, 2, true), (31, 7, 7, 2, true), (34, 7, 8, 2, true), (37, 7, 9, 2, true)], [(15, 1, 1, 0, false), (31, 1, 8, 1, false), (35, 1, 9, 0, false), (38, 1, 10, 2, true), (42, 1, 11, 2, true), (9, 8, 0, 2, true), (21, 8, 1, 0, false), (22, 8, 2, 0, false), (25, 8, 3, 0, false), (28, 8, 4, 0, false)], [(83, 7, 0, 0, false), (95, 7, 2, 0, false), (107, 7, 6, 2, true), (77, 7, 9, 2, true), (143, 1, 0, 0, true), (119, 1, 1, 0, false), (124, 1, 2, 0, false), (127, 1, 3, 0, false), (130, 1, 4, 0, false), (133, 1, 5, 0, false), (136, 1, 6, 0, false), (139, 1, 7, 1, false), (156, 1, 8, 1, false), (153, 1, 9, 0, false), (42, 4, 1, 0, false), (73, 4, 2, 2, true), (61, 4, 3, 0, false), (149, 4, 4, 2, true), (110, 4, 5, 0, false), (88, 4, 6, 0, false), (255, 5, 10, 2, true), (260, 5, 11, 2, true), (266, 5, 12, 2, true), (269, 5, 13, 2, true), (277, 8, 1, 0, false), (280, 8, 2, 0, false), (283, 8, 3, 0, false), (290, 8, 4, 0, false), (251, 2, 1, 2, true), (273, 2, 2, 2, true), (293, 2, 3, 2, true), (210, 3, 0, 0, true), (195, 3, 1, 1, false), (200, 3, 2, 0, false), (203, 3, 3, 0, false), (218, 3, 4, 0, false), (223, 3, 5, 0, false), (226, 3, 6, 0, false), (302, 3, 7, 0, false), (214, 0, 0, 2, true), (180, 0, 1, 0, false), (305, 0, 2, 2, true), (311, 0, 3, 0, false), (10, 9, 0, 2, true), (21, 9, 1, 2, true), (25, 9, 2, 2, true), (28, 9, 3, 2, true), (34, 9, 4, 2, true)], [(143, 10, 0, 0, false), (147, 10, 1, 0, false), (7, 10, 2, 2, true), (13, 10, 3, 2, true), (154, 10, 4, 0, false), (16, 10, 5, 2, true), (19, 10, 6, 2, true), (22, 10, 7, 2, true), (25, 10, 8, 2, true), (28, 10, 9, 2, true), (31, 10, 10, 2, true), (34, 10, 11, 2, true), (37, 10, 12, 2, true), (40, 10, 13, 2, true), (161, 10, 14, 0, false), (43, 10, 15, 2, true), (46, 10, 16, 2, true), (49, 10, 17, 2, true), (52, 10, 18, 2, true), (55, 10, 19, 2, true), (58, 10, 20, 2, true), (61, 10, 21, 2, true), (65, 10, 22, 2, true), (68, 10, 23, 2, true), (71, 10, 24, 2, true), (74, 10, 25, 2, true), (164, 10, 26, 0, false), (77, 10, 27, 2, true), (80, 10, 28, 2, true), (83, 10, 29, 2, true), (86, 10, 30, 2, true), (89, 10, 31, 2, true), (92, 10, 32, 2, true), (95, 10, 33, 2, true), (173, 10, 34, 1, false), (98, 10, 35, 2, true), (101, 10, 36, 2, true), (104, 10, 37, 2, true), (107, 10, 38, 2, true), (110, 10, 39, 2, true), (113, 10, 40, 2, true), (116, 10, 41, 2, true), (119, 10, 42, 2, true), (122, 10, 43, 2, true), (125, 10, 44, 2, true), (128, 10, 45, 2, true), (131, 10, 46, 2, true), (134, 10, 47, 2, true), (137, 10, 48, 2, true), (140, 10, 49, 2, true)], [], []]
def tK : List (List (Nat × Nat × Nat)) := [[(9, 0, 3)], [], [(9, 0, 5), (17, 0, 8)], [], [(9, 0, 6), (21, 0, 7), (30, 0, 1)], [], [], [], [], [(7, 0, 4), (16, 0, 2), (31, 0, 0), (233, 1, 1), (46, 1, 2), (102, 1, 0)], [], [], [(8, 0, 9), (13, 1, 1), (15, 1, 2), (21, 1, 0), (91, 0, 10)]]
def tC : List (List (Nat × Nat × Nat)) := [[(3, 3, 0), (28, 1, 153), (34, 1, 37), (45, 1, 1), (37, 1, 4), (41, 1, 5), (59, 1, 7)], [(3, 3, 0)], [(3, 3, 0), (41, 1, 42), (48, 1, 55), (52, 1, 22), (82, 1, 43), (83, 1, 44), (86, 1, 56), (87, 1, 153), (58, 1, 26), (114, 1, 27), (125, 1, 50), (146, 1, 28), (150, 1, 57), (165, 1, 61), (118, 1, 29), (108, 1, 45), (172, 1, 60), (122, 1, 30), (180, 1, 31), (217, 1, 15), (184, 1, 32), (221, 1, 59), (225, 1, 33), (229, 1, 46), (232, 1, 62), (187, 1, 34), (244, 1, 35), (248, 1, 47), (190, 1, 48), (201, 1, 36), (214, 1, 49), (75, 1, 58), (62, 1, 23), (93, 1, 24), (100, 1, 25), (68, 1, 21)], [(3, 3, 0)], [(3, 3, 0), (43, 1, 52), (44, 1, 12), (42, 5, 51)], [(3, 3, 0), (49, 1, 44), (62, 1, 153), (68, 1, 154), (87, 2, 0)], [(1, 3, 0)], [(3, 3, 0), (40, 1, 153)], [(3, 3, 0), (45, 1, 59)], [(1, 3, 0), (9, 1, 38), (18, 1, 17), (33, 1, 0), (248, 1, 18), (296, 1, 21), (38, 1, 93), (237, 4, 1), (50, 4, 2), (53, 1, 39), (57, 1, 88), (106, 4, 0), (66, 1, 40), (70, 1, 89), (91, 1, 53), (98, 1, 90), (115, 1, 41), (146, 1, 91), (161, 1, 13), (165, 1, 54), (171, 1, 14), (176, 1, 94), (229, 1, 8), (324, 1, 95), (332, 1, 16), (185, 1, 3), (206, 1, 6), (328, 1, 9), (191, 1, 2), (211, 1, 92), (238, 1, 10), (244, 1, 11), (263, 1, 19), (286, 1, 58), (299, 1, 20), (308, 1, 1)], [(1, 3, 0), (150, 1, 98), (167, 1, 99), (170, 1, 100), (157, 1, 101), (177, 1, 105), (181, 1, 102), (185, 1, 103), (188, 1, 112), (241, 1, 131), (244, 1, 132), (237, 1, 129), (230, 1, 128), (233, 1, 127), (247, 1, 130), (251, 1, 104), (254, 1, 136), (257, 1, 115), (191, 1, 114), (194, 1, 117), (204, 1, 116), (198, 1, 120), (208, 1, 119), (201, 1, 126), (227, 1, 125), (211, 1, 121), (214, 1, 118), (217, 1, 122), (220, 1, 123), (224, 1, 124), (260, 1, 139), (264, 1, 144), (267, 1, 145)], [], [(90, 1, 63), (162, 1, 82), (179, 1, 87), (94, 1, 155), (7, 1, 64), (104, 1, 156), (17, 1, 65), (108, 1, 157), (23, 1, 66), (112, 1, 158), (27, 1, 67), (115, 1, 159), (30, 1, 68), (118, 1, 160), (33, 1, 69), (122, 1, 161), (37, 1, 70), (125, 1, 162), (40, 1, 71), (129, 1, 163), (44, 1, 72), (133, 1, 164), (48, 1, 73), (136, 1, 165), (51, 1, 74), (140, 1, 166), (55, 1, 75), (143, 1, 167), (58, 1, 76), (146, 1, 168), (61, 1, 77), (149, 1, 169), (64, 1, 78), (152, 1, 170), (67, 1, 79), (156, 1, 171), (71, 1, 80), (159, 1, 172), (74, 1, 81), (166, 1, 173), (77, 1, 83), (169, 1, 174), (80, 1, 84), (172, 1, 175), (83, 1, 85), (175, 1, 176), (86, 1, 86), (93, 1, 96), (100, 1, 97), (99, 1, 106), (107, 1, 107), (111, 1, 108), (114, 1, 109), (117, 1, 110), (121, 1, 111), (124, 1, 113), (128, 1, 133), (132, 1, 134), (135, 1, 135), (139, 1, 137), (142, 1, 138), (145, 1, 139), (148, 1, 140), (151, 1, 141), (155, 1, 142), (158, 1, 143), (161, 1, 146), (165, 1, 147), (168, 1, 148), (171, 1, 149), (174, 1, 150), (178, 1, 151), (182, 1, 152)]]
def tL : List (List (Nat × MV)) := [[], [], [(107, vI 1000000)], [], [], [(45, vI 1000000), (83, vF 1120403456)], [], [], [], [], [(263, vF 1120403456)], [], []]
def tS : List (List (Nat × Nat)) := [[], [], [], [], [], [], [], [], [], [(322, 0), (48, 1), (312, 2), (64, 3), (314, 4), (86, 5), (316, 6), (104, 7), (113, 8), (318, 9), (159, 10), (169, 11), (174, 12), (183, 13), (189, 14), (320, 15), (221, 16), (235, 17), (242, 18)], [], [], []]
def tT : List (Nat × Nat × String) := [(9, 322, "an argument is out of range"), (9, 48, "there are 10 STATIONS"), (9, 312, "no such STATION"), (9, 64, "there are 6 TRAINS"), (9, 314, "no such TRAIN"), (9, 86, "the TRAIN has a STOP there, or 6"), (9, 316, "no such STOP"), (9, 104, "no run leads to the STOP 0"), (9, 113, "there are 10 COACHES"), (9, 318, "no such COACH"), (9, 159, "the COACH has 3 PARTS or was taken out"), (9, 169, "the TRAIN does not lead from there to there"), (9, 174, "the COACH was taken out"), (9, 183, "the COACH was taken out, or there are 40 PERSONS"), (9, 189, "no room of the COACH has place"), (9, 320, "no such PERSON"), (9, 221, "the PERSON sleeps nowhere"), (9, 235, "both are the same"), (9, 242, "one sleeps nowhere, or a room might not hold the other")]
def tD : List (List MV) := [[vN, vI 0, vN, vI 0], [vI 0, vI 0, vI 0, vI 0, vI 0, vI 0, vI 0, vI 0, vI 0, vI 0, vN, vN, vN], [vN, vN, vN, vN, vI 0, vI 0], [vI 0, vI 0, vI 0, vI 0, vI 0, vI 0, vI 0, vI 0], [vN, vI 0, vN, vI 0, vN, vI 0, vI 0], [vI 0, vN, vI 0, vI 0, vI 0, vI 0, vN, vI 0, vI 0, vI 0, vN, vN, vN, vN], [vI 0, vI 0], [vI 0, vI 0, vI 0, vN, vN, vN, vN, vN, vN, vN], [vN, vI 0, vI 0, vI 0, vI 0], [vN, vN, vN, vN, vN], [vI 0, vI 0, vN, vN, vI 0, vN, vN, vN, vN, vN, vN, vN, vN, vN, vI 0, vN, vN, vN, vN, vN, vN, vN, vN, vN, vN, vN, vI 0, vN, vN, vN, vN, vN, vN, vN, vI 0, vN, vN, vN, vN, vN, vN, vN, vN, vN, vN, vN, vN, vN, vN, vN]]
end
section
/-! ===== my program tables, read ===== -/
def m_inf (mi : Nat) : MInfo := tM.getD mi i_0
def m_own (mi : Nat) : Nat := (m_inf mi).1.1
def m_kind (mi : Nat) : Nat := (m_inf mi).1.2.1
def m_narg (mi : Nat) : Nat := (m_inf mi).1.2.2.1
def m_maxL (mi : Nat) : Nat := (m_inf mi).1.2.2.2
def m_y (mi : Nat) : MethodName := (m_inf mi).2.1.1
def m_cc (mi : Nat) : ByteArray := (m_inf mi).2.1.2.1
def m_ret (mi : Nat) : Option FieldType := (m_inf mi).2.1.2.2
def m_frs (mi : Nat) : Nat := (m_inf mi).2.2.1.1
def m_loc (mi : Nat) : Nat := (m_inf mi).2.2.1.2
def m_hand (mi : Nat) : List (Nat × Nat × Nat × Nat × Nat) := (m_inf mi).2.2.2.1
def m_code (mi : Nat) : MCode := (m_inf mi).2.2.2.2.1
def m_tg (mi : Nat) : List (Nat × Nat) := (m_inf mi).2.2.2.2.2
def fR (o i : Nat) : Option (Nat × Nat × Nat × Bool) := (tF.getD o []).lookup i
def kR (o i : Nat) : Option (Nat × Nat) := (tK.getD o []).lookup i
def cR (o i : Nat) : Option (Nat × Nat) := (tC.getD o []).lookup i
def lR (o i : Nat) : Option MV := (tL.getD o []).lookup i
def sR (o i : Nat) : Option Nat := (tS.getD o []).lookup i
def m_blk (mi t : Nat) : MCode := match (m_tg mi).lookup t with
  | some k => (m_code mi).drop k
  | none => []
def m_jmp (mi pc : Nat) (off : Int) : MCode := if 0 ≤ (pc : Int) + off then m_blk mi ((pc : Int) + off).toNat else []
def m_val (A : List Nat) (b : Nat) : MV → Value
  | .inl a => .int (Int32.ofInt a)
  | .inr (.inl none) => .null
  | .inr (.inl (some o)) => .ref (A.getD o 0)
  | .inr (.inr (.inl x)) => .float x
  | .inr (.inr (.inr (.inl x))) => .long x
  | .inr (.inr (.inr (.inr (.inl x)))) => .double x
  | .inr (.inr (.inr (.inr (.inr true)))) => .ref b
  | .inr (.inr (.inr (.inr (.inr false)))) => .null
end
section
/-! ===== the tables' words, by their places ===== -/
def lw_good : List Cond := lw_tbl.filter goodWord
theorem good_in : GoodIn lw_good lw_good := fun w h => ⟨h, good_of_word (List.mem_filter.mp h).2⟩
def m_isB : Cond → Bool
  | .castable _ _ => true
  | .declares _ => true
  | .methodLinkNest _ _ _ _ => true
  | .arrayOver (.object _) => true
  | _ => false
def m_bad : List Cond := lw_tbl.filter m_isB
def m_pg (w : Cond) (i : Nat) : Bool := decide (lw_tbl[i]? = some w) && goodWord w
theorem m_pg_ok {w : Cond} {i : Nat} (h : m_pg w i = true) : w ∈ lw_good := by
  simp only [m_pg, Bool.and_eq_true, decide_eq_true_eq] at h
  exact List.mem_filter.mpr ⟨List.mem_of_getElem? h.1, h.2⟩
def m_pb (w : Cond) (i : Nat) : Bool := decide (lw_tbl[i]? = some w) && m_isB w
theorem m_pb_ok {w : Cond} {i : Nat} (h : m_pb w i = true) : w ∈ m_bad := by
  simp only [m_pb, Bool.and_eq_true, decide_eq_true_eq] at h
  exact List.mem_filter.mpr ⟨List.mem_of_getElem? h.1, h.2⟩
theorem m_zip {α β : Type} {P : α → β → Bool} : ∀ {l : List α} {r : List β}, l.length ≤ r.length → (l.zip r).all (fun x => P x.1 x.2) = true → ∀ a ∈ l, ∃ b, P a b = true
  | [], _, _, _ => fun a h => by simp at h
  | x :: l, [], h, _ => by simp at h
  | x :: l, y :: r, h, h2 => by
    simp only [List.zip_cons_cons, List.all_cons, Bool.and_eq_true] at h2
    simp only [List.length_cons] at h
    intro a ha
    rcases List.mem_cons.mp ha with rfl | ha
    · exact ⟨y, h2.1⟩
    · exact m_zip (by omega) h2.2 a ha
theorem m_lookup {β : Type} {i : Nat} {v : β} : ∀ {l : List (Nat × β)}, l.lookup i = some v → (i, v) ∈ l
  | [], h => by simp at h
  | (j, w) :: l, h => by
    rw [List.lookup_cons] at h
    split at h
    · rename_i hb
      have e : i = j := by simpa using hb
      cases h
      subst e
      exact List.mem_cons_self
    · exact List.mem_cons_of_mem _ (m_lookup h)
def m_cn (o : Nat) : String := oN.getD o ""
def m_tyc : Nat → Option FieldType → Bool
  | 0, some .int => true
  | 1, some .boolean => true
  | 2, some (.object _) => true
  | 2, some (.array _) => true
  | _, _ => false
def m_fc (o : Nat) (e : Nat × Nat × Nat × Nat × Bool) (i : Nat) : Bool := match vwCl[e.2.1]? with
  | some q => decide (e.2.2.1 < q.2.2) && m_pg (.fieldLink (m_cn o) e.1 (q.2.1 e.2.2.1).1 (q.2.1 e.2.2.1).2.1 (q.2.1 e.2.2.1).2.2.1) i && decide ((q.2.1 e.2.2.1).2.2.2 = e.2.2.2.2) && m_tyc e.2.2.2.1 (parseFieldDescriptor (q.2.1 e.2.2.1).2.2.1) && decide ((q.2.1 e.2.2.1).1 = q.1)
  | none => false
theorem fc_0 : ((tF.getD 0 []).zip [404, 406, 408, 410, 413, 416, 419, 422, 441, 443, 445, 447]).all (fun x => m_fc 0 x.1 x.2) = true := by decide +kernel
theorem fc_1 : ((tF.getD 1 []).zip [100, 103, 173, 176, 180, 186, 188, 190, 193, 196, 199, 201]).all (fun x => m_fc 1 x.1 x.2) = true := by decide +kernel
theorem fc_2 : ((tF.getD 2 []).zip [101, 104, 129, 134, 137, 139, 145, 179, 183, 185, 198, 202, 231, 235, 239, 241, 244, 247, 280, 282, 284, 286, 288, 290, 292, 294, 296, 298, 303, 344, 348, 351, 355, 367, 368, 370, 372, 374, 375]).all (fun x => m_fc 2 x.1 x.2) = true := by decide +kernel
theorem fc_3 : ((tF.getD 3 []).zip [403, 412, 415, 418, 421]).all (fun x => m_fc 3 x.1 x.2) = true := by decide +kernel
theorem fc_4 : ((tF.getD 4 []).zip [99, 102, 120, 122, 128, 132, 143, 230, 232, 234, 237, 240, 243, 246]).all (fun x => m_fc 4 x.1 x.2) = true := by decide +kernel
theorem fc_5 : ((tF.getD 5 []).zip [119, 123, 125, 131, 141, 279, 281, 283, 285, 287, 289, 291, 293, 295, 297, 299, 301, 304, 306]).all (fun x => m_fc 5 x.1 x.2) = true := by decide +kernel
theorem fc_6 : ((tF.getD 6 []).zip []).all (fun x => m_fc 6 x.1 x.2) = true := by decide +kernel
theorem fc_7 : ((tF.getD 7 []).zip [118, 124, 127, 130, 133, 135, 138, 140, 142]).all (fun x => m_fc 7 x.1 x.2) = true := by decide +kernel
theorem fc_8 : ((tF.getD 8 []).zip [175, 191, 194, 197, 200, 343, 345, 347, 350, 353]).all (fun x => m_fc 8 x.1 x.2) = true := by decide +kernel
theorem fc_9 : ((tF.getD 9 []).zip [121, 126, 136, 144, 174, 177, 178, 181, 182, 184, 187, 189, 192, 195, 233, 236, 238, 242, 245, 248, 300, 302, 305, 307, 346, 349, 352, 354, 369, 371, 373, 405, 407, 409, 411, 414, 417, 420, 423, 442, 444, 446, 448, 458, 459, 460, 461, 462]).all (fun x => m_fc 9 x.1 x.2) = true := by decide +kernel
theorem fc_10 : ((tF.getD 10 []).zip [1021, 1022, 1023, 1024, 1025, 1026, 1027, 1028, 1029, 1030, 1031, 1032, 1033, 1034, 1035, 1036, 1037, 1038, 1039, 1040, 1041, 1042, 1043, 1044, 1045, 1046, 1047, 1048, 1049, 1050, 1051, 1052, 1053, 1054, 1055, 1056, 1057, 1058, 1059, 1060, 1061, 1062, 1063, 1064, 1065, 1066, 1067, 1068, 1069, 1070]).all (fun x => m_fc 10 x.1 x.2) = true := by decide +kernel
theorem fc_11 : ((tF.getD 11 []).zip []).all (fun x => m_fc 11 x.1 x.2) = true := by decide +kernel
theorem fc_12 : ((tF.getD 12 []).zip []).all (fun x => m_fc 12 x.1 x.2) = true := by decide +kernel
theorem m_fcs : ∀ o, ∀ e ∈ tF.getD o [], ∃ i, m_fc o e i = true := by
  intro o
  match o with
  | 0 => exact m_zip (r := [404, 406, 408, 410, 413, 416, 419, 422, 441, 443, 445, 447]) (by decide) fc_0
  | 1 => exact m_zip (r := [100, 103, 173, 176, 180, 186, 188, 190, 193, 196, 199, 201]) (by decide) fc_1
  | 2 => exact m_zip (r := [101, 104, 129, 134, 137, 139, 145, 179, 183, 185, 198, 202, 231, 235, 239, 241, 244, 247, 280, 282, 284, 286, 288, 290, 292, 294, 296, 298, 303, 344, 348, 351, 355, 367, 368, 370, 372, 374, 375]) (by decide) fc_2
  | 3 => exact m_zip (r := [403, 412, 415, 418, 421]) (by decide) fc_3
  | 4 => exact m_zip (r := [99, 102, 120, 122, 128, 132, 143, 230, 232, 234, 237, 240, 243, 246]) (by decide) fc_4
  | 5 => exact m_zip (r := [119, 123, 125, 131, 141, 279, 281, 283, 285, 287, 289, 291, 293, 295, 297, 299, 301, 304, 306]) (by decide) fc_5
  | 6 => exact m_zip (r := []) (by decide) fc_6
  | 7 => exact m_zip (r := [118, 124, 127, 130, 133, 135, 138, 140, 142]) (by decide) fc_7
  | 8 => exact m_zip (r := [175, 191, 194, 197, 200, 343, 345, 347, 350, 353]) (by decide) fc_8
  | 9 => exact m_zip (r := [121, 126, 136, 144, 174, 177, 178, 181, 182, 184, 187, 189, 192, 195, 233, 236, 238, 242, 245, 248, 300, 302, 305, 307, 346, 349, 352, 354, 369, 371, 373, 405, 407, 409, 411, 414, 417, 420, 423, 442, 444, 446, 448, 458, 459, 460, 461, 462]) (by decide) fc_9
  | 10 => exact m_zip (r := [1021, 1022, 1023, 1024, 1025, 1026, 1027, 1028, 1029, 1030, 1031, 1032, 1033, 1034, 1035, 1036, 1037, 1038, 1039, 1040, 1041, 1042, 1043, 1044, 1045, 1046, 1047, 1048, 1049, 1050, 1051, 1052, 1053, 1054, 1055, 1056, 1057, 1058, 1059, 1060, 1061, 1062, 1063, 1064, 1065, 1066, 1067, 1068, 1069, 1070]) (by decide) fc_10
  | 11 => exact m_zip (r := []) (by decide) fc_11
  | 12 => exact m_zip (r := []) (by decide) fc_12
  | o + 13 => exact fun e h => by simp [tF] at h
theorem m_fld {o i ci k tk : Nat} {fin : Bool} (h : fR o i = some (ci, k, tk, fin)) : ∃ (C : String) (T : u_T) (N : Nat), vwCl[ci]? = some (C, T, N) ∧ k < N ∧ Cond.fieldLink (m_cn o) i (T k).1 (T k).2.1 (T k).2.2.1 ∈ lw_good ∧ (T k).2.2.2 = fin ∧ m_tyc tk (parseFieldDescriptor (T k).2.2.1) = true ∧ (T k).1 = C := by
  obtain ⟨p, hp⟩ := m_fcs o _ (m_lookup h)
  unfold m_fc at hp
  split at hp
  · rename_i q hq
    obtain ⟨C, T, N⟩ := q
    simp only [Bool.and_eq_true, decide_eq_true_eq] at hp
    exact ⟨C, T, N, hq, hp.1.1.1.1, m_pg_ok hp.1.1.1.2, hp.1.1.2, hp.1.2, hp.2⟩
  · cases hp
theorem uw_0 : ∀ w ∈ wsX00, w ∈ lw_good := by decide +kernel
theorem ui_0 : m_pg (.instantiable RX0 4) 390 = true ∧ m_pg (.initialized RX0) 64 = true := by decide +kernel
theorem uw_1 : ∀ w ∈ wsX10, w ∈ lw_good := by decide +kernel
theorem ui_1 : m_pg (.instantiable RX1 13) 168 = true ∧ m_pg (.initialized RX1) 60 = true := by decide +kernel
theorem uw_2 : ∀ w ∈ wsX20, w ∈ lw_good := by decide +kernel
theorem ui_2 : m_pg (.instantiable RX2 6) 265 = true ∧ m_pg (.initialized RX2) 61 = true := by decide +kernel
theorem uw_3 : ∀ w ∈ wsX30, w ∈ lw_good := by decide +kernel
theorem ui_3 : m_pg (.instantiable RX3 8) 398 = true ∧ m_pg (.initialized RX3) 65 = true := by decide +kernel
theorem uw_4 : ∀ w ∈ wsX40, w ∈ lw_good := by decide +kernel
theorem ui_4 : m_pg (.instantiable RX4 7) 83 = true ∧ m_pg (.initialized RX4) 56 = true := by decide +kernel
theorem uw_5 : ∀ w ∈ wsX50, w ∈ lw_good := by decide +kernel
theorem ui_5 : m_pg (.instantiable RX5 14) 274 = true ∧ m_pg (.initialized RX5) 62 = true := by decide +kernel
theorem uw_6 : ∀ w ∈ wsX60, w ∈ lw_good := by decide +kernel
theorem ui_6 : m_pg (.instantiable RX6 2) 94 = true ∧ m_pg (.initialized RX6) 57 = true := by decide +kernel
theorem uw_7 : ∀ w ∈ wsX70, w ∈ lw_good := by decide +kernel
theorem ui_7 : m_pg (.instantiable RX7 10) 110 = true ∧ m_pg (.initialized RX7) 58 = true := by decide +kernel
theorem uw_8 : ∀ w ∈ wsX80, w ∈ lw_good := by decide +kernel
theorem ui_8 : m_pg (.instantiable RX8 5) 338 = true ∧ m_pg (.initialized RX8) 63 = true := by decide +kernel
theorem uw_9 : ∀ w ∈ wsX90, w ∈ lw_good := by decide +kernel
theorem ui_9 : m_pg (.instantiable RX9 5) 75 = true ∧ m_pg (.initialized RX9) 55 = true := by decide +kernel
theorem uw_10 : ∀ w ∈ wsX100, w ∈ lw_good := by decide +kernel
theorem ui_10 : m_pg (.instantiable RX10 50) 1016 = true ∧ m_pg (.initialized RX10) 66 = true := by decide +kernel
def m_clsP (ci : Nat) (C : String) (T : u_T) (N : Nat) : Prop := (∀ w ∈ u_ws C T N, w ∈ lw_good) ∧ Cond.instantiable C N ∈ lw_good ∧ Cond.initialized C ∈ lw_good ∧ ∃ ty : Nat → FieldType, (∀ k, k < N → parseFieldDescriptor (T k).2.2.1 = some (ty k)) ∧ (∀ a, a < N → ∀ b, b < N → a ≠ b → (T a).2.1 ≠ (T b).2.1) ∧ (tD.getD ci []).length = N ∧ ∀ j, j < N → ∀ (A : List Nat) (b : Nat), defaultValue (ty j) = vp_V ((tD.getD ci []).map (m_val A b)) j
theorem m_cls {ci : Nat} {C : String} {T : u_T} {N : Nat} (h : vwCl[ci]? = some (C, T, N)) : ci < 11 ∧ m_clsP ci C T N := by
  match ci, h with
  | 0, h =>
    cases h
    refine ⟨by decide, uw_0, m_pg_ok ui_0.1, m_pg_ok ui_0.2, tyX0, tyX0_ok, nmX0, rfl, fun j hj A b => ?_⟩
    match j, hj with
    | 0, _ => rfl
    | 1, _ => rfl
    | 2, _ => rfl
    | 3, _ => rfl
    | j + 4, hj => exact absurd hj (by omega)
  | 1, h =>
    cases h
    refine ⟨by decide, uw_1, m_pg_ok ui_1.1, m_pg_ok ui_1.2, tyX1, tyX1_ok, nmX1, rfl, fun j hj A b => ?_⟩
    match j, hj with
    | 0, _ => rfl
    | 1, _ => rfl
    | 2, _ => rfl
    | 3, _ => rfl
    | 4, _ => rfl
    | 5, _ => rfl
    | 6, _ => rfl
    | 7, _ => rfl
    | 8, _ => rfl
    | 9, _ => rfl
    | 10, _ => rfl
    | 11, _ => rfl
    | 12, _ => rfl
    | j + 13, hj => exact absurd hj (by omega)
  | 2, h =>
    cases h
    refine ⟨by decide, uw_2, m_pg_ok ui_2.1, m_pg_ok ui_2.2, tyX2, tyX2_ok, nmX2, rfl, fun j hj A b => ?_⟩
    match j, hj with
    | 0, _ => rfl
    | 1, _ => rfl
    | 2, _ => rfl
    | 3, _ => rfl
    | 4, _ => rfl
    | 5, _ => rfl
    | j + 6, hj => exact absurd hj (by omega)
  | 3, h =>
    cases h
    refine ⟨by decide, uw_3, m_pg_ok ui_3.1, m_pg_ok ui_3.2, tyX3, tyX3_ok, nmX3, rfl, fun j hj A b => ?_⟩
    match j, hj with
    | 0, _ => rfl
    | 1, _ => rfl
    | 2, _ => rfl
    | 3, _ => rfl
    | 4, _ => rfl
    | 5, _ => rfl
    | 6, _ => rfl
    | 7, _ => rfl
    | j + 8, hj => exact absurd hj (by omega)
  | 4, h =>
    cases h
    refine ⟨by decide, uw_4, m_pg_ok ui_4.1, m_pg_ok ui_4.2, tyX4, tyX4_ok, nmX4, rfl, fun j hj A b => ?_⟩
    match j, hj with
    | 0, _ => rfl
    | 1, _ => rfl
    | 2, _ => rfl
    | 3, _ => rfl
    | 4, _ => rfl
    | 5, _ => rfl
    | 6, _ => rfl
    | j + 7, hj => exact absurd hj (by omega)
  | 5, h =>
    cases h
    refine ⟨by decide, uw_5, m_pg_ok ui_5.1, m_pg_ok ui_5.2, tyX5, tyX5_ok, nmX5, rfl, fun j hj A b => ?_⟩
    match j, hj with
    | 0, _ => rfl
    | 1, _ => rfl
    | 2, _ => rfl
    | 3, _ => rfl
    | 4, _ => rfl
    | 5, _ => rfl
    | 6, _ => rfl
    | 7, _ => rfl
    | 8, _ => rfl
    | 9, _ => rfl
    | 10, _ => rfl
    | 11, _ => rfl
    | 12, _ => rfl
    | 13, _ => rfl
    | j + 14, hj => exact absurd hj (by omega)
  | 6, h =>
    cases h
    refine ⟨by decide, uw_6, m_pg_ok ui_6.1, m_pg_ok ui_6.2, tyX6, tyX6_ok, nmX6, rfl, fun j hj A b => ?_⟩
    match j, hj with
    | 0, _ => rfl
    | 1, _ => rfl
    | j + 2, hj => exact absurd hj (by omega)
  | 7, h =>
    cases h
    refine ⟨by decide, uw_7, m_pg_ok ui_7.1, m_pg_ok ui_7.2, tyX7, tyX7_ok, nmX7, rfl, fun j hj A b => ?_⟩
    match j, hj with
    | 0, _ => rfl
    | 1, _ => rfl
    | 2, _ => rfl
    | 3, _ => rfl
    | 4, _ => rfl
    | 5, _ => rfl
    | 6, _ => rfl
    | 7, _ => rfl
    | 8, _ => rfl
    | 9, _ => rfl
    | j + 10, hj => exact absurd hj (by omega)
  | 8, h =>
    cases h
    refine ⟨by decide, uw_8, m_pg_ok ui_8.1, m_pg_ok ui_8.2, tyX8, tyX8_ok, nmX8, rfl, fun j hj A b => ?_⟩
    match j, hj with
    | 0, _ => rfl
    | 1, _ => rfl
    | 2, _ => rfl
    | 3, _ => rfl
    | 4, _ => rfl
    | j + 5, hj => exact absurd hj (by omega)
  | 9, h =>
    cases h
    refine ⟨by decide, uw_9, m_pg_ok ui_9.1, m_pg_ok ui_9.2, tyX9, tyX9_ok, nmX9, rfl, fun j hj A b => ?_⟩
    match j, hj with
    | 0, _ => rfl
    | 1, _ => rfl
    | 2, _ => rfl
    | 3, _ => rfl
    | 4, _ => rfl
    | j + 5, hj => exact absurd hj (by omega)
  | 10, h =>
    cases h
    refine ⟨by decide, uw_10, m_pg_ok ui_10.1, m_pg_ok ui_10.2, tyX10, tyX10_ok, nmX10, rfl, fun j hj A b => ?_⟩
    match j, hj with
    | 0, _ => rfl
    | 1, _ => rfl
    | 2, _ => rfl
    | 3, _ => rfl
    | 4, _ => rfl
    | 5, _ => rfl
    | 6, _ => rfl
    | 7, _ => rfl
    | 8, _ => rfl
    | 9, _ => rfl
    | 10, _ => rfl
    | 11, _ => rfl
    | 12, _ => rfl
    | 13, _ => rfl
    | 14, _ => rfl
    | 15, _ => rfl
    | 16, _ => rfl
    | 17, _ => rfl
    | 18, _ => rfl
    | 19, _ => rfl
    | 20, _ => rfl
    | 21, _ => rfl
    | 22, _ => rfl
    | 23, _ => rfl
    | 24, _ => rfl
    | 25, _ => rfl
    | 26, _ => rfl
    | 27, _ => rfl
    | 28, _ => rfl
    | 29, _ => rfl
    | 30, _ => rfl
    | 31, _ => rfl
    | 32, _ => rfl
    | 33, _ => rfl
    | 34, _ => rfl
    | 35, _ => rfl
    | 36, _ => rfl
    | 37, _ => rfl
    | 38, _ => rfl
    | 39, _ => rfl
    | 40, _ => rfl
    | 41, _ => rfl
    | 42, _ => rfl
    | 43, _ => rfl
    | 44, _ => rfl
    | 45, _ => rfl
    | 46, _ => rfl
    | 47, _ => rfl
    | 48, _ => rfl
    | 49, _ => rfl
    | j + 50, hj => exact absurd hj (by omega)
  | ci + 11, h => simp [vwCl] at h
def m_h4 (mi : Nat) : List (Nat × Nat × Nat × Nat) := (m_hand mi).map (fun q => (q.1, q.2.1, q.2.2.1, q.2.2.2.1))
def m_cw (mi : Nat) : Cond := if m_hand mi = [] then .code (m_y mi) (m_cc mi) (m_maxL mi) (m_ret mi) else .codeWith (m_y mi) (m_cc mi) (m_maxL mi) (m_ret mi) (m_h4 mi)
def m_mchk (mi : Nat) (ps : Nat × Nat × Nat × Nat) : Bool :=
  m_pg (m_cw mi) ps.1 && (match m_kind mi with
    | 0 => m_pg (.static (m_y mi)) ps.2.1
    | 1 => m_pg (.instanceMethod (m_y mi)) ps.2.1 && m_pg (.selects (m_y mi).cls (m_y mi) (m_y mi)) ps.2.2.1
    | _ => m_pg (.instanceMethod (m_y mi)) ps.2.1 && decide ((m_y mi).name = "<init>")) && m_pg (.initialized (m_y mi).cls) ps.2.2.2 &&
  decide ((m_y mi).cls = m_cn (m_own mi)) && decide ((m_y mi).cls ≠ "java/lang/invoke/MethodHandle") && decide ((m_y mi).cls ≠ "java/lang/invoke/VarHandle") && decide ((parseMethodDescriptor (m_y mi).desc).map (fun d => d.parameters.length) = some (m_narg mi)) && plainName (m_y mi).cls
theorem mc_0 : ([0, 1, 2, 3, 4, 5, 6, 7, 8, 9, 10, 11].zip [(393, 392, 0, 64), (839, 838, 0, 64), (884, 882, 883, 64), (851, 849, 850, 64), (855, 854, 18, 64), (859, 858, 19, 64), (863, 861, 862, 64), (867, 866, 20, 64), (836, 834, 835, 64), (871, 869, 870, 64), (909, 907, 908, 64), (914, 912, 913, 64)]).all (fun x => m_mchk x.1 x.2) = true := by decide +kernel
theorem mc_12 : ([12, 13, 14, 15, 16, 17, 18, 19, 20, 21, 22, 23].zip [(171, 170, 0, 60), (811, 809, 810, 60), (820, 818, 819, 60), (558, 556, 557, 60), (847, 845, 846, 60), (268, 267, 0, 61), (481, 479, 480, 61), (939, 937, 938, 61), (991, 989, 990, 61), (604, 602, 603, 61), (485, 484, 0, 61), (943, 942, 22, 61)]).all (fun x => m_mchk x.1 x.2) = true := by decide +kernel
theorem mc_24 : ([24, 25, 26, 27, 28, 29, 30, 31, 32, 33, 34, 35].zip [(947, 946, 23, 61), (950, 949, 0, 61), (508, 507, 1, 61), (512, 511, 2, 61), (522, 521, 0, 61), (534, 533, 3, 61), (550, 549, 4, 61), (554, 553, 5, 61), (562, 561, 6, 61), (567, 566, 7, 61), (579, 578, 8, 61), (583, 582, 9, 61)]).all (fun x => m_mchk x.1 x.2) = true := by decide +kernel
theorem mc_36 : ([36, 37, 38, 39, 40, 41, 42, 43, 44, 45, 46, 47].zip [(596, 595, 10, 61), (401, 400, 0, 65), (86, 85, 0, 56), (712, 710, 711, 56), (745, 743, 744, 56), (794, 792, 793, 56), (277, 276, 0, 62), (489, 487, 488, 62), (494, 492, 493, 62), (538, 536, 537, 62), (571, 569, 570, 62), (587, 585, 586, 62)]).all (fun x => m_mchk x.1 x.2) = true := by decide +kernel
theorem mc_48 : ([48, 49, 50, 51, 52, 53, 54, 55, 56, 57, 58, 59].zip [(591, 589, 590, 62), (600, 598, 599, 62), (516, 514, 515, 62), (97, 96, 0, 57), (113, 112, 0, 58), (762, 760, 761, 58), (815, 813, 814, 58), (341, 340, 0, 63), (503, 501, 502, 63), (526, 524, 525, 63), (608, 606, 607, 63), (546, 544, 545, 63)]).all (fun x => m_mchk x.1 x.2) = true := by decide +kernel
theorem mc_60 : ([60, 61, 62, 63, 64, 65, 66, 67, 68, 69, 70, 71].zip [(542, 540, 541, 63), (530, 528, 529, 63), (575, 573, 574, 63), (78, 77, 0, 55), (621, 619, 620, 55), (720, 718, 719, 55), (752, 750, 751, 55), (769, 767, 768, 55), (776, 774, 775, 55), (789, 787, 788, 55), (801, 799, 800, 55), (827, 825, 826, 55)]).all (fun x => m_mchk x.1 x.2) = true := by decide +kernel
theorem mc_72 : ([72, 73, 74, 75, 76, 77, 78, 79, 80, 81, 82, 83].zip [(878, 876, 877, 55), (891, 889, 890, 55), (904, 902, 903, 55), (921, 919, 920, 55), (928, 926, 927, 55), (935, 933, 934, 55), (958, 956, 957, 55), (965, 963, 964, 55), (972, 970, 971, 55), (980, 978, 979, 55), (477, 475, 476, 55), (987, 985, 986, 55)]).all (fun x => m_mchk x.1 x.2) = true := by decide +kernel
theorem mc_84 : ([84, 85, 86, 87, 88, 89, 90, 91, 92, 93, 94, 95].zip [(999, 997, 998, 55), (1006, 1004, 1005, 55), (1014, 1012, 1013, 55), (612, 610, 611, 55), (724, 723, 12, 55), (756, 755, 13, 55), (780, 779, 14, 55), (805, 804, 15, 55), (895, 894, 21, 55), (624, 623, 0, 55), (832, 831, 16, 55), (843, 842, 17, 55)]).all (fun x => m_mchk x.1 x.2) = true := by decide +kernel
theorem mc_96 : ([96, 97, 98, 99, 100, 101, 102, 103, 104, 105, 106, 107].zip [(1019, 1018, 0, 66), (1176, 1174, 1175, 66), (1183, 1182, 0, 66), (1187, 1186, 24, 66), (1195, 1194, 25, 66), (1203, 1202, 26, 66), (1219, 1218, 28, 66), (1231, 1230, 29, 66), (1275, 1274, 37, 66), (1207, 1206, 27, 66), (1180, 1178, 1179, 66), (1191, 1189, 1190, 66)]).all (fun x => m_mchk x.1 x.2) = true := by decide +kernel
theorem mc_108 : ([108, 109, 110, 111, 112, 113, 114, 115, 116, 117, 118, 119].zip [(1199, 1197, 1198, 66), (1211, 1209, 1210, 66), (1215, 1213, 1214, 66), (1223, 1221, 1222, 66), (1235, 1234, 30, 66), (1227, 1225, 1226, 66), (1295, 1294, 40, 66), (1291, 1290, 39, 66), (1303, 1302, 42, 66), (1299, 1298, 41, 66), (1327, 1326, 48, 66), (1311, 1310, 44, 66)]).all (fun x => m_mchk x.1 x.2) = true := by decide +kernel
theorem mc_120 : ([120, 121, 122, 123, 124, 125, 126, 127, 128, 129, 130, 131].zip [(1307, 1306, 43, 66), (1323, 1322, 47, 66), (1331, 1330, 49, 66), (1335, 1334, 50, 66), (1339, 1338, 51, 66), (1319, 1318, 46, 66), (1315, 1314, 45, 66), (1259, 1258, 35, 66), (1255, 1254, 34, 66), (1251, 1250, 33, 66), (1263, 1262, 36, 66), (1243, 1242, 31, 66)]).all (fun x => m_mchk x.1 x.2) = true := by decide +kernel
theorem mc_132 : ([132, 133, 134, 135, 136, 137, 138, 139, 140, 141, 142, 143].zip [(1247, 1246, 32, 66), (1239, 1237, 1238, 66), (1267, 1265, 1266, 66), (1271, 1269, 1270, 66), (1283, 1282, 38, 66), (1279, 1277, 1278, 66), (1287, 1285, 1286, 66), (1343, 1341, 1342, 66), (1347, 1345, 1346, 66), (1352, 1350, 1351, 66), (1356, 1354, 1355, 66), (1361, 1359, 1360, 66)]).all (fun x => m_mchk x.1 x.2) = true := by decide +kernel
theorem mc_144 : ([144, 145, 146, 147, 148, 149, 150, 151, 152, 153, 154, 155].zip [(1365, 1364, 52, 66), (1377, 1376, 53, 66), (1369, 1367, 1368, 66), (1373, 1371, 1372, 66), (1381, 1379, 1380, 66), (1385, 1383, 1384, 66), (1389, 1387, 1388, 66), (1393, 1391, 1392, 66), (1397, 1395, 1396, 66), (117, 116, 0, 59), (498, 497, 0, 59), (615, 614, 0, 54)]).all (fun x => m_mchk x.1 x.2) = true := by decide +kernel
theorem mc_156 : ([156, 157, 158, 159, 160, 161, 162, 163, 164, 165, 166, 167].zip [(715, 714, 0, 54), (748, 747, 0, 54), (765, 764, 0, 54), (772, 771, 0, 54), (785, 784, 0, 54), (797, 796, 0, 54), (823, 822, 0, 54), (874, 873, 0, 54), (887, 886, 0, 54), (900, 899, 0, 54), (917, 916, 0, 54), (924, 923, 0, 54)]).all (fun x => m_mchk x.1 x.2) = true := by decide +kernel
theorem mc_168 : ([168, 169, 170, 171, 172, 173, 174, 175, 176].zip [(931, 930, 0, 54), (954, 953, 0, 54), (961, 960, 0, 54), (968, 967, 0, 54), (976, 975, 0, 54), (983, 982, 0, 54), (995, 994, 0, 54), (1002, 1001, 0, 54), (1010, 1009, 0, 54)]).all (fun x => m_mchk x.1 x.2) = true := by decide +kernel
theorem m_mcs {mi : Nat} (h : mi < 177) : ∃ ps, m_mchk mi ps = true := by
  by_cases h0 : mi < 12
  · exact m_zip (r := [(393, 392, 0, 64), (839, 838, 0, 64), (884, 882, 883, 64), (851, 849, 850, 64), (855, 854, 18, 64), (859, 858, 19, 64), (863, 861, 862, 64), (867, 866, 20, 64), (836, 834, 835, 64), (871, 869, 870, 64), (909, 907, 908, 64), (914, 912, 913, 64)]) (by decide) mc_0 mi (by simp; omega)
  by_cases h12 : mi < 24
  · exact m_zip (r := [(171, 170, 0, 60), (811, 809, 810, 60), (820, 818, 819, 60), (558, 556, 557, 60), (847, 845, 846, 60), (268, 267, 0, 61), (481, 479, 480, 61), (939, 937, 938, 61), (991, 989, 990, 61), (604, 602, 603, 61), (485, 484, 0, 61), (943, 942, 22, 61)]) (by decide) mc_12 mi (by simp; omega)
  by_cases h24 : mi < 36
  · exact m_zip (r := [(947, 946, 23, 61), (950, 949, 0, 61), (508, 507, 1, 61), (512, 511, 2, 61), (522, 521, 0, 61), (534, 533, 3, 61), (550, 549, 4, 61), (554, 553, 5, 61), (562, 561, 6, 61), (567, 566, 7, 61), (579, 578, 8, 61), (583, 582, 9, 61)]) (by decide) mc_24 mi (by simp; omega)
  by_cases h36 : mi < 48
  · exact m_zip (r := [(596, 595, 10, 61), (401, 400, 0, 65), (86, 85, 0, 56), (712, 710, 711, 56), (745, 743, 744, 56), (794, 792, 793, 56), (277, 276, 0, 62), (489, 487, 488, 62), (494, 492, 493, 62), (538, 536, 537, 62), (571, 569, 570, 62), (587, 585, 586, 62)]) (by decide) mc_36 mi (by simp; omega)
  by_cases h48 : mi < 60
  · exact m_zip (r := [(591, 589, 590, 62), (600, 598, 599, 62), (516, 514, 515, 62), (97, 96, 0, 57), (113, 112, 0, 58), (762, 760, 761, 58), (815, 813, 814, 58), (341, 340, 0, 63), (503, 501, 502, 63), (526, 524, 525, 63), (608, 606, 607, 63), (546, 544, 545, 63)]) (by decide) mc_48 mi (by simp; omega)
  by_cases h60 : mi < 72
  · exact m_zip (r := [(542, 540, 541, 63), (530, 528, 529, 63), (575, 573, 574, 63), (78, 77, 0, 55), (621, 619, 620, 55), (720, 718, 719, 55), (752, 750, 751, 55), (769, 767, 768, 55), (776, 774, 775, 55), (789, 787, 788, 55), (801, 799, 800, 55), (827, 825, 826, 55)]) (by decide) mc_60 mi (by simp; omega)
  by_cases h72 : mi < 84
  · exact m_zip (r := [(878, 876, 877, 55), (891, 889, 890, 55), (904, 902, 903, 55), (921, 919, 920, 55), (928, 926, 927, 55), (935, 933, 934, 55), (958, 956, 957, 55), (965, 963, 964, 55), (972, 970, 971, 55), (980, 978, 979, 55), (477, 475, 476, 55), (987, 985, 986, 55)]) (by decide) mc_72 mi (by simp; omega)
  by_cases h84 : mi < 96
  · exact m_zip (r := [(999, 997, 998, 55), (1006, 1004, 1005, 55), (1014, 1012, 1013, 55), (612, 610, 611, 55), (724, 723, 12, 55), (756, 755, 13, 55), (780, 779, 14, 55), (805, 804, 15, 55), (895, 894, 21, 55), (624, 623, 0, 55), (832, 831, 16, 55), (843, 842, 17, 55)]) (by decide) mc_84 mi (by simp; omega)
  by_cases h96 : mi < 108
  · exact m_zip (r := [(1019, 1018, 0, 66), (1176, 1174, 1175, 66), (1183, 1182, 0, 66), (1187, 1186, 24, 66), (1195, 1194, 25, 66), (1203, 1202, 26, 66), (1219, 1218, 28, 66), (1231, 1230, 29, 66), (1275, 1274, 37, 66), (1207, 1206, 27, 66), (1180, 1178, 1179, 66), (1191, 1189, 1190, 66)]) (by decide) mc_96 mi (by simp; omega)
  by_cases h108 : mi < 120
  · exact m_zip (r := [(1199, 1197, 1198, 66), (1211, 1209, 1210, 66), (1215, 1213, 1214, 66), (1223, 1221, 1222, 66), (1235, 1234, 30, 66), (1227, 1225, 1226, 66), (1295, 1294, 40, 66), (1291, 1290, 39, 66), (1303, 1302, 42, 66), (1299, 1298, 41, 66), (1327, 1326, 48, 66), (1311, 1310, 44, 66)]) (by decide) mc_108 mi (by simp; omega)
  by_cases h120 : mi < 132
  · exact m_zip (r := [(1307, 1306, 43, 66), (1323, 1322, 47, 66), (1331, 1330, 49, 66), (1335, 1334, 50, 66), (1339, 1338, 51, 66), (1319, 1318, 46, 66), (1315, 1314, 45, 66), (1259, 1258, 35, 66), (1255, 1254, 34, 66), (1251, 1250, 33, 66), (1263, 1262, 36, 66), (1243, 1242, 31, 66)]) (by decide) mc_120 mi (by simp; omega)
  by_cases h132 : mi < 144
  · exact m_zip (r := [(1247, 1246, 32, 66), (1239, 1237, 1238, 66), (1267, 1265, 1266, 66), (1271, 1269, 1270, 66), (1283, 1282, 38, 66), (1279, 1277, 1278, 66), (1287, 1285, 1286, 66), (1343, 1341, 1342, 66), (1347, 1345, 1346, 66), (1352, 1350, 1351, 66), (1356, 1354, 1355, 66), (1361, 1359, 1360, 66)]) (by decide) mc_132 mi (by simp; omega)
  by_cases h144 : mi < 156
  · exact m_zip (r := [(1365, 1364, 52, 66), (1377, 1376, 53, 66), (1369, 1367, 1368, 66), (1373, 1371, 1372, 66), (1381, 1379, 1380, 66), (1385, 1383, 1384, 66), (1389, 1387, 1388, 66), (1393, 1391, 1392, 66), (1397, 1395, 1396, 66), (117, 116, 0, 59), (498, 497, 0, 59), (615, 614, 0, 54)]) (by decide) mc_144 mi (by simp; omega)
  by_cases h156 : mi < 168
  · exact m_zip (r := [(715, 714, 0, 54), (748, 747, 0, 54), (765, 764, 0, 54), (772, 771, 0, 54), (785, 784, 0, 54), (797, 796, 0, 54), (823, 822, 0, 54), (874, 873, 0, 54), (887, 886, 0, 54), (900, 899, 0, 54), (917, 916, 0, 54), (924, 923, 0, 54)]) (by decide) mc_156 mi (by simp; omega)
  exact m_zip (r := [(931, 930, 0, 54), (954, 953, 0, 54), (961, 960, 0, 54), (968, 967, 0, 54), (976, 975, 0, 54), (983, 982, 0, 54), (995, 994, 0, 54), (1002, 1001, 0, 54), (1010, 1009, 0, 54)]) (by decide) mc_168 mi (by simp; omega)
/-- a call's link: 1 a method (not of another class's private ones: 5), 2 Math.max, 3 Object's constructor, 4 an exception's -/
def m_cc1 (o : Nat) (e : Nat × Nat × Nat) (i : Nat) : Bool := match e.2.1 with
  | 1 => decide (e.2.2 < 177) && m_pg (.methodLink (m_cn o) e.1 (m_y e.2.2)) i
  | 2 => m_pg (.methodLink (m_cn o) e.1 Lib.Math.max.name) i
  | 3 => m_pg (.methodLink (m_cn o) e.1 objectInit) i
  | 4 => true
  | 5 => decide (e.2.2 < 177) && m_pb (.methodLinkNest (m_cn o) e.1 (m_y e.2.2) "Throughcoach") i
  | _ => false
theorem cc_0 : ((tC.getD 0 []).zip [394, 397, 399, 837, 852, 856, 864]).all (fun x => m_cc1 0 x.1 x.2) = true := by decide +kernel
theorem cc_1 : ((tC.getD 1 []).zip [172]).all (fun x => m_cc1 1 x.1 x.2) = true := by decide +kernel
theorem cc_2 : ((tC.getD 2 []).zip [269, 275, 339, 482, 486, 499, 500, 504, 505, 509, 513, 520, 523, 527, 531, 535, 539, 547, 551, 555, 559, 563, 564, 568, 572, 576, 580, 584, 588, 593, 597, 605, 940, 944, 948, 992]).all (fun x => m_cc1 2 x.1 x.2) = true := by decide +kernel
theorem cc_3 : ((tC.getD 3 []).zip [402]).all (fun x => m_cc1 3 x.1 x.2) = true := by decide +kernel
theorem cc_4 : ((tC.getD 4 []).zip [87, 111, 169, 95]).all (fun x => m_cc1 4 x.1 x.2) = true := by decide +kernel
theorem cc_5 : ((tC.getD 5 []).zip [278, 491, 495, 496, 517]).all (fun x => m_cc1 5 x.1 x.2) = true := by decide +kernel
theorem cc_6 : ((tC.getD 6 []).zip [98]).all (fun x => m_cc1 6 x.1 x.2) = true := by decide +kernel
theorem cc_7 : ((tC.getD 7 []).zip [114, 115]).all (fun x => m_cc1 7 x.1 x.2) = true := by decide +kernel
theorem cc_8 : ((tC.getD 8 []).zip [342, 543]).all (fun x => m_cc1 8 x.1 x.2) = true := by decide +kernel
theorem cc_9 : ((tC.getD 9 []).zip [79, 84, 266, 391, 478, 601, 622, 667, 703, 709, 721, 735, 742, 753, 759, 777, 791, 802, 808, 812, 817, 829, 833, 840, 844, 848, 860, 868, 881, 892, 906, 911, 936, 973, 988, 1007]).all (fun x => m_cc1 9 x.1 x.2) = true := by decide +kernel
theorem cc_10 : ((tC.getD 10 []).zip [1020, 1181, 1184, 1192, 1200, 1204, 1216, 1228, 1232, 1240, 1244, 1248, 1252, 1256, 1260, 1272, 1280, 1288, 1292, 1296, 1300, 1304, 1308, 1312, 1316, 1320, 1324, 1328, 1332, 1336, 1348, 1362, 1374]).all (fun x => m_cc1 10 x.1 x.2) = true := by decide +kernel
theorem cc_11 : ((tC.getD 11 []).zip []).all (fun x => m_cc1 11 x.1 x.2) = true := by decide +kernel
theorem cc_12 : ((tC.getD 12 []).zip [76, 474, 609, 613, 618, 713, 717, 746, 749, 763, 766, 770, 773, 783, 786, 795, 798, 821, 824, 872, 875, 885, 888, 898, 901, 915, 918, 922, 925, 929, 932, 952, 955, 959, 962, 966, 969, 974, 977, 981, 984, 993, 996, 1000, 1003, 1008, 1011, 1017, 1173, 1177, 1188, 1196, 1208, 1212, 1220, 1224, 1236, 1264, 1268, 1276, 1284, 1340, 1344, 1349, 1353, 1358, 1366, 1370, 1378, 1382, 1386, 1390, 1394]).all (fun x => m_cc1 12 x.1 x.2) = true := by decide +kernel
theorem m_ccs : ∀ o, ∀ e ∈ tC.getD o [], ∃ i, m_cc1 o e i = true := by
  intro o
  match o with
  | 0 => exact m_zip (r := [394, 397, 399, 837, 852, 856, 864]) (by decide) cc_0
  | 1 => exact m_zip (r := [172]) (by decide) cc_1
  | 2 => exact m_zip (r := [269, 275, 339, 482, 486, 499, 500, 504, 505, 509, 513, 520, 523, 527, 531, 535, 539, 547, 551, 555, 559, 563, 564, 568, 572, 576, 580, 584, 588, 593, 597, 605, 940, 944, 948, 992]) (by decide) cc_2
  | 3 => exact m_zip (r := [402]) (by decide) cc_3
  | 4 => exact m_zip (r := [87, 111, 169, 95]) (by decide) cc_4
  | 5 => exact m_zip (r := [278, 491, 495, 496, 517]) (by decide) cc_5
  | 6 => exact m_zip (r := [98]) (by decide) cc_6
  | 7 => exact m_zip (r := [114, 115]) (by decide) cc_7
  | 8 => exact m_zip (r := [342, 543]) (by decide) cc_8
  | 9 => exact m_zip (r := [79, 84, 266, 391, 478, 601, 622, 667, 703, 709, 721, 735, 742, 753, 759, 777, 791, 802, 808, 812, 817, 829, 833, 840, 844, 848, 860, 868, 881, 892, 906, 911, 936, 973, 988, 1007]) (by decide) cc_9
  | 10 => exact m_zip (r := [1020, 1181, 1184, 1192, 1200, 1204, 1216, 1228, 1232, 1240, 1244, 1248, 1252, 1256, 1260, 1272, 1280, 1288, 1292, 1296, 1300, 1304, 1308, 1312, 1316, 1320, 1324, 1328, 1332, 1336, 1348, 1362, 1374]) (by decide) cc_10
  | 11 => exact m_zip (r := []) (by decide) cc_11
  | 12 => exact m_zip (r := [76, 474, 609, 613, 618, 713, 717, 746, 749, 763, 766, 770, 773, 783, 786, 795, 798, 821, 824, 872, 875, 885, 888, 898, 901, 915, 918, 922, 925, 929, 932, 952, 955, 959, 962, 966, 969, 974, 977, 981, 984, 993, 996, 1000, 1003, 1008, 1011, 1017, 1173, 1177, 1188, 1196, 1208, 1212, 1220, 1224, 1236, 1264, 1268, 1276, 1284, 1340, 1344, 1349, 1353, 1358, 1366, 1370, 1378, 1382, 1386, 1390, 1394]) (by decide) cc_12
  | o + 13 => exact fun e h => by simp [tC] at h
theorem m_objw : Cond.instanceMethod objectInit ∈ lw_good ∧ Cond.code objectInit ⟨#[0xb1]⟩ 1 none ∈ lw_good := ⟨m_pg_ok (i := 80) (by decide +kernel), m_pg_ok (i := 81) (by decide +kernel)⟩
theorem m_maxw : Cond.static Lib.Math.max.name ∈ lw_good ∧ Cond.initialized "java/lang/Math" ∈ lw_good ∧ Cond.code Lib.Math.max.name Lib.Math.max.code 2 (some .int) ∈ lw_good := ⟨m_pg_ok (i := 518) (by decide +kernel), m_pg_ok (i := 73) (by decide +kernel), m_pg_ok (i := 519) (by decide +kernel)⟩
def eN (e : Nat) : String := ["java/lang/IndexOutOfBoundsException", "java/lang/IllegalArgumentException", "java/lang/IllegalStateException"].getD e ""
def m_kc (o : Nat) (e : Nat × Nat × Nat) (i : Nat) : Bool := match e.2.1 with
  | 0 => (match vwCl[e.2.2]? with
    | some q => m_pg (.classLink (m_cn o) e.1 q.1) i
    | none => false)
  | 1 => decide (e.2.2 < 3) && m_pg (.classLink (m_cn o) e.1 (eN e.2.2)) i
  | _ => false
theorem kc_0 : ((tK.getD 0 []).zip [395]).all (fun x => m_kc 0 x.1 x.2) = true := by decide +kernel
theorem kc_1 : ((tK.getD 1 []).zip []).all (fun x => m_kc 1 x.1 x.2) = true := by decide +kernel
theorem kc_2 : ((tK.getD 2 []).zip [270, 272]).all (fun x => m_kc 2 x.1 x.2) = true := by decide +kernel
theorem kc_3 : ((tK.getD 3 []).zip []).all (fun x => m_kc 3 x.1 x.2) = true := by decide +kernel
theorem kc_4 : ((tK.getD 4 []).zip [88, 90, 92]).all (fun x => m_kc 4 x.1 x.2) = true := by decide +kernel
theorem kc_5 : ((tK.getD 5 []).zip []).all (fun x => m_kc 5 x.1 x.2) = true := by decide +kernel
theorem kc_6 : ((tK.getD 6 []).zip []).all (fun x => m_kc 6 x.1 x.2) = true := by decide +kernel
theorem kc_7 : ((tK.getD 7 []).zip []).all (fun x => m_kc 7 x.1 x.2) = true := by decide +kernel
theorem kc_8 : ((tK.getD 8 []).zip []).all (fun x => m_kc 8 x.1 x.2) = true := by decide +kernel
theorem kc_9 : ((tK.getD 9 []).zip [82, 264, 389, 625, 693, 725]).all (fun x => m_kc 9 x.1 x.2) = true := by decide +kernel
theorem kc_10 : ((tK.getD 10 []).zip []).all (fun x => m_kc 10 x.1 x.2) = true := by decide +kernel
theorem kc_11 : ((tK.getD 11 []).zip []).all (fun x => m_kc 11 x.1 x.2) = true := by decide +kernel
theorem kc_12 : ((tK.getD 12 []).zip [74, 616, 617, 716, 1015]).all (fun x => m_kc 12 x.1 x.2) = true := by decide +kernel
theorem m_kcs : ∀ o, ∀ e ∈ tK.getD o [], ∃ i, m_kc o e i = true := by
  intro o
  match o with
  | 0 => exact m_zip (r := [395]) (by decide) kc_0
  | 1 => exact m_zip (r := []) (by decide) kc_1
  | 2 => exact m_zip (r := [270, 272]) (by decide) kc_2
  | 3 => exact m_zip (r := []) (by decide) kc_3
  | 4 => exact m_zip (r := [88, 90, 92]) (by decide) kc_4
  | 5 => exact m_zip (r := []) (by decide) kc_5
  | 6 => exact m_zip (r := []) (by decide) kc_6
  | 7 => exact m_zip (r := []) (by decide) kc_7
  | 8 => exact m_zip (r := []) (by decide) kc_8
  | 9 => exact m_zip (r := [82, 264, 389, 625, 693, 725]) (by decide) kc_9
  | 10 => exact m_zip (r := []) (by decide) kc_10
  | 11 => exact m_zip (r := []) (by decide) kc_11
  | 12 => exact m_zip (r := [74, 616, 617, 716, 1015]) (by decide) kc_12
  | o + 13 => exact fun e h => by simp [tK] at h
def m_lc (o : Nat) (e : Nat × MV) (i : Nat) : Bool := match e.2 with
  | .inl a => m_pg (.constant (m_cn o) e.1 (Int32.ofInt a)) i && decide (-2147483648 ≤ a ∧ a < 2147483648)
  | .inr (.inr (.inl x)) => m_pg (.constantFloat (m_cn o) e.1 x) i
  | _ => false
theorem lc_0 : ((tL.getD 0 []).zip []).all (fun x => m_lc 0 x.1 x.2) = true := by decide +kernel
theorem lc_1 : ((tL.getD 1 []).zip []).all (fun x => m_lc 1 x.1 x.2) = true := by decide +kernel
theorem lc_2 : ((tL.getD 2 []).zip [951]).all (fun x => m_lc 2 x.1 x.2) = true := by decide +kernel
theorem lc_3 : ((tL.getD 3 []).zip []).all (fun x => m_lc 3 x.1 x.2) = true := by decide +kernel
theorem lc_4 : ((tL.getD 4 []).zip []).all (fun x => m_lc 4 x.1 x.2) = true := by decide +kernel
theorem lc_5 : ((tL.getD 5 []).zip [490, 592]).all (fun x => m_lc 5 x.1 x.2) = true := by decide +kernel
theorem lc_6 : ((tL.getD 6 []).zip []).all (fun x => m_lc 6 x.1 x.2) = true := by decide +kernel
theorem lc_7 : ((tL.getD 7 []).zip []).all (fun x => m_lc 7 x.1 x.2) = true := by decide +kernel
theorem lc_8 : ((tL.getD 8 []).zip []).all (fun x => m_lc 8 x.1 x.2) = true := by decide +kernel
theorem lc_9 : ((tL.getD 9 []).zip []).all (fun x => m_lc 9 x.1 x.2) = true := by decide +kernel
theorem lc_10 : ((tL.getD 10 []).zip [1357]).all (fun x => m_lc 10 x.1 x.2) = true := by decide +kernel
theorem lc_11 : ((tL.getD 11 []).zip []).all (fun x => m_lc 11 x.1 x.2) = true := by decide +kernel
theorem lc_12 : ((tL.getD 12 []).zip []).all (fun x => m_lc 12 x.1 x.2) = true := by decide +kernel
theorem m_lcs : ∀ o, ∀ e ∈ tL.getD o [], ∃ i, m_lc o e i = true := by
  intro o
  match o with
  | 0 => exact m_zip (r := []) (by decide) lc_0
  | 1 => exact m_zip (r := []) (by decide) lc_1
  | 2 => exact m_zip (r := [951]) (by decide) lc_2
  | 3 => exact m_zip (r := []) (by decide) lc_3
  | 4 => exact m_zip (r := []) (by decide) lc_4
  | 5 => exact m_zip (r := [490, 592]) (by decide) lc_5
  | 6 => exact m_zip (r := []) (by decide) lc_6
  | 7 => exact m_zip (r := []) (by decide) lc_7
  | 8 => exact m_zip (r := []) (by decide) lc_8
  | 9 => exact m_zip (r := []) (by decide) lc_9
  | 10 => exact m_zip (r := [1357]) (by decide) lc_10
  | 11 => exact m_zip (r := []) (by decide) lc_11
  | 12 => exact m_zip (r := []) (by decide) lc_12
  | o + 13 => exact fun e h => by simp [tL] at h
theorem aw_int : Cond.arrayClass .int ∈ lw_good := m_pg_ok (i := 167) (by decide +kernel)
theorem aw_boolean : Cond.arrayClass .boolean ∈ lw_good := m_pg_ok (i := 1172) (by decide +kernel)
theorem aw_float : Cond.arrayClass .float ∈ lw_good := m_pg_ok (i := 337) (by decide +kernel)
theorem aw_long : Cond.arrayClass .long ∈ lw_good := m_pg_ok (i := 1398) (by decide +kernel)
theorem aw_double : Cond.arrayClass .double ∈ lw_good := m_pg_ok (i := 1399) (by decide +kernel)
theorem ao_1 : Cond.arrayOver (.object RX1) ∈ m_bad := m_pb_ok (i := 93) (by decide +kernel)
theorem ao_3 : Cond.arrayOver (.object RX3) ∈ m_bad := m_pb_ok (i := 396) (by decide +kernel)
theorem ao_5 : Cond.arrayOver (.object RX5) ∈ m_bad := m_pb_ok (i := 271) (by decide +kernel)
theorem ao_6 : Cond.arrayOver (.object RX6) ∈ m_bad := m_pb_ok (i := 89) (by decide +kernel)
theorem ao_7 : Cond.arrayOver (.object RX7) ∈ m_bad := m_pb_ok (i := 91) (by decide +kernel)
theorem ao_8 : Cond.arrayOver (.object RX8) ∈ m_bad := m_pb_ok (i := 273) (by decide +kernel)
theorem ew_0 : Cond.initialized (eN 0) ∈ lw_good ∧ Cond.castable (eN 0) (eN 0) ∈ m_bad := ⟨m_pg_ok (i := 72) (by decide +kernel), m_pb_ok (i := 727) (by decide +kernel)⟩
theorem ew_1 : Cond.initialized (eN 1) ∈ lw_good ∧ Cond.castable (eN 1) (eN 1) ∈ m_bad := ⟨m_pg_ok (i := 70) (by decide +kernel), m_pb_ok (i := 627) (by decide +kernel)⟩
theorem ew_2 : Cond.initialized (eN 2) ∈ lw_good ∧ Cond.castable (eN 2) (eN 2) ∈ m_bad := ⟨m_pg_ok (i := 71) (by decide +kernel), m_pb_ok (i := 695) (by decide +kernel)⟩
theorem at_1 : ∀ w ∈ vx_atS RX9 237 (eN 1) ["java/lang/RuntimeException", "java/lang/Exception"], (w ∈ lw_good ∨ (w ∈ m_bad ∧ w.onTables = true)) ∧ vx_ot w = true := by decide +kernel
theorem at_2 : ∀ w ∈ vx_atS RX9 50 (eN 2) ["java/lang/RuntimeException", "java/lang/Exception"], (w ∈ lw_good ∨ (w ∈ m_bad ∧ w.onTables = true)) ∧ vx_ot w = true := by decide +kernel
theorem at_0 : ∀ w ∈ vx_atS RX9 106 (eN 0) ["java/lang/RuntimeException", "java/lang/Exception"], (w ∈ lw_good ∨ (w ∈ m_bad ∧ w.onTables = true)) ∧ vx_ot w = true := by decide +kernel
theorem m_exc {o i e : Nat} (h : cR o i = some (4, e)) : o = 9 ∧ e < 3 ∧ ∀ w ∈ vx_atS RX9 i (eN e) ["java/lang/RuntimeException", "java/lang/Exception"], (w ∈ lw_good ∨ (w ∈ m_bad ∧ w.onTables = true)) ∧ vx_ot w = true := by
  have hm := m_lookup h
  match o, hm with
  | 0, hm => exact absurd hm (by simp [tC])
  | 1, hm => exact absurd hm (by simp [tC])
  | 2, hm => exact absurd hm (by simp [tC])
  | 3, hm => exact absurd hm (by simp [tC])
  | 4, hm => exact absurd hm (by simp [tC])
  | 5, hm => exact absurd hm (by simp [tC])
  | 6, hm => exact absurd hm (by simp [tC])
  | 7, hm => exact absurd hm (by simp [tC])
  | 8, hm => exact absurd hm (by simp [tC])
  | 9, hm =>
    have : (i = 237 ∧ e = 1) ∨ (i = 50 ∧ e = 2) ∨ (i = 106 ∧ e = 0) := by
      simp [tC] at hm
      omega
    rcases this with ⟨rfl, rfl⟩ | ⟨rfl, rfl⟩ | ⟨rfl, rfl⟩
    · exact ⟨rfl, by decide, at_1⟩
    · exact ⟨rfl, by decide, at_2⟩
    · exact ⟨rfl, by decide, at_0⟩
  | 10, hm => exact absurd hm (by simp [tC])
  | 11, hm => exact absurd hm (by simp [tC])
  | 12, hm => exact absurd hm (by simp [tC])
  | o + 13, hm => exact absurd hm (by simp [tC])
end
section
/-! ===== the code lists are the bytes ===== -/
def m_iln : Instr → Nat
  | .bipush _ => 2 | .iload _ => 2 | .aload _ => 2 | .fload _ => 2 | .istore _ => 2 | .astore _ => 2 | .fstore _ => 2 | .ldc _ => 2 | .newarray _ => 2
  | .sipush _ => 3 | .ldc_w _ => 3 | .iinc _ _ => 3 | .ifCond _ _ => 3 | .if_icmp _ _ => 3 | .goto _ => 3 | .getfield _ => 3 | .putfield _ => 3 | .new _ => 3 | .anewarray _ => 3
  | .invokestatic _ => 3 | .invokevirtual _ => 3 | .invokespecial _ => 3
  | .tableswitch _ _ _ _ => 0
  | _ => 1
def m_kchk (mi : Nat) : Option (Nat × Nat) → Bool
  | some (1, mj) => decide (m_frs mj + 1 ≤ m_frs mi ∧ 19 + m_maxL mj + m_loc mj ≤ m_loc mi)
  | some (5, mj) => decide (m_frs mj + 1 ≤ m_frs mi ∧ 19 + m_maxL mj + m_loc mj ≤ m_loc mi)
  | some (2, _) => decide (1 ≤ m_frs mi ∧ 21 ≤ m_loc mi)
  | some (3, _) => decide (1 ≤ m_frs mi ∧ 20 ≤ m_loc mi)
  | some (4, _) => decide (6 ≤ m_frs mi ∧ 90 ≤ m_loc mi) && (m_hand mi).isEmpty
  | _ => false
def m_ichk (mi pc : Nat) : Instr → Bool
  | .ifCond _ off => decide (0 ≤ (pc : Int) + off)
  | .if_icmp _ off => decide (0 ≤ (pc : Int) + off)
  | .invokestatic k => m_kchk mi (cR (m_own mi) k)
  | .invokevirtual k => m_kchk mi (cR (m_own mi) k)
  | .invokespecial k => m_kchk mi (cR (m_own mi) k)
  | _ => true
def m_dchk (cc : ByteArray) (pc : Nat) (i : Instr) (r : MCode) : Bool := match decode cc pc with
  | .ok (j, len) => decide (j = i) && decide (m_iln i = len ∨ m_iln i = 0) && (match r with
    | y :: _ => decide (y.1 = pc + len)
    | [] => true)
  | _ => false
def m_cchk (mi : Nat) (cc : ByteArray) : MCode → Bool
  | [] => true
  | x :: r => m_dchk cc x.1 x.2 r && m_ichk mi x.1 x.2 && m_cchk mi cc r
def m_vl (mi : Nat) : MCode → Prop
  | [] => True
  | x :: r => (∃ len, decode (m_cc mi) x.1 = .ok (x.2, len) ∧ (m_iln x.2 = len ∨ m_iln x.2 = 0) ∧ ∀ y r', r = y :: r' → y.1 = x.1 + len) ∧ m_ichk mi x.1 x.2 = true ∧ m_vl mi r
theorem m_vl_of {mi : Nat} : ∀ {c : MCode}, m_cchk mi (m_cc mi) c = true → m_vl mi c
  | [], _ => trivial
  | x :: r, h => by
    simp only [m_cchk, Bool.and_eq_true] at h
    refine ⟨?_, h.1.2, m_vl_of h.2⟩
    have h1 := h.1.1
    unfold m_dchk at h1
    split at h1
    · rename_i j len hd
      simp only [Bool.and_eq_true, decide_eq_true_eq] at h1
      refine ⟨len, by rw [hd, h1.1.1], h1.1.2, fun y r' hr => ?_⟩
      have h2 := h1.2
      subst hr
      simpa using h2
    · cases h1
theorem m_vl_drop {mi : Nat} : ∀ {c : MCode} (k : Nat), m_vl mi c → m_vl mi (c.drop k)
  | c, 0, h => h
  | [], k + 1, _ => trivial
  | x :: r, k + 1, h => m_vl_drop (c := r) k h.2.2
def m_tchk (mi : Nat) : Bool := (m_tg mi).all (fun q => decide (((m_code mi)[q.2]?).map Prod.fst = some q.1))
def m_achk (mi : Nat) : Bool := m_cchk mi (m_cc mi) (m_code mi) && m_tchk mi && decide (m_code mi ≠ [])
theorem ac_0 : [0, 1, 2, 3, 4, 5, 6, 7].all m_achk = true := by decide +kernel
theorem ac_1 : [8, 9, 10, 11, 12, 13, 14, 15, 16].all m_achk = true := by decide +kernel
theorem ac_2 : [17, 18, 19, 20, 21, 22, 23].all m_achk = true := by decide +kernel
theorem ac_3 : [24, 25, 26, 27, 28].all m_achk = true := by decide +kernel
theorem ac_4 : [29, 30, 31].all m_achk = true := by decide +kernel
theorem ac_5 : [32, 33, 34, 35].all m_achk = true := by decide +kernel
theorem ac_6 : [36, 37, 38, 39, 40].all m_achk = true := by decide +kernel
theorem ac_7 : [41, 42, 43, 44, 45, 46, 47, 48].all m_achk = true := by decide +kernel
theorem ac_8 : [49, 50, 51, 52, 53, 54, 55, 56, 57, 58].all m_achk = true := by decide +kernel
theorem ac_9 : [59, 60, 61, 62, 63, 64, 65, 66].all m_achk = true := by decide +kernel
theorem ac_10 : [67, 68, 69, 70, 71].all m_achk = true := by decide +kernel
theorem ac_11 : [72, 73, 74, 75, 76, 77, 78].all m_achk = true := by decide +kernel
theorem ac_12 : [79, 80, 81, 82, 83, 84, 85, 86, 87, 88, 89].all m_achk = true := by decide +kernel
theorem ac_13 : [90, 91, 92, 93, 94, 95].all m_achk = true := by decide +kernel
theorem ac_14 : [96, 97, 98, 99].all m_achk = true := by decide +kernel
theorem ac_15 : [100, 101, 102, 103, 104, 105, 106, 107].all m_achk = true := by decide +kernel
theorem ac_16 : [108, 109, 110].all m_achk = true := by decide +kernel
theorem ac_17 : [111, 112].all m_achk = true := by decide +kernel
theorem ac_18 : [113, 114].all m_achk = true := by decide +kernel
theorem ac_19 : [115, 116].all m_achk = true := by decide +kernel
theorem ac_20 : [117, 118, 119].all m_achk = true := by decide +kernel
theorem ac_21 : [120, 121].all m_achk = true := by decide +kernel
theorem ac_22 : [122, 123, 124].all m_achk = true := by decide +kernel
theorem ac_23 : [125].all m_achk = true := by decide +kernel
theorem ac_24 : [126].all m_achk = true := by decide +kernel
theorem ac_25 : [127, 128, 129, 130].all m_achk = true := by decide +kernel
theorem ac_26 : [131, 132, 133].all m_achk = true := by decide +kernel
theorem ac_27 : [134, 135, 136].all m_achk = true := by decide +kernel
theorem ac_28 : [137, 138, 139, 140, 141].all m_achk = true := by decide +kernel
theorem ac_29 : [142, 143, 144, 145, 146, 147].all m_achk = true := by decide +kernel
theorem ac_30 : [148, 149, 150, 151, 152].all m_achk = true := by decide +kernel
theorem ac_31 : [153, 154, 155, 156, 157, 158, 159, 160, 161, 162, 163].all m_achk = true := by decide +kernel
theorem ac_32 : [164, 165, 166, 167, 168, 169, 170, 171, 172, 173, 174, 175, 176].all m_achk = true := by decide +kernel
def m_cseg (mi : Nat) (cc : ByteArray) (e : Nat) : MCode → Bool
  | [] => true
  | x :: r => (match decode cc x.1 with
    | .ok (j, len) => decide (j = x.2) && decide (m_iln x.2 = len ∨ m_iln x.2 = 0) && decide ((match r with
      | y :: _ => y.1
      | [] => e) = x.1 + len)
    | _ => false) && m_ichk mi x.1 x.2 && m_cseg mi cc e r
theorem m_vl_app {mi e : Nat} {c2 : MCode} (h2 : m_vl mi c2) (he : ∀ y r', c2 = y :: r' → y.1 = e) : ∀ {c1 : MCode}, m_cseg mi (m_cc mi) e c1 = true → m_vl mi (c1 ++ c2)
  | [], _ => h2
  | x :: r, h => by
    simp only [m_cseg, Bool.and_eq_true] at h
    refine ⟨?_, h.1.2, m_vl_app h2 he h.2⟩
    have h1 := h.1.1
    split at h1
    · rename_i j len hd
      simp only [Bool.and_eq_true, decide_eq_true_eq] at h1
      refine ⟨len, by rw [hd, h1.1.1], h1.1.2, fun y r' hr => ?_⟩
      have h3 := h1.2
      cases r with
      | nil => rw [he y r' hr]; exact h3
      | cons z r => cases hr; exact h3
    · cases h1
theorem m_vl_seg {mi e n : Nat} {c : MCode} (a : Nat) (h1 : m_cseg mi (m_cc mi) e ((c.drop a).take n) = true) {a2 : Nat} (ha : a2 = a + n) (h2 : m_vl mi (c.drop a2)) (he : ((c.drop a2).head?.map Prod.fst).getD e = e) : m_vl mi (c.drop a) := by
  subst ha
  have h3 : c.drop a = (c.drop a).take n ++ c.drop (a + n) := by rw [← List.drop_drop, List.take_append_drop]
  rw [h3]
  refine m_vl_app h2 (fun y r' hr => ?_) h1
  rw [hr] at he
  simpa using he
theorem sg_0 : m_cseg 177 (m_cc 177) 203 ((m_code 177).drop 0 |>.take 60) = true := by decide +kernel
theorem sh_0 : (((m_code 177).drop 60).head?.map Prod.fst).getD 203 = 203 := by decide +kernel
theorem sg_1 : m_cseg 177 (m_cc 177) 291 ((m_code 177).drop 60 |>.take 60) = true := by decide +kernel
theorem sh_1 : (((m_code 177).drop 120).head?.map Prod.fst).getD 291 = 291 := by decide +kernel
theorem sg_2 : m_cseg 177 (m_cc 177) 369 ((m_code 177).drop 120 |>.take 60) = true := by decide +kernel
theorem sh_2 : (((m_code 177).drop 180).head?.map Prod.fst).getD 369 = 369 := by decide +kernel
theorem sg_3 : m_cseg 177 (m_cc 177) 463 ((m_code 177).drop 180 |>.take 60) = true := by decide +kernel
theorem sh_3 : (((m_code 177).drop 240).head?.map Prod.fst).getD 463 = 463 := by decide +kernel
theorem sg_4 : m_cseg 177 (m_cc 177) 551 ((m_code 177).drop 240 |>.take 60) = true := by decide +kernel
theorem sh_4 : (((m_code 177).drop 300).head?.map Prod.fst).getD 551 = 551 := by decide +kernel
theorem sg_5 : m_cseg 177 (m_cc 177) 632 ((m_code 177).drop 300 |>.take 60) = true := by decide +kernel
theorem sh_5 : (((m_code 177).drop 360).head?.map Prod.fst).getD 632 = 632 := by decide +kernel
theorem sg_6 : m_cseg 177 (m_cc 177) 721 ((m_code 177).drop 360 |>.take 60) = true := by decide +kernel
theorem sh_6 : (((m_code 177).drop 420).head?.map Prod.fst).getD 721 = 721 := by decide +kernel
theorem sg_7 : m_cseg 177 (m_cc 177) 813 ((m_code 177).drop 420 |>.take 60) = true := by decide +kernel
theorem sh_7 : (((m_code 177).drop 480).head?.map Prod.fst).getD 813 = 813 := by decide +kernel
theorem sg_8 : m_cseg 177 (m_cc 177) 901 ((m_code 177).drop 480 |>.take 60) = true := by decide +kernel
theorem sh_8 : (((m_code 177).drop 540).head?.map Prod.fst).getD 901 = 901 := by decide +kernel
theorem sg_9 : m_cseg 177 (m_cc 177) 996 ((m_code 177).drop 540 |>.take 60) = true := by decide +kernel
theorem sh_9 : (((m_code 177).drop 600).head?.map Prod.fst).getD 996 = 996 := by decide +kernel
theorem sg_10 : m_cseg 177 (m_cc 177) 1083 ((m_code 177).drop 600 |>.take 60) = true := by decide +kernel
theorem sh_10 : (((m_code 177).drop 660).head?.map Prod.fst).getD 1083 = 1083 := by decide +kernel
theorem sg_11 : m_cseg 177 (m_cc 177) 1178 ((m_code 177).drop 660 |>.take 60) = true := by decide +kernel
theorem sh_11 : (((m_code 177).drop 720).head?.map Prod.fst).getD 1178 = 1178 := by decide +kernel
theorem sg_12 : m_cseg 177 (m_cc 177) 1267 ((m_code 177).drop 720 |>.take 60) = true := by decide +kernel
theorem sh_12 : (((m_code 177).drop 780).head?.map Prod.fst).getD 1267 = 1267 := by decide +kernel
theorem sg_13 : m_cseg 177 (m_cc 177) 1356 ((m_code 177).drop 780 |>.take 60) = true := by decide +kernel
theorem sh_13 : (((m_code 177).drop 840).head?.map Prod.fst).getD 1356 = 1356 := by decide +kernel
theorem sg_14 : m_cseg 177 (m_cc 177) 1449 ((m_code 177).drop 840 |>.take 60) = true := by decide +kernel
theorem sh_14 : (((m_code 177).drop 900).head?.map Prod.fst).getD 1449 = 1449 := by decide +kernel
theorem sg_15 : m_cseg 177 (m_cc 177) 1541 ((m_code 177).drop 900 |>.take 60) = true := by decide +kernel
theorem sh_15 : (((m_code 177).drop 960).head?.map Prod.fst).getD 1541 = 1541 := by decide +kernel
theorem sg_16 : m_cseg 177 (m_cc 177) 1637 ((m_code 177).drop 960 |>.take 60) = true := by decide +kernel
theorem sh_16 : (((m_code 177).drop 1020).head?.map Prod.fst).getD 1637 = 1637 := by decide +kernel
theorem sg_17 : m_cseg 177 (m_cc 177) 1725 ((m_code 177).drop 1020 |>.take 60) = true := by decide +kernel
theorem sh_17 : (((m_code 177).drop 1080).head?.map Prod.fst).getD 1725 = 1725 := by decide +kernel
theorem sg_18 : m_cseg 177 (m_cc 177) 1814 ((m_code 177).drop 1080 |>.take 60) = true := by decide +kernel
theorem sh_18 : (((m_code 177).drop 1140).head?.map Prod.fst).getD 1814 = 1814 := by decide +kernel
theorem sg_19 : m_cseg 177 (m_cc 177) 1903 ((m_code 177).drop 1140 |>.take 60) = true := by decide +kernel
theorem sh_19 : (((m_code 177).drop 1200).head?.map Prod.fst).getD 1903 = 1903 := by decide +kernel
theorem tc_law : m_tchk 177 = true := by decide +kernel
theorem s_end : (m_code 177).length ≤ 1200 := by decide +kernel
end
section
theorem sv_20 : m_vl 177 ((m_code 177).drop 1200) := by
  rw [List.drop_eq_nil_of_le s_end]
  trivial
set_option maxRecDepth 20000 in
theorem sv_19 : m_vl 177 ((m_code 177).drop 1140) := m_vl_seg (mi := 177) (c := m_code 177) (n := 60) 1140 sg_19 (by omega) sv_20 sh_19
set_option maxRecDepth 20000 in
theorem sv_18 : m_vl 177 ((m_code 177).drop 1080) := m_vl_seg (mi := 177) (c := m_code 177) (n := 60) 1080 sg_18 (by omega) sv_19 sh_18
set_option maxRecDepth 20000 in
theorem sv_17 : m_vl 177 ((m_code 177).drop 1020) := m_vl_seg (mi := 177) (c := m_code 177) (n := 60) 1020 sg_17 (by omega) sv_18 sh_17
set_option maxRecDepth 20000 in
theorem sv_16 : m_vl 177 ((m_code 177).drop 960) := m_vl_seg (mi := 177) (c := m_code 177) (n := 60) 960 sg_16 (by omega) sv_17 sh_16
set_option maxRecDepth 20000 in
theorem sv_15 : m_vl 177 ((m_code 177).drop 900) := m_vl_seg (mi := 177) (c := m_code 177) (n := 60) 900 sg_15 (by omega) sv_16 sh_15
set_option maxRecDepth 20000 in
theorem sv_14 : m_vl 177 ((m_code 177).drop 840) := m_vl_seg (mi := 177) (c := m_code 177) (n := 60) 840 sg_14 (by omega) sv_15 sh_14
set_option maxRecDepth 20000 in
theorem sv_13 : m_vl 177 ((m_code 177).drop 780) := m_vl_seg (mi := 177) (c := m_code 177) (n := 60) 780 sg_13 (by omega) sv_14 sh_13
set_option maxRecDepth 20000 in
theorem sv_12 : m_vl 177 ((m_code 177).drop 720) := m_vl_seg (mi := 177) (c := m_code 177) (n := 60) 720 sg_12 (by omega) sv_13 sh_12
set_option maxRecDepth 20000 in
theorem sv_11 : m_vl 177 ((m_code 177).drop 660) := m_vl_seg (mi := 177) (c := m_code 177) (n := 60) 660 sg_11 (by omega) sv_12 sh_11
set_option maxRecDepth 20000 in
theorem sv_10 : m_vl 177 ((m_code 177).drop 600) := m_vl_seg (mi := 177) (c := m_code 177) (n := 60) 600 sg_10 (by omega) sv_11 sh_10
set_option maxRecDepth 20000 in
theorem sv_9 : m_vl 177 ((m_code 177).drop 540) := m_vl_seg (mi := 177) (c := m_code 177) (n := 60) 540 sg_9 (by omega) sv_10 sh_9
set_option maxRecDepth 20000 in
theorem sv_8 : m_vl 177 ((m_code 177).drop 480) := m_vl_seg (mi := 177) (c := m_code 177) (n := 60) 480 sg_8 (by omega) sv_9 sh_8
set_option maxRecDepth 20000 in
theorem sv_7 : m_vl 177 ((m_code 177).drop 420) := m_vl_seg (mi := 177) (c := m_code 177) (n := 60) 420 sg_7 (by omega) sv_8 sh_7
set_option maxRecDepth 20000 in
theorem sv_6 : m_vl 177 ((m_code 177).drop 360) := m_vl_seg (mi := 177) (c := m_code 177) (n := 60) 360 sg_6 (by omega) sv_7 sh_6
set_option maxRecDepth 20000 in
theorem sv_5 : m_vl 177 ((m_code 177).drop 300) := m_vl_seg (mi := 177) (c := m_code 177) (n := 60) 300 sg_5 (by omega) sv_6 sh_5
set_option maxRecDepth 20000 in
theorem sv_4 : m_vl 177 ((m_code 177).drop 240) := m_vl_seg (mi := 177) (c := m_code 177) (n := 60) 240 sg_4 (by omega) sv_5 sh_4
set_option maxRecDepth 20000 in
theorem sv_3 : m_vl 177 ((m_code 177).drop 180) := m_vl_seg (mi := 177) (c := m_code 177) (n := 60) 180 sg_3 (by omega) sv_4 sh_3
set_option maxRecDepth 20000 in
theorem sv_2 : m_vl 177 ((m_code 177).drop 120) := m_vl_seg (mi := 177) (c := m_code 177) (n := 60) 120 sg_2 (by omega) sv_3 sh_2
set_option maxRecDepth 20000 in
theorem sv_1 : m_vl 177 ((m_code 177).drop 60) := m_vl_seg (mi := 177) (c := m_code 177) (n := 60) 60 sg_1 (by omega) sv_2 sh_1
set_option maxRecDepth 20000 in
theorem sv_0 : m_vl 177 ((m_code 177).drop 0) := m_vl_seg (mi := 177) (c := m_code 177) (n := 60) 0 sg_0 (by omega) sv_1 sh_0
theorem m_acs {mi : Nat} (h : mi < 177) : m_achk mi = true := by
  by_cases h0 : mi < 8
  · exact List.all_eq_true.mp ac_0 mi (by simp; omega)
  by_cases h1 : mi < 17
  · exact List.all_eq_true.mp ac_1 mi (by simp; omega)
  by_cases h2 : mi < 24
  · exact List.all_eq_true.mp ac_2 mi (by simp; omega)
  by_cases h3 : mi < 29
  · exact List.all_eq_true.mp ac_3 mi (by simp; omega)
  by_cases h4 : mi < 32
  · exact List.all_eq_true.mp ac_4 mi (by simp; omega)
  by_cases h5 : mi < 36
  · exact List.all_eq_true.mp ac_5 mi (by simp; omega)
  by_cases h6 : mi < 41
  · exact List.all_eq_true.mp ac_6 mi (by simp; omega)
  by_cases h7 : mi < 49
  · exact List.all_eq_true.mp ac_7 mi (by simp; omega)
  by_cases h8 : mi < 59
  · exact List.all_eq_true.mp ac_8 mi (by simp; omega)
  by_cases h9 : mi < 67
  · exact List.all_eq_true.mp ac_9 mi (by simp; omega)
  by_cases h10 : mi < 72
  · exact List.all_eq_true.mp ac_10 mi (by simp; omega)
  by_cases h11 : mi < 79
  · exact List.all_eq_true.mp ac_11 mi (by simp; omega)
  by_cases h12 : mi < 90
  · exact List.all_eq_true.mp ac_12 mi (by simp; omega)
  by_cases h13 : mi < 96
  · exact List.all_eq_true.mp ac_13 mi (by simp; omega)
  by_cases h14 : mi < 100
  · exact List.all_eq_true.mp ac_14 mi (by simp; omega)
  by_cases h15 : mi < 108
  · exact List.all_eq_true.mp ac_15 mi (by simp; omega)
  by_cases h16 : mi < 111
  · exact List.all_eq_true.mp ac_16 mi (by simp; omega)
  by_cases h17 : mi < 113
  · exact List.all_eq_true.mp ac_17 mi (by simp; omega)
  by_cases h18 : mi < 115
  · exact List.all_eq_true.mp ac_18 mi (by simp; omega)
  by_cases h19 : mi < 117
  · exact List.all_eq_true.mp ac_19 mi (by simp; omega)
  by_cases h20 : mi < 120
  · exact List.all_eq_true.mp ac_20 mi (by simp; omega)
  by_cases h21 : mi < 122
  · exact List.all_eq_true.mp ac_21 mi (by simp; omega)
  by_cases h22 : mi < 125
  · exact List.all_eq_true.mp ac_22 mi (by simp; omega)
  by_cases h23 : mi < 126
  · exact List.all_eq_true.mp ac_23 mi (by simp; omega)
  by_cases h24 : mi < 127
  · exact List.all_eq_true.mp ac_24 mi (by simp; omega)
  by_cases h25 : mi < 131
  · exact List.all_eq_true.mp ac_25 mi (by simp; omega)
  by_cases h26 : mi < 134
  · exact List.all_eq_true.mp ac_26 mi (by simp; omega)
  by_cases h27 : mi < 137
  · exact List.all_eq_true.mp ac_27 mi (by simp; omega)
  by_cases h28 : mi < 142
  · exact List.all_eq_true.mp ac_28 mi (by simp; omega)
  by_cases h29 : mi < 148
  · exact List.all_eq_true.mp ac_29 mi (by simp; omega)
  by_cases h30 : mi < 153
  · exact List.all_eq_true.mp ac_30 mi (by simp; omega)
  by_cases h31 : mi < 164
  · exact List.all_eq_true.mp ac_31 mi (by simp; omega)
  exact List.all_eq_true.mp ac_32 mi (by simp; omega)
theorem m_vlc {mi : Nat} (h : mi < 178) : m_vl mi (m_code mi) := by
  by_cases h9 : mi < 177
  · have h1 := m_acs h9
    simp only [m_achk, Bool.and_eq_true] at h1
    exact m_vl_of h1.1.1
  · have e : mi = 177 := by omega
    subst e
    exact sv_0
theorem m_tcs {mi : Nat} (h : mi < 178) : m_tchk mi = true := by
  by_cases h9 : mi < 177
  · have h1 := m_acs h9
    simp only [m_achk, Bool.and_eq_true] at h1
    exact h1.1.2
  · have e : mi = 177 := by omega
    subst e
    exact tc_law
def m_pc : MCode → Nat
  | [] => 0
  | x :: _ => x.1
theorem m_blk_ok {mi : Nat} (h : mi < 178) (t : Nat) : m_vl mi (m_blk mi t) ∧ (m_blk mi t ≠ [] → m_pc (m_blk mi t) = t) := by
  unfold m_blk
  split
  · rename_i k hk
    refine ⟨m_vl_drop k (m_vlc h), fun hne => ?_⟩
    have h2 := List.all_eq_true.mp (m_tcs h) _ (m_lookup hk)
    simp only [decide_eq_true_eq] at h2
    cases hd : (m_code mi).drop k with
    | nil => exact absurd hd hne
    | cons x r =>
      have e : (m_code mi)[k]? = some x := by
        rw [← List.head?_drop, hd]
        rfl
      rw [e] at h2
      simpa [m_pc] using h2
  · exact ⟨trivial, fun h => absurd rfl h⟩
theorem m_jmp_ok {mi : Nat} (h : mi < 178) (pc : Nat) (off : Int) : m_vl mi (m_jmp mi pc off) ∧ (m_jmp mi pc off ≠ [] → (pc : Int) + off = (m_pc (m_jmp mi pc off) : Int)) := by
  unfold m_jmp
  split
  · rename_i h0
    obtain ⟨h1, h2⟩ := m_blk_ok h ((pc : Int) + off).toNat
    refine ⟨h1, fun hne => ?_⟩
    rw [h2 hne]
    omega
  · exact ⟨trivial, fun h => absurd rfl h⟩
end
section
/-! ===== the small machine: values, a heap that is a list of cells, one step, runs; xs the script, L its length and 1 (0: no script) ===== -/
abbrev MHp : Type := List (Nat × List MV) × Nat × Nat
abbrev MCfg : Type := MCode × List MV × List MV × MHp
abbrev MOut : Type := Sum (Option MV) Nat
abbrev MAct : Type := Sum MCfg (Sum ((Nat × List MV) × MCfg × Nat) (MOut × MHp))
def m_in (a : Int) : Prop := -2147483648 ≤ a ∧ a < 2147483648
abbrev m_inD (a : Int) : Bool := decide (-2147483648 ≤ a ∧ a < 2147483648)
def m_add (a b : Int) : Int := (Int32.ofInt a + Int32.ofInt b).toInt
def m_sub (a b : Int) : Int := (Int32.ofInt a - Int32.ofInt b).toInt
def m_mul (a b : Int) : Int := (Int32.ofInt a * Int32.ofInt b).toInt
def m_div (a b : Int) : Int := (Int32.ofInt a / Int32.ofInt b).toInt
def m_rem (a b : Int) : Int := (Int32.ofInt a - Int32.ofInt a / Int32.ofInt b * Int32.ofInt b).toInt
def m_and (a b : Int) : Int := (Int32.ofInt a &&& Int32.ofInt b).toInt
def m_shr (a b : Int) : Int := (Int32.ofInt a >>> (Int32.ofInt b &&& 31)).toInt
def m_holds : Jvm.ClassFile.Cond → Int → Int → Bool
  | .eq, a, b => decide (a = b)
  | .ne, a, b => decide (¬ a = b)
  | .lt, a, b => decide (a < b)
  | .ge, a, b => decide (b ≤ a)
  | .gt, a, b => decide (b < a)
  | .le, a, b => decide (a ≤ b)
def m_cat : MV → Nat
  | .inr (.inr (.inr (.inl _))) => 2
  | .inr (.inr (.inr (.inr (.inl _)))) => 2
  | _ => 1
def m_nn32 (r : UInt32) : Bool := decide (r &&& 0x7fffffff ≤ 0x7f800000)
def m_nn64 (r : UInt64) : Bool := decide (r &&& 0x7fffffffffffffff ≤ 0x7ff0000000000000)
/-- a field of an object of class ci -/
def m_get (h : MHp) (o ci k : Nat) : Option MV := match h.1[o]? with
  | some c => if c.1 = ci then c.2[k]? else none
  | none => none
/-- a place of an array of kind tag -/
def m_age (h : MHp) (o tag : Nat) (i : Int) : Option MV := if 0 ≤ i then m_get h o tag i.toNat else none
def m_len (h : MHp) (o : Nat) : Option Nat := match h.1[o]? with
  | some c => if c.1 = 20 ∨ c.1 = 22 then some c.2.length else none
  | none => none
def m_tag (h : MHp) (o : Nat) : Option Nat := match h.1[o]? with
  | some c => some c.1
  | none => none
def m_set (h : MHp) (o k : Nat) (v : MV) : MHp := (h.1.modify o (fun c => (c.1, c.2.set k v)), h.2)
def m_push (h : MHp) (tag : Nat) (vs : List MV) : MHp := (h.1 ++ [(tag, vs)], h.2.1 + 1, h.2.2 + vs.length)
/-- may the value be stored in a variable of the kind (0 int, 1 boolean, 2 reference)? -/
def m_fit : Nat → MV → Bool
  | 0, .inl _ => true
  | 1, .inl a => decide (a = 0 ∨ a = 1)
  | 2, .inr (.inl _) => true
  | _, _ => false
/-- the classes of which there are arrays -/
def m_oa (c : Nat) : Bool := decide (c = 1 ∨ c = 3 ∨ c = 5 ∨ c = 6 ∨ c = 7 ∨ c = 8)
def m_nx (c : MCode) (ls st : List MV) (h : MHp) : Option MAct := some (.inl (c, ls, st, h))
def m_ld (v : Option MV) (r : MCode) (ls st : List MV) (h : MHp) : Option MAct := match v with
  | some v => m_nx r ls (v :: st) h
  | none => none
def m_iload (k : Nat) (r : MCode) (ls st : List MV) (h : MHp) : Option MAct := match ls[k]? with
  | some (.inl a) => m_nx r ls (vI a :: st) h
  | _ => none
def m_aload (k : Nat) (r : MCode) (ls st : List MV) (h : MHp) : Option MAct := match ls[k]? with
  | some (.inr (.inl (some o))) => m_nx r ls (vR o :: st) h
  | some (.inr (.inr (.inr (.inr (.inr true))))) => m_nx r ls (vS :: st) h
  | _ => none
def m_fload (k : Nat) (r : MCode) (ls st : List MV) (h : MHp) : Option MAct := match ls[k]? with
  | some (.inr (.inr (.inl b))) => m_nx r ls (vF b :: st) h
  | _ => none
def m_istore (k : Nat) (r : MCode) (ls st : List MV) (h : MHp) : Option MAct := match st with
  | .inl a :: st => if k < ls.length then m_nx r (ls.set k (vI a)) st h else none
  | _ => none
def m_astore (k : Nat) (r : MCode) (ls st : List MV) (h : MHp) : Option MAct := match st with
  | .inr (.inl (some o)) :: st => if k < ls.length then m_nx r (ls.set k (vR o)) st h else none
  | _ => none
def m_fstore (k : Nat) (r : MCode) (ls st : List MV) (h : MHp) : Option MAct := match st with
  | .inr (.inr (.inl b)) :: st => if k < ls.length then m_nx r (ls.set k (vF b)) st h else none
  | _ => none
def m_bin (f : Int → Int → Int) (r : MCode) (ls st : List MV) (h : MHp) : Option MAct := match st with
  | .inl b :: .inl a :: st => m_nx r ls (vI (f a b) :: st) h
  | _ => none
def m_dbin (f : Int → Int → Int) (r : MCode) (ls st : List MV) (h : MHp) : Option MAct := match st with
  | .inl b :: .inl a :: st => if b = 0 then none else m_nx r ls (vI (f a b) :: st) h
  | _ => none
def m_iinc (k : Nat) (n : Int) (r : MCode) (ls st : List MV) (h : MHp) : Option MAct := match ls[k]? with
  | some (.inl a) => m_nx r (ls.set k (vI (m_add a n))) st h
  | _ => none
def m_fbin (f : UInt32 → UInt32 → UInt32) (r : MCode) (ls st : List MV) (h : MHp) : Option MAct := match st with
  | .inr (.inr (.inl b)) :: .inr (.inr (.inl a)) :: st => if m_nn32 (f a b) then m_nx r ls (vF (f a b) :: st) h else none
  | _ => none
def m_fcmp (op : CmpOp) (r : MCode) (ls st : List MV) (h : MHp) : Option MAct := match st with
  | .inr (.inr (.inl b)) :: .inr (.inr (.inl a)) :: st => m_nx r ls (vI (Op.cmpValue (FP.fcmp a b) op).toInt :: st) h
  | _ => none
def m_dcmp (op : CmpOp) (r : MCode) (ls st : List MV) (h : MHp) : Option MAct := match st with
  | .inr (.inr (.inr (.inr (.inl b)))) :: .inr (.inr (.inr (.inr (.inl a)))) :: st => m_nx r ls (vI (Op.cmpValue (FP.dcmp a b) op).toInt :: st) h
  | _ => none
def m_lcmp (r : MCode) (ls st : List MV) (h : MHp) : Option MAct := match st with
  | .inr (.inr (.inr (.inl b))) :: .inr (.inr (.inr (.inl a))) :: st => m_nx r ls (vI (lg_cmp a b).toInt :: st) h
  | _ => none
def m_i2l (r : MCode) (ls st : List MV) (h : MHp) : Option MAct := match st with
  | .inl a :: st => m_nx r ls (vL (Int32.ofInt a).toInt64 :: st) h
  | _ => none
def m_i2f (r : MCode) (ls st : List MV) (h : MHp) : Option MAct := match st with
  | .inl a :: st => m_nx r ls (vF (FP.i2f (Int32.ofInt a)) :: st) h
  | _ => none
def m_f2d (r : MCode) (ls st : List MV) (h : MHp) : Option MAct := match st with
  | .inr (.inr (.inl a)) :: st => if m_nn64 (FP.f2d a) then m_nx r ls (vD (FP.f2d a) :: st) h else none
  | _ => none
def m_if (c : Jvm.ClassFile.Cond) (j r : MCode) (ls st : List MV) (h : MHp) : Option MAct := match st with
  | .inl a :: st => if m_holds c a 0 then m_nx j ls st h else m_nx r ls st h
  | _ => none
def m_icmp (c : Jvm.ClassFile.Cond) (j r : MCode) (ls st : List MV) (h : MHp) : Option MAct := match st with
  | .inl b :: .inl a :: st => if m_holds c a b then m_nx j ls st h else m_nx r ls st h
  | _ => none
def m_sw (mi pc : Nat) (d lo hi : Int) (offs : Array Int) (ls st : List MV) (h : MHp) : Option MAct := match st with
  | .inl a :: st => if a < lo ∨ hi < a then m_nx (m_jmp mi pc d) ls st h else match offs[(a - lo).toNat]? with
    | some off => m_nx (m_jmp mi pc off) ls st h
    | none => none
  | _ => none
def m_getf (f : Option (Nat × Nat × Nat × Bool)) (r : MCode) (ls st : List MV) (h : MHp) : Option MAct := match f, st with
  | some (ci, k, _, _), .inr (.inl (some o)) :: st => m_ld (m_get h o ci k) r ls st h
  | _, _ => none
def m_putf (mi : Nat) (f : Option (Nat × Nat × Nat × Bool)) (r : MCode) (ls st : List MV) (h : MHp) : Option MAct := match f, st with
  | some (ci, k, tk, fin), v :: .inr (.inl (some o)) :: st =>
    if m_fit tk v = true ∧ (m_get h o ci k).isSome = true ∧ (fin = true → m_kind mi = 2 ∧ m_own mi = ci) then m_nx r ls st (m_set h o k v) else none
  | _, _ => none
def m_iald (xs : Nat → Int32) (L : Nat) (r : MCode) (ls st : List MV) (h : MHp) : Option MAct := match st with
  | .inl i :: .inr (.inl (some o)) :: st => (match m_age h o 20 i with
    | some (.inl a) => m_nx r ls (vI a :: st) h
    | _ => none)
  | .inl i :: .inr (.inr (.inr (.inr (.inr true)))) :: st => if 0 ≤ i ∧ i + 1 < (L : Int) then m_nx r ls (vI (xs i.toNat).toInt :: st) h else none
  | _ => none
def m_zald (r : MCode) (ls st : List MV) (h : MHp) : Option MAct := match st with
  | .inl i :: .inr (.inl (some o)) :: st => (match m_age h o 21 i with
    | some (.inl a) => m_nx r ls (vI a :: st) h
    | _ => none)
  | _ => none
def m_fald (r : MCode) (ls st : List MV) (h : MHp) : Option MAct := match st with
  | .inl i :: .inr (.inl (some o)) :: st => (match m_age h o 22 i with
    | some (.inr (.inr (.inl a))) => m_nx r ls (vF a :: st) h
    | _ => none)
  | _ => none
def m_lald (r : MCode) (ls st : List MV) (h : MHp) : Option MAct := match st with
  | .inl i :: .inr (.inl (some o)) :: st => (match m_age h o 23 i with
    | some (.inr (.inr (.inr (.inl a)))) => m_nx r ls (vL a :: st) h
    | _ => none)
  | _ => none
def m_dald (r : MCode) (ls st : List MV) (h : MHp) : Option MAct := match st with
  | .inl i :: .inr (.inl (some o)) :: st => (match m_age h o 24 i with
    | some (.inr (.inr (.inr (.inr (.inl a))))) => m_nx r ls (vD a :: st) h
    | _ => none)
  | _ => none
def m_aald (r : MCode) (ls st : List MV) (h : MHp) : Option MAct := match st with
  | .inl i :: .inr (.inl (some o)) :: st => (match m_tag h o with
    | some t => if 30 ≤ t ∧ m_oa (t - 30) = true then (match m_age h o t i with
      | some (.inr (.inl (some q))) => m_nx r ls (vR q :: st) h
      | _ => none) else none
    | none => none)
  | _ => none
def m_iast (r : MCode) (ls st : List MV) (h : MHp) : Option MAct := match st with
  | .inl a :: .inl i :: .inr (.inl (some o)) :: st => if (m_age h o 20 i).isSome = true then m_nx r ls st (m_set h o i.toNat (vI a)) else none
  | _ => none
def m_zast (r : MCode) (ls st : List MV) (h : MHp) : Option MAct := match st with
  | .inl a :: .inl i :: .inr (.inl (some o)) :: st => if (a = 0 ∨ a = 1) ∧ (m_age h o 21 i).isSome = true then m_nx r ls st (m_set h o i.toNat (vI a)) else none
  | _ => none
def m_fast (r : MCode) (ls st : List MV) (h : MHp) : Option MAct := match st with
  | .inr (.inr (.inl a)) :: .inl i :: .inr (.inl (some o)) :: st => if (m_age h o 22 i).isSome = true then m_nx r ls st (m_set h o i.toNat (vF a)) else none
  | _ => none
def m_last (r : MCode) (ls st : List MV) (h : MHp) : Option MAct := match st with
  | .inr (.inr (.inr (.inl a))) :: .inl i :: .inr (.inl (some o)) :: st => if (m_age h o 23 i).isSome = true then m_nx r ls st (m_set h o i.toNat (vL a)) else none
  | _ => none
def m_dast (r : MCode) (ls st : List MV) (h : MHp) : Option MAct := match st with
  | .inr (.inr (.inr (.inr (.inl a)))) :: .inl i :: .inr (.inl (some o)) :: st => if (m_age h o 24 i).isSome = true then m_nx r ls st (m_set h o i.toNat (vD a)) else none
  | _ => none
/-- an object array of kind 30 + c takes an object of class c -/
def m_aast (r : MCode) (ls st : List MV) (h : MHp) : Option MAct := match st with
  | .inr (.inl (some q)) :: .inl i :: .inr (.inl (some o)) :: st => (match m_tag h q with
    | some t => if m_oa t = true ∧ (m_age h o (30 + t) i).isSome = true then m_nx r ls st (m_set h o i.toNat (vR q)) else none
    | none => none)
  | _ => none
def m_alen (L : Nat) (r : MCode) (ls st : List MV) (h : MHp) : Option MAct := match st with
  | .inr (.inl (some o)) :: st => (match m_len h o with
    | some n => if n < 2147483648 then m_nx r ls (vI n :: st) h else none
    | none => none)
  | .inr (.inr (.inr (.inr (.inr true)))) :: st => if 0 < L ∧ L ≤ 2147483648 then m_nx r ls (vI ((L : Int) - 1) :: st) h else none
  | _ => none
def m_newarr (tag : Nat) (v : MV) (r : MCode) (ls st : List MV) (h : MHp) : Option MAct := match st with
  | .inl n :: st => if 0 ≤ n ∧ n ≤ 1000 then m_nx r ls (vR h.1.length :: st) (m_push h tag (List.replicate n.toNat v)) else none
  | _ => none
/-- a new object; or, where the class is one of the three exceptions, 'throw new E("..")' -/
def m_new (o : Nat) (k : Option (Nat × Nat)) (r : MCode) (ls st : List MV) (h : MHp) : Option MAct := match k with
  | some (0, ci) => m_nx r ls (vR h.1.length :: st) (m_push h ci (tD.getD ci []))
  | some (1, e) => (match r with
    | (_, .dup) :: (_, .ldc is) :: (_, .invokespecial ic) :: (_, .athrow) :: _ => if cR o ic = some (4, e) ∧ (sR o is).isSome = true ∧ (st.map m_cat).sum ≤ 8 then some (.inr (.inr (.inr e, (h.1, h.2.1 + 1, h.2.2 + 6)))) else none
    | (_, .dup) :: (_, .ldc_w is) :: (_, .invokespecial ic) :: (_, .athrow) :: _ => if cR o ic = some (4, e) ∧ (sR o is).isSome = true ∧ (st.map m_cat).sum ≤ 8 then some (.inr (.inr (.inr e, (h.1, h.2.1 + 1, h.2.2 + 6)))) else none
    | _ => none)
  | _ => none
def m_dup (r : MCode) (ls st : List MV) (h : MHp) : Option MAct := match st with
  | v :: st => if m_cat v = 1 then m_nx r ls (v :: v :: st) h else none
  | _ => none
def m_dup2 (r : MCode) (ls st : List MV) (h : MHp) : Option MAct := match st with
  | v :: w :: st => if m_cat v = 1 ∧ m_cat w = 1 then m_nx r ls (v :: w :: v :: w :: st) h else none
  | _ => none
def m_pop (r : MCode) (ls st : List MV) (h : MHp) : Option MAct := match st with
  | v :: st => if m_cat v = 1 then m_nx r ls st h else none
  | _ => none
/-- a call: the arguments off the stack; the rest of it may be eight words -/
def m_callA (mj pc : Nat) (args : List MV) (r : MCode) (ls st : List MV) (h : MHp) : Option MAct :=
  if (st.map m_cat).sum ≤ 8 ∧ args.all (fun v => decide (m_cat v = 1)) = true ∧ args.length ≤ m_maxL mj then some (.inr (.inl ((mj, args), (r, ls, st, h), pc))) else none
def m_invs (pc : Nat) (k : Option (Nat × Nat)) (r : MCode) (ls st : List MV) (h : MHp) : Option MAct := match k with
  | some (1, mj) => if m_kind mj = 0 ∧ m_narg mj ≤ st.length then m_callA mj pc (st.take (m_narg mj)).reverse r ls (st.drop (m_narg mj)) h else none
  | some (2, _) => (match st with
    | .inl b :: .inl a :: st => if (st.map m_cat).sum ≤ 8 then m_nx r ls (vI (if a < b then b else a) :: st) h else none
    | _ => none)
  | _ => none
def m_invv (pc : Nat) (k : Option (Nat × Nat)) (r : MCode) (ls st : List MV) (h : MHp) : Option MAct := match k with
  | some (1, mj) => (match st.drop (m_narg mj) with
    | .inr (.inl (some b)) :: st' => if m_kind mj = 1 ∧ m_tag h b = some (m_own mj) then m_callA mj pc (vR b :: (st.take (m_narg mj)).reverse) r ls st' h else none
    | _ => none)
  | _ => none
def m_invi (pc : Nat) (k : Option (Nat × Nat)) (r : MCode) (ls st : List MV) (h : MHp) : Option MAct := match k with
  | some (1, mj) => (match st.drop (m_narg mj) with
    | .inr (.inl (some b)) :: st' => if m_kind mj = 2 then m_callA mj pc (vR b :: (st.take (m_narg mj)).reverse) r ls st' h else none
    | _ => none)
  | some (5, mj) => (match st.drop (m_narg mj) with
    | .inr (.inl (some b)) :: st' => if m_kind mj = 2 then m_callA mj pc (vR b :: (st.take (m_narg mj)).reverse) r ls st' h else none
    | _ => none)
  | some (3, _) => (match st with
    | .inr (.inl (some _)) :: st => if (st.map m_cat).sum ≤ 8 then m_nx r ls st h else none
    | _ => none)
  | _ => none
def m_end (o : MOut) (h : MHp) : Option MAct := some (.inr (.inr (o, h)))
def m_iret (t : Option FieldType) (st : List MV) (h : MHp) : Option MAct := match t, st with
  | some .int, [.inl a] => m_end (.inl (some (vI a))) h
  | some .boolean, [.inl a] => if a = 0 ∨ a = 1 then m_end (.inl (some (vI a))) h else none
  | _, _ => none
def m_fret (t : Option FieldType) (st : List MV) (h : MHp) : Option MAct := match t, st with
  | some .float, [.inr (.inr (.inl a))] => m_end (.inl (some (vF a))) h
  | _, _ => none
def m_aret (t : Option FieldType) (st : List MV) (h : MHp) : Option MAct := match t, st with
  | some (.object _), [.inr (.inl (some o))] => m_end (.inl (some (vR o))) h
  | _, _ => none
def m_vret (t : Option FieldType) (st : List MV) (h : MHp) : Option MAct := match t, st with
  | none, [] => m_end (.inl none) h
  | _, _ => none
def m_act (xs : Nat → Int32) (L mi pc : Nat) (i : Instr) (r : MCode) (ls st : List MV) (h : MHp) : Option MAct := match i with
  | .iconst n => if m_inD n then m_nx r ls (vI n :: st) h else none
  | .bipush n => if -128 ≤ n ∧ n < 128 then m_nx r ls (vI n :: st) h else none
  | .sipush n => if -32768 ≤ n ∧ n < 32768 then m_nx r ls (vI n :: st) h else none
  | .lconst k => m_nx r ls (vL (Int64.ofNat k) :: st) h
  | .fconst k => if k = 0 then m_nx r ls (vF 0 :: st) h else none
  | .ldc k => m_ld (lR (m_own mi) k) r ls st h
  | .ldc_w k => m_ld (lR (m_own mi) k) r ls st h
  | .iload_n k => m_iload k r ls st h
  | .iload k => m_iload k r ls st h
  | .aload_n k => m_aload k r ls st h
  | .aload k => m_aload k r ls st h
  | .fload_n k => m_fload k r ls st h
  | .fload k => m_fload k r ls st h
  | .istore_n k => m_istore k r ls st h
  | .istore k => m_istore k r ls st h
  | .astore_n k => m_astore k r ls st h
  | .astore k => m_astore k r ls st h
  | .fstore_n k => m_fstore k r ls st h
  | .fstore k => m_fstore k r ls st h
  | .iinc k n => m_iinc k n r ls st h
  | .iadd => m_bin m_add r ls st h
  | .isub => m_bin m_sub r ls st h
  | .imul => m_bin m_mul r ls st h
  | .iand => m_bin m_and r ls st h
  | .ishr => m_bin m_shr r ls st h
  | .idiv => m_dbin m_div r ls st h
  | .irem => m_dbin m_rem r ls st h
  | .i2l => m_i2l r ls st h
  | .i2f => m_i2f r ls st h
  | .f2d => m_f2d r ls st h
  | .fmul => m_fbin FP.fmul r ls st h
  | .fdiv => m_fbin FP.fdiv r ls st h
  | .fcmp op => m_fcmp op r ls st h
  | .dcmp op => m_dcmp op r ls st h
  | .lcmp => m_lcmp r ls st h
  | .ifCond c off => m_if c (m_jmp mi pc off) r ls st h
  | .if_icmp c off => m_icmp c (m_jmp mi pc off) r ls st h
  | .goto off => m_nx (m_jmp mi pc off) ls st h
  | .tableswitch d lo hi offs => m_sw mi pc d lo hi offs ls st h
  | .getfield k => m_getf (fR (m_own mi) k) r ls st h
  | .putfield k => m_putf mi (fR (m_own mi) k) r ls st h
  | .iaload => m_iald xs L r ls st h
  | .baload => m_zald r ls st h
  | .faload => m_fald r ls st h
  | .laload => m_lald r ls st h
  | .daload => m_dald r ls st h
  | .aaload => m_aald r ls st h
  | .iastore => m_iast r ls st h
  | .bastore => m_zast r ls st h
  | .fastore => m_fast r ls st h
  | .lastore => m_last r ls st h
  | .dastore => m_dast r ls st h
  | .aastore => m_aast r ls st h
  | .arraylength => m_alen L r ls st h
  | .newarray .int => m_newarr 20 (vI 0) r ls st h
  | .newarray .boolean => m_newarr 21 (vI 0) r ls st h
  | .newarray .float => m_newarr 22 (vF 0) r ls st h
  | .newarray .long => m_newarr 23 (vL 0) r ls st h
  | .newarray .double => m_newarr 24 (vD 0) r ls st h
  | .anewarray k => (match kR (m_own mi) k with
    | some (0, ci) => if m_oa ci = true then m_newarr (30 + ci) vN r ls st h else none
    | _ => none)
  | .new k => m_new (m_own mi) (kR (m_own mi) k) r ls st h
  | .dup => m_dup r ls st h
  | .dup2 => m_dup2 r ls st h
  | .pop => m_pop r ls st h
  | .invokestatic k => m_invs pc (cR (m_own mi) k) r ls st h
  | .invokevirtual k => m_invv pc (cR (m_own mi) k) r ls st h
  | .invokespecial k => m_invi pc (cR (m_own mi) k) r ls st h
  | .ireturn => m_iret (m_ret mi) st h
  | .freturn => m_fret (m_ret mi) st h
  | .areturn => m_aret (m_ret mi) st h
  | .return_ => m_vret (m_ret mi) st h
  | _ => none
def m_step (xs : Nat → Int32) (L mi : Nat) (c : MCfg) : Option MAct := match c.1 with
  | (pc, i) :: r => m_act xs L mi pc i r c.2.1 c.2.2.1 c.2.2.2
  | [] => none
def m_entry (mj : Nat) (args : List MV) (h : MHp) : MCfg := (m_code mj, args ++ List.replicate (m_maxL mj - args.length) vU, [], h)
/-- behind a call that threw: the first handler that covers it and names the class; its astore is done with it -/
def m_catch (mi pc e : Nat) (ls : List MV) (h : MHp) : Option MCfg :=
  match (m_hand mi).find? (fun q => decide (q.1 ≤ pc ∧ pc < q.2.1 ∧ q.2.2.2.2 = e)) with
  | some q => (match m_blk mi q.2.2.1 with
    | (_, .astore_n k) :: r => if k.val < ls.length then some (r, ls.set k.val vU, [], h) else none
    | (_, .astore k) :: r => if k < ls.length then some (r, ls.set k vU, [], h) else none
    | _ => none)
  | none => none
def m_back (ih : Nat → MCfg → Option (MOut × MHp)) (mi pc : Nat) (r : MCode) (ls st : List MV) : MOut × MHp → Option (MOut × MHp)
  | (.inl v, h) => ih mi (r, ls, v.toList ++ st, h)
  | (.inr e, h) => if m_hand mi = [] then some (.inr e, h) else match m_catch mi pc e ls h with
    | some c => ih mi c
    | none => none
def m_stepF (xs : Nat → Int32) (L : Nat) (ih : Nat → MCfg → Option (MOut × MHp)) (mi : Nat) (c : MCfg) : Option (MOut × MHp) := match m_step xs L mi c with
  | none => none
  | some (.inl c) => ih mi c
  | some (.inr (.inl (q, c, pc))) => (match ih q.1 (m_entry q.1 q.2 c.2.2.2) with
    | none => none
    | some o => m_back ih mi pc c.1 c.2.1 c.2.2.1 o)
  | some (.inr (.inr o)) => some o
noncomputable def m_run (xs : Nat → Int32) (L : Nat) (n : Nat) : Nat → MCfg → Option (MOut × MHp) :=
  Nat.rec (motive := fun _ => Nat → MCfg → Option (MOut × MHp)) (fun _ _ => none) (fun _ ih => m_stepF xs L ih) n
theorem m_run_zero (xs : Nat → Int32) (L mi : Nat) (c : MCfg) : m_run xs L 0 mi c = none := rfl
theorem m_run_succ (xs : Nat → Int32) (L n mi : Nat) (c : MCfg) : m_run xs L (n + 1) mi c = m_stepF xs L (m_run xs L n) mi c := rfl
end
section
/-! ===== equality of heaps, by a program ===== -/
def e_mv : MV → MV → Bool
  | .inl a, .inl b => decide (a = b)
  | .inr (.inl none), .inr (.inl none) => true
  | .inr (.inl (some a)), .inr (.inl (some b)) => decide (a = b)
  | .inr (.inr (.inl a)), .inr (.inr (.inl b)) => decide (a = b)
  | .inr (.inr (.inr (.inl a))), .inr (.inr (.inr (.inl b))) => decide (a = b)
  | .inr (.inr (.inr (.inr (.inl a)))), .inr (.inr (.inr (.inr (.inl b)))) => decide (a = b)
  | .inr (.inr (.inr (.inr (.inr a)))), .inr (.inr (.inr (.inr (.inr b)))) => decide (a = b)
  | _, _ => false
theorem e_mv_ok {a b : MV} (h : e_mv a b = true) : a = b := by
  unfold e_mv at h
  split at h <;> first | rfl | (simp at h; done) | (simp at h; subst h; rfl) | (exact absurd h (by simp))
def e_l : List MV → List MV → Bool
  | [], [] => true
  | x :: a, y :: b => e_mv x y && e_l a b
  | _, _ => false
theorem e_l_ok : ∀ {a b : List MV}, e_l a b = true → a = b
  | [], [], _ => rfl
  | x :: a, y :: b, h => by
    simp only [e_l, Bool.and_eq_true] at h
    rw [e_mv_ok h.1, e_l_ok h.2]
  | [], _ :: _, h => by simp [e_l] at h
  | _ :: _, [], h => by simp [e_l] at h
def e_h : List (Nat × List MV) → List (Nat × List MV) → Bool
  | [], [] => true
  | x :: a, y :: b => decide (x.1 = y.1) && e_l x.2 y.2 && e_h a b
  | _, _ => false
theorem e_h_ok : ∀ {a b : List (Nat × List MV)}, e_h a b = true → a = b
  | [], [], _ => rfl
  | x :: a, y :: b, h => by
    simp only [e_h, Bool.and_eq_true, decide_eq_true_eq] at h
    rw [e_h_ok h.2, Prod.ext h.1.1 (e_l_ok h.1.2)]
  | [], _ :: _, h => by simp [e_h] at h
  | _ :: _, [], h => by simp [e_h] at h
def e_void (o : Option (MOut × MHp)) (h : List (Nat × List MV)) (c s : Nat) : Bool := match o with
  | some (.inl none, (h', c', s')) => e_h h' h && decide (c' = c) && decide (s' = s)
  | _ => false
theorem e_void_ok {o : Option (MOut × MHp)} {h : List (Nat × List MV)} {c s : Nat} (k : e_void o h c s = true) : o = some (.inl none, (h, c, s)) := by
  unfold e_void at k
  split at k
  · simp only [Bool.and_eq_true, decide_eq_true_eq] at k
    obtain ⟨⟨k1, k2⟩, k3⟩ := k
    rw [e_h_ok k1, k2, k3]
  · cases k
/-! ===== the heap behind the constructors ===== -/
def k_0 : List (Nat × List MV) := [(9, [vR 1, vR 103, vR 153, vR 203, vR 253]), (4, [vR 2, vI 0, vR 3, vI 0, vR 4, vI 0, vI 0]), (36, [vR 5, vR 6, vR 7, vR 8, vR 9, vR 10, vR 11, vR 12, vR 13, vR 14]), (37, [vR 15, vR 23, vR 31, vR 39, vR 47, vR 55]), (31, [vR 63, vR 67, vR 71, vR 75, vR 79, vR 83, vR 87, vR 91, vR 95, vR 99]), (6, [vI 0, vI 0]), (6, [vI 0, vI 0]), (6, [vI 0, vI 0]), (6, [vI 0, vI 0]), (6, [vI 0, vI 0]), (6, [vI 0, vI 0]), (6, [vI 0, vI 0]), (6, [vI 0, vI 0]), (6, [vI 0, vI 0]), (6, [vI 0, vI 0]), (7, [vI 0, vI 0, vI 0, vR 16, vR 17, vR 18, vR 19, vR 20, vR 21, vR 22]), (20, List.replicate 6 (vI 0)), (20, List.replicate 6 (vI 0)), (20, List.replicate 6 (vI 0)), (20, List.replicate 6 (vI 0)), (20, List.replicate 6 (vI 0)), (20, List.replicate 6 (vI 0)), (20, List.replicate 10 (vI (-1))), (7, [vI 0, vI 0, vI 0, vR 24, vR 25, vR 26, vR 27, vR 28, vR 29, vR 30]), (20, List.replicate 6 (vI 0)), (20, List.replicate 6 (vI 0)), (20, List.replicate 6 (vI 0)), (20, List.replicate 6 (vI 0)), (20, List.replicate 6 (vI 0)), (20, List.replicate 6 (vI 0)), (20, List.replicate 10 (vI (-1))), (7, [vI 0, vI 0, vI 0, vR 32, vR 33, vR 34, vR 35, vR 36, vR 37, vR 38]), (20, List.replicate 6 (vI 0)), (20, List.replicate 6 (vI 0)), (20, List.replicate 6 (vI 0)), (20, List.replicate 6 (vI 0)), (20, List.replicate 6 (vI 0)), (20, List.replicate 6 (vI 0)), (20, List.replicate 10 (vI (-1))), (7, [vI 0, vI 0, vI 0, vR 40, vR 41, vR 42, vR 43, vR 44, vR 45, vR 46]), (20, List.replicate 6 (vI 0)), (20, List.replicate 6 (vI 0)), (20, List.replicate 6 (vI 0)), (20, List.replicate 6 (vI 0)), (20, List.replicate 6 (vI 0)), (20, List.replicate 6 (vI 0)), (20, List.replicate 10 (vI (-1))), (7, [vI 0, vI 0, vI 0, vR 48, vR 49, vR 50, vR 51, vR 52, vR 53, vR 54]), (20, List.replicate 6 (vI 0)), (20, List.replicate 6 (vI 0))]
def k_1 : List (Nat × List MV) := [(20, List.replicate 6 (vI 0)), (20, List.replicate 6 (vI 0)), (20, List.replicate 6 (vI 0)), (20, List.replicate 6 (vI 0)), (20, List.replicate 10 (vI (-1))), (7, [vI 0, vI 0, vI 0, vR 56, vR 57, vR 58, vR 59, vR 60, vR 61, vR 62]), (20, List.replicate 6 (vI 0)), (20, List.replicate 6 (vI 0)), (20, List.replicate 6 (vI 0)), (20, List.replicate 6 (vI 0)), (20, List.replicate 6 (vI 0)), (20, List.replicate 6 (vI 0)), (20, List.replicate 10 (vI (-1))), (1, [vI 0, vI 0, vI 0, vI 0, vI 0, vI 0, vI 0, vI 0, vI 0, vI 0, vR 64, vR 65, vR 66]), (20, List.replicate 3 (vI 0)), (20, List.replicate 3 (vI 0)), (20, List.replicate 3 (vI 0)), (1, [vI 1, vI 0, vI 0, vI 0, vI 0, vI 0, vI 0, vI 0, vI 0, vI 0, vR 68, vR 69, vR 70]), (20, List.replicate 3 (vI 0)), (20, List.replicate 3 (vI 0)), (20, List.replicate 3 (vI 0)), (1, [vI 2, vI 0, vI 0, vI 0, vI 0, vI 0, vI 0, vI 0, vI 0, vI 0, vR 72, vR 73, vR 74]), (20, List.replicate 3 (vI 0)), (20, List.replicate 3 (vI 0)), (20, List.replicate 3 (vI 0)), (1, [vI 3, vI 0, vI 0, vI 0, vI 0, vI 0, vI 0, vI 0, vI 0, vI 0, vR 76, vR 77, vR 78]), (20, List.replicate 3 (vI 0)), (20, List.replicate 3 (vI 0)), (20, List.replicate 3 (vI 0)), (1, [vI 4, vI 0, vI 0, vI 0, vI 0, vI 0, vI 0, vI 0, vI 0, vI 0, vR 80, vR 81, vR 82]), (20, List.replicate 3 (vI 0)), (20, List.replicate 3 (vI 0)), (20, List.replicate 3 (vI 0)), (1, [vI 5, vI 0, vI 0, vI 0, vI 0, vI 0, vI 0, vI 0, vI 0, vI 0, vR 84, vR 85, vR 86]), (20, List.replicate 3 (vI 0)), (20, List.replicate 3 (vI 0)), (20, List.replicate 3 (vI 0)), (1, [vI 6, vI 0, vI 0, vI 0, vI 0, vI 0, vI 0, vI 0, vI 0, vI 0, vR 88, vR 89, vR 90]), (20, List.replicate 3 (vI 0)), (20, List.replicate 3 (vI 0)), (20, List.replicate 3 (vI 0)), (1, [vI 7, vI 0, vI 0, vI 0, vI 0, vI 0, vI 0, vI 0, vI 0, vI 0, vR 92, vR 93, vR 94]), (20, List.replicate 3 (vI 0)), (20, List.replicate 3 (vI 0)), (20, List.replicate 3 (vI 0)), (1, [vI 8, vI 0, vI 0, vI 0, vI 0, vI 0, vI 0, vI 0, vI 0, vI 0, vR 96, vR 97, vR 98]), (20, List.replicate 3 (vI 0)), (20, List.replicate 3 (vI 0)), (20, List.replicate 3 (vI 0)), (1, [vI 9, vI 0, vI 0, vI 0, vI 0, vI 0, vI 0, vI 0, vI 0, vI 0, vR 100, vR 101, vR 102])]
def k_2 : List (Nat × List MV) := [(20, List.replicate 3 (vI 0)), (20, List.replicate 3 (vI 0)), (20, List.replicate 3 (vI 0)), (2, [vR 1, vR 104, vR 105, vR 106, vI 0, vI (-1)]), (35, [vR 107, vR 113, vR 119, vR 125, vR 131, vR 137]), (38, [vR 143, vR 144, vR 145, vR 146, vR 147, vR 148, vR 149, vR 150, vR 151, vR 152]), (20, List.replicate 36 (vI 0)), (5, [vI 0, vR 15, vI 0, vI 0, vI 0, vI 0, vR 108, vI 0, vI 0, vI 0, vR 109, vR 110, vR 111, vR 112]), (20, List.replicate 10 (vI 0)), (20, List.replicate 6 (vI 0)), (20, List.replicate 6 (vI 0)), (20, List.replicate 60 (vI 0)), (22, List.replicate 6 (vF 0)), (5, [vI 1, vR 23, vI 0, vI 0, vI 0, vI 0, vR 114, vI 0, vI 0, vI 0, vR 115, vR 116, vR 117, vR 118]), (20, List.replicate 10 (vI 0)), (20, List.replicate 6 (vI 0)), (20, List.replicate 6 (vI 0)), (20, List.replicate 60 (vI 0)), (22, List.replicate 6 (vF 0)), (5, [vI 2, vR 31, vI 0, vI 0, vI 0, vI 0, vR 120, vI 0, vI 0, vI 0, vR 121, vR 122, vR 123, vR 124]), (20, List.replicate 10 (vI 0)), (20, List.replicate 6 (vI 0)), (20, List.replicate 6 (vI 0)), (20, List.replicate 60 (vI 0)), (22, List.replicate 6 (vF 0)), (5, [vI 3, vR 39, vI 0, vI 0, vI 0, vI 0, vR 126, vI 0, vI 0, vI 0, vR 127, vR 128, vR 129, vR 130]), (20, List.replicate 10 (vI 0)), (20, List.replicate 6 (vI 0)), (20, List.replicate 6 (vI 0)), (20, List.replicate 60 (vI 0)), (22, List.replicate 6 (vF 0)), (5, [vI 4, vR 47, vI 0, vI 0, vI 0, vI 0, vR 132, vI 0, vI 0, vI 0, vR 133, vR 134, vR 135, vR 136]), (20, List.replicate 10 (vI 0)), (20, List.replicate 6 (vI 0)), (20, List.replicate 6 (vI 0)), (20, List.replicate 60 (vI 0)), (22, List.replicate 6 (vF 0)), (5, [vI 5, vR 55, vI 0, vI 0, vI 0, vI 0, vR 138, vI 0, vI 0, vI 0, vR 139, vR 140, vR 141, vR 142]), (20, List.replicate 10 (vI 0)), (20, List.replicate 6 (vI 0)), (20, List.replicate 6 (vI 0)), (20, List.replicate 60 (vI 0)), (22, List.replicate 6 (vF 0)), (8, [vR 63, vI 0, vI 0, vI 0, vI 0]), (8, [vR 67, vI 0, vI 0, vI 0, vI 0]), (8, [vR 71, vI 0, vI 0, vI 0, vI 0]), (8, [vR 75, vI 0, vI 0, vI 0, vI 0]), (8, [vR 79, vI 0, vI 0, vI 0, vI 0]), (8, [vR 83, vI 0, vI 0, vI 0, vI 0]), (8, [vR 87, vI 0, vI 0, vI 0, vI 0])]
def k_3 : List (Nat × List MV) := [(8, [vR 91, vI 0, vI 0, vI 0, vI 0]), (8, [vR 95, vI 0, vI 0, vI 0, vI 0]), (8, [vR 99, vI 0, vI 0, vI 0, vI 0]), (2, [vR 1, vR 154, vR 155, vR 156, vI 0, vI (-1)]), (35, [vR 157, vR 163, vR 169, vR 175, vR 181, vR 187]), (38, [vR 193, vR 194, vR 195, vR 196, vR 197, vR 198, vR 199, vR 200, vR 201, vR 202]), (20, List.replicate 36 (vI 0)), (5, [vI 0, vR 15, vI 0, vI 0, vI 0, vI 0, vR 158, vI 0, vI 0, vI 0, vR 159, vR 160, vR 161, vR 162]), (20, List.replicate 10 (vI 0)), (20, List.replicate 6 (vI 0)), (20, List.replicate 6 (vI 0)), (20, List.replicate 60 (vI 0)), (22, List.replicate 6 (vF 0)), (5, [vI 1, vR 23, vI 0, vI 0, vI 0, vI 0, vR 164, vI 0, vI 0, vI 0, vR 165, vR 166, vR 167, vR 168]), (20, List.replicate 10 (vI 0)), (20, List.replicate 6 (vI 0)), (20, List.replicate 6 (vI 0)), (20, List.replicate 60 (vI 0)), (22, List.replicate 6 (vF 0)), (5, [vI 2, vR 31, vI 0, vI 0, vI 0, vI 0, vR 170, vI 0, vI 0, vI 0, vR 171, vR 172, vR 173, vR 174]), (20, List.replicate 10 (vI 0)), (20, List.replicate 6 (vI 0)), (20, List.replicate 6 (vI 0)), (20, List.replicate 60 (vI 0)), (22, List.replicate 6 (vF 0)), (5, [vI 3, vR 39, vI 0, vI 0, vI 0, vI 0, vR 176, vI 0, vI 0, vI 0, vR 177, vR 178, vR 179, vR 180]), (20, List.replicate 10 (vI 0)), (20, List.replicate 6 (vI 0)), (20, List.replicate 6 (vI 0)), (20, List.replicate 60 (vI 0)), (22, List.replicate 6 (vF 0)), (5, [vI 4, vR 47, vI 0, vI 0, vI 0, vI 0, vR 182, vI 0, vI 0, vI 0, vR 183, vR 184, vR 185, vR 186]), (20, List.replicate 10 (vI 0)), (20, List.replicate 6 (vI 0)), (20, List.replicate 6 (vI 0)), (20, List.replicate 60 (vI 0)), (22, List.replicate 6 (vF 0)), (5, [vI 5, vR 55, vI 0, vI 0, vI 0, vI 0, vR 188, vI 0, vI 0, vI 0, vR 189, vR 190, vR 191, vR 192]), (20, List.replicate 10 (vI 0)), (20, List.replicate 6 (vI 0)), (20, List.replicate 6 (vI 0)), (20, List.replicate 60 (vI 0)), (22, List.replicate 6 (vF 0)), (8, [vR 63, vI 0, vI 0, vI 0, vI 0]), (8, [vR 67, vI 0, vI 0, vI 0, vI 0]), (8, [vR 71, vI 0, vI 0, vI 0, vI 0]), (8, [vR 75, vI 0, vI 0, vI 0, vI 0]), (8, [vR 79, vI 0, vI 0, vI 0, vI 0]), (8, [vR 83, vI 0, vI 0, vI 0, vI 0]), (8, [vR 87, vI 0, vI 0, vI 0, vI 0])]
def k_4 : List (Nat × List MV) := [(8, [vR 91, vI 0, vI 0, vI 0, vI 0]), (8, [vR 95, vI 0, vI 0, vI 0, vI 0]), (8, [vR 99, vI 0, vI 0, vI 0, vI 0]), (2, [vR 1, vR 204, vR 205, vR 206, vI 0, vI (-1)]), (35, [vR 207, vR 213, vR 219, vR 225, vR 231, vR 237]), (38, [vR 243, vR 244, vR 245, vR 246, vR 247, vR 248, vR 249, vR 250, vR 251, vR 252]), (20, List.replicate 36 (vI 0)), (5, [vI 0, vR 15, vI 0, vI 0, vI 0, vI 0, vR 208, vI 0, vI 0, vI 0, vR 209, vR 210, vR 211, vR 212]), (20, List.replicate 10 (vI 0)), (20, List.replicate 6 (vI 0)), (20, List.replicate 6 (vI 0)), (20, List.replicate 60 (vI 0)), (22, List.replicate 6 (vF 0)), (5, [vI 1, vR 23, vI 0, vI 0, vI 0, vI 0, vR 214, vI 0, vI 0, vI 0, vR 215, vR 216, vR 217, vR 218]), (20, List.replicate 10 (vI 0)), (20, List.replicate 6 (vI 0)), (20, List.replicate 6 (vI 0)), (20, List.replicate 60 (vI 0)), (22, List.replicate 6 (vF 0)), (5, [vI 2, vR 31, vI 0, vI 0, vI 0, vI 0, vR 220, vI 0, vI 0, vI 0, vR 221, vR 222, vR 223, vR 224]), (20, List.replicate 10 (vI 0)), (20, List.replicate 6 (vI 0)), (20, List.replicate 6 (vI 0)), (20, List.replicate 60 (vI 0)), (22, List.replicate 6 (vF 0)), (5, [vI 3, vR 39, vI 0, vI 0, vI 0, vI 0, vR 226, vI 0, vI 0, vI 0, vR 227, vR 228, vR 229, vR 230]), (20, List.replicate 10 (vI 0)), (20, List.replicate 6 (vI 0)), (20, List.replicate 6 (vI 0)), (20, List.replicate 60 (vI 0)), (22, List.replicate 6 (vF 0)), (5, [vI 4, vR 47, vI 0, vI 0, vI 0, vI 0, vR 232, vI 0, vI 0, vI 0, vR 233, vR 234, vR 235, vR 236]), (20, List.replicate 10 (vI 0)), (20, List.replicate 6 (vI 0)), (20, List.replicate 6 (vI 0)), (20, List.replicate 60 (vI 0)), (22, List.replicate 6 (vF 0)), (5, [vI 5, vR 55, vI 0, vI 0, vI 0, vI 0, vR 238, vI 0, vI 0, vI 0, vR 239, vR 240, vR 241, vR 242]), (20, List.replicate 10 (vI 0)), (20, List.replicate 6 (vI 0)), (20, List.replicate 6 (vI 0)), (20, List.replicate 60 (vI 0)), (22, List.replicate 6 (vF 0)), (8, [vR 63, vI 0, vI 0, vI 0, vI 0]), (8, [vR 67, vI 0, vI 0, vI 0, vI 0]), (8, [vR 71, vI 0, vI 0, vI 0, vI 0]), (8, [vR 75, vI 0, vI 0, vI 0, vI 0]), (8, [vR 79, vI 0, vI 0, vI 0, vI 0]), (8, [vR 83, vI 0, vI 0, vI 0, vI 0]), (8, [vR 87, vI 0, vI 0, vI 0, vI 0])]
def k_5 : List (Nat × List MV) := [(8, [vR 91, vI 0, vI 0, vI 0, vI 0]), (8, [vR 95, vI 0, vI 0, vI 0, vI 0]), (8, [vR 99, vI 0, vI 0, vI 0, vI 0]), (0, [vR 254, vI 0, vR 255, vI 0]), (33, [vR 256, vR 257, vR 258, vR 259, vR 260, vR 261, vR 262, vR 263, vR 264, vR 265, vR 266, vR 267, vR 268, vR 269, vR 270, vR 271, vR 272, vR 273, vR 274, vR 275, vR 276, vR 277, vR 278, vR 279, vR 280, vR 281, vR 282, vR 283, vR 284, vR 285, vR 286, vR 287, vR 288, vR 289, vR 290, vR 291, vR 292, vR 293, vR 294, vR 295]), (20, List.replicate 180 (vI (-1))), (3, [vI 0, vI 0, vI 0, vI 0, vI (-1), vI (-1), vI (-1), vI 0]), (3, [vI 1, vI 0, vI 0, vI 0, vI (-1), vI (-1), vI (-1), vI 0]), (3, [vI 2, vI 0, vI 0, vI 0, vI (-1), vI (-1), vI (-1), vI 0]), (3, [vI 3, vI 0, vI 0, vI 0, vI (-1), vI (-1), vI (-1), vI 0]), (3, [vI 4, vI 0, vI 0, vI 0, vI (-1), vI (-1), vI (-1), vI 0]), (3, [vI 5, vI 0, vI 0, vI 0, vI (-1), vI (-1), vI (-1), vI 0]), (3, [vI 6, vI 0, vI 0, vI 0, vI (-1), vI (-1), vI (-1), vI 0]), (3, [vI 7, vI 0, vI 0, vI 0, vI (-1), vI (-1), vI (-1), vI 0]), (3, [vI 8, vI 0, vI 0, vI 0, vI (-1), vI (-1), vI (-1), vI 0]), (3, [vI 9, vI 0, vI 0, vI 0, vI (-1), vI (-1), vI (-1), vI 0]), (3, [vI 10, vI 0, vI 0, vI 0, vI (-1), vI (-1), vI (-1), vI 0]), (3, [vI 11, vI 0, vI 0, vI 0, vI (-1), vI (-1), vI (-1), vI 0]), (3, [vI 12, vI 0, vI 0, vI 0, vI (-1), vI (-1), vI (-1), vI 0]), (3, [vI 13, vI 0, vI 0, vI 0, vI (-1), vI (-1), vI (-1), vI 0]), (3, [vI 14, vI 0, vI 0, vI 0, vI (-1), vI (-1), vI (-1), vI 0]), (3, [vI 15, vI 0, vI 0, vI 0, vI (-1), vI (-1), vI (-1), vI 0]), (3, [vI 16, vI 0, vI 0, vI 0, vI (-1), vI (-1), vI (-1), vI 0]), (3, [vI 17, vI 0, vI 0, vI 0, vI (-1), vI (-1), vI (-1), vI 0]), (3, [vI 18, vI 0, vI 0, vI 0, vI (-1), vI (-1), vI (-1), vI 0]), (3, [vI 19, vI 0, vI 0, vI 0, vI (-1), vI (-1), vI (-1), vI 0]), (3, [vI 20, vI 0, vI 0, vI 0, vI (-1), vI (-1), vI (-1), vI 0]), (3, [vI 21, vI 0, vI 0, vI 0, vI (-1), vI (-1), vI (-1), vI 0]), (3, [vI 22, vI 0, vI 0, vI 0, vI (-1), vI (-1), vI (-1), vI 0]), (3, [vI 23, vI 0, vI 0, vI 0, vI (-1), vI (-1), vI (-1), vI 0]), (3, [vI 24, vI 0, vI 0, vI 0, vI (-1), vI (-1), vI (-1), vI 0]), (3, [vI 25, vI 0, vI 0, vI 0, vI (-1), vI (-1), vI (-1), vI 0]), (3, [vI 26, vI 0, vI 0, vI 0, vI (-1), vI (-1), vI (-1), vI 0]), (3, [vI 27, vI 0, vI 0, vI 0, vI (-1), vI (-1), vI (-1), vI 0]), (3, [vI 28, vI 0, vI 0, vI 0, vI (-1), vI (-1), vI (-1), vI 0]), (3, [vI 29, vI 0, vI 0, vI 0, vI (-1), vI (-1), vI (-1), vI 0]), (3, [vI 30, vI 0, vI 0, vI 0, vI (-1), vI (-1), vI (-1), vI 0]), (3, [vI 31, vI 0, vI 0, vI 0, vI (-1), vI (-1), vI (-1), vI 0]), (3, [vI 32, vI 0, vI 0, vI 0, vI (-1), vI (-1), vI (-1), vI 0]), (3, [vI 33, vI 0, vI 0, vI 0, vI (-1), vI (-1), vI (-1), vI 0]), (3, [vI 34, vI 0, vI 0, vI 0, vI (-1), vI (-1), vI (-1), vI 0]), (3, [vI 35, vI 0, vI 0, vI 0, vI (-1), vI (-1), vI (-1), vI 0]), (3, [vI 36, vI 0, vI 0, vI 0, vI (-1), vI (-1), vI (-1), vI 0]), (3, [vI 37, vI 0, vI 0, vI 0, vI (-1), vI (-1), vI (-1), vI 0]), (3, [vI 38, vI 0, vI 0, vI 0, vI (-1), vI (-1), vI (-1), vI 0]), (3, [vI 39, vI 0, vI 0, vI 0, vI (-1), vI (-1), vI (-1), vI 0])]
def k_M : List (Nat × List MV) := [(10, [vI 0, vI 0, vR 297, vR 298, vI 0, vR 299, vR 300, vR 301, vR 302, vR 303, vR 304, vR 305, vR 306, vR 307, vI 0, vR 308, vR 309, vR 310, vR 311, vR 312, vR 313, vR 314, vR 315, vR 316, vR 317, vR 318, vI 0, vR 319, vR 320, vR 321, vR 322, vR 323, vR 324, vR 325, vI 0, vR 326, vR 327, vR 328, vR 329, vR 330, vR 331, vR 332, vR 333, vR 334, vR 335, vR 336, vR 337, vR 338, vR 339, vR 340]), (20, List.replicate 10 (vI 0)), (20, List.replicate 10 (vI 0)), (20, List.replicate 6 (vI 0)), (20, List.replicate 6 (vI 0)), (20, List.replicate 6 (vI 0)), (20, List.replicate 36 (vI 0)), (20, List.replicate 36 (vI 0)), (20, List.replicate 36 (vI 0)), (20, List.replicate 36 (vI 0)), (20, List.replicate 36 (vI 0)), (20, List.replicate 36 (vI 0)), (20, List.replicate 10 (vI 0)), (20, List.replicate 10 (vI 0)), (20, List.replicate 10 (vI 0)), (20, List.replicate 10 (vI 0)), (20, List.replicate 10 (vI 0)), (20, List.replicate 10 (vI 0)), (21, List.replicate 10 (vI 0)), (21, List.replicate 10 (vI 0)), (20, List.replicate 10 (vI 0)), (20, List.replicate 30 (vI 0)), (20, List.replicate 30 (vI 0)), (21, List.replicate 40 (vI 0)), (20, List.replicate 40 (vI 0)), (20, List.replicate 40 (vI 0)), (20, List.replicate 40 (vI 0)), (20, List.replicate 40 (vI 0)), (20, List.replicate 40 (vI 0)), (20, List.replicate 180 (vI (-1))), (20, List.replicate 36 (vI 0)), (20, List.replicate 36 (vI 0)), (20, List.replicate 6 (vI 0)), (21, List.replicate 6 (vI 0)), (20, List.replicate 60 (vI 0)), (20, List.replicate 6 (vI 0)), (20, List.replicate 36 (vI 0)), (20, List.replicate 36 (vI 0)), (20, List.replicate 360 (vI 0)), (20, List.replicate 10 (vI 0)), (20, List.replicate 10 (vI 0)), (20, List.replicate 10 (vI 0)), (20, List.replicate 10 (vI 0)), (21, List.replicate 10 (vI 0)), (20, List.replicate 36 (vI 0))]
def k_O : List (Nat × List MV) := [(23, List.replicate 1 (vL 0)), (24, List.replicate 1 (vD 0))]
def hC : List (Nat × List MV) := k_0 ++ k_1 ++ k_2 ++ k_3 ++ k_4 ++ k_5
def hM : List (Nat × List MV) := hC ++ k_M
def h0 : List (Nat × List MV) := hM ++ k_O
theorem t_init9 : m_run (fun _ => 0) 0 3000 63 (m_entry 63 [vR 0] ([(9, tD.getD 9 [])], 1, 5)) = some (.inl none, (hC, 296, 3318)) := e_void_ok (by decide +kernel)
theorem t_init10 : m_run (fun _ => 0) 0 2034 96 (m_entry 96 [vR 296] (hC ++ [(10, tD.getD 10 [])], 297, 3368)) = some (.inl none, (hM, 341, 4860)) := e_void_ok (by decide +kernel)
end
section
/-! ===== what the small machine's values and heap are in the machine's ===== -/
def m_okV (n : Nat) : MV → Prop
  | .inl a => m_in a
  | .inr (.inl (some o)) => o < n
  | _ => True
def m_okL (n : Nat) (l : List MV) : Prop := ∀ v ∈ l, m_okV n v
def m_okH (h : List (Nat × List MV)) : Prop := ∀ c ∈ h, m_okL h.length c.2
theorem m_okV.mono {n n' : Nat} {v : MV} (h : m_okV n v) (hn : n ≤ n') : m_okV n' v := by
  rcases v with a | (_ | o) | x | x | x | x
  · exact h
  · exact h
  · exact Nat.lt_of_lt_of_le (show o < n from h) hn
  · exact h
  · exact h
  · exact h
  · exact h
theorem m_okL.mono {n n' : Nat} {l : List MV} (h : m_okL n l) (hn : n ≤ n') : m_okL n' l := fun v hv => (h v hv).mono hn
theorem m_okL.cons {n : Nat} {v : MV} {l : List MV} (h1 : m_okV n v) (h2 : m_okL n l) : m_okL n (v :: l) := by
  intro w hw
  rcases List.mem_cons.mp hw with rfl | hw
  · exact h1
  · exact h2 w hw
theorem m_okL.head {n : Nat} {v : MV} {l : List MV} (h : m_okL n (v :: l)) : m_okV n v := h v List.mem_cons_self
theorem m_okL.tail {n : Nat} {v : MV} {l : List MV} (h : m_okL n (v :: l)) : m_okL n l := fun w hw => h w (List.mem_cons_of_mem _ hw)
theorem m_okL.set {n k : Nat} {v : MV} {l : List MV} (h : m_okL n l) (hv : m_okV n v) : m_okL n (l.set k v) := by
  intro w hw
  rcases List.mem_or_eq_of_mem_set hw with h1 | h1
  · exact h w h1
  · rw [h1]; exact hv
theorem m_okL.get {n k : Nat} {v : MV} {l : List MV} (h : m_okL n l) (hv : l[k]? = some v) : m_okV n v := h v (List.mem_of_getElem? hv)
theorem m_val_ext {A X : List Nat} {b : Nat} {v : MV} (h : m_okV A.length v) : m_val (A ++ X) b v = m_val A b v := by
  rcases v with a | (_ | o) | x | x | x | (_ | _)
  · rfl
  · rfl
  · have h1 : o < A.length := h
    show Value.ref _ = Value.ref _
    rw [List.getD_eq_getElem?_getD, List.getD_eq_getElem?_getD, List.getElem?_append_left h1]
  · rfl
  · rfl
  · rfl
  · rfl
  · rfl
theorem m_map_ext {A X : List Nat} {b : Nat} {l : List MV} (h : m_okL A.length l) : l.map (m_val (A ++ X) b) = l.map (m_val A b) :=
  List.map_congr_left fun v hv => m_val_ext (h v hv)
def m_toI : MV → Int
  | .inl a => a
  | _ => 0
def m_toF : MV → UInt32
  | .inr (.inr (.inl x)) => x
  | _ => 0
def m_toL : MV → Int64
  | .inr (.inr (.inr (.inl x))) => x
  | _ => 0
def m_toD : MV → UInt64
  | .inr (.inr (.inr (.inr (.inl x)))) => x
  | _ => 0
def m_toR (A : List Nat) : MV → Option Nat
  | .inr (.inl (some o)) => some (A.getD o 0)
  | _ => none
def m_row (A : List Nat) (t : Nat) (vs : List MV) : vp_A := (vs.length, if t = 22 then .inr (.inr (.inl (fun j => m_toF (vs.getD j vN)))) else if t = 23 then .inr (.inl (fun j => m_toL (vs.getD j vN))) else if t = 24 then .inr (.inr (.inr (.inl (fun j => m_toD (vs.getD j vN))))) else if t < 22 then .inl (fun j => Int32.ofInt (m_toI (vs.getD j vN))) else .inr (.inr (.inr (.inr (fun j => m_toR A (vs.getD j vN))))))
def m_ent (Y : Nat → ClassId) (A : List Nat) (b : Nat) (c : Nat × List MV) : va_E := if c.1 < 20 then .inr (c.1, c.2.map (m_val A b)) else .inl (Y c.1, m_row A c.1 c.2)
theorem m_ent_ext {Y : Nat → ClassId} {A X : List Nat} {b : Nat} {c : Nat × List MV} (h : m_okL A.length c.2) : m_ent Y (A ++ X) b c = m_ent Y A b c := by
  unfold m_ent
  rw [m_map_ext h]
  have e : (fun j => m_toR (A ++ X) (c.2.getD j vN)) = (fun j => m_toR A (c.2.getD j vN)) := by
    funext j
    rw [List.getD_eq_getElem?_getD]
    cases hj : c.2[j]? with
    | none => rfl
    | some v =>
      have hv := h.get hj
      rcases v with a | (_ | o) | x | x | x | x
      · rfl
      · rfl
      · have h1 : o < A.length := hv
        show some _ = some _
        rw [List.getD_eq_getElem?_getD, List.getD_eq_getElem?_getD, List.getElem?_append_left h1]
      · rfl
      · rfl
      · rfl
      · rfl
  unfold m_row
  rw [e]
def m_ws (Y : Nat → ClassId) (A : List Nat) (b : Nat) (h : List (Nat × List MV)) : va_W := List.zipWith (fun a c => (a, m_ent Y A b c)) A h
theorem m_ws_get {Y : Nat → ClassId} {A : List Nat} {b : Nat} {h : List (Nat × List MV)} (hl : A.length = h.length) {o : Nat} {c : Nat × List MV} (hc : h[o]? = some c) : (m_ws Y A b h)[o]? = some (A.getD o 0, m_ent Y A b c) := by
  have ho : o < A.length := by rw [hl]; exact (List.getElem?_eq_some_iff.mp hc).1
  unfold m_ws
  rw [List.getElem?_zipWith, hc, List.getElem?_eq_getElem ho]
  simp [ho]
theorem m_modify {α : Type} (f : α → α) : ∀ {l : List α} {k : Nat} {c : α}, l[k]? = some c → l.modify k f = l.set k (f c)
  | [], k, c, h => by simp at h
  | x :: l, 0, c, h => by
    simp at h
    subst h
    simp
  | x :: l, k + 1, c, h => by
    simp at h
    simp [m_modify f h]
theorem m_ws_set {Y : Nat → ClassId} {b o : Nat} {c' : Nat × List MV} {B : List Nat} : ∀ {A : List Nat} {h : List (Nat × List MV)}, A.length = h.length → o < h.length →
    List.zipWith (fun a c => (a, m_ent Y B b c)) A (h.set o c') = (List.zipWith (fun a c => (a, m_ent Y B b c)) A h).set o (A.getD o 0, m_ent Y B b c') := by
  induction o with
  | zero =>
    intro A h hl ho
    cases A with
    | nil => simp at hl; omega
    | cons a A =>
      cases h with
      | nil => simp at ho
      | cons c h => simp
  | succ o ih =>
    intro A h hl ho
    cases A with
    | nil => simp at hl; omega
    | cons a A =>
      cases h with
      | nil => simp at ho
      | cons c h =>
        simp only [List.length_cons, Nat.add_right_cancel_iff] at hl
        simp only [List.length_cons] at ho
        simp [ih hl (by omega)]
theorem m_ws_push {Y : Nat → ClassId} {A : List Nat} {b q : Nat} {h : List (Nat × List MV)} {c : Nat × List MV} (hl : A.length = h.length) (hk : m_okH h) (hc : m_okL h.length c.2) : m_ws Y (A ++ [q]) b (h ++ [c]) = m_ws Y A b h ++ [(q, m_ent Y A b c)] := by
  unfold m_ws
  rw [List.zipWith_append hl]
  congr 1
  · have : ∀ (A' : List Nat) (h' : List (Nat × List MV)), (∀ c ∈ h', m_okL A.length c.2) → List.zipWith (fun a c => (a, m_ent Y (A ++ [q]) b c)) A' h' = List.zipWith (fun a c => (a, m_ent Y A b c)) A' h' := by
      intro A' h'
      induction A' generalizing h' with
      | nil => intro _; rfl
      | cons a A' ih =>
        intro hh
        cases h' with
        | nil => rfl
        | cons c h' =>
          simp only [List.zipWith_cons_cons]
          rw [m_ent_ext (hh c List.mem_cons_self), ih h' (fun c hc => hh c (List.mem_cons_of_mem _ hc))]
    exact this A h (fun c hc => by rw [hl]; exact hk c hc)
  · simp only [List.zipWith_cons_cons, List.zipWith_nil_right]
    rw [m_ent_ext (by rw [hl]; exact hc)]
/-- the classes of the arrays, by their kind -/
def m_tys (Y : Nat → ClassId) : List (ClassId × FieldType) := [(Y 20, .int), (Y 21, .boolean), (Y 22, .float), (Y 23, .long), (Y 24, .double), (Y 31, .object RX1), (Y 33, .object RX3), (Y 35, .object RX5), (Y 36, .object RX6), (Y 37, .object RX7), (Y 38, .object RX8)]
/-- the world: the heap H holds the cells of h, at the addresses A -/
def m_W (D : va_G) (Y : Nat → ClassId) (b : Nat) (A0 : Nat → Prop) (A : List Nat) (h : MHp) (H : Heap) : Prop := A.length = h.1.length ∧ m_okH h.1 ∧ va_P D vwCl (m_ws Y A b h.1) H ∧ va_D A0 (m_ws Y A b h.1)
theorem m_okH.set {h : List (Nat × List MV)} (hk : m_okH h) {o k : Nat} {c : Nat × List MV} (hc : h[o]? = some c) {v : MV} (hv : m_okV h.length v) : m_okH (h.set o (c.1, c.2.set k v)) := by
  intro x hx
  rw [List.length_set]
  rcases List.mem_or_eq_of_mem_set hx with h1 | h1
  · exact hk x h1
  · rw [h1]
    exact (hk c (List.mem_of_getElem? hc)).set hv
theorem m_okH.push {h : List (Nat × List MV)} (hk : m_okH h) {c : Nat × List MV} (hc : m_okL h.length c.2) : m_okH (h ++ [c]) := by
  intro x hx
  rw [List.length_append]
  rcases List.mem_append.mp hx with h1 | h1
  · exact (hk x h1).mono (by omega)
  · rw [List.mem_singleton.mp h1]
    exact hc.mono (by omega)
theorem m_W.kept {D : va_G} {Y : Nat → ClassId} {b : Nat} {A0 : Nat → Prop} {A : List Nat} {h : MHp} {H H1 : Heap} (hW : m_W D Y b A0 A h H) (hk : ∀ q : Nat, q < H.size → H1[q]? = H[q]?) : m_W D Y b A0 A h H1 :=
  ⟨hW.1, hW.2.1, hW.2.2.1.kept (fun k q hq => hk q.1 (hW.2.2.1 k q hq).lt), hW.2.2.2⟩
theorem m_W.cnt {D : va_G} {Y : Nat → ClassId} {b : Nat} {A0 : Nat → Prop} {A : List Nat} {h : MHp} {H : Heap} (hW : m_W D Y b A0 A h H) {n k : Nat} : m_W D Y b A0 A (h.1, n, k) H := hW
theorem m_W.get {D : va_G} {Y : Nat → ClassId} {b : Nat} {A0 : Nat → Prop} {A : List Nat} {h : MHp} {H : Heap} (hW : m_W D Y b A0 A h H) {o : Nat} {c : Nat × List MV} (hc : h.1[o]? = some c) : (m_ws Y A b h.1)[o]? = some (A.getD o 0, m_ent Y A b c) := m_ws_get hW.1 hc
theorem m_W.put {D : va_G} {Y : Nat → ClassId} {b : Nat} {A0 : Nat → Prop} {A : List Nat} {h : MHp} {H H1 : Heap} (hW : m_W D Y b A0 A h H) {o k : Nat} {c : Nat × List MV} (hc : h.1[o]? = some c) {v : MV} (hv : m_okV h.1.length v)
    (hP : va_P D vwCl ((m_ws Y A b h.1).set o (A.getD o 0, m_ent Y A b (c.1, c.2.set k v))) H1) (hD : va_D A0 ((m_ws Y A b h.1).set o (A.getD o 0, m_ent Y A b (c.1, c.2.set k v)))) : m_W D Y b A0 A (m_set h o k v) H1 := by
  have ho : o < h.1.length := (List.getElem?_eq_some_iff.mp hc).1
  have e1 : (m_set h o k v).1 = h.1.set o (c.1, c.2.set k v) := m_modify _ hc
  have e2 : m_ws Y A b (h.1.set o (c.1, c.2.set k v)) = (m_ws Y A b h.1).set o (A.getD o 0, m_ent Y A b (c.1, c.2.set k v)) := m_ws_set hW.1 ho
  refine ⟨?_, ?_, ?_, ?_⟩
  · rw [e1, List.length_set]; exact hW.1
  · rw [e1]; exact hW.2.1.set hc hv
  · rw [e1, e2]; exact hP
  · rw [e1, e2]; exact hD
theorem m_W.push {D : va_G} {Y : Nat → ClassId} {b q : Nat} {A0 : Nat → Prop} {A : List Nat} {h : MHp} {H1 : Heap} {tag : Nat} {vs : List MV} (hl : A.length = h.1.length) (hk : m_okH h.1) (hv : m_okL h.1.length vs)
    (hP : va_P D vwCl (m_ws Y A b h.1 ++ [(q, m_ent Y A b (tag, vs))]) H1) (hD : va_D A0 (m_ws Y A b h.1 ++ [(q, m_ent Y A b (tag, vs))])) : m_W D Y b A0 (A ++ [q]) (m_push h tag vs) H1 := by
  have e2 : m_ws Y (A ++ [q]) b (h.1 ++ [(tag, vs)]) = m_ws Y A b h.1 ++ [(q, m_ent Y A b (tag, vs))] := m_ws_push hl hk hv
  refine ⟨?_, ?_, ?_, ?_⟩
  · show (A ++ [q]).length = (h.1 ++ [(tag, vs)]).length
    simp [hl]
  · exact hk.push hv
  · show va_P D vwCl (m_ws Y (A ++ [q]) b (h.1 ++ [(tag, vs)])) H1
    rw [e2]; exact hP
  · show va_D A0 (m_ws Y (A ++ [q]) b (h.1 ++ [(tag, vs)]))
    rw [e2]; exact hD
end
section
/-! ===== where a run of the small machine stands in the machine ===== -/
/-- what a state says of the tables beside the classes: for throws, handlers and the script -/
def m_X (xs : Nat → Int32) (L b : Nat) (A0 : Nat → Prop) (U : State) (H : Heap) : Prop :=
  vx_Zq Bundle.tN "UNASSIGNED_STACK" Bundle.steD A0 U H ∧ vx_Zq Bundle.tN "SUPPRESSED_SENTINEL" Bundle.listD A0 U H ∧ (∀ q ∈ tT, ∃ a, vk_R (m_cn q.1) q.2.1 q.2.2 a U) ∧ (∀ w ∈ m_bad, va_Nw w U) ∧ (∀ e e', e < 3 → e' < 3 → e ≠ e' → va_Nc (eN e) (eN e') U) ∧ (0 < L → va_X b (L - 1) xs U H ∧ b < H.size ∧ ¬ A0 b)
theorem m_bad_warm {s U : State} (hW : s.WarmedH U.vm) {w : Cond} (hw : m_isB w = true) (h : va_Nw w s) : va_Nw w U := by
  unfold m_isB at hw
  split at hw
  · exact va_Nw.warmC hW h
  · exact va_Nw.warmD hW h
  · exact va_Nw.warmM hW h
  · exact va_AO.moved hW.alike h
  · cases hw
theorem m_X.at {xs : Nat → Int32} {L b : Nat} {A0 : Nat → Prop} {s U : State} {H : Heap} {locs : List Loc} (h : m_X xs L b A0 s s.heap) (hS : va_S A0 s.heap H locs) (hU : U.heap = H) (hW : s.WarmedH U.vm) : m_X xs L b A0 U U.heap := by
  obtain ⟨h1, h2, h3, h4, h5, h6⟩ := h
  rw [hU]
  refine ⟨(h1.kept hS.2.1).moved hW.alike, (h2.kept hS.2.1).moved hW.alike, fun q hq => ?_, fun w hw => m_bad_warm hW (List.mem_filter.mp hw).2 (h4 w hw), fun e e' a1 a2 a3 => (h5 e e' a1 a2 a3).moved hW.alike, fun hL => ?_⟩
  · obtain ⟨a, ha⟩ := h3 q hq
    exact ⟨a, ha.warm hW⟩
  · obtain ⟨h7, h8, h9⟩ := h6 hL
    exact ⟨(h7.kept (hS.2.1 b h8 h9)).moved hW.alike, Nat.lt_of_lt_of_le h8 hS.1, h9⟩
theorem m_X.call {xs : Nat → Int32} {L b : Nat} {A0 : Nat → Prop} {U : State} {H : Heap} {g : JFrame} {mk : MethodId} {a : Array Value} (h : m_X xs L b A0 U H) : m_X xs L b A0 (U.calling g mk a) H := by
  obtain ⟨h1, h2, h3, h4, h5, h6⟩ := h
  have hA : U.vm.Alike (U.calling g mk a).vm := Vm.Alike.refl U.vm
  have hv : (U.calling g mk a).vm = U.vm := rfl
  refine ⟨h1.moved hA, h2.moved hA, fun q hq => ?_, fun w hw => ?_, fun e e' a1 a2 a3 => (h5 e e' a1 a2 a3).moved hA, fun hL => ⟨(h6 hL).1.moved hA, (h6 hL).2⟩⟩
  · obtain ⟨x, hx⟩ := h3 q hq
    exact ⟨x, hx.same hv⟩
  · have hB := (List.mem_filter.mp hw).2
    have h9 := h4 w hw
    unfold m_isB at hB
    split at hB
    · exact va_Nw.same rfl hv.symm h9
    · exact va_Nw.same rfl hv.symm h9
    · exact va_Nw.same rfl hv.symm h9
    · exact va_AO.moved hA h9
    · cases hB
/-- locals: every known value lies in its place; none takes two -/
def m_isU : MV → Bool
  | .inr (.inr (.inr (.inr (.inr false)))) => true
  | _ => false
def m_L (A : List Nat) (b : Nat) (ls : List MV) (lsA : Array Slot) : Prop := lsA.size = ls.length ∧ lv_wf lsA ∧ (∀ v ∈ ls, m_cat v = 1) ∧ ∀ (k : Nat) (v : MV), ls[k]? = some v → m_isU v = false → lsA[k]? = some (.val (m_val A b v))
theorem m_val_cat (A : List Nat) (b : Nat) (v : MV) : (m_val A b v).category = m_cat v := by
  rcases v with a | (_ | o) | x | x | x | (_ | _) <;> rfl
theorem m_cat_sum (A : List Nat) (b : Nat) (l : List MV) : ((l.map (m_val A b)).map fun v => v.category).sum = (l.map m_cat).sum := by
  rw [List.map_map]
  congr 1
  exact List.map_congr_left fun v _ => m_val_cat A b v
def m_lv (A : List Nat) (b : Nat) (ls : List MV) : List (Nat × Value) := (List.range ls.length).filterMap (fun k => match ls[k]? with
  | some v => if m_isU v = true then none else some (k, m_val A b v)
  | none => none)
theorem m_lv_mem {A : List Nat} {b : Nat} {ls : List MV} {q : Nat × Value} : q ∈ m_lv A b ls ↔ ∃ v, ls[q.1]? = some v ∧ m_isU v = false ∧ q.2 = m_val A b v := by
  unfold m_lv
  rw [List.mem_filterMap]
  constructor
  · rintro ⟨k, hk, h⟩
    cases hv : ls[k]? with
    | none => rw [hv] at h; cases h
    | some v =>
      rw [hv] at h
      simp only at h
      split at h
      · cases h
      · rename_i hu
        cases h
        exact ⟨v, hv, by simpa using hu, rfl⟩
  · rintro ⟨v, hv, hu, he⟩
    refine ⟨q.1, List.mem_range.mpr (List.getElem?_eq_some_iff.mp hv).1, ?_⟩
    rw [hv]
    simp only [hu]
    rw [← he]
    simp
theorem m_L.has {A : List Nat} {b : Nat} {ls : List MV} {lsA : Array Slot} (h : m_L A b ls lsA) : lv_has lsA ls.length (m_lv A b ls) := by
  refine ⟨h.1, h.2.1, fun q hq => ?_⟩
  obtain ⟨v, hv, hu, he⟩ := m_lv_mem.mp hq
  rw [he]
  exact h.2.2.2 q.1 v hv hu
theorem m_L.stored {A : List Nat} {b k : Nat} {ls : List MV} {lsA lsB : Array Slot} {v : MV} (h : m_L A b ls lsA) (hk : k < ls.length) (hv : m_cat v = 1)
    (hh : lv_has lsB ls.length ((k, m_val A b v) :: (m_lv A b ls).filter (fun q => !(q.1 == k) && !(q.1 + 1 == k && q.2.category == 2)))) : m_L A b (ls.set k v) lsB := by
  refine ⟨by rw [hh.1, List.length_set], hh.2.1, fun w hw => ?_, fun j w hj hu => ?_⟩
  · rcases List.mem_or_eq_of_mem_set hw with h1 | h1
    · exact h.2.2.1 w h1
    · rw [h1]; exact hv
  · by_cases hjk : j = k
    · subst hjk
      rw [List.getElem?_set_self hk] at hj
      cases hj
      exact hh.2.2 _ List.mem_cons_self
    · rw [List.getElem?_set_ne (Ne.symm hjk)] at hj
      refine hh.2.2 (j, m_val A b w) (List.mem_cons_of_mem _ (List.mem_filter.mpr ⟨m_lv_mem.mpr ⟨w, hj, hu, rfl⟩, ?_⟩))
      have h2 : m_cat w = 1 := h.2.2.1 w (List.mem_of_getElem? hj)
      simp [hjk, m_val_cat, h2]
theorem m_L.forget {A : List Nat} {b k : Nat} {ls : List MV} {lsA : Array Slot} (h : m_L A b ls lsA) {lsB : Array Slot} {v : Value} (hk : k < ls.length) (hv : v.category = 1)
    (hh : lv_has lsB ls.length ((k, v) :: (m_lv A b ls).filter (fun q => !(q.1 == k) && !(q.1 + 1 == k && q.2.category == 2)))) : m_L A b (ls.set k vU) lsB := by
  refine ⟨by rw [hh.1, List.length_set], hh.2.1, fun w hw => ?_, fun j w hj hu => ?_⟩
  · rcases List.mem_or_eq_of_mem_set hw with h1 | h1
    · exact h.2.2.1 w h1
    · rw [h1]; rfl
  · by_cases hjk : j = k
    · subst hjk
      rw [List.getElem?_set_self hk] at hj
      cases hj
      cases hu
    · rw [List.getElem?_set_ne (Ne.symm hjk)] at hj
      refine hh.2.2 (j, m_val A b w) (List.mem_cons_of_mem _ (List.mem_filter.mpr ⟨m_lv_mem.mpr ⟨w, hj, hu, rfl⟩, ?_⟩))
      have h2 : m_cat w = 1 := h.2.2.1 w (List.mem_of_getElem? hj)
      simp [hjk, m_val_cat, h2]
theorem m_L.ext {A X : List Nat} {b : Nat} {ls : List MV} {lsA : Array Slot} (h : m_L A b ls lsA) (hk : m_okL A.length ls) : m_L (A ++ X) b ls lsA :=
  ⟨h.1, h.2.1, h.2.2.1, fun k v hv hu => by rw [m_val_ext (hk.get hv)]; exact h.2.2.2 k v hv hu⟩
theorem m_lv_args {A : List Nat} {b : Nat} : ∀ (vs : List MV) (i : Nat), (∀ v ∈ vs, m_cat v = 1) → ∀ (k : Nat) (v : MV), vs[k]? = some v → (i + k, m_val A b v) ∈ lv_args i (vs.map (m_val A b))
  | [], i, _, k, v, h => by simp at h
  | w :: vs, i, hc, k, v, h => by
    have hw : (m_val A b w).category = 1 := by rw [m_val_cat]; exact hc w List.mem_cons_self
    simp only [List.map_cons, lv_args]
    rw [if_neg (by omega)]
    cases k with
    | zero =>
      simp at h
      subst h
      exact List.mem_cons_self
    | succ k =>
      simp at h
      have := m_lv_args (A := A) (b := b) vs (i + 1) (fun v hv => hc v (List.mem_cons_of_mem _ hv)) k v h
      rw [show i + (k + 1) = i + 1 + k by omega]
      exact List.mem_cons_of_mem _ this
theorem m_sl_len {A : List Nat} {b : Nat} : ∀ (vs : List MV), (∀ v ∈ vs, m_cat v = 1) → (lg_sl (vs.map (m_val A b))).length = vs.length
  | [], _ => rfl
  | w :: vs, hc => by
    have hw : (m_val A b w).category = 1 := by rw [m_val_cat]; exact hc w List.mem_cons_self
    have ih := m_sl_len (A := A) (b := b) vs (fun v hv => hc v (List.mem_cons_of_mem _ hv))
    unfold lg_sl at ih ⊢
    simp only [List.map_cons, List.flatMap_cons, List.length_append, ih]
    rw [if_neg (by omega)]
    simp
    omega
theorem m_L.entry {A : List Nat} {b n : Nat} {vs : List MV} (hc : ∀ v ∈ vs, m_cat v = 1) (hn : vs.length ≤ n) : m_L A b (vs ++ List.replicate (n - vs.length) vU) ((lg_sl (vs.map (m_val A b)) ++ List.replicate (n - (lg_sl (vs.map (m_val A b))).length) Slot.unset).toArray) := by
  have hl := lv_entry (vs.map (m_val A b)) (n := n) (by rw [m_sl_len vs hc]; exact hn)
  refine ⟨by rw [hl.1]; simp; omega, hl.2.1, fun v hv => ?_, fun k v hv hu => ?_⟩
  · rcases List.mem_append.mp hv with h1 | h1
    · exact hc v h1
    · rw [(List.mem_replicate.mp h1).2]; rfl
  · by_cases hk : k < vs.length
    · rw [List.getElem?_append_left hk] at hv
      have := m_lv_args (A := A) (b := b) vs 0 hc k v hv
      rw [Nat.zero_add] at this
      exact hl.2.2 _ this
    · rw [List.getElem?_append_right (by omega)] at hv
      have := List.mem_of_getElem? hv
      rw [(List.mem_replicate.mp this).2] at hu
      cases hu
/-- the method mi, in the machine -/
def m_C (D : va_G) (Y : Nat → ClassId) (b : Nat) (A0 : Nat → Prop) (xs : Nat → Int32) (L : Nat) (p : Program) (l : Launch) (R : Room) (s : State) (m : MethodId) (args : Array Value) (meth : Method) (c : Code) (mi : Nat) : Prop :=
  p.tables.exec = Jvm.exec ∧ c.code = m_cc mi ∧ c.maxLocals = m_maxL mi ∧ s.vm.findClass (m_cn (m_own mi)) = some m.cls ∧ (∀ w ∈ lw_good, w.before args s = true) ∧ meth.locks = false ∧ meth.sig.returnType = m_ret mi ∧ (mi < 177 → c.exceptionTable.toList = tableOf (m_h4 mi)) ∧ (mi < 177 → meth.name = (m_y mi).name) ∧ l.stackTraces = false ∧ va_K D vwCl (m_tys Y) s ∧ m_X xs L b A0 s s.heap ∧ (∀ q : Nat, s.heap.size ≤ q → A0 q) ∧ m_frs mi ≤ R.frames ∧ m_loc mi ≤ R.locals
/-- the state of the run: heap h at the addresses A in H, locals; what has been made since (z1, z2), and what will have been made -/
def m_ST (D : va_G) (Y : Nat → ClassId) (b : Nat) (A0 : Nat → Prop) (R : Room) (s : State) (mi : Nat) (h' : MHp) (ls st : List MV) (h : MHp) (A : List Nat) (H : Heap) (locs : List Loc) (z1 z2 : Nat) (lsA : Array Slot) : Prop :=
  z1 ≤ h.2.1 ∧ z2 ≤ h.2.2 ∧ m_W D Y b A0 A h H ∧ va_S A0 s.heap H locs ∧ m_okL h.1.length ls ∧ m_okL h.1.length st ∧ m_L A b ls lsA ∧ ls.length = m_maxL mi ∧ h'.2.1 - z1 ≤ R.cells ∧ h'.2.2 - z2 ≤ R.slots
/-- a return at pc' -/
def m_RE (mi pc : Nat) (v : Option MV) : Prop :=
  (∃ a, v = some (vI a) ∧ (m_ret mi = some .int ∨ (m_ret mi = some .boolean ∧ (a = 0 ∨ a = 1))) ∧ decode (m_cc mi) pc = .ok (.ireturn, 1)) ∨
  (∃ x, v = some (vF x) ∧ m_ret mi = some .float ∧ decode (m_cc mi) pc = .ok (.freturn, 1)) ∨
  (∃ o n, v = some (vR o) ∧ m_ret mi = some (.object n) ∧ decode (m_cc mi) pc = .ok (.areturn, 1)) ∨
  (v = none ∧ m_ret mi = none ∧ decode (m_cc mi) pc = .ok (.return_, 1))
/-- what the end of the run (o, h') owes to the goal Q -/
def m_EN (D : va_G) (Y : Nat → ClassId) (b : Nat) (A0 : Nat → Prop) (p : Program) (l : Launch) (e : Env) (R : Room) (s : State) (m : MethodId) (args : Array Value) (below : List Frame) (meth : Method) (c : Code) (mi : Nat) (o : MOut) (h' : MHp) (A : List Nat) (z1 z2 : Nat) (Q : State → Prop) : Prop :=
  (∀ v, o = .inl v → ∀ (X : List Nat) (H' : Heap) (locs' : List Loc) (pc' : Nat) (lsA' : Array Slot), m_W D Y b A0 (A ++ X) h' H' → va_S A0 s.heap H' locs' → (∀ w, v = some w → m_okV h'.1.length w) → m_RE mi pc' v → W p l e R s m args below meth c H' locs' (h'.2.1 - z1) (h'.2.2 - z2) Q (F0 m pc' lsA' (v.toList.map (m_val (A ++ X) b)))) ∧
  (∀ E, o = .inr E → mi < 177 ∧ ∃ (Qc : Array Value → State → Outcome → State → Prop) (XC : String → State → State → Prop) (mc ms : Nat), Q = vx_MQ below Qc XC args s mc ms A0 ∧ h'.2.1 - z1 ≤ mc ∧ h'.2.2 - z2 ≤ ms ∧ ∀ (X : List Nat) (t : State), m_W D Y b A0 (A ++ X) h' t.heap → s.vm.Alike t.vm → va_F A0 s t → XC (eN E) s t)
def m_G (D : va_G) (Y : Nat → ClassId) (b : Nat) (A0 : Nat → Prop) (xs : Nat → Int32) (L : Nat) (l : Launch) (o : MOut) (h' : MHp) (mi : Nat) (cd : MCode) (ls st : List MV) (h : MHp) : Prop :=
  h.2.1 ≤ h'.2.1 ∧ h.2.2 ≤ h'.2.2 ∧ ∀ (p : Program) (e : Env) (R : Room) (s : State) (m : MethodId) (args : Array Value) (below : List Frame) (meth : Method) (c : Code), m_C D Y b A0 xs L p l R s m args meth c mi →
    ∀ (A : List Nat) (H : Heap) (locs : List Loc) (z1 z2 : Nat) (lsA : Array Slot) (Q : State → Prop), m_ST D Y b A0 R s mi h' ls st h A H locs z1 z2 lsA → m_EN D Y b A0 p l e R s m args below meth c mi o h' A z1 z2 Q →
      W p l e R s m args below meth c H locs (h.2.1 - z1) (h.2.2 - z2) Q (F0 m (m_pc cd) lsA (st.map (m_val A b)))
section G
variable {D : va_G} {Y : Nat → ClassId} {b : Nat} {A0 : Nat → Prop} {xs : Nat → Int32} {L : Nat} {l : Launch} {o : MOut} {h' : MHp} {mi : Nat}
/-- an instruction that moves the stack alone -/
theorem m_G.stk {pc pc2 : Nat} {i : Instr} {r r2 : MCode} {ls st st2 : List MV} {h : MHp} (K : m_G D Y b A0 xs L l o h' mi r2 ls st2 h) (hp : m_pc r2 = pc2) (hok : m_okL h.1.length ls → m_okL h.1.length st → m_okH h.1 → m_okL h.1.length st2)
    (row : ∀ (p : Program) (e : Env) (R : Room) (s : State) (m : MethodId) (args : Array Value) (below : List Frame) (meth : Method) (c : Code) (A : List Nat) (H : Heap) (locs : List Loc) (cells slots : Nat) (lsA : Array Slot) (Q : State → Prop), m_C D Y b A0 xs L p l R s m args meth c mi → m_W D Y b A0 A h H → va_S A0 s.heap H locs → m_okL h.1.length ls → m_okL h.1.length st → m_L A b ls lsA → cells ≤ R.cells → slots ≤ R.slots →
      W p l e R s m args below meth c H locs cells slots Q (F0 m pc2 lsA (st2.map (m_val A b))) → W p l e R s m args below meth c H locs cells slots Q (F0 m pc lsA (st.map (m_val A b)))) : m_G D Y b A0 xs L l o h' mi ((pc, i) :: r) ls st h := by
  refine ⟨K.1, K.2.1, ?_⟩
  intro p e R s m args below meth c hC A H locs z1 z2 lsA Q hT hE
  obtain ⟨t1, t2, t3, t4, t5, t6, t7, t8, t9, t10⟩ := id hT
  have K2 := K.2.2 p e R s m args below meth c hC A H locs z1 z2 lsA Q ⟨t1, t2, t3, t4, t5, hok t5 t6 t3.2.1, t7, t8, t9, t10⟩ hE
  rw [hp] at K2
  have k1 := K.1
  have k2 := K.2.1
  exact row p e R s m args below meth c A H locs _ _ lsA Q hC t3 t4 t5 t6 t7 (by omega) (by omega) K2
/-- a store into a local -/
theorem m_G.loc {pc pc2 k : Nat} {i : Instr} {r : MCode} {ls st st2 : List MV} {h : MHp} {v : MV} (K : m_G D Y b A0 xs L l o h' mi r (ls.set k v) st2 h) (hp : m_pc r = pc2) (hk : k < ls.length) (hv : m_cat v = 1) (hok : m_okL h.1.length ls → m_okL h.1.length st → m_okV h.1.length v ∧ m_okL h.1.length st2)
    (row : ∀ (p : Program) (e : Env) (R : Room) (s : State) (m : MethodId) (args : Array Value) (below : List Frame) (meth : Method) (c : Code) (A : List Nat) (H : Heap) (locs : List Loc) (cells slots : Nat) (lsA : Array Slot) (Q : State → Prop), m_C D Y b A0 xs L p l R s m args meth c mi → m_okL h.1.length ls → m_L A b ls lsA →
      (∀ lsB : Array Slot, m_L A b (ls.set k v) lsB → W p l e R s m args below meth c H locs cells slots Q (F0 m pc2 lsB (st2.map (m_val A b)))) → W p l e R s m args below meth c H locs cells slots Q (F0 m pc lsA (st.map (m_val A b)))) : m_G D Y b A0 xs L l o h' mi ((pc, i) :: r) ls st h := by
  refine ⟨K.1, K.2.1, ?_⟩
  intro p e R s m args below meth c hC A H locs z1 z2 lsA Q hT hE
  obtain ⟨t1, t2, t3, t4, t5, t6, t7, t8, t9, t10⟩ := id hT
  obtain ⟨hvv, hs2⟩ := hok t5 t6
  refine row p e R s m args below meth c A H locs _ _ lsA Q hC t5 t7 fun lsB hB => ?_
  have K2 := K.2.2 p e R s m args below meth c hC A H locs z1 z2 lsB Q ⟨t1, t2, t3, t4, t5.set hvv, hs2, hB, by rw [List.length_set]; exact t8, t9, t10⟩ hE
  rw [hp] at K2
  exact K2
/-- a store into the heap -/
theorem m_G.mem {pc pc2 q k : Nat} {i : Instr} {r : MCode} {ls st st2 : List MV} {h : MHp} {v : MV} (K : m_G D Y b A0 xs L l o h' mi r ls st2 (m_set h q k v)) (hp : m_pc r = pc2) (hok : m_okL h.1.length st → m_okL h.1.length st2)
    (row : ∀ (p : Program) (e : Env) (R : Room) (s : State) (m : MethodId) (args : Array Value) (below : List Frame) (meth : Method) (c : Code) (A : List Nat) (H : Heap) (locs : List Loc) (cells slots : Nat) (lsA : Array Slot) (Q : State → Prop), m_C D Y b A0 xs L p l R s m args meth c mi → m_W D Y b A0 A h H → va_S A0 s.heap H locs → m_okL h.1.length st →
      (∀ (H1 : Heap) (locs1 : List Loc), m_W D Y b A0 A (m_set h q k v) H1 → va_S A0 s.heap H1 locs1 → W p l e R s m args below meth c H1 locs1 cells slots Q (F0 m pc2 lsA (st2.map (m_val A b)))) → W p l e R s m args below meth c H locs cells slots Q (F0 m pc lsA (st.map (m_val A b)))) : m_G D Y b A0 xs L l o h' mi ((pc, i) :: r) ls st h := by
  refine ⟨K.1, K.2.1, ?_⟩
  intro p e R s m args below meth c hC A H locs z1 z2 lsA Q hT hE
  obtain ⟨t1, t2, t3, t4, t5, t6, t7, t8, t9, t10⟩ := id hT
  have hl : (m_set h q k v).1.length = h.1.length := by simp [m_set]
  refine row p e R s m args below meth c A H locs _ _ lsA Q hC t3 t4 t6 fun H1 locs1 hW1 hS1 => ?_
  have K2 := K.2.2 p e R s m args below meth c hC A H1 locs1 z1 z2 lsA Q ⟨t1, t2, hW1, hS1, by rw [hl]; exact t5, by rw [hl]; exact hok t6, t7, t8, t9, t10⟩ hE
  rw [hp] at K2
  exact K2
/-- a new cell -/
theorem m_G.new {pc pc2 tag : Nat} {i : Instr} {r : MCode} {ls st st2 : List MV} {h : MHp} {vs : List MV} (K : m_G D Y b A0 xs L l o h' mi r ls (vR h.1.length :: st2) (m_push h tag vs)) (hp : m_pc r = pc2) (hok : m_okL h.1.length st → m_okL h.1.length st2)
    (row : ∀ (p : Program) (e : Env) (R : Room) (s : State) (m : MethodId) (args : Array Value) (below : List Frame) (meth : Method) (c : Code) (A : List Nat) (H : Heap) (locs : List Loc) (cells slots : Nat) (lsA : Array Slot) (Q : State → Prop), m_C D Y b A0 xs L p l R s m args meth c mi → m_W D Y b A0 A h H → va_S A0 s.heap H locs → m_okL h.1.length st → cells + 1 ≤ R.cells → slots + vs.length ≤ R.slots →
      (∀ (q : Nat) (H1 : Heap), m_W D Y b A0 (A ++ [q]) (m_push h tag vs) H1 → va_S A0 s.heap H1 locs → W p l e R s m args below meth c H1 locs (cells + 1) (slots + vs.length) Q (F0 m pc2 lsA (.ref q :: st2.map (m_val A b)))) → W p l e R s m args below meth c H locs cells slots Q (F0 m pc lsA (st.map (m_val A b)))) : m_G D Y b A0 xs L l o h' mi ((pc, i) :: r) ls st h := by
  have k1 : h.2.1 + 1 ≤ h'.2.1 := K.1
  have k2 : h.2.2 + vs.length ≤ h'.2.2 := K.2.1
  refine ⟨by omega, by omega, ?_⟩
  intro p e R s m args below meth c hC A H locs z1 z2 lsA Q hT hE
  obtain ⟨t1, t2, t3, t4, t5, t6, t7, t8, t9, t10⟩ := id hT
  have hl : (m_push h tag vs).1.length = h.1.length + 1 := by simp [m_push]
  have hAl : A.length = h.1.length := t3.1
  refine row p e R s m args below meth c A H locs _ _ lsA Q hC t3 t4 t6 (by omega) (by omega) fun q H1 hW1 hS1 => ?_
  have hs2 := hok t6
  have K2 := K.2.2 p e R s m args below meth c hC (A ++ [q]) H1 locs z1 z2 lsA Q ⟨Nat.le_trans t1 (Nat.le_succ _), Nat.le_trans t2 (Nat.le_add_right _ _), hW1, hS1, by rw [hl]; exact t5.mono (by omega), ?_, t7.ext (by rw [hAl]; exact t5), t8, t9, t10⟩ ?_
  · rw [hp] at K2
    have e1 : (m_push h tag vs).2.1 - z1 = (h.2.1 - z1) + 1 := by show h.2.1 + 1 - z1 = _; omega
    have e2 : (m_push h tag vs).2.2 - z2 = (h.2.2 - z2) + vs.length := by show h.2.2 + vs.length - z2 = _; omega
    have e3 : (vR h.1.length :: st2).map (m_val (A ++ [q]) b) = .ref q :: st2.map (m_val A b) := by
      rw [List.map_cons, m_map_ext (by rw [hAl]; exact hs2)]
      congr 1
      show Value.ref _ = Value.ref _
      rw [List.getD_eq_getElem?_getD, ← hAl]
      simp
    rw [e1, e2, e3] at K2
    exact K2
  · rw [hl]
    exact m_okL.cons (show h.1.length < h.1.length + 1 by omega) (hs2.mono (by omega))
  · refine ⟨fun v hv X H' locs' pc' lsA' w1 w2 w3 w4 => ?_, fun E hE2 => ?_⟩
    · rw [List.append_assoc] at w1 ⊢
      exact hE.1 v hv _ H' locs' pc' lsA' w1 w2 w3 w4
    · obtain ⟨g0, Qc, XC, mc, ms, g1, g2, g3, g4⟩ := hE.2 E hE2
      exact ⟨g0, Qc, XC, mc, ms, g1, g2, g3, fun X t w1 w2 w3 => g4 ([q] ++ X) t (by rw [← List.append_assoc]; exact w1) w2 w3⟩
end G
end
section
/-! ===== an instruction of the small machine is one of the machine's: the stack, the locals, jumps ===== -/
theorem m_i {a : Int} (h : m_in a) : (Int32.ofInt a).toInt = a := by
  unfold m_in at h
  first
  | exact Int32.toInt_ofInt_of_le (by omega) (by omega)
  | (rw [Int32.toInt_ofInt]; exact Int.bmod_eq_of_le (by decide +revert) (by decide +revert))
theorem m_inT (x : Int32) : m_in x.toInt := by
  have h1 := Int32.le_toInt x
  have h2 := Int32.toInt_lt x
  unfold m_in
  omega
theorem m_vI (A : List Nat) (b : Nat) (x : Int32) : m_val A b (vI x.toInt) = .int x := by
  show Value.int (Int32.ofInt x.toInt) = .int x
  rw [Int32.ofInt_toInt]
theorem m_ilt {a b : Int} (ha : m_in a) (hb : m_in b) : Int32.ofInt a < Int32.ofInt b ↔ a < b := by rw [Int32.lt_iff_toInt_lt, m_i ha, m_i hb]
theorem m_ile {a b : Int} (ha : m_in a) (hb : m_in b) : Int32.ofInt a ≤ Int32.ofInt b ↔ a ≤ b := by rw [Int32.le_iff_toInt_le, m_i ha, m_i hb]
theorem m_ieq {a b : Int} (ha : m_in a) (hb : m_in b) : Int32.ofInt a = Int32.ofInt b ↔ a = b := by rw [← Int32.toInt_inj, m_i ha, m_i hb]
theorem m_in0 : m_in 0 := ⟨by decide, by decide⟩
theorem m_z0 : (0 : Int32) = Int32.ofInt 0 := by decide
theorem m_i8 {n : Int} (h : -128 ≤ n ∧ n < 128) : (Int8.ofInt n).toInt32 = Int32.ofInt n := by
  have h1 : ∀ k : Fin 256, (Int8.ofInt ((k.val : Int) - 128)).toInt32 = Int32.ofInt ((k.val : Int) - 128) := by decide +kernel
  have h2 := h1 ⟨(n + 128).toNat, by omega⟩
  have e : (((n + 128).toNat : Nat) : Int) - 128 = n := by omega
  simp only [e] at h2
  exact h2
theorem m_i16 {n : Int} (h : -32768 ≤ n ∧ n < 32768) : (Int16.ofInt n).toInt32 = Int32.ofInt n := by
  rw [← Int32.toInt_inj, m_i (a := n) ⟨by omega, by omega⟩, Int16.toInt_toInt32]
  first
  | exact Int16.toInt_ofInt_of_le (by omega) (by omega)
  | (rw [Int16.toInt_ofInt]; exact Int.bmod_eq_of_le (by decide +revert) (by decide +revert))
theorem m_nn32_ok {r : UInt32} (h : m_nn32 r = true) : vf_n32 r := by
  unfold m_nn32 at h
  unfold vf_n32
  simpa using h
theorem m_nn64_ok {r : UInt64} (h : m_nn64 r = true) : vf_n64 r := by
  unfold m_nn64 at h
  unfold vf_n64
  simpa using h
section G
variable {D : va_G} {Y : Nat → ClassId} {b : Nat} {A0 : Nat → Prop} {xs : Nat → Int32} {L : Nat} {l : Launch} {o : MOut} {h' : MHp} {mi : Nat} {pc : Nat} {r : MCode} {ls st : List MV} {h : MHp}
theorem g_iconst {n : Int} (hd : decode (m_cc mi) pc = .ok (.iconst n, 1)) (hn : m_in n) (K : m_G D Y b A0 xs L l o h' mi r ls (vI n :: st) h) (hp : m_pc r = pc + 1) : m_G D Y b A0 xs L l o h' mi ((pc, .iconst n) :: r) ls st h :=
  K.stk hp (fun _ h2 _ => m_okL.cons hn h2) (fun p e R s m args below meth c A H locs cells slots lsA Q hC _ _ _ _ _ _ _ k => lv_iconst hC.1 hC.2.1 hd rfl k)
theorem g_bipush {n : Int} (hd : decode (m_cc mi) pc = .ok (.bipush n, 2)) (hn : -128 ≤ n ∧ n < 128) (K : m_G D Y b A0 xs L l o h' mi r ls (vI n :: st) h) (hp : m_pc r = pc + 2) : m_G D Y b A0 xs L l o h' mi ((pc, .bipush n) :: r) ls st h :=
  K.stk hp (fun _ h2 _ => m_okL.cons (show m_in n from ⟨by omega, by omega⟩) h2) (fun p e R s m args below meth c A H locs cells slots lsA Q hC _ _ _ _ _ _ _ k => lv_bipush hC.1 hC.2.1 hd (m_i8 hn) k)
theorem g_sipush {n : Int} (hd : decode (m_cc mi) pc = .ok (.sipush n, 3)) (hn : -32768 ≤ n ∧ n < 32768) (K : m_G D Y b A0 xs L l o h' mi r ls (vI n :: st) h) (hp : m_pc r = pc + 3) : m_G D Y b A0 xs L l o h' mi ((pc, .sipush n) :: r) ls st h :=
  K.stk hp (fun _ h2 _ => m_okL.cons (show m_in n from ⟨by omega, by omega⟩) h2) (fun p e R s m args below meth c A H locs cells slots lsA Q hC _ _ _ _ _ _ _ k => lv_sipush hC.1 hC.2.1 hd (m_i16 hn) k)
theorem g_lconst {n : Fin 2} (hd : decode (m_cc mi) pc = .ok (.lconst n, 1)) (K : m_G D Y b A0 xs L l o h' mi r ls (vL (Int64.ofNat n) :: st) h) (hp : m_pc r = pc + 1) : m_G D Y b A0 xs L l o h' mi ((pc, .lconst n) :: r) ls st h :=
  K.stk hp (fun _ h2 _ => m_okL.cons trivial h2) (fun p e R s m args below meth c A H locs cells slots lsA Q hC _ _ _ _ _ _ _ k => lv_lconst hC.1 hC.2.1 hd rfl k)
theorem g_fconst (hd : decode (m_cc mi) pc = .ok (.fconst 0, 1)) (K : m_G D Y b A0 xs L l o h' mi r ls (vF 0 :: st) h) (hp : m_pc r = pc + 1) : m_G D Y b A0 xs L l o h' mi ((pc, .fconst 0) :: r) ls st h :=
  K.stk hp (fun _ h2 _ => m_okL.cons trivial h2) (fun p e R s m args below meth c A H locs cells slots lsA Q hC _ _ _ _ _ _ _ k => lv_fconst0 hC.1 hC.2.1 hd k)
theorem g_iload_n {k : Fin 4} {a : Int} (hd : decode (m_cc mi) pc = .ok (.iload_n k, 1)) (hv : ls[k.val]? = some (vI a)) (K : m_G D Y b A0 xs L l o h' mi r ls (vI a :: st) h) (hp : m_pc r = pc + 1) : m_G D Y b A0 xs L l o h' mi ((pc, .iload_n k) :: r) ls st h :=
  K.stk hp (fun h1 h2 _ => m_okL.cons (h1.get hv) h2) (fun p e R s m args below meth c A H locs cells slots lsA Q hC _ _ _ _ hL _ _ kk => lv_iload_n hC.1 hC.2.1 hd rfl (hL.2.2.2 _ _ hv rfl) kk)
theorem g_iload {k : Nat} {a : Int} (hd : decode (m_cc mi) pc = .ok (.iload k, 2)) (hv : ls[k]? = some (vI a)) (K : m_G D Y b A0 xs L l o h' mi r ls (vI a :: st) h) (hp : m_pc r = pc + 2) : m_G D Y b A0 xs L l o h' mi ((pc, .iload k) :: r) ls st h :=
  K.stk hp (fun h1 h2 _ => m_okL.cons (h1.get hv) h2) (fun p e R s m args below meth c A H locs cells slots lsA Q hC _ _ _ _ hL _ _ kk => lv_iload hC.1 hC.2.1 hd (hL.2.2.2 _ _ hv rfl) kk)
theorem g_aload_n {k : Fin 4} {a : Nat} (hd : decode (m_cc mi) pc = .ok (.aload_n k, 1)) (hv : ls[k.val]? = some (vR a)) (K : m_G D Y b A0 xs L l o h' mi r ls (vR a :: st) h) (hp : m_pc r = pc + 1) : m_G D Y b A0 xs L l o h' mi ((pc, .aload_n k) :: r) ls st h :=
  K.stk hp (fun h1 h2 _ => m_okL.cons (h1.get hv) h2) (fun p e R s m args below meth c A H locs cells slots lsA Q hC _ _ _ _ hL _ _ kk => lv_aload_n hC.1 hC.2.1 hd rfl (hL.2.2.2 _ _ hv rfl) kk)
theorem g_aload {k : Nat} {a : Nat} (hd : decode (m_cc mi) pc = .ok (.aload k, 2)) (hv : ls[k]? = some (vR a)) (K : m_G D Y b A0 xs L l o h' mi r ls (vR a :: st) h) (hp : m_pc r = pc + 2) : m_G D Y b A0 xs L l o h' mi ((pc, .aload k) :: r) ls st h :=
  K.stk hp (fun h1 h2 _ => m_okL.cons (h1.get hv) h2) (fun p e R s m args below meth c A H locs cells slots lsA Q hC _ _ _ _ hL _ _ kk => lv_aload hC.1 hC.2.1 hd (hL.2.2.2 _ _ hv rfl) kk)
theorem g_sload_n {k : Fin 4} (hd : decode (m_cc mi) pc = .ok (.aload_n k, 1)) (hv : ls[k.val]? = some vS) (K : m_G D Y b A0 xs L l o h' mi r ls (vS :: st) h) (hp : m_pc r = pc + 1) : m_G D Y b A0 xs L l o h' mi ((pc, .aload_n k) :: r) ls st h :=
  K.stk hp (fun h1 h2 _ => m_okL.cons (h1.get hv) h2) (fun p e R s m args below meth c A H locs cells slots lsA Q hC _ _ _ _ hL _ _ kk => lv_aload_n hC.1 hC.2.1 hd rfl (hL.2.2.2 _ _ hv rfl) kk)
theorem g_sload {k : Nat} (hd : decode (m_cc mi) pc = .ok (.aload k, 2)) (hv : ls[k]? = some vS) (K : m_G D Y b A0 xs L l o h' mi r ls (vS :: st) h) (hp : m_pc r = pc + 2) : m_G D Y b A0 xs L l o h' mi ((pc, .aload k) :: r) ls st h :=
  K.stk hp (fun h1 h2 _ => m_okL.cons (h1.get hv) h2) (fun p e R s m args below meth c A H locs cells slots lsA Q hC _ _ _ _ hL _ _ kk => lv_aload hC.1 hC.2.1 hd (hL.2.2.2 _ _ hv rfl) kk)
theorem g_fload_n {k : Fin 4} {a : UInt32} (hd : decode (m_cc mi) pc = .ok (.fload_n k, 1)) (hv : ls[k.val]? = some (vF a)) (K : m_G D Y b A0 xs L l o h' mi r ls (vF a :: st) h) (hp : m_pc r = pc + 1) : m_G D Y b A0 xs L l o h' mi ((pc, .fload_n k) :: r) ls st h :=
  K.stk hp (fun h1 h2 _ => m_okL.cons (h1.get hv) h2) (fun p e R s m args below meth c A H locs cells slots lsA Q hC _ _ _ _ hL _ _ kk => lv_fload_n hC.1 hC.2.1 hd rfl (hL.2.2.2 _ _ hv rfl) kk)
theorem g_fload {k : Nat} {a : UInt32} (hd : decode (m_cc mi) pc = .ok (.fload k, 2)) (hv : ls[k]? = some (vF a)) (K : m_G D Y b A0 xs L l o h' mi r ls (vF a :: st) h) (hp : m_pc r = pc + 2) : m_G D Y b A0 xs L l o h' mi ((pc, .fload k) :: r) ls st h :=
  K.stk hp (fun h1 h2 _ => m_okL.cons (h1.get hv) h2) (fun p e R s m args below meth c A H locs cells slots lsA Q hC _ _ _ _ hL _ _ kk => lv_fload hC.1 hC.2.1 hd (hL.2.2.2 _ _ hv rfl) kk)
theorem g_istore_n {k : Fin 4} {a : Int} (hd : decode (m_cc mi) pc = .ok (.istore_n k, 1)) (hk : k.val < ls.length) (K : m_G D Y b A0 xs L l o h' mi r (ls.set k.val (vI a)) st h) (hp : m_pc r = pc + 1) : m_G D Y b A0 xs L l o h' mi ((pc, .istore_n k) :: r) ls (vI a :: st) h :=
  K.loc hp hk rfl (fun _ h2 => ⟨h2.head, h2.tail⟩) (fun p e R s m args below meth c A H locs cells slots lsA Q hC _ hL kk => lv_istore_n hC.1 hC.2.1 hd rfl hL.has hk rfl (fun lsB hB => kk lsB (hL.stored hk rfl hB)))
theorem g_istore {k : Nat} {a : Int} (hd : decode (m_cc mi) pc = .ok (.istore k, 2)) (hk : k < ls.length) (K : m_G D Y b A0 xs L l o h' mi r (ls.set k (vI a)) st h) (hp : m_pc r = pc + 2) : m_G D Y b A0 xs L l o h' mi ((pc, .istore k) :: r) ls (vI a :: st) h :=
  K.loc hp hk rfl (fun _ h2 => ⟨h2.head, h2.tail⟩) (fun p e R s m args below meth c A H locs cells slots lsA Q hC _ hL kk => lv_istore hC.1 hC.2.1 hd hL.has hk rfl (fun lsB hB => kk lsB (hL.stored hk rfl hB)))
theorem g_astore_n {k : Fin 4} {a : Nat} (hd : decode (m_cc mi) pc = .ok (.astore_n k, 1)) (hk : k.val < ls.length) (K : m_G D Y b A0 xs L l o h' mi r (ls.set k.val (vR a)) st h) (hp : m_pc r = pc + 1) : m_G D Y b A0 xs L l o h' mi ((pc, .astore_n k) :: r) ls (vR a :: st) h :=
  K.loc hp hk rfl (fun _ h2 => ⟨h2.head, h2.tail⟩) (fun p e R s m args below meth c A H locs cells slots lsA Q hC _ hL kk => lv_astore_n hC.1 hC.2.1 hd rfl hL.has hk rfl (fun lsB hB => kk lsB (hL.stored hk rfl hB)))
theorem g_astore {k : Nat} {a : Nat} (hd : decode (m_cc mi) pc = .ok (.astore k, 2)) (hk : k < ls.length) (K : m_G D Y b A0 xs L l o h' mi r (ls.set k (vR a)) st h) (hp : m_pc r = pc + 2) : m_G D Y b A0 xs L l o h' mi ((pc, .astore k) :: r) ls (vR a :: st) h :=
  K.loc hp hk rfl (fun _ h2 => ⟨h2.head, h2.tail⟩) (fun p e R s m args below meth c A H locs cells slots lsA Q hC _ hL kk => lv_astore hC.1 hC.2.1 hd hL.has hk rfl (fun lsB hB => kk lsB (hL.stored hk rfl hB)))
theorem g_fstore_n {k : Fin 4} {a : UInt32} (hd : decode (m_cc mi) pc = .ok (.fstore_n k, 1)) (hk : k.val < ls.length) (K : m_G D Y b A0 xs L l o h' mi r (ls.set k.val (vF a)) st h) (hp : m_pc r = pc + 1) : m_G D Y b A0 xs L l o h' mi ((pc, .fstore_n k) :: r) ls (vF a :: st) h :=
  K.loc hp hk rfl (fun _ h2 => ⟨h2.head, h2.tail⟩) (fun p e R s m args below meth c A H locs cells slots lsA Q hC _ hL kk => lv_fstore_n hC.1 hC.2.1 hd rfl hL.has hk rfl (fun lsB hB => kk lsB (hL.stored hk rfl hB)))
theorem g_fstore {k : Nat} {a : UInt32} (hd : decode (m_cc mi) pc = .ok (.fstore k, 2)) (hk : k < ls.length) (K : m_G D Y b A0 xs L l o h' mi r (ls.set k (vF a)) st h) (hp : m_pc r = pc + 2) : m_G D Y b A0 xs L l o h' mi ((pc, .fstore k) :: r) ls (vF a :: st) h :=
  K.loc hp hk rfl (fun _ h2 => ⟨h2.head, h2.tail⟩) (fun p e R s m args below meth c A H locs cells slots lsA Q hC _ hL kk => lv_fstore hC.1 hC.2.1 hd hL.has hk rfl (fun lsB hB => kk lsB (hL.stored hk rfl hB)))
theorem m_has_cons {lsA : Array Slot} {n : Nat} {lv : List (Nat × Value)} {q : Nat × Value} (h : lv_has lsA n lv) (hq : lsA[q.1]? = some (.val q.2)) : lv_has lsA n (q :: lv) :=
  ⟨h.1, h.2.1, fun w hw => by
    rcases List.mem_cons.mp hw with rfl | hw
    · exact hq
    · exact h.2.2 w hw⟩
theorem g_iinc {k : Nat} {a n : Int} (hd : decode (m_cc mi) pc = .ok (.iinc k n, 3)) (hv : ls[k]? = some (vI a)) (K : m_G D Y b A0 xs L l o h' mi r (ls.set k (vI (m_add a n))) st h) (hp : m_pc r = pc + 3) : m_G D Y b A0 xs L l o h' mi ((pc, .iinc k n) :: r) ls st h := by
  have hk : k < ls.length := (List.getElem?_eq_some_iff.mp hv).1
  refine K.loc hp hk rfl (fun _ h2 => ⟨m_inT _, h2⟩) (fun p e R s m args below meth c A H locs cells slots lsA Q hC _ hL kk => ?_)
  have hg := hL.2.2.2 _ _ hv rfl
  have h1 : lv_has lsA ls.length ((k, .int (Int32.ofInt a)) :: m_lv A b ls) := m_has_cons hL.has hg
  refine lv_iinc (k := 0) hC.1 hC.2.1 hd h1 rfl rfl hk rfl (fun lsB hB => kk lsB (hL.stored hk rfl ⟨hB.1, hB.2.1, fun q hq => hB.2.2 q ?_⟩))
  rcases List.mem_cons.mp hq with rfl | hq
  · rw [show m_val A b (vI (m_add a n)) = .int (Int32.ofInt a + Int32.ofInt n) from m_vI A b _]
    exact List.mem_cons_self
  · refine List.mem_cons_of_mem _ ?_
    obtain ⟨q1, q2⟩ := List.mem_filter.mp hq
    exact List.mem_filter.mpr ⟨List.mem_cons_of_mem _ q1, q2⟩
theorem g_iadd {x y : Int} (hd : decode (m_cc mi) pc = .ok (.iadd, 1)) (K : m_G D Y b A0 xs L l o h' mi r ls (vI (m_add x y) :: st) h) (hp : m_pc r = pc + 1) : m_G D Y b A0 xs L l o h' mi ((pc, .iadd) :: r) ls (vI y :: vI x :: st) h :=
  K.stk hp (fun _ h2 _ => m_okL.cons (m_inT _) h2.tail.tail) (fun p e R s m args below meth c A H locs cells slots lsA Q hC _ _ _ _ _ _ _ k => lv_iadd hC.1 hC.2.1 hd (by rw [List.map_cons, show m_val A b (vI (m_add x y)) = _ from m_vI A b _] at k; exact k))
theorem g_isub {x y : Int} (hd : decode (m_cc mi) pc = .ok (.isub, 1)) (K : m_G D Y b A0 xs L l o h' mi r ls (vI (m_sub x y) :: st) h) (hp : m_pc r = pc + 1) : m_G D Y b A0 xs L l o h' mi ((pc, .isub) :: r) ls (vI y :: vI x :: st) h :=
  K.stk hp (fun _ h2 _ => m_okL.cons (m_inT _) h2.tail.tail) (fun p e R s m args below meth c A H locs cells slots lsA Q hC _ _ _ _ _ _ _ k => lv_isub hC.1 hC.2.1 hd (by rw [List.map_cons, show m_val A b (vI (m_sub x y)) = _ from m_vI A b _] at k; exact k))
theorem g_imul {x y : Int} (hd : decode (m_cc mi) pc = .ok (.imul, 1)) (K : m_G D Y b A0 xs L l o h' mi r ls (vI (m_mul x y) :: st) h) (hp : m_pc r = pc + 1) : m_G D Y b A0 xs L l o h' mi ((pc, .imul) :: r) ls (vI y :: vI x :: st) h :=
  K.stk hp (fun _ h2 _ => m_okL.cons (m_inT _) h2.tail.tail) (fun p e R s m args below meth c A H locs cells slots lsA Q hC _ _ _ _ _ _ _ k => lv_imul hC.1 hC.2.1 hd (by rw [List.map_cons, show m_val A b (vI (m_mul x y)) = _ from m_vI A b _] at k; exact k))
theorem g_iand {x y : Int} (hd : decode (m_cc mi) pc = .ok (.iand, 1)) (K : m_G D Y b A0 xs L l o h' mi r ls (vI (m_and x y) :: st) h) (hp : m_pc r = pc + 1) : m_G D Y b A0 xs L l o h' mi ((pc, .iand) :: r) ls (vI y :: vI x :: st) h :=
  K.stk hp (fun _ h2 _ => m_okL.cons (m_inT _) h2.tail.tail) (fun p e R s m args below meth c A H locs cells slots lsA Q hC _ _ _ _ _ _ _ k => lv_iand hC.1 hC.2.1 hd (by rw [List.map_cons, show m_val A b (vI (m_and x y)) = _ from m_vI A b _] at k; exact k))
theorem g_ishr {x y : Int} (hd : decode (m_cc mi) pc = .ok (.ishr, 1)) (K : m_G D Y b A0 xs L l o h' mi r ls (vI (m_shr x y) :: st) h) (hp : m_pc r = pc + 1) : m_G D Y b A0 xs L l o h' mi ((pc, .ishr) :: r) ls (vI y :: vI x :: st) h :=
  K.stk hp (fun _ h2 _ => m_okL.cons (m_inT _) h2.tail.tail) (fun p e R s m args below meth c A H locs cells slots lsA Q hC _ _ _ _ _ _ _ k => lv_ishr hC.1 hC.2.1 hd (by rw [List.map_cons, show m_val A b (vI (m_shr x y)) = _ from m_vI A b _] at k; exact k))
theorem m_nz {y : Int} (hy : m_in y) (h : ¬ y = 0) : ¬ Int32.ofInt y = 0 := by
  rw [m_z0, m_ieq hy m_in0]
  exact h
theorem g_idiv {x y : Int} (hd : decode (m_cc mi) pc = .ok (.idiv, 1)) (hy : ¬ y = 0) (K : m_G D Y b A0 xs L l o h' mi r ls (vI (m_div x y) :: st) h) (hp : m_pc r = pc + 1) : m_G D Y b A0 xs L l o h' mi ((pc, .idiv) :: r) ls (vI y :: vI x :: st) h :=
  K.stk hp (fun _ h2 _ => m_okL.cons (m_inT _) h2.tail.tail) (fun p e R s m args below meth c A H locs cells slots lsA Q hC _ _ _ h2 _ _ _ k => lv_idiv hC.1 hC.2.1 hd (m_nz h2.head hy) (by rw [List.map_cons, show m_val A b (vI (m_div x y)) = _ from m_vI A b _] at k; exact k))
theorem g_irem {x y : Int} (hd : decode (m_cc mi) pc = .ok (.irem, 1)) (hy : ¬ y = 0) (K : m_G D Y b A0 xs L l o h' mi r ls (vI (m_rem x y) :: st) h) (hp : m_pc r = pc + 1) : m_G D Y b A0 xs L l o h' mi ((pc, .irem) :: r) ls (vI y :: vI x :: st) h :=
  K.stk hp (fun _ h2 _ => m_okL.cons (m_inT _) h2.tail.tail) (fun p e R s m args below meth c A H locs cells slots lsA Q hC _ _ _ h2 _ _ _ k => lv_irem hC.1 hC.2.1 hd (m_nz h2.head hy) (by rw [List.map_cons, show m_val A b (vI (m_rem x y)) = _ from m_vI A b _] at k; exact k))
theorem g_i2l {x : Int} (hd : decode (m_cc mi) pc = .ok (.i2l, 1)) (K : m_G D Y b A0 xs L l o h' mi r ls (vL (Int32.ofInt x).toInt64 :: st) h) (hp : m_pc r = pc + 1) : m_G D Y b A0 xs L l o h' mi ((pc, .i2l) :: r) ls (vI x :: st) h :=
  K.stk hp (fun _ h2 _ => m_okL.cons trivial h2.tail) (fun p e R s m args below meth c A H locs cells slots lsA Q hC _ _ _ _ _ _ _ k => lv_i2l hC.1 hC.2.1 hd rfl k)
theorem g_i2f {x : Int} (hd : decode (m_cc mi) pc = .ok (.i2f, 1)) (K : m_G D Y b A0 xs L l o h' mi r ls (vF (FP.i2f (Int32.ofInt x)) :: st) h) (hp : m_pc r = pc + 1) : m_G D Y b A0 xs L l o h' mi ((pc, .i2f) :: r) ls (vI x :: st) h :=
  K.stk hp (fun _ h2 _ => m_okL.cons trivial h2.tail) (fun p e R s m args below meth c A H locs cells slots lsA Q hC _ _ _ _ _ _ _ k => lv_i2f hC.1 hC.2.1 hd k)
theorem g_f2d {x : UInt32} (hd : decode (m_cc mi) pc = .ok (.f2d, 1)) (hn : m_nn64 (FP.f2d x) = true) (K : m_G D Y b A0 xs L l o h' mi r ls (vD (FP.f2d x) :: st) h) (hp : m_pc r = pc + 1) : m_G D Y b A0 xs L l o h' mi ((pc, .f2d) :: r) ls (vF x :: st) h :=
  K.stk hp (fun _ h2 _ => m_okL.cons trivial h2.tail) (fun p e R s m args below meth c A H locs cells slots lsA Q hC _ _ _ _ _ _ _ k => lv_f2d hC.1 hC.2.1 hd (m_nn64_ok hn) k)
theorem g_fmul {x y : UInt32} (hd : decode (m_cc mi) pc = .ok (.fmul, 1)) (hn : m_nn32 (FP.fmul x y) = true) (K : m_G D Y b A0 xs L l o h' mi r ls (vF (FP.fmul x y) :: st) h) (hp : m_pc r = pc + 1) : m_G D Y b A0 xs L l o h' mi ((pc, .fmul) :: r) ls (vF y :: vF x :: st) h :=
  K.stk hp (fun _ h2 _ => m_okL.cons trivial h2.tail.tail) (fun p e R s m args below meth c A H locs cells slots lsA Q hC _ _ _ _ _ _ _ k => lv_fmul hC.1 hC.2.1 hd (m_nn32_ok hn) k)
theorem g_fdiv {x y : UInt32} (hd : decode (m_cc mi) pc = .ok (.fdiv, 1)) (hn : m_nn32 (FP.fdiv x y) = true) (K : m_G D Y b A0 xs L l o h' mi r ls (vF (FP.fdiv x y) :: st) h) (hp : m_pc r = pc + 1) : m_G D Y b A0 xs L l o h' mi ((pc, .fdiv) :: r) ls (vF y :: vF x :: st) h :=
  K.stk hp (fun _ h2 _ => m_okL.cons trivial h2.tail.tail) (fun p e R s m args below meth c A H locs cells slots lsA Q hC _ _ _ _ _ _ _ k => lv_fdiv hC.1 hC.2.1 hd (m_nn32_ok hn) k)
theorem g_fcmp {x y : UInt32} {op : CmpOp} (hd : decode (m_cc mi) pc = .ok (.fcmp op, 1)) (K : m_G D Y b A0 xs L l o h' mi r ls (vI (Op.cmpValue (FP.fcmp x y) op).toInt :: st) h) (hp : m_pc r = pc + 1) : m_G D Y b A0 xs L l o h' mi ((pc, .fcmp op) :: r) ls (vF y :: vF x :: st) h :=
  K.stk hp (fun _ h2 _ => m_okL.cons (m_inT _) h2.tail.tail) (fun p e R s m args below meth c A H locs cells slots lsA Q hC _ _ _ _ _ _ _ k => lv_fcmp hC.1 hC.2.1 hd (by rw [List.map_cons, m_vI] at k; exact k))
theorem g_dcmp {x y : UInt64} {op : CmpOp} (hd : decode (m_cc mi) pc = .ok (.dcmp op, 1)) (K : m_G D Y b A0 xs L l o h' mi r ls (vI (Op.cmpValue (FP.dcmp x y) op).toInt :: st) h) (hp : m_pc r = pc + 1) : m_G D Y b A0 xs L l o h' mi ((pc, .dcmp op) :: r) ls (vD y :: vD x :: st) h :=
  K.stk hp (fun _ h2 _ => m_okL.cons (m_inT _) h2.tail.tail) (fun p e R s m args below meth c A H locs cells slots lsA Q hC _ _ _ _ _ _ _ k => lv_dcmp hC.1 hC.2.1 hd (by rw [List.map_cons, m_vI] at k; exact k))
theorem g_lcmp {x y : Int64} (hd : decode (m_cc mi) pc = .ok (.lcmp, 1)) (K : m_G D Y b A0 xs L l o h' mi r ls (vI (lg_cmp x y).toInt :: st) h) (hp : m_pc r = pc + 1) : m_G D Y b A0 xs L l o h' mi ((pc, .lcmp) :: r) ls (vL y :: vL x :: st) h :=
  K.stk hp (fun _ h2 _ => m_okL.cons (m_inT _) h2.tail.tail) (fun p e R s m args below meth c A H locs cells slots lsA Q hC _ _ _ _ _ _ _ k => W.lcmp hC.1 hC.2.1 hd (by rw [List.map_cons, m_vI] at k; exact k))
theorem g_dup {v : MV} (hd : decode (m_cc mi) pc = .ok (.dup, 1)) (hv : m_cat v = 1) (K : m_G D Y b A0 xs L l o h' mi r ls (v :: v :: st) h) (hp : m_pc r = pc + 1) : m_G D Y b A0 xs L l o h' mi ((pc, .dup) :: r) ls (v :: st) h :=
  K.stk hp (fun _ h2 _ => m_okL.cons h2.head h2) (fun p e R s m args below meth c A H locs cells slots lsA Q hC _ _ _ _ _ _ _ k => lv_dup hC.1 hC.2.1 hd (by rw [m_val_cat]; exact hv) k)
theorem g_dup2 {v w : MV} (hd : decode (m_cc mi) pc = .ok (.dup2, 1)) (hv : m_cat v = 1) (hw : m_cat w = 1) (K : m_G D Y b A0 xs L l o h' mi r ls (v :: w :: v :: w :: st) h) (hp : m_pc r = pc + 1) : m_G D Y b A0 xs L l o h' mi ((pc, .dup2) :: r) ls (v :: w :: st) h :=
  K.stk hp (fun _ h2 _ => m_okL.cons h2.head (m_okL.cons h2.tail.head h2)) (fun p e R s m args below meth c A H locs cells slots lsA Q hC _ _ _ _ _ _ _ k => lv_dup2_11 hC.1 hC.2.1 hd (by rw [m_val_cat]; exact hv) (by rw [m_val_cat]; exact hw) k)
theorem g_pop {v : MV} (hd : decode (m_cc mi) pc = .ok (.pop, 1)) (hv : m_cat v = 1) (K : m_G D Y b A0 xs L l o h' mi r ls st h) (hp : m_pc r = pc + 1) : m_G D Y b A0 xs L l o h' mi ((pc, .pop) :: r) ls (v :: st) h :=
  K.stk hp (fun _ h2 _ => h2.tail) (fun p e R s m args below meth c A H locs cells slots lsA Q hC _ _ _ _ _ _ _ k => lv_pop hC.1 hC.2.1 hd (by rw [m_val_cat]; exact hv) k)
theorem g_goto {off : Int} {j : MCode} (hd : decode (m_cc mi) pc = .ok (.goto off, 3)) (K : m_G D Y b A0 xs L l o h' mi j ls st h) (hp : (pc : Int) + off = (m_pc j : Int)) : m_G D Y b A0 xs L l o h' mi ((pc, .goto off) :: r) ls st h :=
  K.stk rfl (fun _ h2 _ => h2) (fun p e R s m args below meth c A H locs cells slots lsA Q hC _ _ _ _ _ _ _ k => lv_goto hC.1 hC.2.1 hd hp k)
theorem g_if_t {cd : Jvm.ClassFile.Cond} {off : Int} {j : MCode} {a : Int} (hd : decode (m_cc mi) pc = .ok (.ifCond cd off, 3)) (hc : m_holds cd a 0 = true) (K : m_G D Y b A0 xs L l o h' mi j ls st h) (hp : (pc : Int) + off = (m_pc j : Int)) : m_G D Y b A0 xs L l o h' mi ((pc, .ifCond cd off) :: r) ls (vI a :: st) h := by
  refine K.stk rfl (fun _ h2 _ => h2.tail) (fun p e R s m args below meth c A H locs cells slots lsA Q hC _ _ _ h2 _ _ _ k => ?_)
  have ha : m_in a := h2.head
  show W p l e R s m args below meth c H locs cells slots Q (F0 m pc lsA (.int (Int32.ofInt a) :: st.map (m_val A b)))
  cases cd <;> have hc := of_decide_eq_true hc
  · exact lv_if_eq hC.1 hC.2.1 hd hp (fun _ => k) (fun q => absurd (by rw [m_z0, m_ieq ha m_in0]; exact hc) q)
  · exact lv_if_ne hC.1 hC.2.1 hd hp (fun _ => k) (fun q => absurd (by rw [m_z0, m_ieq ha m_in0] at q; exact q) hc)
  · exact lv_if_lt hC.1 hC.2.1 hd hp (fun _ => k) (fun q => absurd (by rw [m_z0, m_ilt ha m_in0]; exact hc) q)
  · exact lv_if_ge hC.1 hC.2.1 hd hp (fun _ => k) (fun q => absurd (by rw [m_z0, m_ile m_in0 ha]; exact hc) q)
  · exact lv_if_gt hC.1 hC.2.1 hd hp (fun _ => k) (fun q => absurd (by rw [m_z0, m_ilt m_in0 ha]; exact hc) q)
  · exact lv_if_le hC.1 hC.2.1 hd hp (fun _ => k) (fun q => absurd (by rw [m_z0, m_ile ha m_in0]; exact hc) q)
theorem g_if_f {cd : Jvm.ClassFile.Cond} {off : Int} {j : MCode} {a : Int} (hd : decode (m_cc mi) pc = .ok (.ifCond cd off, 3)) (hc : ¬ m_holds cd a 0 = true) (K : m_G D Y b A0 xs L l o h' mi r ls st h) (hq : m_pc r = pc + 3) (hp : (pc : Int) + off = (m_pc j : Int)) : m_G D Y b A0 xs L l o h' mi ((pc, .ifCond cd off) :: r) ls (vI a :: st) h := by
  refine K.stk hq (fun _ h2 _ => h2.tail) (fun p e R s m args below meth c A H locs cells slots lsA Q hC _ _ _ h2 _ _ _ k => ?_)
  have ha : m_in a := h2.head
  show W p l e R s m args below meth c H locs cells slots Q (F0 m pc lsA (.int (Int32.ofInt a) :: st.map (m_val A b)))
  cases cd <;> have hc := fun z => hc (decide_eq_true z)
  · exact lv_if_eq hC.1 hC.2.1 hd hp (fun q => absurd (by rw [m_z0, m_ieq ha m_in0] at q; exact q) hc) (fun _ => k)
  · exact lv_if_ne hC.1 hC.2.1 hd hp (fun q => absurd (by rw [m_z0, m_ieq ha m_in0] at q; exact q) hc) (fun _ => k)
  · exact lv_if_lt hC.1 hC.2.1 hd hp (fun q => absurd (by rw [m_z0, m_ilt ha m_in0] at q; exact q) hc) (fun _ => k)
  · exact lv_if_ge hC.1 hC.2.1 hd hp (fun q => absurd (by rw [m_z0, m_ile m_in0 ha] at q; exact q) hc) (fun _ => k)
  · exact lv_if_gt hC.1 hC.2.1 hd hp (fun q => absurd (by rw [m_z0, m_ilt m_in0 ha] at q; exact q) hc) (fun _ => k)
  · exact lv_if_le hC.1 hC.2.1 hd hp (fun q => absurd (by rw [m_z0, m_ile ha m_in0] at q; exact q) hc) (fun _ => k)
theorem g_icmp_t {cd : Jvm.ClassFile.Cond} {off : Int} {j : MCode} {x y : Int} (hd : decode (m_cc mi) pc = .ok (.if_icmp cd off, 3)) (hc : m_holds cd x y = true) (K : m_G D Y b A0 xs L l o h' mi j ls st h) (hp : (pc : Int) + off = (m_pc j : Int)) : m_G D Y b A0 xs L l o h' mi ((pc, .if_icmp cd off) :: r) ls (vI y :: vI x :: st) h := by
  refine K.stk rfl (fun _ h2 _ => h2.tail.tail) (fun p e R s m args below meth c A H locs cells slots lsA Q hC _ _ _ h2 _ _ _ k => ?_)
  have hy : m_in y := h2.head
  have hx : m_in x := h2.tail.head
  show W p l e R s m args below meth c H locs cells slots Q (F0 m pc lsA (.int (Int32.ofInt y) :: .int (Int32.ofInt x) :: st.map (m_val A b)))
  cases cd <;> have hc := of_decide_eq_true hc
  · exact lv_icmp_eq hC.1 hC.2.1 hd hp (fun _ => k) (fun q => absurd (by rw [m_ieq hx hy]; exact hc) q)
  · exact lv_icmp_ne hC.1 hC.2.1 hd hp (fun _ => k) (fun q => absurd (by rw [m_ieq hx hy] at q; exact q) hc)
  · exact lv_icmp_lt hC.1 hC.2.1 hd hp (fun _ => k) (fun q => absurd (by rw [m_ilt hx hy]; exact hc) q)
  · exact lv_icmp_ge hC.1 hC.2.1 hd hp (fun _ => k) (fun q => absurd (by rw [m_ile hy hx]; exact hc) q)
  · exact lv_icmp_gt hC.1 hC.2.1 hd hp (fun _ => k) (fun q => absurd (by rw [m_ilt hy hx]; exact hc) q)
  · exact lv_icmp_le hC.1 hC.2.1 hd hp (fun _ => k) (fun q => absurd (by rw [m_ile hx hy]; exact hc) q)
theorem g_icmp_f {cd : Jvm.ClassFile.Cond} {off : Int} {j : MCode} {x y : Int} (hd : decode (m_cc mi) pc = .ok (.if_icmp cd off, 3)) (hc : ¬ m_holds cd x y = true) (K : m_G D Y b A0 xs L l o h' mi r ls st h) (hq : m_pc r = pc + 3) (hp : (pc : Int) + off = (m_pc j : Int)) : m_G D Y b A0 xs L l o h' mi ((pc, .if_icmp cd off) :: r) ls (vI y :: vI x :: st) h := by
  refine K.stk hq (fun _ h2 _ => h2.tail.tail) (fun p e R s m args below meth c A H locs cells slots lsA Q hC _ _ _ h2 _ _ _ k => ?_)
  have hy : m_in y := h2.head
  have hx : m_in x := h2.tail.head
  show W p l e R s m args below meth c H locs cells slots Q (F0 m pc lsA (.int (Int32.ofInt y) :: .int (Int32.ofInt x) :: st.map (m_val A b)))
  cases cd <;> have hc := fun z => hc (decide_eq_true z)
  · exact lv_icmp_eq hC.1 hC.2.1 hd hp (fun q => absurd (by rw [m_ieq hx hy] at q; exact q) hc) (fun _ => k)
  · exact lv_icmp_ne hC.1 hC.2.1 hd hp (fun q => absurd (by rw [m_ieq hx hy] at q; exact q) hc) (fun _ => k)
  · exact lv_icmp_lt hC.1 hC.2.1 hd hp (fun q => absurd (by rw [m_ilt hx hy] at q; exact q) hc) (fun _ => k)
  · exact lv_icmp_ge hC.1 hC.2.1 hd hp (fun q => absurd (by rw [m_ile hy hx] at q; exact q) hc) (fun _ => k)
  · exact lv_icmp_gt hC.1 hC.2.1 hd hp (fun q => absurd (by rw [m_ilt hy hx] at q; exact q) hc) (fun _ => k)
  · exact lv_icmp_le hC.1 hC.2.1 hd hp (fun q => absurd (by rw [m_ile hx hy] at q; exact q) hc) (fun _ => k)
theorem g_sw_out {d lo hi : Int} {offs : Array Int} {len : Nat} {j : MCode} {a : Int} (hd : decode (m_cc mi) pc = .ok (.tableswitch d lo hi offs, len)) (hc : a < lo ∨ hi < a) (K : m_G D Y b A0 xs L l o h' mi j ls st h) (hp : (pc : Int) + d = (m_pc j : Int)) : m_G D Y b A0 xs L l o h' mi ((pc, .tableswitch d lo hi offs) :: r) ls (vI a :: st) h := by
  refine K.stk rfl (fun _ h2 _ => h2.tail) (fun p e R s m args below meth c A H locs cells slots lsA Q hC _ _ _ h2 _ _ _ k => ?_)
  have ha : m_in a := h2.head
  exact lv_tableOut hC.1 hC.2.1 hd (by rw [m_i ha]; exact hc) hp k
theorem g_sw_in {d lo hi off : Int} {offs : Array Int} {len : Nat} {j : MCode} {a : Int} (hd : decode (m_cc mi) pc = .ok (.tableswitch d lo hi offs, len)) (hc : ¬ (a < lo ∨ hi < a)) (ho : offs[(a - lo).toNat]? = some off) (K : m_G D Y b A0 xs L l o h' mi j ls st h) (hp : (pc : Int) + off = (m_pc j : Int)) : m_G D Y b A0 xs L l o h' mi ((pc, .tableswitch d lo hi offs) :: r) ls (vI a :: st) h := by
  refine K.stk rfl (fun _ h2 _ => h2.tail) (fun p e R s m args below meth c A H locs cells slots lsA Q hC _ _ _ h2 _ _ _ k => ?_)
  have ha : m_in a := h2.head
  exact lv_tableIn hC.1 hC.2.1 hd (by rw [m_i ha]; omega) (by rw [m_i ha]; omega) (by rw [m_i ha]; exact ho) hp k
theorem g_max {k q : Nat} {x y : Int} (hd : decode (m_cc mi) pc = .ok (.invokestatic k, 3)) (hk : cR (m_own mi) k = some (2, q)) (hr : 1 ≤ m_frs mi ∧ 21 ≤ m_loc mi) (hst : (st.map m_cat).sum ≤ 8) (hlen : ls.length = m_maxL mi) (K : m_G D Y b A0 xs L l o h' mi r ls (vI (if x < y then y else x) :: st) h) (hp : m_pc r = pc + 3) : m_G D Y b A0 xs L l o h' mi ((pc, .invokestatic k) :: r) ls (vI y :: vI x :: st) h := by
  refine K.stk hp (fun _ h2 _ => m_okL.cons (by split; exact h2.head; exact h2.tail.head) h2.tail.tail) (fun p e R s m args below meth c A H locs cells slots lsA Q hC _ _ _ h2 hL hc1 hc2 kk => ?_)
  have hy : m_in y := h2.head
  have hx : m_in x := h2.tail.head
  obtain ⟨q1, hq1⟩ := m_ccs (m_own mi) _ (m_lookup hk)
  obtain ⟨g1, g2, g3, g4, g5, -, -, -, -, -, -, -, -, g6, g7⟩ := hC
  have e : m_val A b (vI (if x < y then y else x)) = .int (if Int32.ofInt x < Int32.ofInt y then Int32.ofInt y else Int32.ofInt x) := by
    by_cases hxy : x < y
    · rw [if_pos hxy, if_pos ((m_ilt hx hy).mpr hxy)]; rfl
    · rw [if_neg hxy, if_neg (fun z => hxy ((m_ilt hx hy).mp z))]; rfl
  rw [List.map_cons, e] at kk
  exact va_mmax g1 g2 (by rw [g3, hL.1, hlen]) g4 (g5 _ (m_pg_ok hq1)) (g5 _ m_maxw.1) (g5 _ m_maxw.2.1) (g5 _ m_maxw.2.2) (by omega) (by rw [m_cat_sum]; omega) hc1 hc2 hd kk
theorem g_obj {k q z : Nat} (hd : decode (m_cc mi) pc = .ok (.invokespecial k, 3)) (hk : cR (m_own mi) k = some (3, q)) (hr : 1 ≤ m_frs mi ∧ 20 ≤ m_loc mi) (hst : (st.map m_cat).sum ≤ 8) (hlen : ls.length = m_maxL mi) (K : m_G D Y b A0 xs L l o h' mi r ls st h) (hp : m_pc r = pc + 3) : m_G D Y b A0 xs L l o h' mi ((pc, .invokespecial k) :: r) ls (vR z :: st) h := by
  refine K.stk hp (fun _ h2 _ => h2.tail) (fun p e R s m args below meth c A H locs cells slots lsA Q hC _ _ _ h2 hL hc1 hc2 kk => ?_)
  obtain ⟨q1, hq1⟩ := m_ccs (m_own mi) _ (m_lookup hk)
  obtain ⟨g1, g2, g3, g4, g5, -, -, -, -, -, -, -, -, g6, g7⟩ := hC
  exact W.objInit g1 g2 g4 (g5 _ (m_pg_ok hq1)) (g5 _ m_objw.1) (g5 _ m_objw.2) rfl (by rw [g3, ← hlen]; exact hL.1) rfl hd (by omega) (by rw [m_cat_sum]; show 2 * 0 + _ + 12 ≤ _; omega) kk
end G
end
section
/-! ===== an instruction of the small machine is one of the machine's: fields, arrays, new cells ===== -/
theorem m_get_ok {h : MHp} {q ci k : Nat} {v : MV} (hg : m_get h q ci k = some v) : ∃ c, h.1[q]? = some c ∧ c.1 = ci ∧ c.2[k]? = some v := by
  unfold m_get at hg
  split at hg
  · rename_i c hc
    split at hg
    · rename_i e
      exact ⟨c, hc, e, hg⟩
    · cases hg
  · cases hg
theorem m_age_ok {h : MHp} {q tag : Nat} {i : Int} {v : MV} (hg : m_age h q tag i = some v) : 0 ≤ i ∧ ∃ c, h.1[q]? = some c ∧ c.1 = tag ∧ c.2[i.toNat]? = some v := by
  unfold m_age at hg
  split at hg
  · rename_i h0
    exact ⟨h0, m_get_ok hg⟩
  · cases hg
theorem m_okH.get {h : List (Nat × List MV)} (hk : m_okH h) {q k : Nat} {c : Nat × List MV} {v : MV} (hc : h[q]? = some c) (hv : c.2[k]? = some v) : m_okV h.length v := (hk c (List.mem_of_getElem? hc)).get hv
theorem m_ent_obj {Y : Nat → ClassId} {A : List Nat} {b : Nat} {c : Nat × List MV} (h : c.1 < 20) : m_ent Y A b c = .inr (c.1, c.2.map (m_val A b)) := if_pos h
theorem m_ent_arr {Y : Nat → ClassId} {A : List Nat} {b : Nat} {c : Nat × List MV} (h : ¬ c.1 < 20) : m_ent Y A b c = .inl (Y c.1, m_row A c.1 c.2) := if_neg h
theorem m_getD_set {vs : List MV} {i : Nat} {v : MV} (hi : i < vs.length) (j : Nat) : (vs.set i v).getD j vN = if j = i then v else vs.getD j vN := by
  rw [List.getD_eq_getElem?_getD, List.getD_eq_getElem?_getD, List.getElem?_set]
  by_cases h : i = j
  · subst h
    simp [hi]
  · rw [if_neg h, if_neg (fun z => h z.symm)]
theorem m_getD_of {vs : List MV} {i : Nat} {v : MV} (h : vs[i]? = some v) : vs.getD i vN = v := by
  rw [List.getD_eq_getElem?_getD, h]; rfl
theorem m_clamp {i : Int} (hi : m_in i) : (Int32.ofInt i).toNatClampNeg = i.toNat := by
  show (Int32.ofInt i).toInt.toNat = _
  rw [m_i hi]
theorem m_vpin {i : Int} {n : Nat} (hi : m_in i) (h0 : 0 ≤ i) (hn : i.toNat < n) : vp_in (Int32.ofInt i) n := by
  rw [vp_in_iff, m_i hi]
  omega
theorem m_fit_ok {tk : Nat} {ty : FieldType} {v : MV} {A : List Nat} {b : Nat} (h1 : m_fit tk v = true) (h2 : m_tyc tk (some ty) = true) : narrow ty (m_val A b v) = m_val A b v ∧ fits ty (m_val A b v) = true := by
  unfold m_tyc at h2
  split at h2
  · rename_i e
    cases e
    rcases v with a | (_ | q) | x | x | x | x <;> first | exact ⟨rfl, rfl⟩ | exact absurd h1 (by simp [m_fit])
  · rename_i e
    cases e
    rcases v with a | z
    case inr => exact absurd h1 (by simp [m_fit])
    have h3 : a = 0 ∨ a = 1 := of_decide_eq_true h1
    rcases h3 with rfl | rfl <;> exact ⟨by rfl, by rfl⟩
  · rename_i e
    cases e
    rcases v with a | (_ | q) | x | x | x | x <;> first | exact ⟨rfl, rfl⟩ | exact absurd h1 (by simp [m_fit])
  · rename_i e
    cases e
    rcases v with a | (_ | q) | x | x | x | x <;> first | exact ⟨rfl, rfl⟩ | exact absurd h1 (by simp [m_fit])
  · cases h2
theorem m_oa_ty {Y : Nat → ClassId} {c : Nat} (h : m_oa c = true) : ∃ (t0 : Nat) (C : String) (T : u_T) (N : Nat), (m_tys Y)[t0]? = some (Y (30 + c), .object C) ∧ vwCl[c]? = some (C, T, N) ∧ Cond.arrayOver (.object C) ∈ m_bad := by
  have h2 : c = 1 ∨ c = 3 ∨ c = 5 ∨ c = 6 ∨ c = 7 ∨ c = 8 := of_decide_eq_true h
  rcases h2 with rfl | rfl | rfl | rfl | rfl | rfl
  · exact ⟨5, RX1, _, _, rfl, rfl, ao_1⟩
  · exact ⟨6, RX3, _, _, rfl, rfl, ao_3⟩
  · exact ⟨7, RX5, _, _, rfl, rfl, ao_5⟩
  · exact ⟨8, RX6, _, _, rfl, rfl, ao_6⟩
  · exact ⟨9, RX7, _, _, rfl, rfl, ao_7⟩
  · exact ⟨10, RX8, _, _, rfl, rfl, ao_8⟩
section G
variable {D : va_G} {Y : Nat → ClassId} {b : Nat} {A0 : Nat → Prop} {xs : Nat → Int32} {L : Nat} {l : Launch} {o : MOut} {h' : MHp} {mi : Nat} {pc : Nat} {r : MCode} {ls st : List MV} {h : MHp}
theorem g_getf {k ci f tk q : Nat} {fin : Bool} {v : MV} (hd : decode (m_cc mi) pc = .ok (.getfield k, 3)) (hf : fR (m_own mi) k = some (ci, f, tk, fin)) (hg : m_get h q ci f = some v) (K : m_G D Y b A0 xs L l o h' mi r ls (v :: st) h) (hp : m_pc r = pc + 3) : m_G D Y b A0 xs L l o h' mi ((pc, .getfield k) :: r) ls (vR q :: st) h := by
  obtain ⟨cl, hc, hci, hv⟩ := m_get_ok hg
  refine K.stk hp (fun _ h2 h3 => m_okL.cons (h3.get hc hv) h2.tail) (fun p e R s m args below meth c A H locs cells slots lsA Q hC hW hS _ _ _ _ _ kk => ?_)
  obtain ⟨C, T, N, hcl, hkN, hl, hfin, hty, hCC⟩ := m_fld hf
  obtain ⟨hci11, huw, -⟩ := m_cls hcl
  obtain ⟨g1, g2, g3, g4, g5, -, -, -, -, -, gK, -, -, -, -⟩ := hC
  have he := hW.get hc
  rw [m_ent_obj (by omega), hci] at he
  exact va_get (D := D) (C := C) (T := T) (N := N) g1 g2 g5 huw g4 gK hW.2.2.1 q he hcl f hkN (g5 _ hl) (fun _ h9 => h9) (by rw [List.getElem?_map, hv]; rfl) hd kk
theorem g_putf {k ci f tk q : Nat} {fin : Bool} {v : MV} (hd : decode (m_cc mi) pc = .ok (.putfield k, 3)) (hf : fR (m_own mi) k = some (ci, f, tk, fin)) (hfit : m_fit tk v = true) (hg : (m_get h q ci f).isSome = true) (hfi : fin = true → m_kind mi = 2 ∧ m_own mi = ci) (hmi : mi < 177 ∨ fin = false) (K : m_G D Y b A0 xs L l o h' mi r ls st (m_set h q f v)) (hp : m_pc r = pc + 3) : m_G D Y b A0 xs L l o h' mi ((pc, .putfield k) :: r) ls (v :: vR q :: st) h := by
  obtain ⟨w, hw⟩ := Option.isSome_iff_exists.mp hg
  obtain ⟨cl, hc, hci, hv⟩ := m_get_ok hw
  refine K.mem hp (fun h2 => h2.tail.tail) (fun p e R s m args below meth c A H locs cells slots lsA Q hC hW hS h2 kk => ?_)
  obtain ⟨C, T, N, hcl, hkN, hl, hfin, hty, hCC⟩ := m_fld hf
  obtain ⟨hci11, huw, -, -, ty0, hty0, hnm, -⟩ := m_cls hcl
  obtain ⟨g1, g2, g3, g4, g5, -, -, -, gn, -, gK, -, -, -, -⟩ := hC
  have he := hW.get hc
  rw [m_ent_obj (by omega), hci] at he
  have hfl : f < (cl.2.map (m_val A b)).length := by
    rw [List.length_map]
    exact (List.getElem?_eq_some_iff.mp hv).1
  have hset : ∀ x : va_E, x = .inr (ci, (cl.2.map (m_val A b)).set f (m_val A b v)) → m_ent Y A b (cl.1, cl.2.set f v) = x := by
    intro x hx
    rw [hx, m_ent_obj (by show cl.1 < 20; omega)]
    show Sum.inr (cl.1, (cl.2.set f v).map (m_val A b)) = _
    rw [List.map_set, hci]
  have hpd : ∃ ty, parseFieldDescriptor (T f).2.2.1 = some ty := ⟨_, hty0 f hkN⟩
  obtain ⟨ty, hpd⟩ := hpd
  rw [hpd] at hty
  obtain ⟨hn, hft⟩ := m_fit_ok (A := A) (b := b) hfit hty
  cases fin with
  | false =>
    exact va_put (D := D) (C := C) (T := T) (N := N) (v := m_val A b v) (ty := ty) g1 g2 g5 huw ty0 hty0 hnm g4 gK hW.2.2.1 hW.2.2.2 hS q he hcl f hkN (g5 _ hl) (fun _ h9 => h9) hfin hpd hn hft hfl hd
      (fun H1 locs1 hP1 hD1 hS1 => kk H1 locs1 (hW.put hc h2.head (by rw [hset _ rfl]; exact hP1) (by rw [hset _ rfl]; exact hD1)) hS1)
  | true =>
    have h177 : mi < 177 := by
      rcases hmi with h9 | h9
      · exact h9
      · cases h9
    obtain ⟨hk2, hoc⟩ := hfi rfl
    have hin : meth.name = "<init>" := by
      rw [gn h177]
      obtain ⟨ps, hps⟩ := m_mcs h177
      simp only [m_mchk, hk2, Bool.and_eq_true, decide_eq_true_eq] at hps
      exact hps.1.1.1.1.1.1.2.2
    have hown : (T f).1 = m_cn (m_own mi) := by
      rw [hCC, hoc]
      have h11 : ∀ k : Nat, k < 11 → (vwCl[k]?).map (fun q => q.1) = some (m_cn k) := by decide
      have h12 := h11 ci hci11
      rw [hcl] at h12
      exact Option.some.inj h12
    exact va_putF (D := D) (C := C) (T := T) (N := N) (v := m_val A b v) (ty := ty) g1 g2 g5 huw ty0 hty0 hnm g4 gK hW.2.2.1 hW.2.2.2 hS q he hcl f hkN (g5 _ hl) (fun _ h9 => h9) hfin hin hown hpd hn hft hfl hd
      (fun H1 locs1 hP1 hD1 hS1 => kk H1 locs1 (hW.put hc h2.head (by rw [hset _ rfl]; exact hP1) (by rw [hset _ rfl]; exact hD1)) hS1)
theorem g_iald {q : Nat} {i a : Int} (hd : decode (m_cc mi) pc = .ok (.iaload, 1)) (hg : m_age h q 20 i = some (vI a)) (K : m_G D Y b A0 xs L l o h' mi r ls (vI a :: st) h) (hp : m_pc r = pc + 1) : m_G D Y b A0 xs L l o h' mi ((pc, .iaload) :: r) ls (vI i :: vR q :: st) h := by
  obtain ⟨h0, cl, hc, hci, hv⟩ := m_age_ok hg
  refine K.stk hp (fun _ h2 h3 => m_okL.cons (h3.get hc hv) h2.tail.tail) (fun p e R s m args below meth c A H locs cells slots lsA Q hC hW hS _ h2 _ _ _ kk => ?_)
  have hi : m_in i := h2.head
  have he := hW.get hc
  rw [m_ent_arr (by omega), hci] at he
  refine va_iald hC.1 hC.2.1 hC.2.2.2.2.2.2.2.2.2.2.1 hW.2.2.1 q 0 he rfl (m_vpin hi h0 (List.getElem?_eq_some_iff.mp hv).1) hd ?_
  rw [m_clamp hi, m_getD_of hv]
  exact kk
theorem g_zald {q : Nat} {i a : Int} (hd : decode (m_cc mi) pc = .ok (.baload, 1)) (hg : m_age h q 21 i = some (vI a)) (K : m_G D Y b A0 xs L l o h' mi r ls (vI a :: st) h) (hp : m_pc r = pc + 1) : m_G D Y b A0 xs L l o h' mi ((pc, .baload) :: r) ls (vI i :: vR q :: st) h := by
  obtain ⟨h0, cl, hc, hci, hv⟩ := m_age_ok hg
  refine K.stk hp (fun _ h2 h3 => m_okL.cons (h3.get hc hv) h2.tail.tail) (fun p e R s m args below meth c A H locs cells slots lsA Q hC hW hS _ h2 _ _ _ kk => ?_)
  have hi : m_in i := h2.head
  have he := hW.get hc
  rw [m_ent_arr (by omega), hci] at he
  refine va_zald hC.1 hC.2.1 hC.2.2.2.2.2.2.2.2.2.2.1 hW.2.2.1 q 1 he rfl (m_vpin hi h0 (List.getElem?_eq_some_iff.mp hv).1) hd ?_
  rw [m_clamp hi, m_getD_of hv]
  exact kk
theorem g_fald {q : Nat} {i : Int} {a : UInt32} (hd : decode (m_cc mi) pc = .ok (.faload, 1)) (hg : m_age h q 22 i = some (vF a)) (K : m_G D Y b A0 xs L l o h' mi r ls (vF a :: st) h) (hp : m_pc r = pc + 1) : m_G D Y b A0 xs L l o h' mi ((pc, .faload) :: r) ls (vI i :: vR q :: st) h := by
  obtain ⟨h0, cl, hc, hci, hv⟩ := m_age_ok hg
  refine K.stk hp (fun _ h2 h3 => m_okL.cons (h3.get hc hv) h2.tail.tail) (fun p e R s m args below meth c A H locs cells slots lsA Q hC hW hS _ h2 _ _ _ kk => ?_)
  have hi : m_in i := h2.head
  have he := hW.get hc
  rw [m_ent_arr (by omega), hci] at he
  refine va_fald hC.1 hC.2.1 hC.2.2.2.2.2.2.2.2.2.2.1 hW.2.2.1 q 2 he rfl (m_vpin hi h0 (List.getElem?_eq_some_iff.mp hv).1) hd ?_
  rw [m_clamp hi, m_getD_of hv]
  exact kk
theorem g_lald {q : Nat} {i : Int} {a : Int64} (hd : decode (m_cc mi) pc = .ok (.laload, 1)) (hg : m_age h q 23 i = some (vL a)) (K : m_G D Y b A0 xs L l o h' mi r ls (vL a :: st) h) (hp : m_pc r = pc + 1) : m_G D Y b A0 xs L l o h' mi ((pc, .laload) :: r) ls (vI i :: vR q :: st) h := by
  obtain ⟨h0, cl, hc, hci, hv⟩ := m_age_ok hg
  refine K.stk hp (fun _ h2 h3 => m_okL.cons (h3.get hc hv) h2.tail.tail) (fun p e R s m args below meth c A H locs cells slots lsA Q hC hW hS _ h2 _ _ _ kk => ?_)
  have hi : m_in i := h2.head
  have he := hW.get hc
  rw [m_ent_arr (by omega), hci] at he
  refine va_lald hC.1 hC.2.1 hC.2.2.2.2.2.2.2.2.2.2.1 hW.2.2.1 q 3 he rfl (m_vpin hi h0 (List.getElem?_eq_some_iff.mp hv).1) hd ?_
  rw [m_clamp hi, m_getD_of hv]
  exact kk
theorem g_dald {q : Nat} {i : Int} {a : UInt64} (hd : decode (m_cc mi) pc = .ok (.daload, 1)) (hg : m_age h q 24 i = some (vD a)) (K : m_G D Y b A0 xs L l o h' mi r ls (vD a :: st) h) (hp : m_pc r = pc + 1) : m_G D Y b A0 xs L l o h' mi ((pc, .daload) :: r) ls (vI i :: vR q :: st) h := by
  obtain ⟨h0, cl, hc, hci, hv⟩ := m_age_ok hg
  refine K.stk hp (fun _ h2 h3 => m_okL.cons (h3.get hc hv) h2.tail.tail) (fun p e R s m args below meth c A H locs cells slots lsA Q hC hW hS _ h2 _ _ _ kk => ?_)
  have hi : m_in i := h2.head
  have he := hW.get hc
  rw [m_ent_arr (by omega), hci] at he
  refine va_dald hC.1 hC.2.1 hC.2.2.2.2.2.2.2.2.2.2.1 hW.2.2.1 q 4 he rfl (m_vpin hi h0 (List.getElem?_eq_some_iff.mp hv).1) hd ?_
  rw [m_clamp hi, m_getD_of hv]
  exact kk
theorem m_row_q {A : List Nat} {t : Nat} (ht : 30 ≤ t) (vs : List MV) : m_row A t vs = (vs.length, .inr (.inr (.inr (.inr (fun j => m_toR A (vs.getD j vN)))))) := by
  unfold m_row
  rw [if_neg (by omega), if_neg (by omega), if_neg (by omega), if_neg (by omega)]
theorem g_aald {q t z : Nat} {i : Int} (hd : decode (m_cc mi) pc = .ok (.aaload, 1)) (ht : 30 ≤ t) (hoa : m_oa (t - 30) = true) (hg : m_age h q t i = some (vR z)) (K : m_G D Y b A0 xs L l o h' mi r ls (vR z :: st) h) (hp : m_pc r = pc + 1) : m_G D Y b A0 xs L l o h' mi ((pc, .aaload) :: r) ls (vI i :: vR q :: st) h := by
  obtain ⟨h0, cl, hc, hci, hv⟩ := m_age_ok hg
  refine K.stk hp (fun _ h2 h3 => m_okL.cons (h3.get hc hv) h2.tail.tail) (fun p e R s m args below meth c A H locs cells slots lsA Q hC hW hS _ h2 _ _ _ kk => ?_)
  have hi : m_in i := h2.head
  obtain ⟨t0, C, T, N, ht0, hcl, -⟩ := m_oa_ty (Y := Y) hoa
  rw [show 30 + (t - 30) = t by omega] at ht0
  have he := hW.get hc
  rw [m_ent_arr (by omega), hci, m_row_q ht] at he
  refine va_aldq hC.1 hC.2.1 hC.2.2.2.2.2.2.2.2.2.2.1 hW.2.2.1 q t0 he ht0 (m_vpin hi h0 (List.getElem?_eq_some_iff.mp hv).1) hd ?_
  rw [m_clamp hi, m_getD_of hv]
  exact kk
theorem g_sald {i : Int} (hd : decode (m_cc mi) pc = .ok (.iaload, 1)) (h0 : 0 ≤ i) (h1 : i + 1 < (L : Int)) (K : m_G D Y b A0 xs L l o h' mi r ls (vI (xs i.toNat).toInt :: st) h) (hp : m_pc r = pc + 1) : m_G D Y b A0 xs L l o h' mi ((pc, .iaload) :: r) ls (vI i :: vS :: st) h := by
  refine K.stk hp (fun _ h2 h3 => m_okL.cons (m_inT _) h2.tail.tail) (fun p e R s m args below meth c A H locs cells slots lsA Q hC hW hS _ h2 _ _ _ kk => ?_)
  have hi : m_in i := h2.head
  obtain ⟨x1, x2, x3⟩ := hC.2.2.2.2.2.2.2.2.2.2.2.1.2.2.2.2.2 (by omega)
  refine va_sld hC.1 hC.2.1 x1 x2 x3 hS (m_vpin hi h0 (by omega)) hd ?_
  rw [List.map_cons, m_vI] at kk
  rw [m_clamp hi]
  exact kk
theorem g_slen (hd : decode (m_cc mi) pc = .ok (.arraylength, 1)) (h1 : 0 < L) (h2 : L ≤ 2147483648) (K : m_G D Y b A0 xs L l o h' mi r ls (vI ((L : Int) - 1) :: st) h) (hp : m_pc r = pc + 1) : m_G D Y b A0 xs L l o h' mi ((pc, .arraylength) :: r) ls (vS :: st) h := by
  refine K.stk hp (fun _ h2 h3 => m_okL.cons (show m_in _ from ⟨by omega, by omega⟩) h2.tail) (fun p e R s m args below meth c A H locs cells slots lsA Q hC hW hS _ h2 _ _ _ kk => ?_)
  obtain ⟨x1, x2, x3⟩ := hC.2.2.2.2.2.2.2.2.2.2.2.1.2.2.2.2.2 h1
  refine va_slen hC.1 hC.2.1 x1 x2 x3 hS hd ?_
  have e : Int32.ofNat (L - 1) = Int32.ofInt ((L : Int) - 1) := by
    rw [show ((L : Int) - 1) = ((L - 1 : Nat) : Int) by omega]
    rfl
  rw [e]
  exact kk
theorem g_alen {q n : Nat} (hd : decode (m_cc mi) pc = .ok (.arraylength, 1)) (hg : ∃ c, h.1[q]? = some c ∧ c.2.length = n ∧ (c.1 = 20 ∨ c.1 = 22)) (hn : n < 2147483648) (K : m_G D Y b A0 xs L l o h' mi r ls (vI n :: st) h) (hp : m_pc r = pc + 1) : m_G D Y b A0 xs L l o h' mi ((pc, .arraylength) :: r) ls (vR q :: st) h := by
  obtain ⟨cl, hc, hl, ht⟩ := hg
  refine K.stk hp (fun _ h2 h3 => m_okL.cons (show m_in _ from ⟨by omega, by omega⟩) h2.tail) (fun p e R s m args below meth c A H locs cells slots lsA Q hC hW hS _ h2 _ _ _ kk => ?_)
  have he := hW.get hc
  rw [m_ent_arr (by omega)] at he
  rcases ht with ht | ht
  · rw [ht] at he
    exact va_alen hC.1 hC.2.1 hC.2.2.2.2.2.2.2.2.2.2.1 hW.2.2.1 q 0 he rfl (v := Int32.ofInt (n : Int)) (by rw [← hl]; rfl) hd kk
  · rw [ht] at he
    exact va_alen hC.1 hC.2.1 hC.2.2.2.2.2.2.2.2.2.2.1 hW.2.2.1 q 2 he rfl (v := Int32.ofInt (n : Int)) (by rw [← hl]; rfl) hd kk
theorem g_iast {q : Nat} {i a : Int} (hd : decode (m_cc mi) pc = .ok (.iastore, 1)) (hg : (m_age h q 20 i).isSome = true) (K : m_G D Y b A0 xs L l o h' mi r ls st (m_set h q i.toNat (vI a))) (hp : m_pc r = pc + 1) : m_G D Y b A0 xs L l o h' mi ((pc, .iastore) :: r) ls (vI a :: vI i :: vR q :: st) h := by
  obtain ⟨w, hw⟩ := Option.isSome_iff_exists.mp hg
  obtain ⟨h0, cl, hc, hci, hv⟩ := m_age_ok hw
  refine K.mem hp (fun h2 => h2.tail.tail.tail) (fun p e R s m args below meth c A H locs cells slots lsA Q hC hW hS h2 kk => ?_)
  have hi : m_in i := h2.tail.head
  have hlt : i.toNat < cl.2.length := (List.getElem?_eq_some_iff.mp hv).1
  have he := hW.get hc
  rw [m_ent_arr (by omega), hci] at he
  have hset : m_ent Y A b (cl.1, cl.2.set i.toNat (vI a)) = .inl (Y 20, cl.2.length, .inl (upd (fun j => Int32.ofInt (m_toI (cl.2.getD j vN))) (Int32.ofInt i).toNatClampNeg (Int32.ofInt a))) := by
    rw [m_ent_arr (by show ¬ cl.1 < 20; omega)]
    show Sum.inl (Y cl.1, m_row A cl.1 (cl.2.set i.toNat (vI a))) = _
    rw [hci, m_clamp hi]
    show Sum.inl (Y 20, (cl.2.set i.toNat (vI a)).length, Sum.inl (fun j => Int32.ofInt (m_toI ((cl.2.set i.toNat (vI a)).getD j vN)))) = _
    rw [List.length_set]
    congr 4
    funext j
    rw [m_getD_set hlt]
    unfold upd
    split <;> rfl
  refine va_iast hC.1 hC.2.1 hC.2.2.2.2.2.2.2.2.2.2.1 hW.2.2.1 hW.2.2.2 hS q 0 he rfl (m_vpin hi h0 hlt) hd (fun H1 locs1 hP1 hD1 hS1 => kk H1 locs1 (hW.put hc h2.head (by rw [hset]; exact hP1) (by rw [hset]; exact hD1)) hS1)
theorem g_zast {q : Nat} {i a : Int} (hd : decode (m_cc mi) pc = .ok (.bastore, 1)) (ha : a = 0 ∨ a = 1) (hg : (m_age h q 21 i).isSome = true) (K : m_G D Y b A0 xs L l o h' mi r ls st (m_set h q i.toNat (vI a))) (hp : m_pc r = pc + 1) : m_G D Y b A0 xs L l o h' mi ((pc, .bastore) :: r) ls (vI a :: vI i :: vR q :: st) h := by
  obtain ⟨w, hw⟩ := Option.isSome_iff_exists.mp hg
  obtain ⟨h0, cl, hc, hci, hv⟩ := m_age_ok hw
  refine K.mem hp (fun h2 => h2.tail.tail.tail) (fun p e R s m args below meth c A H locs cells slots lsA Q hC hW hS h2 kk => ?_)
  have hi : m_in i := h2.tail.head
  have hlt : i.toNat < cl.2.length := (List.getElem?_eq_some_iff.mp hv).1
  have he := hW.get hc
  rw [m_ent_arr (by omega), hci] at he
  have hnar : vp_nar .boolean (Int32.ofInt a) = Int32.ofInt a := by rcases ha with rfl | rfl <;> decide
  have hset : m_ent Y A b (cl.1, cl.2.set i.toNat (vI a)) = .inl (Y 21, cl.2.length, .inl (upd (fun j => Int32.ofInt (m_toI (cl.2.getD j vN))) (Int32.ofInt i).toNatClampNeg (vp_nar .boolean (Int32.ofInt a)))) := by
    rw [m_ent_arr (by show ¬ cl.1 < 20; omega)]
    show Sum.inl (Y cl.1, m_row A cl.1 (cl.2.set i.toNat (vI a))) = _
    rw [hci, m_clamp hi, hnar]
    show Sum.inl (Y 21, (cl.2.set i.toNat (vI a)).length, Sum.inl (fun j => Int32.ofInt (m_toI ((cl.2.set i.toNat (vI a)).getD j vN)))) = _
    rw [List.length_set]
    congr 4
    funext j
    rw [m_getD_set hlt]
    unfold upd
    split <;> rfl
  refine va_zast hC.1 hC.2.1 hC.2.2.2.2.2.2.2.2.2.2.1 hW.2.2.1 hW.2.2.2 hS q 1 he rfl (m_vpin hi h0 hlt) hd (fun H1 locs1 hP1 hD1 hS1 => kk H1 locs1 (hW.put hc h2.head (by rw [hset]; exact hP1) (by rw [hset]; exact hD1)) hS1)
theorem g_fast {q : Nat} {i : Int} {a : UInt32} (hd : decode (m_cc mi) pc = .ok (.fastore, 1)) (hg : (m_age h q 22 i).isSome = true) (K : m_G D Y b A0 xs L l o h' mi r ls st (m_set h q i.toNat (vF a))) (hp : m_pc r = pc + 1) : m_G D Y b A0 xs L l o h' mi ((pc, .fastore) :: r) ls (vF a :: vI i :: vR q :: st) h := by
  obtain ⟨w, hw⟩ := Option.isSome_iff_exists.mp hg
  obtain ⟨h0, cl, hc, hci, hv⟩ := m_age_ok hw
  refine K.mem hp (fun h2 => h2.tail.tail.tail) (fun p e R s m args below meth c A H locs cells slots lsA Q hC hW hS h2 kk => ?_)
  have hi : m_in i := h2.tail.head
  have hlt : i.toNat < cl.2.length := (List.getElem?_eq_some_iff.mp hv).1
  have he := hW.get hc
  rw [m_ent_arr (by omega), hci] at he
  have hset : m_ent Y A b (cl.1, cl.2.set i.toNat (vF a)) = .inl (Y 22, cl.2.length, .inr (.inr (.inl (vf_upd (fun j => m_toF (cl.2.getD j vN)) (Int32.ofInt i).toNatClampNeg a)))) := by
    rw [m_ent_arr (by show ¬ cl.1 < 20; omega)]
    show Sum.inl (Y cl.1, m_row A cl.1 (cl.2.set i.toNat (vF a))) = _
    rw [hci, m_clamp hi]
    show Sum.inl (Y 22, (cl.2.set i.toNat (vF a)).length, Sum.inr (Sum.inr (Sum.inl (fun j => m_toF ((cl.2.set i.toNat (vF a)).getD j vN))))) = _
    rw [List.length_set]
    congr 6
    funext j
    rw [m_getD_set hlt]
    unfold vf_upd
    split <;> rfl
  refine va_fast hC.1 hC.2.1 hC.2.2.2.2.2.2.2.2.2.2.1 hW.2.2.1 hW.2.2.2 hS q 2 he rfl (m_vpin hi h0 hlt) hd (fun H1 locs1 hP1 hD1 hS1 => kk H1 locs1 (hW.put hc h2.head (by rw [hset]; exact hP1) (by rw [hset]; exact hD1)) hS1)
theorem g_last {q : Nat} {i : Int} {a : Int64} (hd : decode (m_cc mi) pc = .ok (.lastore, 1)) (hg : (m_age h q 23 i).isSome = true) (K : m_G D Y b A0 xs L l o h' mi r ls st (m_set h q i.toNat (vL a))) (hp : m_pc r = pc + 1) : m_G D Y b A0 xs L l o h' mi ((pc, .lastore) :: r) ls (vL a :: vI i :: vR q :: st) h := by
  obtain ⟨w, hw⟩ := Option.isSome_iff_exists.mp hg
  obtain ⟨h0, cl, hc, hci, hv⟩ := m_age_ok hw
  refine K.mem hp (fun h2 => h2.tail.tail.tail) (fun p e R s m args below meth c A H locs cells slots lsA Q hC hW hS h2 kk => ?_)
  have hi : m_in i := h2.tail.head
  have hlt : i.toNat < cl.2.length := (List.getElem?_eq_some_iff.mp hv).1
  have he := hW.get hc
  rw [m_ent_arr (by omega), hci] at he
  have hset : m_ent Y A b (cl.1, cl.2.set i.toNat (vL a)) = .inl (Y 23, cl.2.length, .inr (.inl (vp_updL (fun j => m_toL (cl.2.getD j vN)) (Int32.ofInt i).toNatClampNeg a))) := by
    rw [m_ent_arr (by show ¬ cl.1 < 20; omega)]
    show Sum.inl (Y cl.1, m_row A cl.1 (cl.2.set i.toNat (vL a))) = _
    rw [hci, m_clamp hi]
    show Sum.inl (Y 23, (cl.2.set i.toNat (vL a)).length, Sum.inr (Sum.inl (fun j => m_toL ((cl.2.set i.toNat (vL a)).getD j vN)))) = _
    rw [List.length_set]
    congr 5
    funext j
    rw [m_getD_set hlt]
    unfold vp_updL
    split <;> rfl
  refine va_last hC.1 hC.2.1 hC.2.2.2.2.2.2.2.2.2.2.1 hW.2.2.1 hW.2.2.2 hS q 3 he rfl (m_vpin hi h0 hlt) hd (fun H1 locs1 hP1 hD1 hS1 => kk H1 locs1 (hW.put hc h2.head (by rw [hset]; exact hP1) (by rw [hset]; exact hD1)) hS1)
theorem g_dast {q : Nat} {i : Int} {a : UInt64} (hd : decode (m_cc mi) pc = .ok (.dastore, 1)) (hg : (m_age h q 24 i).isSome = true) (K : m_G D Y b A0 xs L l o h' mi r ls st (m_set h q i.toNat (vD a))) (hp : m_pc r = pc + 1) : m_G D Y b A0 xs L l o h' mi ((pc, .dastore) :: r) ls (vD a :: vI i :: vR q :: st) h := by
  obtain ⟨w, hw⟩ := Option.isSome_iff_exists.mp hg
  obtain ⟨h0, cl, hc, hci, hv⟩ := m_age_ok hw
  refine K.mem hp (fun h2 => h2.tail.tail.tail) (fun p e R s m args below meth c A H locs cells slots lsA Q hC hW hS h2 kk => ?_)
  have hi : m_in i := h2.tail.head
  have hlt : i.toNat < cl.2.length := (List.getElem?_eq_some_iff.mp hv).1
  have he := hW.get hc
  rw [m_ent_arr (by omega), hci] at he
  have hset : m_ent Y A b (cl.1, cl.2.set i.toNat (vD a)) = .inl (Y 24, cl.2.length, .inr (.inr (.inr (.inl (vf_upd (fun j => m_toD (cl.2.getD j vN)) (Int32.ofInt i).toNatClampNeg a))))) := by
    rw [m_ent_arr (by show ¬ cl.1 < 20; omega)]
    show Sum.inl (Y cl.1, m_row A cl.1 (cl.2.set i.toNat (vD a))) = _
    rw [hci, m_clamp hi]
    show Sum.inl (Y 24, (cl.2.set i.toNat (vD a)).length, Sum.inr (Sum.inr (Sum.inr (Sum.inl (fun j => m_toD ((cl.2.set i.toNat (vD a)).getD j vN)))))) = _
    rw [List.length_set]
    congr 7
    funext j
    rw [m_getD_set hlt]
    unfold vf_upd
    split <;> rfl
  refine va_dast hC.1 hC.2.1 hC.2.2.2.2.2.2.2.2.2.2.1 hW.2.2.1 hW.2.2.2 hS q 4 he rfl (m_vpin hi h0 hlt) hd (fun H1 locs1 hP1 hD1 hS1 => kk H1 locs1 (hW.put hc h2.head (by rw [hset]; exact hP1) (by rw [hset]; exact hD1)) hS1)
theorem g_aast {q z t : Nat} {i : Int} (hd : decode (m_cc mi) pc = .ok (.aastore, 1)) (ht : m_tag h z = some t) (hoa : m_oa t = true) (hg : (m_age h q (30 + t) i).isSome = true) (K : m_G D Y b A0 xs L l o h' mi r ls st (m_set h q i.toNat (vR z))) (hp : m_pc r = pc + 1) : m_G D Y b A0 xs L l o h' mi ((pc, .aastore) :: r) ls (vR z :: vI i :: vR q :: st) h := by
  obtain ⟨w, hw⟩ := Option.isSome_iff_exists.mp hg
  obtain ⟨h0, cl, hc, hci, hv⟩ := m_age_ok hw
  have hz : ∃ c, h.1[z]? = some c ∧ c.1 = t := by
    unfold m_tag at ht
    split at ht
    · rename_i c hc
      cases ht
      exact ⟨c, hc, rfl⟩
    · cases ht
  obtain ⟨cz, hcz, hczt⟩ := hz
  refine K.mem hp (fun h2 => h2.tail.tail.tail) (fun p e R s m args below meth c A H locs cells slots lsA Q hC hW hS h2 kk => ?_)
  have hi : m_in i := h2.tail.head
  obtain ⟨t0, C, T, N, ht0, hcl, -⟩ := m_oa_ty (Y := Y) hoa
  have ht11 := (m_cls hcl).1
  have hlt : i.toNat < cl.2.length := (List.getElem?_eq_some_iff.mp hv).1
  have he := hW.get hc
  rw [m_ent_arr (by omega), hci, m_row_q (by omega)] at he
  have hez := hW.get hcz
  rw [m_ent_obj (by omega), hczt] at hez
  have hset : m_ent Y A b (cl.1, cl.2.set i.toNat (vR z)) = .inl (Y (30 + t), cl.2.length, .inr (.inr (.inr (.inr (va_up (fun j => m_toR A (cl.2.getD j vN)) (Int32.ofInt i).toNatClampNeg (some (A.getD z 0))))))) := by
    rw [m_ent_arr (by show ¬ cl.1 < 20; omega)]
    show Sum.inl (Y cl.1, m_row A cl.1 (cl.2.set i.toNat (vR z))) = _
    rw [hci, m_clamp hi, m_row_q (by omega), List.length_set]
    congr 7
    funext j
    rw [m_getD_set hlt]
    unfold va_up
    split <;> rfl
  refine va_astq (r := (C, T, N)) hC.1 hC.2.1 hC.2.2.2.2.2.2.2.2.2.2.1 hW.2.2.1 hW.2.2.2 hS q t0 z t he ht0 hez hcl (m_vpin hi h0 hlt) hd (fun H1 locs1 hP1 hD1 hS1 => kk H1 locs1 (hW.put hc h2.head (by rw [hset]; exact hP1) (by rw [hset]; exact hD1)) hS1)
theorem m_rep {n : Nat} {v : MV} (j : Nat) : (List.replicate n v).getD j vN = v ∨ (List.replicate n v).getD j vN = vN := by
  rw [List.getD_eq_getElem?_getD, List.getElem?_replicate]
  split
  · exact Or.inl rfl
  · exact Or.inr rfl
theorem m_okL.rep {n k : Nat} {v : MV} (hv : m_okV n v) : m_okL n (List.replicate k v) := fun w hw => by rw [(List.mem_replicate.mp hw).2]; exact hv
/-- a new array of numbers: its kind, its class by the tables, its zero -/
theorem g_newarr {tag t0 : Nat} {at0 : ArrayType} {ty : FieldType} {v : MV} {n : Int} (hd : decode (m_cc mi) pc = .ok (.newarray at0, 2)) (hty : newarray.typeOf at0 = ty) (htag : 20 ≤ tag ∧ tag < 30) (hov : ∀ k : Nat, m_okV k v) (haw : Cond.arrayClass ty ∈ lw_good) (ht0 : (m_tys Y)[t0]? = some (Y tag, ty)) (hra : ∀ (U : State) (c : ClassId), va_RA U c ty → U.vm.findClass ("[" ++ ty.toString) = some c) (hcb : componentBytes ty ≤ 8)
    (hz : ∀ (cA : ClassId) (A : List Nat), vp_cell cA (m_row A tag (List.replicate n.toNat v)) = arrV cA n.toNat (fun _ => defaultValue ty)) (hn : 0 ≤ n ∧ n ≤ 1000) (K : m_G D Y b A0 xs L l o h' mi r ls (vR h.1.length :: st) (m_push h tag (List.replicate n.toNat v))) (hp : m_pc r = pc + 2) : m_G D Y b A0 xs L l o h' mi ((pc, .newarray at0) :: r) ls (vI n :: st) h := by
  refine K.new hp (fun h2 => h2.tail) (fun p e R s m args below meth c A H locs cells slots lsA Q hC hW hS h2 hc1 hc2 kk => ?_)
  have hi : m_in n := ⟨by omega, by omega⟩
  have hsz : (List.replicate n.toNat v).length = n.toNat := List.length_replicate
  rw [hsz] at hc2 kk
  obtain ⟨g1, g2, g3, g4, g5, -, -, -, -, -, gK, -, gA, -, -⟩ := hC
  subst hty
  refine va_newa (atype := at0) g1 g2 (g5 _ haw) rfl gK hW.2.2.1 hW.2.2.2 hS gA (a0 := m_row A tag (List.replicate n.toNat v)) (fun cA => hz cA A) (fun z => ?_) (m_clamp hi) ?_ hc1 hc2 hd (fun q cA H1 hK1 hP1 hD1 hS1 => ?_)
  · rw [m_z0, m_ilt hi m_in0] at z
    omega
  · have : n.toNat ≤ 1000 := by omega
    calc n.toNat * componentBytes (newarray.typeOf at0) ≤ 1000 * 8 := Nat.mul_le_mul this hcb
      _ ≤ 536870912 := by decide
  · have e1 := hra s cA (hK1.2 (m_tys Y).length (cA, newarray.typeOf at0) (by rw [List.getElem?_append_right (Nat.le_refl _), Nat.sub_self]; rfl)).2
    have e2 := hra s (Y tag) (gK.2 t0 _ ht0).2
    have e3 : cA = Y tag := Option.some.inj (e1.symm.trans e2)
    subst e3
    have e4 : m_ent Y A b (tag, List.replicate n.toNat v) = .inl (Y tag, m_row A tag (List.replicate n.toNat v)) := m_ent_arr (by show ¬ tag < 20; omega)
    refine kk q H1 (m_W.push hW.1 hW.2.1 (m_okL.rep (hov _)) ?_ ?_) hS1
    · rw [e4]; exact hP1
    · rw [e4]; exact hD1
theorem g_newi {n : Int} (hd : decode (m_cc mi) pc = .ok (.newarray .int, 2)) (hn : 0 ≤ n ∧ n ≤ 1000) (K : m_G D Y b A0 xs L l o h' mi r ls (vR h.1.length :: st) (m_push h 20 (List.replicate n.toNat (vI 0)))) (hp : m_pc r = pc + 2) : m_G D Y b A0 xs L l o h' mi ((pc, .newarray .int) :: r) ls (vI n :: st) h :=
  g_newarr (v := vI 0) (t0 := 0) (ty := .int) hd rfl (by decide) (fun _ => m_in0) aw_int rfl (fun _ _ h => h) (by decide) (fun cA A => by
    show arrV cA (List.replicate n.toNat (vI 0)).length (fun j => Value.int (Int32.ofInt (m_toI ((List.replicate n.toNat (vI 0)).getD j vN)))) = _
    rw [List.length_replicate]
    congr 1
    funext j
    rcases m_rep (n := n.toNat) (v := vI 0) j with h | h <;> rw [h] <;> rfl) hn K hp
theorem g_newz {n : Int} (hd : decode (m_cc mi) pc = .ok (.newarray .boolean, 2)) (hn : 0 ≤ n ∧ n ≤ 1000) (K : m_G D Y b A0 xs L l o h' mi r ls (vR h.1.length :: st) (m_push h 21 (List.replicate n.toNat (vI 0)))) (hp : m_pc r = pc + 2) : m_G D Y b A0 xs L l o h' mi ((pc, .newarray .boolean) :: r) ls (vI n :: st) h :=
  g_newarr (v := vI 0) (t0 := 1) (ty := .boolean) hd rfl (by decide) (fun _ => m_in0) aw_boolean rfl (fun _ _ h => h) (by decide) (fun cA A => by
    show arrV cA (List.replicate n.toNat (vI 0)).length (fun j => Value.int (Int32.ofInt (m_toI ((List.replicate n.toNat (vI 0)).getD j vN)))) = _
    rw [List.length_replicate]
    congr 1
    funext j
    rcases m_rep (n := n.toNat) (v := vI 0) j with h | h <;> rw [h] <;> rfl) hn K hp
theorem g_newf {n : Int} (hd : decode (m_cc mi) pc = .ok (.newarray .float, 2)) (hn : 0 ≤ n ∧ n ≤ 1000) (K : m_G D Y b A0 xs L l o h' mi r ls (vR h.1.length :: st) (m_push h 22 (List.replicate n.toNat (vF 0)))) (hp : m_pc r = pc + 2) : m_G D Y b A0 xs L l o h' mi ((pc, .newarray .float) :: r) ls (vI n :: st) h :=
  g_newarr (v := vF 0) (t0 := 2) (ty := .float) hd rfl (by decide) (fun _ => trivial) aw_float rfl (fun _ _ h => h) (by decide) (fun cA A => by
    show arrV cA (List.replicate n.toNat (vF 0)).length (fun j => Value.float (m_toF ((List.replicate n.toNat (vF 0)).getD j vN))) = _
    rw [List.length_replicate]
    congr 1
    funext j
    rcases m_rep (n := n.toNat) (v := vF 0) j with h | h <;> rw [h] <;> rfl) hn K hp
theorem g_newl {n : Int} (hd : decode (m_cc mi) pc = .ok (.newarray .long, 2)) (hn : 0 ≤ n ∧ n ≤ 1000) (K : m_G D Y b A0 xs L l o h' mi r ls (vR h.1.length :: st) (m_push h 23 (List.replicate n.toNat (vL 0)))) (hp : m_pc r = pc + 2) : m_G D Y b A0 xs L l o h' mi ((pc, .newarray .long) :: r) ls (vI n :: st) h :=
  g_newarr (v := vL 0) (t0 := 3) (ty := .long) hd rfl (by decide) (fun _ => trivial) aw_long rfl (fun _ _ h => h) (by decide) (fun cA A => by
    show arrV cA (List.replicate n.toNat (vL 0)).length (fun j => Value.long (m_toL ((List.replicate n.toNat (vL 0)).getD j vN))) = _
    rw [List.length_replicate]
    congr 1
    funext j
    rcases m_rep (n := n.toNat) (v := vL 0) j with h | h <;> rw [h] <;> rfl) hn K hp
theorem g_newd {n : Int} (hd : decode (m_cc mi) pc = .ok (.newarray .double, 2)) (hn : 0 ≤ n ∧ n ≤ 1000) (K : m_G D Y b A0 xs L l o h' mi r ls (vR h.1.length :: st) (m_push h 24 (List.replicate n.toNat (vD 0)))) (hp : m_pc r = pc + 2) : m_G D Y b A0 xs L l o h' mi ((pc, .newarray .double) :: r) ls (vI n :: st) h :=
  g_newarr (v := vD 0) (t0 := 4) (ty := .double) hd rfl (by decide) (fun _ => trivial) aw_double rfl (fun _ _ h => h) (by decide) (fun cA A => by
    show arrV cA (List.replicate n.toNat (vD 0)).length (fun j => Value.double (m_toD ((List.replicate n.toNat (vD 0)).getD j vN))) = _
    rw [List.length_replicate]
    congr 1
    funext j
    rcases m_rep (n := n.toNat) (v := vD 0) j with h | h <;> rw [h] <;> rfl) hn K hp
theorem g_newq {k ci : Nat} {n : Int} (hd : decode (m_cc mi) pc = .ok (.anewarray k, 3)) (hk : kR (m_own mi) k = some (0, ci)) (hoa : m_oa ci = true) (hn : 0 ≤ n ∧ n ≤ 1000) (K : m_G D Y b A0 xs L l o h' mi r ls (vR h.1.length :: st) (m_push h (30 + ci) (List.replicate n.toNat vN))) (hp : m_pc r = pc + 3) : m_G D Y b A0 xs L l o h' mi ((pc, .anewarray k) :: r) ls (vI n :: st) h := by
  refine K.new hp (fun h2 => h2.tail) (fun p e R s m args below meth c A H locs cells slots lsA Q hC hW hS h2 hc1 hc2 kk => ?_)
  have hi : m_in n := ⟨by omega, by omega⟩
  have hsz : (List.replicate n.toNat vN).length = n.toNat := List.length_replicate
  rw [hsz] at hc2 kk
  obtain ⟨g1, g2, g3, g4, g5, -, -, -, -, -, gK, gX, gA, -, -⟩ := hC
  obtain ⟨t0, C, T, N, ht0, hcl, hao⟩ := m_oa_ty (Y := Y) hoa
  obtain ⟨i1, hi1⟩ := m_kcs (m_own mi) _ (m_lookup hk)
  have hcl2 : Cond.classLink (m_cn (m_own mi)) k C ∈ lw_good := by
    simp only [m_kc] at hi1
    rw [hcl] at hi1
    exact m_pg_ok hi1
  refine va_newq g1 g2 g4 (g5 _ hcl2) (gX.2.2.2.1 _ hao) gK hW.2.2.1 hW.2.2.2 hS gA (fun z => ?_) (m_clamp hi) (by omega) hc1 hc2 hd (fun q cA H1 hK1 hP1 hD1 hS1 => ?_)
  · rw [m_z0, m_ilt hi m_in0] at z
    omega
  · obtain ⟨-, -, -, -, -, e1⟩ := (hK1.2 (m_tys Y).length (cA, .object C) (by rw [List.getElem?_append_right (Nat.le_refl _), Nat.sub_self]; rfl)).2
    obtain ⟨-, -, -, -, -, e2⟩ := (gK.2 t0 _ ht0).2
    have e3 : cA = Y (30 + ci) := Option.some.inj (e1.symm.trans e2)
    subst e3
    have e4 : m_ent Y A b (30 + ci, List.replicate n.toNat vN) = .inl (Y (30 + ci), n.toNat, .inr (.inr (.inr (.inr (fun _ => none))))) := by
      rw [m_ent_arr (by show ¬ 30 + ci < 20; omega)]
      show Sum.inl (Y (30 + ci), m_row A (30 + ci) (List.replicate n.toNat vN)) = _
      rw [m_row_q (by omega), List.length_replicate]
      congr 7
      funext j
      rcases m_rep (n := n.toNat) (v := vN) j with h | h <;> rw [h] <;> rfl
    refine kk q H1 (m_W.push hW.1 hW.2.1 (m_okL.rep trivial) ?_ ?_) hS1
    · rw [e4]; exact hP1
    · rw [e4]; exact hD1
theorem g_new {k ci : Nat} (hd : decode (m_cc mi) pc = .ok (.new k, 3)) (hk : kR (m_own mi) k = some (0, ci)) (K : m_G D Y b A0 xs L l o h' mi r ls (vR h.1.length :: st) (m_push h ci (tD.getD ci []))) (hp : m_pc r = pc + 3) : m_G D Y b A0 xs L l o h' mi ((pc, .new k) :: r) ls st h := by
  obtain ⟨i1, hi1⟩ := m_kcs (m_own mi) _ (m_lookup hk)
  have hx : ∃ q, vwCl[ci]? = some q ∧ Cond.classLink (m_cn (m_own mi)) k q.1 ∈ lw_good := by
    simp only [m_kc] at hi1
    split at hi1
    · rename_i q hq
      exact ⟨q, hq, m_pg_ok hi1⟩
    · cases hi1
  obtain ⟨⟨C, T, N⟩, hcl, hcl2⟩ := hx
  obtain ⟨hci, huw, hins, hini, ty0, hty0, hnm, hlen, hdef⟩ := m_cls hcl
  refine K.new hp (fun h2 => h2) (fun p e R s m args below meth c A H locs cells slots lsA Q hC hW hS h2 hc1 hc2 kk => ?_)
  rw [hlen] at hc2 kk
  obtain ⟨g1, g2, g3, g4, g5, -, -, -, -, -, gK, gX, gA, -, -⟩ := hC
  refine va_new (D := D) (C := C) (T := T) (N := N) (ci := ci) (fs := (tD.getD ci []).map (m_val A b)) g1 g2 g5 huw ty0 hty0 g4 (g5 _ hcl2) (g5 _ hins) (g5 _ hini) gK hW.2.2.1 hW.2.2.2 hS gA hcl (fun j hj => hdef j hj A b) hc1 hc2 hd (fun q H1 hP1 hD1 hS1 => ?_)
  have e4 : m_ent Y A b (ci, tD.getD ci []) = .inr (ci, (tD.getD ci []).map (m_val A b)) := m_ent_obj (by show ci < 20; omega)
  have hok : m_okL h.1.length (tD.getD ci []) := by
    intro v hv
    have h9 : ∀ c : Nat, c < 11 → (tD.getD c []).all (fun v => match v with
      | .inl a => decide (a = 0)
      | .inr (.inl none) => true
      | _ => false) = true := by decide
    have h10 := List.all_eq_true.mp (h9 ci hci) v hv
    rcases v with a | (_ | z) | x | x | x | x
    · have : a = 0 := by simpa using h10
      subst this
      exact m_in0
    · exact trivial
    · simp at h10
    · exact trivial
    · exact trivial
    · exact trivial
    · exact trivial
  refine kk q H1 (m_W.push hW.1 hW.2.1 hok ?_ ?_) hS1
  · rw [e4]; exact hP1
  · rw [e4]; exact hD1
theorem g_ldc {k : Nat} {v : MV} (hd : decode (m_cc mi) pc = .ok (.ldc k, 2)) (hk : lR (m_own mi) k = some v) (K : m_G D Y b A0 xs L l o h' mi r ls (v :: st) h) (hp : m_pc r = pc + 2) : m_G D Y b A0 xs L l o h' mi ((pc, .ldc k) :: r) ls st h := by
  obtain ⟨i1, hi1⟩ := m_lcs (m_own mi) _ (m_lookup hk)
  rcases v with a | (_ | q) | x | x | x | x
  · simp only [m_lc, Bool.and_eq_true, decide_eq_true_eq] at hi1
    exact K.stk hp (fun _ h2 _ => m_okL.cons (show m_in a from hi1.2) h2) (fun p e R s m args below meth c A H locs cells slots lsA Q hC _ _ _ _ _ _ _ kk => lv_ldc hC.1 hC.2.1 hC.2.2.2.1 (hC.2.2.2.2.1 _ (m_pg_ok hi1.1)) hd kk)
  · cases hi1
  · cases hi1
  · exact K.stk hp (fun _ h2 _ => m_okL.cons trivial h2) (fun p e R s m args below meth c A H locs cells slots lsA Q hC _ _ _ _ _ _ _ kk => lv_ldcf hC.1 hC.2.1 hC.2.2.2.1 (hC.2.2.2.2.1 _ (m_pg_ok hi1)) hd kk)
  · cases hi1
  · cases hi1
  · cases hi1
theorem lv_ldcwf {p : Program} {l : Launch} {e : Env} {R : Room} {s : State} {m : MethodId} {args : Array Value} {below : List Frame} {meth : Method} {c : Code} {H : Heap} {locs : List Loc} {cells slots : Nat} {Q : State → Prop} {cc : ByteArray} {pc : Nat} {ls : Array Slot} {rest : List Value} (hexec : p.tables.exec = Jvm.exec) (hb : c.code = cc) {own : String} {index : Nat} {v : UInt32} (hown : s.vm.findClass own = some m.cls) (hconst : (Jvm.Cond.constantFloat own index v).before args s = true) (hdg : decode cc pc = .ok (.ldc_w index, 3)) (k : W p l e R s m args below meth c H locs cells slots Q (F0 m (pc + 3) ls (.float v :: rest))) : W p l e R s m args below meth c H locs cells slots Q (F0 m pc ls rest) := by
  intro T hT X
  obtain ⟨t, a, b⟩ := k T hT X
  refine ⟨t, ?_, b⟩
  obtain ⟨k, cf, hk, hcf, hcp⟩ := Cond.constantFloat_spec hown hconst
  obtain ⟨k', hk', he⟩ := X.warmed.alike.2.2 _ _ hk
  jvm_step X.here [X.here.top, hexec, hb, hdg, ldc_w.wp_float (s := T) (f := F0 m pc ls rest) X.here.top hk' (by rw [he]; exact hcf) hcp]
  exact a
theorem g_ldcw {k : Nat} {v : MV} (hd : decode (m_cc mi) pc = .ok (.ldc_w k, 3)) (hk : lR (m_own mi) k = some v) (K : m_G D Y b A0 xs L l o h' mi r ls (v :: st) h) (hp : m_pc r = pc + 3) : m_G D Y b A0 xs L l o h' mi ((pc, .ldc_w k) :: r) ls st h := by
  obtain ⟨i1, hi1⟩ := m_lcs (m_own mi) _ (m_lookup hk)
  rcases v with a | (_ | q) | x | x | x | x
  · simp only [m_lc, Bool.and_eq_true, decide_eq_true_eq] at hi1
    exact K.stk hp (fun _ h2 _ => m_okL.cons (show m_in a from hi1.2) h2) (fun p e R s m args below meth c A H locs cells slots lsA Q hC _ _ _ _ _ _ _ kk => lv_ldcw hC.1 hC.2.1 hC.2.2.2.1 (hC.2.2.2.2.1 _ (m_pg_ok hi1.1)) hd kk)
  · cases hi1
  · cases hi1
  · exact K.stk hp (fun _ h2 _ => m_okL.cons trivial h2) (fun p e R s m args below meth c A H locs cells slots lsA Q hC _ _ _ _ _ _ _ kk => lv_ldcwf hC.1 hC.2.1 hC.2.2.2.1 (hC.2.2.2.2.1 _ (m_pg_ok hi1)) hd kk)
  · cases hi1
  · cases hi1
  · cases hi1
end G
end
section
/-! ===== a run of the small machine is a contract; calls, throws, handlers ===== -/
theorem m_pc0 : ∀ mi, mi < 178 → m_pc (m_code mi) = 0 := by decide +kernel
theorem m_hd0 : ∀ mi, mi < 178 → (m_hand mi).all (fun q => decide (kR (m_own mi) q.2.2.2.1 = some (1, q.2.2.2.2)) && decide (q.2.2.2.1 ≠ 0) && decide (q.2.2.2.2 < 3)) = true := by decide +kernel
theorem m_run_nil (xs : Nat → Int32) (L mi : Nat) (ls st : List MV) (h : MHp) : ∀ n, m_run xs L n mi ([], ls, st, h) = none
  | 0 => rfl
  | n + 1 => rfl
section G
variable {D : va_G} {Y : Nat → ClassId} {b : Nat} {A0 : Nat → Prop} {xs : Nat → Int32} {L : Nat} {l : Launch}
def m_SND (D : va_G) (Y : Nat → ClassId) (b : Nat) (A0 : Nat → Prop) (xs : Nat → Int32) (L : Nat) (l : Launch) (n : Nat) : Prop := ∀ (mi : Nat) (cd : MCode) (ls st : List MV) (h h' : MHp) (o : MOut), m_run xs L n mi (cd, ls, st, h) = some (o, h') → mi < 178 → m_vl mi cd → ls.length = m_maxL mi → m_G D Y b A0 xs L l o h' mi cd ls st h
def m_Pc (D : va_G) (Y : Nat → ClassId) (b : Nat) (A0 : Nat → Prop) (xs : Nat → Int32) (L : Nat) (av : List MV) (h : MHp) (A : List Nat) : Array Value → State → Prop := va_Pc (av.map (m_val A b)) (fun U => m_W D Y b A0 A h U.heap ∧ va_K D vwCl (m_tys Y) U ∧ m_X xs L b A0 U U.heap ∧ ∀ q : Nat, U.heap.size ≤ q → A0 q)
def m_Qc (D : va_G) (Y : Nat → ClassId) (b : Nat) (A0 : Nat → Prop) (A : List Nat) (o : MOut) (h' : MHp) : Array Value → State → Outcome → State → Prop := fun _ st oc t => ∃ (v : Option MV) (X : List Nat), o = .inl v ∧ oc = .returned (v.map (m_val (A ++ X) b)) ∧ (∀ w, v = some w → m_okV h'.1.length w) ∧ m_W D Y b A0 (A ++ X) h' t.heap ∧ va_F A0 st t
def m_XC (D : va_G) (Y : Nat → ClassId) (b : Nat) (A0 : Nat → Prop) (A : List Nat) (o : MOut) (h' : MHp) : String → State → State → Prop := fun E st t => ∃ (k : Nat) (X : List Nat), o = .inr k ∧ E = eN k ∧ m_W D Y b A0 (A ++ X) h' t.heap ∧ va_F A0 st t
theorem m_Pc_blind {av : List MV} {h : MHp} {A : List Nat} : FrameBlind (m_Pc D Y b A0 xs L av h A) := by
  intro a U g mk hp
  obtain ⟨h1, h2, h3, h4, h5⟩ := hp
  exact ⟨h1, h2, va_K.moved (u := U) (U := U.calling g mk a) (Vm.Alike.refl U.vm) h3, h4.call, h5⟩
theorem m_met {n mj : Nat} {av : List MV} {h h' : MHp} {o : MOut} {A : List Nat} (hS : m_SND D Y b A0 xs L l n) (hrun : m_run xs L n mj (m_entry mj av h) = some (o, h')) (hmj : mj < 177) (hcat : ∀ v ∈ av, m_cat v = 1) (hav : av.length ≤ m_maxL mj) (hok : m_okL h.1.length av) (hl : l.stackTraces = false) :
    vx_Met l (m_y mj) (m_cw mj :: lw_good) ({ frames := m_frs mj, cells := h'.2.1 - h.2.1, slots := h'.2.2 - h.2.2, locals := m_loc mj }) (m_Pc D Y b A0 xs L av h A) (m_Qc D Y b A0 A o h') (m_XC D Y b A0 A o h') (h'.2.1 - h.2.1) (h'.2.2 - h.2.2) A0 := by
  obtain ⟨ps, hps⟩ := m_mcs hmj
  simp only [m_mchk, Bool.and_eq_true, decide_eq_true_eq] at hps
  obtain ⟨⟨⟨⟨⟨⟨⟨hcode, hkind⟩, hini⟩, hcls⟩, hmh⟩, hvh⟩, hdesc⟩, hplain⟩ := hps
  have hG := hS mj (m_code mj) (av ++ List.replicate (m_maxL mj - av.length) vU) [] h h' o hrun (by omega) (m_vlc (by omega)) (by simp; omega)
  have body : ∀ (p : Program) (e : Env) (s : State) (m : MethodId) (args : Array Value) (below : List Frame) (meth : Method) (c : Code) (s₁ : State), BodyLoose p l (m_y mj) (headSpec (m_cw mj :: lw_good) ({ frames := m_frs mj, cells := h'.2.1 - h.2.1, slots := h'.2.2 - h.2.2, locals := m_loc mj })) (m_cc mj) (m_maxL mj) (m_ret mj) e s m args below meth c s₁ → c.maxLocals = m_maxL mj → c.exceptionTable.toList = tableOf (m_h4 mj) → m_Pc D Y b A0 xs L av h A args s →
      W p l e ({ frames := m_frs mj, cells := h'.2.1 - h.2.1, slots := h'.2.2 - h.2.2, locals := m_loc mj }) s m args below meth c s.heap [] 0 0 (vx_MQ below (m_Qc D Y b A0 A o h') (m_XC D Y b A0 A o h') args s (h'.2.1 - h.2.1) (h'.2.2 - h.2.2) A0) (entryFrame m args (m_maxL mj)) := by
    intro p e s m args below meth c s₁ B hml htab hv
    obtain ⟨rfl, hW, hK, hX, hA⟩ := hv
    have hts := atoms_spec (ws := m_cw mj :: lw_good) B.pre
    have hC : m_C D Y b A0 xs L p l ({ frames := m_frs mj, cells := h'.2.1 - h.2.1, slots := h'.2.2 - h.2.2, locals := m_loc mj }) s m (av.map (m_val A b)).toArray meth c mj :=
      ⟨B.exec, B.bytes, hml, by rw [← hcls]; exact findClass_of_methodNamed B.named, fun w hw => hts w (List.mem_cons_of_mem _ hw), B.notSynchronized, B.returns, fun _ => htab, fun _ => (name_of_methodNamed B.named B.method).1, hl, hK, hX, hA, Nat.le_refl _, Nat.le_refl _⟩
    have hAl : A.length = h.1.length := hW.1
    have hL := m_L.entry (A := A) (b := b) hcat hav
    rw [lg_entry_eq]
    generalize (lg_sl (av.map (m_val A b)) ++ List.replicate (m_maxL mj - (lg_sl (av.map (m_val A b))).length) Slot.unset).toArray = lsA at hL ⊢
    have hT : m_ST D Y b A0 ({ frames := m_frs mj, cells := h'.2.1 - h.2.1, slots := h'.2.2 - h.2.2, locals := m_loc mj }) s mj h' (av ++ List.replicate (m_maxL mj - av.length) vU) [] h A s.heap [] h.2.1 h.2.2 lsA := by
      refine ⟨Nat.le_refl _, Nat.le_refl _, hW, va_S.rf, fun v hv => ?_, fun v hv => (by cases hv), hL, by simp; omega, Nat.le_refl _, Nat.le_refl _⟩
      rcases List.mem_append.mp hv with h1 | h1
      · exact hok v h1
      · rw [(List.mem_replicate.mp h1).2]; trivial
    have k := hG.2.2 p e _ s m _ below meth c hC A s.heap [] h.2.1 h.2.2 lsA (vx_MQ below (m_Qc D Y b A0 A o h') (m_XC D Y b A0 A o h') (av.map (m_val A b)).toArray s (h'.2.1 - h.2.1) (h'.2.2 - h.2.2) A0) hT ?_
    · rw [Nat.sub_self, Nat.sub_self, m_pc0 mj (by omega)] at k
      exact k
    · refine ⟨fun v hv X H' locs' pc' lsA' w1 w2 w3 w4 => ?_, fun E hE => ⟨hmj, _, _, _, _, rfl, Nat.le_refl _, Nat.le_refl _, fun X t w1 w2 w3 => ⟨E, X, hE, rfl, w1, w3⟩⟩⟩
      refine vx_ret ?_
      rcases w4 with ⟨a, rfl, ht, hd⟩ | ⟨x, rfl, ht, hd⟩ | ⟨q, nn, rfl, ht, hd⟩ | ⟨rfl, ht, hd⟩
      · rcases ht with ht | ⟨ht, ha⟩
        · exact W.iret (v := Int32.ofInt a) B.exec B.bytes (by rw [B.returns]; exact ht) (fun t h1 h2 => ⟨some (vI a), X, hv, rfl, w3, by rw [h1]; exact w1, w2.F h1⟩) w2.2.2 hd B.notSynchronized
        · exact W.zret (v := Int32.ofInt a) (ty := .boolean) B.exec B.bytes (by rw [B.returns]; exact ht) (by rcases ha with rfl | rfl <;> rfl) (fun t h1 h2 => ⟨some (vI a), X, hv, rfl, w3, by rw [h1]; exact w1, w2.F h1⟩) w2.2.2 hd B.notSynchronized
      · exact W.fret (v := x) B.exec B.bytes (by rw [B.returns]; exact ht) (fun t h1 h2 => ⟨some (vF x), X, hv, rfl, w3, by rw [h1]; exact w1, w2.F h1⟩) w2.2.2 hd B.notSynchronized
      · exact W.aret (v := .ref ((A ++ X).getD q 0)) (rt := .object nn) B.exec B.bytes (by rw [B.returns]; exact ht) (Or.inl ⟨nn, rfl⟩) (Or.inr ⟨_, rfl⟩) (fun t h1 h2 => ⟨some (vR q), X, hv, rfl, w3, by rw [h1]; exact w1, w2.F h1⟩) w2.2.2 hd B.notSynchronized
      · exact W.vret B.exec B.bytes (by rw [B.returns]; exact ht) (fun t h1 h2 => ⟨none, X, hv, rfl, w3, by rw [h1]; exact w1, w2.F h1⟩) w2.2.2 hd B.notSynchronized
  by_cases hh : m_hand mj = []
  · refine vx_ofW (cc := m_cc mj) (maxL := m_maxL mj) (ret := m_ret mj) (ws' := lw_good) hplain (by rw [m_cw, if_pos hh]) ?_
    intro p e s m args below meth c s₁ B hml htab hv
    refine body p e s m args below meth c s₁ B hml ?_ hv
    rw [m_h4, hh]
    cases hx : c.exceptionTable.toList with
    | nil => rfl
    | cons x t => exact (htab x (by rw [hx]; exact List.mem_cons_self)).elim
  · refine vx_ofWH (cc := m_cc mj) (maxL := m_maxL mj) (ret := m_ret mj) (hh := m_h4 mj) (ws' := lw_good) hplain (by rw [m_cw, if_neg hh]) ?_
    intro p e s m args below meth c s₁ B hml hv
    refine body p e s m args below meth c s₁ B hml (vx_table (x := m_y mj) B (atoms_spec (ws := m_cw mj :: lw_good) B.pre _ (by rw [m_cw, if_neg hh]; exact List.mem_cons_self))) hv
end G
section G
variable {D : va_G} {Y : Nat → ClassId} {b : Nat} {A0 : Nat → Prop} {xs : Nat → Int32} {L : Nat} {l : Launch} {o : MOut} {h' : MHp} {mi : Nat} {pc : Nat} {r : MCode} {ls st : List MV} {h : MHp}
theorem m_len_ext {A : List Nat} {h : MHp} {H : Heap} {X : List Nat} {h1 : MHp} {H1 : Heap} (hW : m_W D Y b A0 A h H) (hW1 : m_W D Y b A0 (A ++ X) h1 H1) : h.1.length ≤ h1.1.length := by
  have e1 := hW.1
  have e2 := hW1.1
  rw [List.length_append] at e2
  omega
/-- behind a call that threw k: on to the caller, or into a handler of this method -/
theorem g_thrown {n : Nat} (hS : m_SND D Y b A0 xs L l n) {h1 : MHp} {k : Nat} (hmi : mi < 178) (hlen : ls.length = m_maxL mi) (hback : m_back (m_run xs L n) mi pc r ls st (.inr k, h1) = some (o, h')) : h1.2.1 ≤ h'.2.1 ∧ h1.2.2 ≤ h'.2.2 ∧
    ∀ (p : Program) (e : Env) (R : Room) (s : State) (m : MethodId) (args : Array Value) (below : List Frame) (meth : Method) (c : Code), m_C D Y b A0 xs L p l R s m args meth c mi →
    ∀ (A : List Nat) (H : Heap) (locs : List Loc) (z1 z2 : Nat) (lsA : Array Slot) (Q : State → Prop), z1 ≤ h1.2.1 → z2 ≤ h1.2.2 → m_W D Y b A0 A h1 H → va_S A0 s.heap H locs → m_okL h1.1.length ls → m_L A b ls lsA → h'.2.1 - z1 ≤ R.cells → h'.2.2 - z2 ≤ R.slots → m_EN D Y b A0 p l e R s m args below meth c mi o h' A z1 z2 Q →
      ∀ (ce : Cell) (q : Addr) (rest : List Value), H[q]? = some ce → ce.vm = .none → s.vm.findClass (eN k) = some ce.cls → vx_W p l e R s m args below meth c H locs (h1.2.1 - z1) (h1.2.2 - z2) Q (F0 m pc lsA rest) q := by
  unfold m_back at hback
  simp only at hback
  by_cases hh : m_hand mi = []
  · rw [if_pos hh] at hback
    cases hback
    refine ⟨Nat.le_refl _, Nat.le_refl _, ?_⟩
    intro p e R s m args below meth c hC A H locs z1 z2 lsA Q t1 t2 hW hSS hok hL hc1 hc2 hE ce q rest hcell hv hcl
    obtain ⟨h177, Qc, XC, mc, ms, rfl, g2, g3, g4⟩ := hE.2 k rfl
    obtain ⟨-, -, -, -, -, c6, -, c8, -⟩ := hC
    have c8 := c8 h177
    refine vx_out (fun x hx => ?_) c6 hcell hv hcl (fun t ht hA => g4 [] t (by rw [List.append_nil, ht]; exact hW) hA (hSS.F ht)) hSS.2.2 g2 g3
    rw [c8, m_h4, hh] at hx
    cases hx
  · rw [if_neg hh] at hback
    split at hback
    · rename_i c2 hc2
      unfold m_catch at hc2
      split at hc2
      · rename_i q9 hq9
        obtain ⟨hq1, as, bs, hsplit, has⟩ := List.find?_eq_some_iff_append.mp hq9
        simp only [decide_eq_true_eq] at hq1
        have hall := List.all_eq_true.mp (m_hd0 mi hmi)
        have hqm : q9 ∈ m_hand mi := by rw [hsplit]; simp
        have hfact : ∀ z ∈ m_hand mi, kR (m_own mi) z.2.2.2.1 = some (1, z.2.2.2.2) ∧ z.2.2.2.1 ≠ 0 ∧ z.2.2.2.2 < 3 := by
          intro z hz
          have := hall z hz
          simp only [Bool.and_eq_true, decide_eq_true_eq] at this
          exact ⟨this.1.1, this.1.2, this.2⟩
        have hlink : ∀ z ∈ m_hand mi, Cond.classLink (m_cn (m_own mi)) z.2.2.2.1 (eN z.2.2.2.2) ∈ lw_good := by
          intro z hz
          obtain ⟨i1, hi1⟩ := m_kcs (m_own mi) _ (m_lookup (hfact z hz).1)
          simp only [m_kc, Bool.and_eq_true, decide_eq_true_eq] at hi1
          exact m_pg_ok hi1.2
        have hblk := m_blk_ok hmi q9.2.2.1
        -- the handler's first instruction is its astore
        have key : ∀ (kk : Nat) (i9 : Instr) (ln : Nat) (p9 : Nat) (r9 : MCode), m_blk mi q9.2.2.1 = (p9, i9) :: r9 → c2 = (r9, ls.set kk vU, [], h1) → kk < ls.length → (∀ (p : Program) (e : Env) (R : Room) (s : State) (m : MethodId) (args : Array Value) (below : List Frame) (meth : Method) (c : Code) (A : List Nat) (H : Heap) (locs : List Loc) (cells slots : Nat) (lsA : Array Slot) (Q : State → Prop) (x : Nat), m_C D Y b A0 xs L p l R s m args meth c mi → m_L A b ls lsA → (∀ lsB : Array Slot, m_L A b (ls.set kk vU) lsB → W p l e R s m args below meth c H locs cells slots Q (F0 m (p9 + ln) lsB [])) → W p l e R s m args below meth c H locs cells slots Q (F0 m p9 lsA [.ref x])) → (r9 ≠ [] → m_pc r9 = p9 + ln) → m_vl mi r9 →
            h1.2.1 ≤ h'.2.1 ∧ h1.2.2 ≤ h'.2.2 ∧ ∀ (p : Program) (e : Env) (R : Room) (s : State) (m : MethodId) (args : Array Value) (below : List Frame) (meth : Method) (c : Code), m_C D Y b A0 xs L p l R s m args meth c mi →
            ∀ (A : List Nat) (H : Heap) (locs : List Loc) (z1 z2 : Nat) (lsA : Array Slot) (Q : State → Prop), z1 ≤ h1.2.1 → z2 ≤ h1.2.2 → m_W D Y b A0 A h1 H → va_S A0 s.heap H locs → m_okL h1.1.length ls → m_L A b ls lsA → h'.2.1 - z1 ≤ R.cells → h'.2.2 - z2 ≤ R.slots → m_EN D Y b A0 p l e R s m args below meth c mi o h' A z1 z2 Q →
            ∀ (ce : Cell) (q : Addr) (rest : List Value), H[q]? = some ce → ce.vm = .none → s.vm.findClass (eN k) = some ce.cls → vx_W p l e R s m args below meth c H locs (h1.2.1 - z1) (h1.2.2 - z2) Q (F0 m pc lsA rest) q := by
          intro kk i9 ln p9 r9 hb9 hc9 hk9 row hp9 hv9
          rw [hc9] at hback
          have hne : r9 ≠ [] := by
            intro z
            rw [z, m_run_nil] at hback
            cases hback
          have K := hS mi r9 (ls.set kk vU) [] h1 h' o hback hmi hv9 (by rw [List.length_set]; exact hlen)
          refine ⟨K.1, K.2.1, ?_⟩
          intro p e R s m args below meth c hC A H locs z1 z2 lsA Q t1 t2 hW hSS hok hL hc1 hc2 hE ce q rest hcell hv hcl
          obtain ⟨c1, c2', c3, c4, c5, c6, c7, c8, c9, c10, c11, c12, -⟩ := id hC
          have h177 : mi < 177 := Nat.lt_of_le_of_ne (by omega) (fun z => hh (by rw [z]; decide +kernel))
          have c8 := c8 h177
          have htab : c.exceptionTable.toList = tableOf ((as.map (fun q => (q.1, q.2.1, q.2.2.1, q.2.2.2.1)))) ++ (⟨q9.1, q9.2.1, q9.2.2.1, q9.2.2.2.1⟩ :: tableOf ((bs.map (fun q => (q.1, q.2.1, q.2.2.1, q.2.2.2.1))))) := by
            rw [c8, m_h4, hsplit]
            simp [tableOf]
          have hp9' : m_pc (m_blk mi q9.2.2.1) = q9.2.2.1 := hblk.2 (by rw [hb9]; exact List.cons_ne_nil _ _)
          rw [hb9] at hp9'
          have hp9'' : p9 = q9.2.2.1 := hp9'
          have he9 : q9.2.2.2.2 = k := hq1.2.2
          refine vx_catch (own := m_cn (m_own mi)) (name := eN k) c4 _ _ _ htab (fun z hz => ?_) ?_ (hfact q9 hqm).2.1 ?_ ?_ hcell hv hcl ?_
          · unfold tableOf at hz
            rw [List.map_map] at hz
            obtain ⟨y, hy, rfl⟩ := List.mem_map.mp hz
            have hy2 := has y hy
            have hym : y ∈ m_hand mi := by rw [hsplit]; exact List.mem_append_left _ hy
            by_cases hcov : y.1 ≤ pc ∧ pc < y.2.1
            · refine Or.inr ⟨(hfact y hym).2.1, eN y.2.2.2.2, c5 _ (hlink y hym), ?_⟩
              refine c12.2.2.2.2.1 k y.2.2.2.2 (by rw [← he9]; exact (hfact q9 hqm).2.2) (hfact y hym).2.2 (fun z => ?_)
              simp at hy2
              omega
            · refine Or.inl ?_
              simp [covers]
              intro z1 
              omega
          · simp [covers]
            exact ⟨hq1.1, hq1.2.1⟩
          · have := c5 _ (hlink q9 hqm)
            rw [he9] at this
            exact this
          · have h3 : k < 3 := by rw [← he9]; exact (hfact q9 hqm).2.2
            have hb3 : Cond.castable (eN k) (eN k) ∈ m_bad := by
              rcases (show k = 0 ∨ k = 1 ∨ k = 2 by omega) with rfl | rfl | rfl
              · exact ew_0.2
              · exact ew_1.2
              · exact ew_2.2
            exact va_Nw.use rfl (c12.2.2.2.1 _ hb3)
          · show W p l e R s m args below meth c H locs (h1.2.1 - z1) (h1.2.2 - z2) Q (F0 m q9.2.2.1 lsA [.ref q])
            rw [← hp9'']
            refine row p e R s m args below meth c A H locs _ _ lsA Q q hC hL fun lsB hB => ?_
            have K2 := K.2.2 p e R s m args below meth c hC A H locs z1 z2 lsB Q ⟨t1, t2, hW, hSS, hok.set trivial, fun v hv => (by cases hv), hB, by rw [List.length_set]; exact hlen, hc1, hc2⟩ hE
            rw [hp9 hne] at K2
            exact K2
        split at hc2
        · rename_i p9 k9 r9 hb9
          split at hc2
          · rename_i hk9
            cases hc2
            have hvl9 := hblk.1
            rw [hb9] at hvl9
            obtain ⟨⟨len, hd, hl9, hn9⟩, -, hv9⟩ := hvl9
            have hl1 : len = 1 := by
              rcases hl9 with h9 | h9
              · exact h9.symm
              · cases h9
            subst hl1
            refine key k9.val (.astore_n k9) 1 p9 r9 hb9 rfl hk9 (fun p e R s m args below meth c A H locs cells slots lsA Q x hC hL kk => lv_astore_n hC.1 hC.2.1 hd rfl hL.has hk9 rfl (fun lsB hB => kk lsB (hL.forget hk9 rfl hB))) (fun hne => ?_) hv9
            cases r9 with
            | nil => exact absurd rfl hne
            | cons y t => exact hn9 y t rfl
          · cases hc2
        · rename_i p9 k9 r9 hb9
          split at hc2
          · rename_i hk9
            cases hc2
            have hvl9 := hblk.1
            rw [hb9] at hvl9
            obtain ⟨⟨len, hd, hl9, hn9⟩, -, hv9⟩ := hvl9
            have hl1 : len = 2 := by
              rcases hl9 with h9 | h9
              · exact h9.symm
              · cases h9
            subst hl1
            refine key k9 (.astore k9) 2 p9 r9 hb9 rfl hk9 (fun p e R s m args below meth c A H locs cells slots lsA Q x hC hL kk => lv_astore hC.1 hC.2.1 hd hL.has hk9 rfl (fun lsB hB => kk lsB (hL.forget hk9 rfl hB))) (fun hne => ?_) hv9
            cases r9 with
            | nil => exact absurd rfl hne
            | cons y t => exact hn9 y t rfl
          · cases hc2
        · cases hc2
      · cases hc2
    · cases hback
/-- a call: its contract, and what follows -/
theorem g_call {n mj : Nat} {i : Instr} (hS : m_SND D Y b A0 xs L l n) {av st0 : List MV} {h1 : MHp} {o1 : MOut} {arr : List Nat → Array Value} (hmi : mi < 178) (hmj : mj < 177) (hav : av.length ≤ m_maxL mj) (hlen : ls.length = m_maxL mi) (hvr : m_vl mi r) (hpr : r ≠ [] → m_pc r = pc + 3) (hrun : m_run xs L n mj (m_entry mj av h) = some (o1, h1)) (hback : m_back (m_run xs L n) mi pc r ls st (o1, h1) = some (o, h')) (hst : m_okL h.1.length st0 → m_okL h.1.length st)
    (row : ∀ (p : Program) (e : Env) (R : Room) (s : State) (m : MethodId) (args : Array Value) (below : List Frame) (meth : Method) (c : Code) (A : List Nat) (H : Heap) (locs : List Loc) (cells slots : Nat) (lsA : Array Slot), m_C D Y b A0 xs L p l R s m args meth c mi → m_W D Y b A0 A h H → va_S A0 s.heap H locs → m_okL h.1.length st0 → lsA.size = m_maxL mi → cells + (h1.2.1 - h.2.1) ≤ R.cells → slots + (h1.2.2 - h.2.2) ≤ R.slots →
      vx_Run p l e R s m args below meth c H locs cells slots (h1.2.1 - h.2.1) (h1.2.2 - h.2.2) (F0 m pc lsA (st0.map (m_val A b))) (st.map (m_val A b)) (m_Qc D Y b A0 A o1 h1 (arr A)) (m_XC D Y b A0 A o1 h1) A0) : m_G D Y b A0 xs L l o h' mi ((pc, i) :: r) ls st0 h := by
  have hG := hS mj (m_code mj) (av ++ List.replicate (m_maxL mj - av.length) vU) [] h h1 o1 hrun (by omega) (m_vlc (by omega)) (by simp; omega)
  have hh1 : h.2.1 ≤ h1.2.1 ∧ h.2.2 ≤ h1.2.2 ∧ h1.2.1 ≤ h'.2.1 ∧ h1.2.2 ≤ h'.2.2 := by
    refine ⟨hG.1, hG.2.1, ?_⟩
    cases o1 with
    | inl v =>
      have K := hS mi r ls (v.toList ++ st) h1 h' o hback hmi hvr hlen
      exact ⟨K.1, K.2.1⟩
    | inr k =>
      have K := g_thrown hS hmi hlen hback
      exact ⟨K.1, K.2.1⟩
  refine ⟨by omega, by omega, ?_⟩
  intro p e R s m args below meth c hC A H locs z1 z2 lsA Q hT hE
  obtain ⟨t1, t2, t3, t4, t5, t6, t7, t8, t9, t10⟩ := id hT
  obtain ⟨k1, k2, k3, k4⟩ := hh1
  have hr := row p e R s m args below meth c A H locs (h.2.1 - z1) (h.2.2 - z2) lsA hC t3 t4 t6 (by rw [t7.1]; exact hlen) (by omega) (by omega)
  intro T hTT X
  have e1 : h.2.1 - z1 + (h1.2.1 - h.2.1) = h1.2.1 - z1 := by omega
  have e2 : h.2.2 - z2 + (h1.2.2 - h.2.2) = h1.2.2 - z2 := by omega
  rcases hr T hTT X with ⟨v, st₀, t, T', LL, g0, X', gL, f1, f2, ⟨v9, X9, ho1, hv9, hok9, hW9, hF9⟩, stp⟩ | ⟨q, st₀, t, T', LL, E, ce, g0, X', gL, f1, f2, ⟨kx, X9, ho1, hEk, hW9, hF9⟩, hce, hcv, hcl, stp⟩
  · subst ho1
    have hback2 : m_run xs L n mi (r, ls, v9.toList ++ st, h1) = some (o, h') := hback
    have hne : r ≠ [] := by
      intro z
      rw [z, m_run_nil] at hback2
      cases hback2
    have K := hS mi r ls (v9.toList ++ st) h1 h' o hback2 hmi hvr hlen
    obtain ⟨w1, w2, w3⟩ := vx_keep (A1 := A0) g0 f1 t4 (fun _ _ z => z) (fun _ z => z) gL hF9
    have hAl := t3.1
    have hW9' : m_W D Y b A0 (A ++ X9) h1 T'.heap := by rw [f1]; exact hW9
    have hle := m_len_ext t3 hW9'
    rw [e1, e2] at X'
    have K2 := K.2.2 p e R s m args below meth c hC (A ++ X9) T'.heap (locs ++ LL) z1 z2 lsA Q ⟨by omega, by omega, hW9', w3, t5.mono hle, ?_, t7.ext (by rw [hAl]; exact t5), t8, t9, t10⟩ ?_
    · have hvv : v.toList ++ st.map (m_val A b) = (v9.toList ++ st).map (m_val (A ++ X9) b) := by
        cases hv9
        have e9 : st.map (m_val (A ++ X9) b) = st.map (m_val A b) := m_map_ext (by rw [hAl]; exact hst t6)
        rw [List.map_append, e9]
        cases v9 <;> rfl
      rw [hpr hne, ← hvv] at K2
      obtain ⟨t2', a1, b1⟩ := K2 T' rfl X'
      exact ⟨t2', stp t2' a1, b1⟩
    · intro w hw
      rcases List.mem_append.mp hw with h9 | h9
      · cases v9 with
        | none => cases h9
        | some x => rw [List.mem_singleton.mp h9]; exact hok9 x rfl
      · exact (hst t6).mono hle w h9
    · refine ⟨fun v hv X H' locs' pc' lsA' y1 y2 y3 y4 => ?_, fun E hE2 => ?_⟩
      · rw [List.append_assoc] at y1 ⊢
        exact hE.1 v hv _ H' locs' pc' lsA' y1 y2 y3 y4
      · obtain ⟨y0, Qc, XC, mc, ms, y1, y2, y3, y4⟩ := hE.2 E hE2
        exact ⟨y0, Qc, XC, mc, ms, y1, y2, y3, fun X t x1 x2 x3 => y4 (X9 ++ X) t (by rw [← List.append_assoc]; exact x1) x2 x3⟩
  · subst ho1
    obtain ⟨j1, j2, j3⟩ := g_thrown hS hmi hlen hback
    obtain ⟨w1, w2, w3⟩ := vx_keep (A1 := A0) g0 f1 t4 (fun _ _ z => z) (fun _ z => z) gL hF9
    have hAl := t3.1
    have hW9' : m_W D Y b A0 (A ++ X9) h1 T'.heap := by rw [f1]; exact hW9
    have hle := m_len_ext t3 hW9'
    rw [e1, e2] at X'
    obtain ⟨t2', a1, b1⟩ := j3 p e R s m args below meth c hC (A ++ X9) T'.heap (locs ++ LL) z1 z2 lsA Q (by omega) (by omega) hW9' w3 (t5.mono hle) (t7.ext (by rw [hAl]; exact t5)) t9 t10 (by
      refine ⟨fun v hv X H' locs' pc' lsA' y1 y2 y3 y4 => ?_, fun E hE2 => ?_⟩
      · rw [List.append_assoc] at y1 ⊢
        exact hE.1 v hv _ H' locs' pc' lsA' y1 y2 y3 y4
      · obtain ⟨y0, Qc, XC, mc, ms, y1, y2, y3, y4⟩ := hE.2 E hE2
        exact ⟨y0, Qc, XC, mc, ms, y1, y2, y3, fun X t x1 x2 x3 => y4 (X9 ++ X) t (by rw [← List.append_assoc]; exact x1) x2 x3⟩) ce q (st.map (m_val A b)) (by rw [f1]; exact hce) hcv (by rw [← hEk]; exact hcl) T' rfl X'
    exact ⟨t2', stp.trans a1, b1⟩
end G
end
section
/-! ===== pasted from kit/laws/EXCEPTIONS.to-paste: a constructor that may throw, called ===== -/
section VXIA
variable {p : Program} {l : Launch} {e : Env} {R : Room} {s : State} {m : MethodId} {args : Array Value} {below : List Frame} {meth : Method} {c : Code} {T : State} {locs : List Loc} {cells slots : Nat}
theorem vx_callI (X : Stand p l e R s m args below meth c T locs cells slots) (hexec : p.tables.exec = Jvm.exec) {own : String} {index : Nat} {y : MethodName} {bytes : ByteArray} {maxL : Nat}
    (hown : s.vm.findClass own = some m.cls) (hy1 : y.name = "<init>") (hlink : (Cond.methodLink own index y).before args s = true) (hinst : (Cond.instanceMethod y).before args s = true)
    (hcode : (Cond.code y bytes maxL none).before args s = true) (hy : y.cls ≠ "java/lang/invoke/MethodHandle" ∧ y.cls ≠ "java/lang/invoke/VarHandle")
    {W9 : Nat} {Pre : Pt → Array Value → Prop} {Post : Pt → Array Value → Option Value → Pt → Prop} {PostX : Pt → Array Value → Addr → Pt → Prop} (hK : vx_Back l R p e below s args y 3 W9 Pre Post PostX)
    {g : JFrame} (hg : g.method = m) (hsize : g.locals.size = c.maxLocals) {a : Addr} {argsL rest : List Value} (hlen : ∀ sig, parseMethodDescriptor y.desc = some sig → argsL.length = sig.parameters.length)
    (hstack : g.stack = argsL.reverse ++ .ref a :: rest) (hW : 2 * g.monitorRoom + (rest.map fun v => v.category).sum ≤ W9) (hdg : decode c.code g.pc = .ok (.invokespecial index, 3))
    (hpre : ∀ vm₁, s.WarmedH vm₁ → Pre ⟨T.setVm vm₁, locs, cells, slots⟩ (Value.ref a :: argsL).toArray) :
    (∃ (v : Option Value) (vm₁ : Vm) (B : Pt), s.WarmedH vm₁ ∧ Stand p l e R s m args below meth c B.U B.locs B.cells B.slots ∧ Post ⟨T.setVm vm₁, locs, cells, slots⟩ (Value.ref a :: argsL).toArray v B ∧
      ∀ target, Steps p.tables e below (B.U.setTop { g with pc := g.pc + 3, stack := v.toList ++ rest }) target → Steps p.tables e below (T.setTop g) target) ∨
    (∃ (q : Addr) (vm₁ : Vm) (B : Pt), s.WarmedH vm₁ ∧ Stand p l e R s m args below meth c B.U B.locs B.cells B.slots ∧ PostX ⟨T.setVm vm₁, locs, cells, slots⟩ (Value.ref a :: argsL).toArray q B ∧
      Steps p.tables e below (T.setTop g) ((B.U.setTop { g with stack := rest }).pushFrame (.throwing q))) := by
  subst hg
  have hpl : e.platform.magicAccessors = ({} : Platform).magicAccessors := by rw [X.admits.platform]
  obtain ⟨mk, methM, cM, kP, vm₁, hnamed, hmethM, hcodeM, -, hlocalsM, -, hkP, -, hW₁, hstep₁⟩ := Steps.initColdArgs (e := e) X.here hexec X.warmed hpl hown hy1 hy hlink hinst hcode (f := g) rfl hlen hstack hdg
  have X₁ := X.noted hW₁
  rcases hK g.method meth c ⟨T.setVm vm₁, locs, cells, slots⟩ { g with stack := rest } (.invokespecial index) mk (Value.ref a :: argsL).toArray X₁ rfl hsize hdg hW (X₁.named hnamed) (hpre vm₁ X₁.warmed) with ⟨v, B, X', hpost, hsteps⟩ | ⟨q, B, X', hpost, hsteps⟩
  · exact Or.inl ⟨v, vm₁, B, X₁.warmed, X', hpost, fun target h => hstep₁ _ fun acts => by rw [doInvoke_state]; exact hsteps.trans h⟩
  · exact Or.inr ⟨q, vm₁, B, X₁.warmed, X', hpost, hstep₁ _ fun acts => by rw [doInvoke_state]; exact hsteps⟩
end VXIA
section VXIB
variable {p : Program} {l : Launch} {e : Env} {R : Room} {s : State} {m : MethodId} {args : Array Value} {below : List Frame} {meth : Method} {c : Code} {H : Heap} {locs : List Loc} {cells slots : Nat}
variable {y : MethodName} {bytes cc : ByteArray} {maxL nL mc ms n index : Nat} {ret : Option FieldType} {ws : List Cond} {rm : Room} {Pc : Array Value → State → Prop} {Qc : Array Value → State → Outcome → State → Prop} {XC : String → State → State → Prop} {free : Addr → Prop} {Ts : List Cond} {own C : String} {b : Addr} {As rest : List Value} {g : JFrame}
theorem vx_runI (S : CallFix p m c cc nL s args Ts own) (hM : vx_Met l y ws rm Pc Qc XC mc ms free) (cw : CallB R s args own index y bytes maxL none ws rm mc ms n ∧ y.name = "<init>" ∧ (Cond.instanceMethod y).before args s = true) (hp : PreS s H Pc (.ref b :: As))
    (hg : g.method = m) (hn : As.length = n) (hsize : g.locals.size = nL) (hstack : g.stack = As.reverse ++ .ref b :: rest) (hW : 2 * g.monitorRoom + (rest.map fun v => v.category).sum ≤ 8) (hdg : decode cc g.pc = .ok (.invokespecial index, 3)) (hf : cells + mc ≤ R.cells ∧ slots + ms ≤ R.slots) :
    vx_Run p l e R s m args below meth c H locs cells slots mc ms g rest (Qc (Value.ref b :: As).toArray) XC free := by
  have hK : vx_Back l R p e below s args y 3 8 (PreOf R mc ms Pc) (PostOf Qc mc ms free) (vx_Post XC mc ms free) := vx_callBack cw.1 hM hp.1
  obtain ⟨⟨-, -, -, -, -, -, hcode, -, hy, hlen, hl⟩, hy1, hin⟩ := cw
  obtain ⟨hx, hb, hml, ho, -⟩ := S
  have hPc := hp.2
  intro T hT X
  rcases vx_callI X hx (bytes := bytes) (maxL := maxL) ho hy1 hl hin hcode hy hK hg (hsize.trans hml.symm) (a := b) (argsL := As) (rest := rest) (fun sig h => hn.trans (hlen sig h)) hstack hW (by rw [hb]; exact hdg)
    (fun vm₁ hW₁ => ⟨hf.1, hf.2, hPc (T.setVm vm₁) hT hW₁⟩) with ⟨v, vm₁, ⟨U', l2, c2, s2⟩, hW₁, X', ⟨g', mk, t, L, e1, e2, hq, h1, hL, h2, h3⟩, st⟩ | ⟨q, vm₁, ⟨U', l2, c2, s2⟩, hW₁, X', ⟨g', mk, t, L, E, ce, e1, e2, hq, hce, hcv, hcl, h1, hL, h2, h3⟩, st⟩
  · dsimp only [Pt.U, Pt.locs, Pt.cells, Pt.slots] at X' e1 e2 h1 h2 h3 st
    subst h1; subst h2; subst h3
    exact Or.inl ⟨v, (T.setVm vm₁).calling g' mk (Value.ref b :: As).toArray, t, U', L, hT, X', hL, e1, e2, hq, st⟩
  · dsimp only [Pt.U, Pt.locs, Pt.cells, Pt.slots] at X' e1 e2 h1 h2 h3 st hcl
    subst h1; subst h2; subst h3
    exact Or.inr ⟨q, (T.setVm vm₁).calling g' mk (Value.ref b :: As).toArray, t, U', L, E, ce, hT, X', hL, e1, e2, hq, hce, hcv, vx_cls hW₁ hcl, st⟩
end VXIB
section VXIC
variable {p : Program} {l : Launch} {e : Env} {R : Room} {s : State} {m : MethodId} {args : Array Value} {below : List Frame} {meth : Method} {c : Code} {T : State} {locs : List Loc} {cells slots : Nat}
theorem vx_callIN (X : Stand p l e R s m args below meth c T locs cells slots) (hexec : p.tables.exec = Jvm.exec) {own : String} {index : Nat} {host : String} {y : MethodName} {bytes : ByteArray} {maxL : Nat}
    (hown : s.vm.findClass own = some m.cls) (hy1 : y.name = "<init>") (hlink : (Cond.methodLinkNest own index y host).before args s = true) (hinst : (Cond.instanceMethod y).before args s = true)
    (hcode : (Cond.code y bytes maxL none).before args s = true) (hy : y.cls ≠ "java/lang/invoke/MethodHandle" ∧ y.cls ≠ "java/lang/invoke/VarHandle")
    {W9 : Nat} {Pre : Pt → Array Value → Prop} {Post : Pt → Array Value → Option Value → Pt → Prop} {PostX : Pt → Array Value → Addr → Pt → Prop} (hK : vx_Back l R p e below s args y 3 W9 Pre Post PostX)
    {g : JFrame} (hg : g.method = m) (hsize : g.locals.size = c.maxLocals) {a : Addr} {argsL rest : List Value} (hlen : ∀ sig, parseMethodDescriptor y.desc = some sig → argsL.length = sig.parameters.length)
    (hstack : g.stack = argsL.reverse ++ .ref a :: rest) (hW : 2 * g.monitorRoom + (rest.map fun v => v.category).sum ≤ W9) (hdg : decode c.code g.pc = .ok (.invokespecial index, 3))
    (hpre : ∀ vm₁, s.WarmedH vm₁ → Pre ⟨T.setVm vm₁, locs, cells, slots⟩ (Value.ref a :: argsL).toArray) :
    (∃ (v : Option Value) (vm₁ : Vm) (B : Pt), s.WarmedH vm₁ ∧ Stand p l e R s m args below meth c B.U B.locs B.cells B.slots ∧ Post ⟨T.setVm vm₁, locs, cells, slots⟩ (Value.ref a :: argsL).toArray v B ∧
      ∀ target, Steps p.tables e below (B.U.setTop { g with pc := g.pc + 3, stack := v.toList ++ rest }) target → Steps p.tables e below (T.setTop g) target) ∨
    (∃ (q : Addr) (vm₁ : Vm) (B : Pt), s.WarmedH vm₁ ∧ Stand p l e R s m args below meth c B.U B.locs B.cells B.slots ∧ PostX ⟨T.setVm vm₁, locs, cells, slots⟩ (Value.ref a :: argsL).toArray q B ∧
      Steps p.tables e below (T.setTop g) ((B.U.setTop { g with stack := rest }).pushFrame (.throwing q))) := by
  subst hg
  have hpl : e.platform.magicAccessors = ({} : Platform).magicAccessors := by rw [X.admits.platform]
  obtain ⟨mk, methM, cM, kP, vm₁, hnamed, hmethM, hcodeM, -, hlocalsM, -, hkP, -, hW₁, hstep₁⟩ := Steps.initColdArgsNest (e := e) X.here hexec X.warmed hpl hown hy1 hy hlink hinst hcode (f := g) rfl hlen hstack hdg
  have X₁ := X.noted hW₁
  rcases hK g.method meth c ⟨T.setVm vm₁, locs, cells, slots⟩ { g with stack := rest } (.invokespecial index) mk (Value.ref a :: argsL).toArray X₁ rfl hsize hdg hW (X₁.named hnamed) (hpre vm₁ X₁.warmed) with ⟨v, B, X', hpost, hsteps⟩ | ⟨q, B, X', hpost, hsteps⟩
  · exact Or.inl ⟨v, vm₁, B, X₁.warmed, X', hpost, fun target h => hstep₁ _ fun acts => by rw [doInvoke_state]; exact hsteps.trans h⟩
  · exact Or.inr ⟨q, vm₁, B, X₁.warmed, X', hpost, hstep₁ _ fun acts => by rw [doInvoke_state]; exact hsteps⟩
end VXIC
section VXID
variable {p : Program} {l : Launch} {e : Env} {R : Room} {s : State} {m : MethodId} {args : Array Value} {below : List Frame} {meth : Method} {c : Code} {H : Heap} {locs : List Loc} {cells slots : Nat}
theorem vx_runIN {y : MethodName} {bytes cc : ByteArray} {maxL nL mc ms n index : Nat} {ws : List Cond} {rm : Room} {Pc : Array Value → State → Prop} {Qc : Array Value → State → Outcome → State → Prop} {XC : String → State → State → Prop} {free : Addr → Prop} {Ts : List Cond} {own host : String} {b : Addr} {As rest : List Value} {g : JFrame}
    (S : CallFix p m c cc nL s args Ts own) (hM : vx_Met l y ws rm Pc Qc XC mc ms free) (cw : va_CN R s args own index y host bytes maxL none ws rm mc ms n ∧ y.name = "<init>" ∧ (Cond.instanceMethod y).before args s = true) (hp : PreS s H Pc (.ref b :: As))
    (hg : g.method = m) (hn : As.length = n) (hsize : g.locals.size = nL) (hstack : g.stack = As.reverse ++ .ref b :: rest) (hW : 2 * g.monitorRoom + (rest.map fun v => v.category).sum ≤ 8) (hdg : decode cc g.pc = .ok (.invokespecial index, 3)) (hf : cells + mc ≤ R.cells ∧ slots + ms ≤ R.slots) :
    vx_Run p l e R s m args below meth c H locs cells slots mc ms g rest (Qc (Value.ref b :: As).toArray) XC free := by
  obtain ⟨⟨⟨hrc, hrs, hfr, hlo, hws, hcw⟩, hcode, hini, hy, hlen, hl⟩, hx1, hx2⟩ := cw
  have hK : vx_Back l R p e below s args y 3 8 (PreOf R mc ms Pc) (PostOf Qc mc ms free) (vx_Post XC mc ms free) := vx_back (bytes := bytes) (maxL := maxL) (ret := none) hM hp.1 hrc hrs hfr hlo hws hcw (fun a' U hW => word_at hW (Or.inl (by first | rfl | simp [Cond.onTables, Cond.keeps, Cond.steady])) hini)
  obtain ⟨hx, hb, hml, ho, -⟩ := S
  have hPc := hp.2
  intro T hT X
  rcases vx_callIN X hx (bytes := bytes) (maxL := maxL) ho hx1 hl hx2 hcode hy hK hg (hsize.trans hml.symm) (a := b) (argsL := As) (rest := rest) (fun sig h => hn.trans (hlen sig h)) hstack hW (by rw [hb]; exact hdg)
    (fun vm₁ hW₁ => ⟨hf.1, hf.2, hPc (T.setVm vm₁) hT hW₁⟩) with ⟨v, vm₁, ⟨U', l2, c2, s2⟩, hW₁, X', ⟨g', mk, t, L, e1, e2, hq, h1, hL, h2, h3⟩, st⟩ | ⟨q, vm₁, ⟨U', l2, c2, s2⟩, hW₁, X', ⟨g', mk, t, L, E, ce, e1, e2, hq, hce, hcv, hcl, h1, hL, h2, h3⟩, st⟩
  · dsimp only [Pt.U, Pt.locs, Pt.cells, Pt.slots] at X' e1 e2 h1 h2 h3 st
    subst h1; subst h2; subst h3
    exact Or.inl ⟨v, (T.setVm vm₁).calling g' mk (Value.ref b :: As).toArray, t, U', L, hT, X', hL, e1, e2, hq, st⟩
  · dsimp only [Pt.U, Pt.locs, Pt.cells, Pt.slots] at X' e1 e2 h1 h2 h3 st hcl
    subst h1; subst h2; subst h3
    exact Or.inr ⟨q, (T.setVm vm₁).calling g' mk (Value.ref b :: As).toArray, t, U', L, E, ce, hT, X', hL, e1, e2, hq, hce, hcv, vx_cls hW₁ hcl, st⟩
end VXID
end
section
/-! ===== a call of each kind is a row of the machine ===== -/
theorem m_ret2 : ∀ mi, mi < 177 → (m_kind mi = 2 → m_ret mi = none ∧ m_hand mi = []) ∧ (m_kind mi = 1 → m_own mi < 11 ∧ m_hand mi = []) ∧ m_kind mi < 3 := by
  have h : ∀ mi, mi < 177 → (decide (m_kind mi = 2 → (m_ret mi).isNone = true ∧ (m_hand mi).isEmpty = true) && decide (m_kind mi = 1 → m_own mi < 11 ∧ (m_hand mi).isEmpty = true) && decide (m_kind mi < 3)) = true := by decide +kernel
  intro mi hmi
  have h1 := h mi hmi
  simp only [Bool.and_eq_true, decide_eq_true_eq] at h1
  refine ⟨fun hk => ?_, fun hk => ?_, h1.2⟩
  · have := h1.1.1 hk
    exact ⟨Option.isNone_iff_eq_none.mp this.1, List.isEmpty_iff.mp this.2⟩
  · have := h1.1.2 hk
    exact ⟨this.1, List.isEmpty_iff.mp this.2⟩
theorem m_good_cons {mj : Nat} (h : m_cw mj ∈ lw_good) : ∀ w ∈ m_cw mj :: lw_good, w ∈ lw_good ∧ ((w.onTables && w.keeps) = true ∨ ∃ ty, w = .arrayClass ty) := by
  intro w hw
  rcases List.mem_cons.mp hw with rfl | hw
  · exact good_in _ h
  · exact good_in _ hw
section G
variable {D : va_G} {Y : Nat → ClassId} {b : Nat} {A0 : Nat → Prop} {xs : Nat → Int32} {L : Nat} {l : Launch} {o : MOut} {h' : MHp} {mi : Nat} {pc : Nat} {r : MCode} {ls st : List MV} {h : MHp}
/-- the callee's start at the call -/
theorem m_pre {av : List MV} {A : List Nat} {s : State} {H : Heap} {locs : List Loc} (hW : m_W D Y b A0 A h H) (hS : va_S A0 s.heap H locs) (hK : va_K D vwCl (m_tys Y) s) (hX : m_X xs L b A0 s s.heap) (hA : ∀ q : Nat, s.heap.size ≤ q → A0 q) : ∀ U : State, U.heap = H → s.WarmedH U.vm → m_Pc D Y b A0 xs L av h A (av.map (m_val A b)).toArray U :=
  fun U hU hWm => ⟨rfl, by rw [hU]; exact hW, va_K.moved hWm.alike hK, hX.at hS hU hWm, fun q hq => hA q (Nat.le_trans hS.1 (by rw [← hU]; exact hq))⟩
theorem g_invs {n k mj : Nat} (hS : m_SND D Y b A0 xs L l n) {av : List MV} {h1 : MHp} {o1 : MOut} (hd : decode (m_cc mi) pc = .ok (.invokestatic k, 3)) (hk : cR (m_own mi) k = some (1, mj)) (hkind : m_kind mj = 0) (hn : av.length = m_narg mj) (hfr : m_frs mj + 1 ≤ m_frs mi ∧ 19 + m_maxL mj + m_loc mj ≤ m_loc mi) (hcat : ∀ v ∈ av, m_cat v = 1) (hav : av.length ≤ m_maxL mj) (hst8 : (st.map m_cat).sum ≤ 8) (hl : l.stackTraces = false)
    (hmi : mi < 178) (hlen : ls.length = m_maxL mi) (hvr : m_vl mi r) (hpr : r ≠ [] → m_pc r = pc + 3) (hok : ∀ A : List Nat, True) (hrun : m_run xs L n mj (m_entry mj av h) = some (o1, h1)) (hback : m_back (m_run xs L n) mi pc r ls st (o1, h1) = some (o, h')) (hov : m_okL h.1.length (av.reverse ++ st) → m_okL h.1.length av) :
    m_G D Y b A0 xs L l o h' mi ((pc, .invokestatic k) :: r) ls (av.reverse ++ st) h := by
  obtain ⟨i1, hi1⟩ := m_ccs (m_own mi) _ (m_lookup hk)
  simp only [m_cc1, Bool.and_eq_true, decide_eq_true_eq] at hi1
  obtain ⟨hmj, hlink⟩ := hi1
  have hlink := m_pg_ok hlink
  obtain ⟨ps, hps⟩ := m_mcs hmj
  simp only [m_mchk, hkind, Bool.and_eq_true, decide_eq_true_eq] at hps
  obtain ⟨⟨⟨⟨⟨⟨⟨hcode, hkd⟩, hini⟩, hcls⟩, hmh⟩, hvh⟩, hdesc⟩, hplain⟩ := hps
  have hcode := m_pg_ok hcode
  have hini := m_pg_ok hini
  have hkd := m_pg_ok hkd
  have hdd : ∀ sig, parseMethodDescriptor (m_y mj).desc = some sig → m_narg mj = sig.parameters.length := by
    intro sig hsig
    rw [hsig] at hdesc
    exact (Option.some.inj hdesc).symm
  refine g_call (arr := fun A => (av.map (m_val A b)).toArray) hS hmi hmj hav hlen hvr hpr hrun hback (fun h9 w hw => h9 w (List.mem_append_right _ hw)) ?_
  intro p e R s m args below meth c A H locs cells slots lsA hC hW hSS hok9 hsz hc1 hc2
  obtain ⟨c1, c2, c3, c4, c5, c6, c7, c8, c9, c10, c11, c12, c13, c14, c15⟩ := hC
  have hM := m_met (A := A) hS hrun hmj hcat hav (hov hok9) hl
  have hpre := m_pre (av := av) hW hSS c11 c12 c13
  have hcat8 : ((st.map (m_val A b)).map fun v => v.category).sum ≤ 8 := by rw [m_cat_sum]; exact hst8
  have hstack : (av.reverse ++ st).map (m_val A b) = (av.map (m_val A b)).reverse ++ st.map (m_val A b) := by rw [List.map_append, List.map_reverse]
  by_cases hh : m_hand mj = []
  · have hcw : m_cw mj = Cond.code (m_y mj) (m_cc mj) (m_maxL mj) (m_ret mj) := if_pos hh
    refine vx_runS (cc := m_cc mi) (nL := m_maxL mi) (Ts := lw_good) (own := m_cn (m_own mi)) (bytes := m_cc mj) (maxL := m_maxL mj) (ret := m_ret mj) (n := m_narg mj) (As := av.map (m_val A b)) ⟨c1, c2, c3, c4, c5⟩ hM
      ⟨⟨rfl, rfl, by show m_frs mj + 1 ≤ R.frames; omega, by show 8 + (m_maxL mj + 11) + m_loc mj ≤ R.locals; omega, pay_in c5 (m_good_cons hcode), by rw [hcw]; exact List.mem_cons_self, by rw [← hcw]; exact c5 _ hcode, c5 _ hini, ⟨hmh, hvh⟩, hdd, c5 _ hlink⟩, c5 _ hkd⟩ ⟨m_Pc_blind, hpre⟩ rfl (by rw [List.length_map]; exact hn) hsz hstack (lv_room hcat8) hd ⟨hc1, hc2⟩
  · have hcw : m_cw mj = Cond.codeWith (m_y mj) (m_cc mj) (m_maxL mj) (m_ret mj) (m_h4 mj) := if_neg hh
    refine vx_runSX (hh := m_h4 mj) (cc := m_cc mi) (nL := m_maxL mi) (Ts := lw_good) (own := m_cn (m_own mi)) (bytes := m_cc mj) (maxL := m_maxL mj) (ret := m_ret mj) (n := m_narg mj) (As := av.map (m_val A b)) ⟨c1, c2, c3, c4, c5⟩ hM
      ⟨⟨rfl, rfl, by show m_frs mj + 1 ≤ R.frames; omega, by show 8 + (m_maxL mj + 11) + m_loc mj ≤ R.locals; omega, pay_in c5 (m_good_cons hcode), by rw [hcw]; exact List.mem_cons_self⟩, by rw [← hcw]; exact c5 _ hcode, c5 _ hini, ⟨hmh, hvh⟩, hdd, c5 _ hlink, c5 _ hkd⟩ ⟨m_Pc_blind, hpre⟩ rfl (by rw [List.length_map]; exact hn) hsz hstack (lv_room hcat8) hd ⟨hc1, hc2⟩
theorem g_invv {n k mj z : Nat} (hS : m_SND D Y b A0 xs L l n) {av : List MV} {h1 : MHp} {o1 : MOut} (hd : decode (m_cc mi) pc = .ok (.invokevirtual k, 3)) (hk : cR (m_own mi) k = some (1, mj)) (hkind : m_kind mj = 1) (htag : m_tag h z = some (m_own mj)) (hn : av.length = m_narg mj) (hfr : m_frs mj + 1 ≤ m_frs mi ∧ 19 + m_maxL mj + m_loc mj ≤ m_loc mi) (hcat : ∀ v ∈ av, m_cat v = 1) (hav : (vR z :: av).length ≤ m_maxL mj) (hst8 : (st.map m_cat).sum ≤ 8) (hl : l.stackTraces = false)
    (hmi : mi < 178) (hlen : ls.length = m_maxL mi) (hvr : m_vl mi r) (hpr : r ≠ [] → m_pc r = pc + 3) (hrun : m_run xs L n mj (m_entry mj (vR z :: av) h) = some (o1, h1)) (hback : m_back (m_run xs L n) mi pc r ls st (o1, h1) = some (o, h')) :
    m_G D Y b A0 xs L l o h' mi ((pc, .invokevirtual k) :: r) ls (av.reverse ++ vR z :: st) h := by
  obtain ⟨i1, hi1⟩ := m_ccs (m_own mi) _ (m_lookup hk)
  simp only [m_cc1, Bool.and_eq_true, decide_eq_true_eq] at hi1
  obtain ⟨hmj, hlink⟩ := hi1
  have hlink := m_pg_ok hlink
  obtain ⟨ps, hps⟩ := m_mcs hmj
  simp only [m_mchk, hkind, Bool.and_eq_true, decide_eq_true_eq] at hps
  obtain ⟨⟨⟨⟨⟨⟨⟨hcode, hkd⟩, hini⟩, hcls⟩, hmh⟩, hvh⟩, hdesc⟩, hplain⟩ := hps
  have hcode := m_pg_ok hcode
  have hini := m_pg_ok hini
  have hkd1 := m_pg_ok hkd.1
  have hkd2 := m_pg_ok hkd.2
  obtain ⟨-, hr2, -⟩ := m_ret2 mj hmj
  obtain ⟨hown11, hh⟩ := hr2 hkind
  have hdd : ∀ sig, parseMethodDescriptor (m_y mj).desc = some sig → m_narg mj = sig.parameters.length := by
    intro sig hsig
    rw [hsig] at hdesc
    exact (Option.some.inj hdesc).symm
  have hz : ∃ c, h.1[z]? = some c ∧ c.1 = m_own mj := by
    unfold m_tag at htag
    split at htag
    · rename_i c hc
      exact ⟨c, hc, Option.some.inj htag⟩
    · cases htag
  obtain ⟨cz, hcz, hczt⟩ := hz
  refine g_call (arr := fun A => ((vR z :: av).map (m_val A b)).toArray) hS hmi hmj hav hlen hvr hpr hrun hback (fun h9 w hw => h9 w (List.mem_append_right _ (List.mem_cons_of_mem _ hw))) ?_
  intro p e R s m args below meth c A H locs cells slots lsA hC hW hSS hok9 hsz hc1 hc2
  obtain ⟨c1, c2, c3, c4, c5, c6, c7, c8, c9, c10, c11, c12, c13, c14, c15⟩ := hC
  have hM := m_met (A := A) hS hrun hmj (fun v hv => by
    rcases List.mem_cons.mp hv with rfl | hv
    · rfl
    · exact hcat v hv) hav (fun v hv => by
    rcases List.mem_cons.mp hv with rfl | hv
    · exact hok9 _ (List.mem_append_right _ List.mem_cons_self)
    · exact hok9 v (List.mem_append_left _ (List.mem_reverse.mpr hv))) hl
  have hpre := m_pre (av := vR z :: av) hW hSS c11 c12 c13
  have hcat8 : ((st.map (m_val A b)).map fun v => v.category).sum ≤ 8 := by rw [m_cat_sum]; exact hst8
  have hstack : (av.reverse ++ vR z :: st).map (m_val A b) = (av.map (m_val A b)).reverse ++ .ref (A.getD z 0) :: st.map (m_val A b) := by rw [List.map_append, List.map_reverse]; rfl
  have hcw : m_cw mj = Cond.code (m_y mj) (m_cc mj) (m_maxL mj) (m_ret mj) := if_pos hh
  have hec := hW.get hcz
  rw [m_ent_obj (by omega), hczt] at hec
  have h11 : ∀ k : Nat, k < 11 → (vwCl[k]?).map (fun q => q.1) = some (m_cn k) := by decide
  have h12 := h11 _ hown11
  cases hcl : vwCl[m_own mj]? with
  | none => rw [hcl] at h12; cases h12
  | some q =>
    rw [hcl] at h12
    have h13 : q.1 = m_cn (m_own mj) := Option.some.inj h12
    have hrecv := va_recv c11 hW.2.2.1 hcl hec
    rw [h13, ← hcls] at hrecv
    exact vx_runV (cc := m_cc mi) (nL := m_maxL mi) (Ts := lw_good) (own := m_cn (m_own mi)) (bytes := m_cc mj) (maxL := m_maxL mj) (ret := m_ret mj) (n := m_narg mj) (As := av.map (m_val A b)) (b := A.getD z 0) (C := (m_y mj).cls) ⟨c1, c2, c3, c4, c5⟩ hM
      ⟨⟨rfl, rfl, by show m_frs mj + 1 ≤ R.frames; omega, by show 8 + (m_maxL mj + 11) + m_loc mj ≤ R.locals; omega, pay_in c5 (m_good_cons hcode), by rw [hcw]; exact List.mem_cons_self, by rw [← hcw]; exact c5 _ hcode, c5 _ hini, ⟨hmh, hvh⟩, hdd, c5 _ hlink⟩, c5 _ hkd1, c5 _ hkd2⟩ ⟨m_Pc_blind, hrecv, hpre⟩ rfl (by rw [List.length_map]; exact hn) hsz hstack (lv_room hcat8) hd ⟨hc1, hc2⟩
theorem g_invi {n k mj z kd : Nat} (hS : m_SND D Y b A0 xs L l n) {av : List MV} {h1 : MHp} {o1 : MOut} (hd : decode (m_cc mi) pc = .ok (.invokespecial k, 3)) (hk : cR (m_own mi) k = some (kd, mj)) (hkd9 : kd = 1 ∨ kd = 5) (hkind : m_kind mj = 2) (hn : av.length = m_narg mj) (hfr : m_frs mj + 1 ≤ m_frs mi ∧ 19 + m_maxL mj + m_loc mj ≤ m_loc mi) (hcat : ∀ v ∈ av, m_cat v = 1) (hav : (vR z :: av).length ≤ m_maxL mj) (hst8 : (st.map m_cat).sum ≤ 8) (hl : l.stackTraces = false)
    (hmi : mi < 178) (hlen : ls.length = m_maxL mi) (hvr : m_vl mi r) (hpr : r ≠ [] → m_pc r = pc + 3) (hrun : m_run xs L n mj (m_entry mj (vR z :: av) h) = some (o1, h1)) (hback : m_back (m_run xs L n) mi pc r ls st (o1, h1) = some (o, h')) :
    m_G D Y b A0 xs L l o h' mi ((pc, .invokespecial k) :: r) ls (av.reverse ++ vR z :: st) h := by
  obtain ⟨i1, hi1⟩ := m_ccs (m_own mi) _ (m_lookup hk)
  have hi2 : mj < 177 := by
    rcases hkd9 with rfl | rfl
    · simp only [m_cc1, Bool.and_eq_true, decide_eq_true_eq] at hi1; exact hi1.1
    · simp only [m_cc1, Bool.and_eq_true, decide_eq_true_eq] at hi1; exact hi1.1
  have hmj := hi2
  obtain ⟨ps, hps⟩ := m_mcs hmj
  simp only [m_mchk, hkind, Bool.and_eq_true, decide_eq_true_eq] at hps
  obtain ⟨⟨⟨⟨⟨⟨⟨hcode, hkd⟩, hini⟩, hcls⟩, hmh⟩, hvh⟩, hdesc⟩, hplain⟩ := hps
  have hcode := m_pg_ok hcode
  have hini := m_pg_ok hini
  have hkd1 := m_pg_ok hkd.1
  obtain ⟨hr2, -, -⟩ := m_ret2 mj hmj
  obtain ⟨hret, hh⟩ := hr2 hkind
  have hdd : ∀ sig, parseMethodDescriptor (m_y mj).desc = some sig → m_narg mj = sig.parameters.length := by
    intro sig hsig
    rw [hsig] at hdesc
    exact (Option.some.inj hdesc).symm
  refine g_call (arr := fun A => ((vR z :: av).map (m_val A b)).toArray) hS hmi hmj hav hlen hvr hpr hrun hback (fun h9 w hw => h9 w (List.mem_append_right _ (List.mem_cons_of_mem _ hw))) ?_
  intro p e R s m args below meth c A H locs cells slots lsA hC hW hSS hok9 hsz hc1 hc2
  obtain ⟨c1, c2, c3, c4, c5, c6, c7, c8, c9, c10, c11, c12, c13, c14, c15⟩ := hC
  have hM := m_met (A := A) hS hrun hmj (fun v hv => by
    rcases List.mem_cons.mp hv with rfl | hv
    · rfl
    · exact hcat v hv) hav (fun v hv => by
    rcases List.mem_cons.mp hv with rfl | hv
    · exact hok9 _ (List.mem_append_right _ List.mem_cons_self)
    · exact hok9 v (List.mem_append_left _ (List.mem_reverse.mpr hv))) hl
  have hpre := m_pre (av := vR z :: av) hW hSS c11 c12 c13
  have hcat8 : ((st.map (m_val A b)).map fun v => v.category).sum ≤ 8 := by rw [m_cat_sum]; exact hst8
  have hstack : (av.reverse ++ vR z :: st).map (m_val A b) = (av.map (m_val A b)).reverse ++ .ref (A.getD z 0) :: st.map (m_val A b) := by rw [List.map_append, List.map_reverse]; rfl
  have hcw : m_cw mj = Cond.code (m_y mj) (m_cc mj) (m_maxL mj) none := by rw [m_cw, if_pos hh, hret]
  rcases hkd9 with rfl | rfl
  · simp only [m_cc1, Bool.and_eq_true, decide_eq_true_eq] at hi1
    exact vx_runI (cc := m_cc mi) (nL := m_maxL mi) (Ts := lw_good) (own := m_cn (m_own mi)) (bytes := m_cc mj) (maxL := m_maxL mj) (n := m_narg mj) (As := av.map (m_val A b)) (b := A.getD z 0) ⟨c1, c2, c3, c4, c5⟩ hM
      ⟨⟨rfl, rfl, by show m_frs mj + 1 ≤ R.frames; omega, by show 8 + (m_maxL mj + 11) + m_loc mj ≤ R.locals; omega, pay_in c5 (m_good_cons hcode), by rw [hcw]; exact List.mem_cons_self, by rw [← hcw]; exact c5 _ hcode, c5 _ hini, ⟨hmh, hvh⟩, hdd, c5 _ (m_pg_ok hi1.2)⟩, hkd.2, c5 _ hkd1⟩ ⟨m_Pc_blind, hpre⟩ rfl (by rw [List.length_map]; exact hn) hsz hstack (lv_room hcat8) hd ⟨hc1, hc2⟩
  · simp only [m_cc1, Bool.and_eq_true, decide_eq_true_eq] at hi1
    exact vx_runIN (host := "Throughcoach") (cc := m_cc mi) (nL := m_maxL mi) (Ts := lw_good) (own := m_cn (m_own mi)) (bytes := m_cc mj) (maxL := m_maxL mj) (n := m_narg mj) (As := av.map (m_val A b)) (b := A.getD z 0) ⟨c1, c2, c3, c4, c5⟩ hM
      ⟨⟨⟨rfl, rfl, by show m_frs mj + 1 ≤ R.frames; omega, by show 8 + (m_maxL mj + 11) + m_loc mj ≤ R.locals; omega, pay_in c5 (m_good_cons hcode), by rw [hcw]; exact List.mem_cons_self⟩, by rw [← hcw]; exact c5 _ hcode, c5 _ hini, ⟨hmh, hvh⟩, hdd, va_Nw.use rfl (c12.2.2.2.1 _ (m_pb_ok hi1.2))⟩, hkd.2, c5 _ hkd1⟩ ⟨m_Pc_blind, hpre⟩ rfl (by rw [List.length_map]; exact hn) hsz hstack (lv_room hcat8) hd ⟨hc1, hc2⟩
/-- 'throw new E("..")' -/
theorem g_throw {ik is ic ex : Nat} {li : Instr} {nl : Nat} (hd : decode (m_cc mi) pc = .ok (.new ik, 3)) (hk : kR (m_own mi) ik = some (1, ex)) (hic : cR (m_own mi) ic = some (4, ex)) (his : (sR (m_own mi) is).isSome = true) (hst8 : (st.map m_cat).sum ≤ 8)
    (hli : (li = .ldc is ∧ nl = 2) ∨ (li = .ldc_w is ∧ nl = 3)) (d3 : decode (m_cc mi) (pc + 3) = .ok (.dup, 1)) (d4 : decode (m_cc mi) (pc + 4) = .ok (li, nl)) (d6 : decode (m_cc mi) (pc + 4 + nl) = .ok (.invokespecial ic, 3)) (d9 : decode (m_cc mi) (pc + 4 + nl + 3) = .ok (.athrow, 1)) (hfr : 6 ≤ m_frs mi ∧ 90 ≤ m_loc mi) (hh : m_hand mi = []) (hlen : ls.length = m_maxL mi) (hl : l.stackTraces = false) :
    m_G D Y b A0 xs L l (.inr ex) (h.1, h.2.1 + 1, h.2.2 + 6) mi ((pc, .new ik) :: r) ls st h := by
  obtain ⟨ho9, hex, hat⟩ := m_exc hic
  obtain ⟨i1, hi1⟩ := m_kcs (m_own mi) _ (m_lookup hk)
  simp only [m_kc, Bool.and_eq_true, decide_eq_true_eq] at hi1
  have hlink := m_pg_ok hi1.2
  obtain ⟨js, hjs⟩ := Option.isSome_iff_exists.mp his
  have hjm := m_lookup hjs
  rw [ho9] at hlink hjm
  have hstr : ∃ q ∈ tT, q.1 = 9 ∧ q.2.1 = is := by
    have h1 : ∀ e ∈ tS.getD 9 [], ∃ q ∈ tT, q.1 = 9 ∧ q.2.1 = e.1 := by decide
    exact h1 _ hjm
  obtain ⟨⟨t1, t2, tx⟩, htm, rfl, rfl⟩ := hstr
  have hini : Cond.initialized (eN ex) ∈ lw_good := by
    rcases (show ex = 0 ∨ ex = 1 ∨ ex = 2 by omega) with rfl | rfl | rfl
    · exact ew_0.1
    · exact ew_1.1
    · exact ew_2.1
  have hfit : Bundle.fit (eN ex) = true := by
    rcases (show ex = 0 ∨ ex = 1 ∨ ex = 2 by omega) with rfl | rfl | rfl <;> decide +kernel
  refine ⟨Nat.le_succ _, Nat.le_add_right _ _, ?_⟩
  intro p e R s m args below meth c hC A H locs z1 z2 lsA Q hT hE
  obtain ⟨t1, t2', t3, t4, t5, t6, t7, t8, t9, t10⟩ := id hT
  obtain ⟨c1, c2, c3, c4, c5, c6, c7, c8, c9, c10, c11, c12, c13, c14, c15⟩ := hC
  obtain ⟨h177, Qc, XC, mc, ms, rfl, g2, g3, g4⟩ := hE.2 ex rfl
  have c8 := c8 h177
  have g2 : h.2.1 + 1 - z1 ≤ mc := g2
  have g3 : h.2.2 + 6 - z2 ≤ ms := g3
  have t9 : h.2.1 + 1 - z1 ≤ R.cells := t9
  have t10 : h.2.2 + 6 - z2 ≤ R.slots := t10
  rw [ho9] at c4
  obtain ⟨sa, hsa⟩ := c12.2.2.1 _ htm
  have hnames : ∀ n ∈ ["java/lang/RuntimeException", "java/lang/Exception"], Bundle.fit n = true := by decide +kernel
  have hatb : ∀ w ∈ vx_atS RX9 ic (eN ex) ["java/lang/RuntimeException", "java/lang/Exception"], w.before args s = true := by
    intro w hw
    rcases (hat w hw).1 with h9 | h9
    · exact c5 w h9
    · exact va_Nw.use h9.2 (c12.2.2.2.1 w h9.1)
  have hgood : ∀ w ∈ Cond.classLink RX9 ik (eN ex) :: Cond.initialized (eN ex) :: vx_atS RX9 ic (eN ex) ["java/lang/RuntimeException", "java/lang/Exception"], vx_ot w = true := by
    intro w hw
    rcases List.mem_cons.mp hw with rfl | hw
    · rfl
    · rcases List.mem_cons.mp hw with rfl | hw
      · rfl
      · exact (hat w hw).2
  have hout : ∀ k : Nat, ∀ x ∈ c.exceptionTable.toList, covers x k = false := by
    intro k x hx
    rw [c8, m_h4, hh] at hx
    cases hx
  have hcat8 : ((st.map (m_val A b)).map fun v => v.category).sum ≤ 8 := by rw [m_cat_sum]; exact hst8
  have hx : ∀ t : State, s.vm.Alike t.vm → H.size ≤ t.heap.size → (∀ q : Nat, q < H.size → t.heap[q]? = H[q]?) → XC (eN ex) s t := by
    intro t ha hz hq
    refine g4 [] t ?_ ha ⟨Nat.le_trans t4.1 hz, fun q h1 h2 => ?_⟩
    · rw [List.append_nil]
      exact m_W.kept (h := h) t3 hq
    · rw [hq q (Nat.lt_of_lt_of_le h1 t4.1)]
      exact t4.2.1 q h1 h2
  rcases hli with ⟨rfl, rfl⟩ | ⟨rfl, rfl⟩
  · exact vx_throwS (names := ["java/lang/RuntimeException", "java/lang/Exception"]) c1 c2 hl c4 hfit hnames (c5 _ hlink) (c5 _ hini) hsa hatb hgood c12.1 c12.2.1 t4 (by rw [t7.1, hlen, c3]) hd d3 d4 d6 d9 (hout _) (by show 2 + 3 < R.frames; omega) (by show _ + (13 * (2 + 1) + 43) ≤ R.locals; omega) (by omega) (by omega) c6 hx t4.2.2 (by omega) (by omega)
  · exact vx_throwSW (names := ["java/lang/RuntimeException", "java/lang/Exception"]) c1 c2 hl c4 hfit hnames (c5 _ hlink) (c5 _ hini) hsa hatb hgood c12.1 c12.2.1 t4 (by rw [t7.1, hlen, c3]) hd d3 d4 d6 d9 (hout _) (by show 2 + 3 < R.frames; omega) (by show _ + (13 * (2 + 1) + 43) ≤ R.locals; omega) (by omega) (by omega) c6 hx t4.2.2 (by omega) (by omega)
end G
end
section
/-! ===== every run of the small machine is a walk of the machine ===== -/
section G
variable {D : va_G} {Y : Nat → ClassId} {b : Nat} {A0 : Nat → Prop} {xs : Nat → Int32} {L : Nat} {l : Launch}
def m_nxt (xs : Nat → Int32) (L n mi : Nat) (o : MOut) (h' : MHp) : MAct → Prop
  | .inl c => m_run xs L n mi c = some (o, h')
  | .inr (.inl (q, c, pc)) => ∃ o1, m_run xs L n q.1 (m_entry q.1 q.2 c.2.2.2) = some o1 ∧ m_back (m_run xs L n) mi pc c.1 c.2.1 c.2.2.1 o1 = some (o, h')
  | .inr (.inr o2) => o2 = (o, h')
theorem m_nxt_of {n mi : Nat} {o : MOut} {h' : MHp} {c : MCfg} (hrun : m_stepF xs L (m_run xs L n) mi c = some (o, h')) : ∃ a, m_step xs L mi c = some a ∧ m_nxt xs L n mi o h' a := by
  unfold m_stepF at hrun
  split at hrun
  · cases hrun
  · rename_i c2 hc
    exact ⟨_, hc, hrun⟩
  · rename_i q c2 pc hc
    refine ⟨_, hc, ?_⟩
    split at hrun
    · cases hrun
    · rename_i o1 ho1
      exact ⟨o1, ho1, hrun⟩
  · rename_i o2 hc
    exact ⟨_, hc, Option.some.inj hrun⟩
/-- a return -/
theorem g_ret {mi pc : Nat} {i : Instr} {r : MCode} {ls : List MV} {h : MHp} {v : Option MV} (hre : m_RE mi pc v) (hok : m_okL h.1.length v.toList → ∀ w, v = some w → m_okV h.1.length w) : m_G D Y b A0 xs L l (.inl v) h mi ((pc, i) :: r) ls v.toList h := by
  refine ⟨Nat.le_refl _, Nat.le_refl _, ?_⟩
  intro p e R s m args below meth c hC A H locs z1 z2 lsA Q hT hE
  obtain ⟨t1, t2, t3, t4, t5, t6, t7, t8, t9, t10⟩ := id hT
  have k := hE.1 v rfl [] H locs pc lsA (by rw [List.append_nil]; exact t3) t4 (hok t6) hre
  rw [List.append_nil] at k
  exact k
theorem g_alen2 {o : MOut} {h' : MHp} {mi pc q n : Nat} {r : MCode} {ls st : List MV} {h : MHp} (hd : decode (m_cc mi) pc = .ok (.arraylength, 1)) (hg : m_len h q = some n) (hn : n < 2147483648) (K : m_G D Y b A0 xs L l o h' mi r ls (vI n :: st) h) (hp : m_pc r = pc + 1) : m_G D Y b A0 xs L l o h' mi ((pc, .arraylength) :: r) ls (vR q :: st) h := by
  unfold m_len at hg
  split at hg
  · rename_i c hc
    split at hg
    · rename_i h20
      exact g_alen hd ⟨c, hc, Option.some.inj hg, h20⟩ hn K hp
    · cases hg
  · cases hg
theorem m_cat_all {av : List MV} (h : av.all (fun v => decide (m_cat v = 1)) = true) : ∀ v ∈ av, m_cat v = 1 := fun v hv => of_decide_eq_true (List.all_eq_true.mp h v hv)
set_option maxHeartbeats 4000000 in
theorem m_stepSND (hl : l.stackTraces = false) {n : Nat} (ih : m_SND D Y b A0 xs L l n) : m_SND D Y b A0 xs L l (n + 1) := by
  intro mi cd ls st h h' o hrun hmi hvl hlen
  rw [m_run_succ] at hrun
  cases cd with
  | nil => cases hrun
  | cons x r =>
  obtain ⟨pc, i⟩ := x
  obtain ⟨⟨len, hdec, hl2, hnext⟩, hich, hvr⟩ := hvl
  have hd : m_iln i ≠ 0 → decode (m_cc mi) pc = .ok (i, m_iln i) := by
    intro hz
    rcases hl2 with h1 | h1
    · have h1 : m_iln i = len := h1
      rw [h1]; exact hdec
    · exact absurd h1 hz
  have hp0 : r ≠ [] → m_pc r = pc + len := by
    intro hr
    cases r with
    | nil => exact absurd rfl hr
    | cons y t => exact hnext y t rfl
  have hp : m_iln i ≠ 0 → r ≠ [] → m_pc r = pc + m_iln i := by
    intro hz hr
    rcases hl2 with h1 | h1
    · have h1 : m_iln i = len := h1
      rw [h1]; exact hp0 hr
    · exact absurd h1 hz
  have ne : ∀ {c2 : MCode} {ls2 st2 : List MV} {h2 : MHp}, m_run xs L n mi (c2, ls2, st2, h2) = some (o, h') → c2 ≠ [] := by
    intro c2 ls2 st2 h2 hr hz
    rw [hz, m_run_nil] at hr
    cases hr
  obtain ⟨a, hs, hn⟩ := m_nxt_of hrun
  have jo := m_jmp_ok hmi pc
  cases i with
  | iconst n =>
    simp only [m_step, m_act, m_nx, m_ld, m_end] at hs
    split at hs
    · rename_i hc
      cases hs
      exact g_iconst (hd (by simp [m_iln])) (show m_in n from of_decide_eq_true (p := -2147483648 ≤ n ∧ n < 2147483648) hc) (ih _ _ _ _ _ _ _ hn hmi hvr hlen) (hp (by simp [m_iln]) (ne hn))
    · cases hs
  | bipush n =>
    simp only [m_step, m_act, m_nx, m_ld, m_end] at hs
    split at hs
    · rename_i hc
      cases hs
      exact g_bipush (hd (by simp [m_iln])) hc (ih _ _ _ _ _ _ _ hn hmi hvr hlen) (hp (by simp [m_iln]) (ne hn))
    · cases hs
  | sipush n =>
    simp only [m_step, m_act, m_nx, m_ld, m_end] at hs
    split at hs
    · rename_i hc
      cases hs
      exact g_sipush (hd (by simp [m_iln])) hc (ih _ _ _ _ _ _ _ hn hmi hvr hlen) (hp (by simp [m_iln]) (ne hn))
    · cases hs
  | lconst k =>
    simp only [m_step, m_act, m_nx, m_ld, m_end] at hs
    cases hs
    exact g_lconst (hd (by simp [m_iln])) (ih _ _ _ _ _ _ _ hn hmi hvr hlen) (hp (by simp [m_iln]) (ne hn))
  | fconst k =>
    simp only [m_step, m_act, m_nx, m_ld, m_end] at hs
    split at hs
    · rename_i hc
      cases hs
      subst hc
      exact g_fconst (hd (by simp [m_iln])) (ih _ _ _ _ _ _ _ hn hmi hvr hlen) (hp (by simp [m_iln]) (ne hn))
    · cases hs
  | ldc k =>
    simp only [m_step, m_act, m_nx, m_ld, m_end] at hs
    split at hs
    · rename_i v hv
      cases hs
      exact g_ldc (hd (by simp [m_iln])) hv (ih _ _ _ _ _ _ _ hn hmi hvr hlen) (hp (by simp [m_iln]) (ne hn))
    · cases hs
  | ldc_w k =>
    simp only [m_step, m_act, m_nx, m_ld, m_end] at hs
    split at hs
    · rename_i v hv
      cases hs
      exact g_ldcw (hd (by simp [m_iln])) hv (ih _ _ _ _ _ _ _ hn hmi hvr hlen) (hp (by simp [m_iln]) (ne hn))
    · cases hs
  | iload_n k =>
    simp only [m_step, m_act, m_iload, m_nx, m_ld, m_end] at hs
    split at hs
    · rename_i x hv
      cases hs
      exact g_iload_n (hd (by simp [m_iln])) hv (ih _ _ _ _ _ _ _ hn hmi hvr hlen) (hp (by simp [m_iln]) (ne hn))
    · cases hs
  | iload k =>
    simp only [m_step, m_act, m_iload, m_nx, m_ld, m_end] at hs
    split at hs
    · rename_i x hv
      cases hs
      exact g_iload (hd (by simp [m_iln])) hv (ih _ _ _ _ _ _ _ hn hmi hvr hlen) (hp (by simp [m_iln]) (ne hn))
    · cases hs
  | aload_n k =>
    simp only [m_step, m_act, m_aload, m_nx, m_ld, m_end] at hs
    split at hs
    · rename_i x hv
      cases hs
      exact g_aload_n (hd (by simp [m_iln])) hv (ih _ _ _ _ _ _ _ hn hmi hvr hlen) (hp (by simp [m_iln]) (ne hn))
    · rename_i hv
      cases hs
      exact g_sload_n (hd (by simp [m_iln])) hv (ih _ _ _ _ _ _ _ hn hmi hvr hlen) (hp (by simp [m_iln]) (ne hn))
    · cases hs
  | aload k =>
    simp only [m_step, m_act, m_aload, m_nx, m_ld, m_end] at hs
    split at hs
    · rename_i x hv
      cases hs
      exact g_aload (hd (by simp [m_iln])) hv (ih _ _ _ _ _ _ _ hn hmi hvr hlen) (hp (by simp [m_iln]) (ne hn))
    · rename_i hv
      cases hs
      exact g_sload (hd (by simp [m_iln])) hv (ih _ _ _ _ _ _ _ hn hmi hvr hlen) (hp (by simp [m_iln]) (ne hn))
    · cases hs
  | fload_n k =>
    simp only [m_step, m_act, m_fload, m_nx, m_ld, m_end] at hs
    split at hs
    · rename_i x hv
      cases hs
      exact g_fload_n (hd (by simp [m_iln])) hv (ih _ _ _ _ _ _ _ hn hmi hvr hlen) (hp (by simp [m_iln]) (ne hn))
    · cases hs
  | fload k =>
    simp only [m_step, m_act, m_fload, m_nx, m_ld, m_end] at hs
    split at hs
    · rename_i x hv
      cases hs
      exact g_fload (hd (by simp [m_iln])) hv (ih _ _ _ _ _ _ _ hn hmi hvr hlen) (hp (by simp [m_iln]) (ne hn))
    · cases hs
  | istore_n k =>
    simp only [m_step, m_act, m_istore, m_nx, m_ld, m_end] at hs
    split at hs
    · rename_i x st2
      split at hs
      · rename_i hc
        cases hs
        exact g_istore_n (hd (by simp [m_iln])) hc (ih _ _ _ _ _ _ _ hn hmi hvr (by rw [List.length_set]; exact hlen)) (hp (by simp [m_iln]) (ne hn))
      · cases hs
    · cases hs
  | istore k =>
    simp only [m_step, m_act, m_istore, m_nx, m_ld, m_end] at hs
    split at hs
    · rename_i x st2
      split at hs
      · rename_i hc
        cases hs
        exact g_istore (hd (by simp [m_iln])) hc (ih _ _ _ _ _ _ _ hn hmi hvr (by rw [List.length_set]; exact hlen)) (hp (by simp [m_iln]) (ne hn))
      · cases hs
    · cases hs
  | astore_n k =>
    simp only [m_step, m_act, m_astore, m_nx, m_ld, m_end] at hs
    split at hs
    · rename_i x st2
      split at hs
      · rename_i hc
        cases hs
        exact g_astore_n (hd (by simp [m_iln])) hc (ih _ _ _ _ _ _ _ hn hmi hvr (by rw [List.length_set]; exact hlen)) (hp (by simp [m_iln]) (ne hn))
      · cases hs
    · cases hs
  | astore k =>
    simp only [m_step, m_act, m_astore, m_nx, m_ld, m_end] at hs
    split at hs
    · rename_i x st2
      split at hs
      · rename_i hc
        cases hs
        exact g_astore (hd (by simp [m_iln])) hc (ih _ _ _ _ _ _ _ hn hmi hvr (by rw [List.length_set]; exact hlen)) (hp (by simp [m_iln]) (ne hn))
      · cases hs
    · cases hs
  | fstore_n k =>
    simp only [m_step, m_act, m_fstore, m_nx, m_ld, m_end] at hs
    split at hs
    · rename_i x st2
      split at hs
      · rename_i hc
        cases hs
        exact g_fstore_n (hd (by simp [m_iln])) hc (ih _ _ _ _ _ _ _ hn hmi hvr (by rw [List.length_set]; exact hlen)) (hp (by simp [m_iln]) (ne hn))
      · cases hs
    · cases hs
  | fstore k =>
    simp only [m_step, m_act, m_fstore, m_nx, m_ld, m_end] at hs
    split at hs
    · rename_i x st2
      split at hs
      · rename_i hc
        cases hs
        exact g_fstore (hd (by simp [m_iln])) hc (ih _ _ _ _ _ _ _ hn hmi hvr (by rw [List.length_set]; exact hlen)) (hp (by simp [m_iln]) (ne hn))
      · cases hs
    · cases hs
  | iinc k n =>
    simp only [m_step, m_act, m_iinc, m_nx, m_ld, m_end] at hs
    split at hs
    · rename_i x hv
      cases hs
      exact g_iinc (hd (by simp [m_iln])) hv (ih _ _ _ _ _ _ _ hn hmi hvr (by rw [List.length_set]; exact hlen)) (hp (by simp [m_iln]) (ne hn))
    · cases hs
  | iadd =>
    simp only [m_step, m_act, m_bin, m_nx, m_ld, m_end] at hs
    split at hs
    · rename_i x y st2
      cases hs
      exact g_iadd (hd (by simp [m_iln])) (ih _ _ _ _ _ _ _ hn hmi hvr hlen) (hp (by simp [m_iln]) (ne hn))
    · cases hs
  | isub =>
    simp only [m_step, m_act, m_bin, m_nx, m_ld, m_end] at hs
    split at hs
    · rename_i x y st2
      cases hs
      exact g_isub (hd (by simp [m_iln])) (ih _ _ _ _ _ _ _ hn hmi hvr hlen) (hp (by simp [m_iln]) (ne hn))
    · cases hs
  | imul =>
    simp only [m_step, m_act, m_bin, m_nx, m_ld, m_end] at hs
    split at hs
    · rename_i x y st2
      cases hs
      exact g_imul (hd (by simp [m_iln])) (ih _ _ _ _ _ _ _ hn hmi hvr hlen) (hp (by simp [m_iln]) (ne hn))
    · cases hs
  | iand =>
    simp only [m_step, m_act, m_bin, m_nx, m_ld, m_end] at hs
    split at hs
    · rename_i x y st2
      cases hs
      exact g_iand (hd (by simp [m_iln])) (ih _ _ _ _ _ _ _ hn hmi hvr hlen) (hp (by simp [m_iln]) (ne hn))
    · cases hs
  | ishr =>
    simp only [m_step, m_act, m_bin, m_nx, m_ld, m_end] at hs
    split at hs
    · rename_i x y st2
      cases hs
      exact g_ishr (hd (by simp [m_iln])) (ih _ _ _ _ _ _ _ hn hmi hvr hlen) (hp (by simp [m_iln]) (ne hn))
    · cases hs
  | idiv =>
    simp only [m_step, m_act, m_dbin, m_nx, m_ld, m_end] at hs
    split at hs
    · rename_i x y st2
      split at hs
      · cases hs
      · rename_i hc
        cases hs
        exact g_idiv (hd (by simp [m_iln])) hc (ih _ _ _ _ _ _ _ hn hmi hvr hlen) (hp (by simp [m_iln]) (ne hn))
    · cases hs
  | irem =>
    simp only [m_step, m_act, m_dbin, m_nx, m_ld, m_end] at hs
    split at hs
    · rename_i x y st2
      split at hs
      · cases hs
      · rename_i hc
        cases hs
        exact g_irem (hd (by simp [m_iln])) hc (ih _ _ _ _ _ _ _ hn hmi hvr hlen) (hp (by simp [m_iln]) (ne hn))
    · cases hs
  | i2l =>
    simp only [m_step, m_act, m_i2l, m_nx, m_ld, m_end] at hs
    split at hs
    · rename_i x st2
      cases hs
      exact g_i2l (hd (by simp [m_iln])) (ih _ _ _ _ _ _ _ hn hmi hvr hlen) (hp (by simp [m_iln]) (ne hn))
    · cases hs
  | i2f =>
    simp only [m_step, m_act, m_i2f, m_nx, m_ld, m_end] at hs
    split at hs
    · rename_i x st2
      cases hs
      exact g_i2f (hd (by simp [m_iln])) (ih _ _ _ _ _ _ _ hn hmi hvr hlen) (hp (by simp [m_iln]) (ne hn))
    · cases hs
  | f2d =>
    simp only [m_step, m_act, m_f2d, m_nx, m_ld, m_end] at hs
    split at hs
    · rename_i x st2
      split at hs
      · rename_i hc
        cases hs
        exact g_f2d (hd (by simp [m_iln])) hc (ih _ _ _ _ _ _ _ hn hmi hvr hlen) (hp (by simp [m_iln]) (ne hn))
      · cases hs
    · cases hs
  | fmul =>
    simp only [m_step, m_act, m_fbin, m_nx, m_ld, m_end] at hs
    split at hs
    · rename_i x y st2
      split at hs
      · rename_i hc
        cases hs
        exact g_fmul (hd (by simp [m_iln])) hc (ih _ _ _ _ _ _ _ hn hmi hvr hlen) (hp (by simp [m_iln]) (ne hn))
      · cases hs
    · cases hs
  | fdiv =>
    simp only [m_step, m_act, m_fbin, m_nx, m_ld, m_end] at hs
    split at hs
    · rename_i x y st2
      split at hs
      · rename_i hc
        cases hs
        exact g_fdiv (hd (by simp [m_iln])) hc (ih _ _ _ _ _ _ _ hn hmi hvr hlen) (hp (by simp [m_iln]) (ne hn))
      · cases hs
    · cases hs
  | fcmp op =>
    simp only [m_step, m_act, m_fcmp, m_nx, m_ld, m_end] at hs
    split at hs
    · rename_i x y st2
      cases hs
      exact g_fcmp (hd (by simp [m_iln])) (ih _ _ _ _ _ _ _ hn hmi hvr hlen) (hp (by simp [m_iln]) (ne hn))
    · cases hs
  | dcmp op =>
    simp only [m_step, m_act, m_dcmp, m_nx, m_ld, m_end] at hs
    split at hs
    · rename_i x y st2
      cases hs
      exact g_dcmp (hd (by simp [m_iln])) (ih _ _ _ _ _ _ _ hn hmi hvr hlen) (hp (by simp [m_iln]) (ne hn))
    · cases hs
  | lcmp =>
    simp only [m_step, m_act, m_lcmp, m_nx, m_ld, m_end] at hs
    split at hs
    · rename_i x y st2
      cases hs
      exact g_lcmp (hd (by simp [m_iln])) (ih _ _ _ _ _ _ _ hn hmi hvr hlen) (hp (by simp [m_iln]) (ne hn))
    · cases hs
  | ifCond c off =>
    simp only [m_step, m_act, m_if, m_nx, m_ld, m_end] at hs
    split at hs
    · rename_i x st2
      split at hs
      · rename_i hc
        cases hs
        exact g_if_t (hd (by simp [m_iln])) hc (ih _ _ _ _ _ _ _ hn hmi (jo off).1 hlen) ((jo off).2 (ne hn))
      · rename_i hc
        cases hs
        exact g_if_f (j := [(((pc : Int) + off).toNat, Instr.nop)]) (hd (by simp [m_iln])) hc (ih _ _ _ _ _ _ _ hn hmi hvr hlen) (hp (by simp [m_iln]) (ne hn)) (Int.toNat_of_nonneg (of_decide_eq_true hich)).symm
    · cases hs
  | if_icmp c off =>
    simp only [m_step, m_act, m_icmp, m_nx, m_ld, m_end] at hs
    split at hs
    · rename_i x y st2
      split at hs
      · rename_i hc
        cases hs
        exact g_icmp_t (hd (by simp [m_iln])) hc (ih _ _ _ _ _ _ _ hn hmi (jo off).1 hlen) ((jo off).2 (ne hn))
      · rename_i hc
        cases hs
        exact g_icmp_f (j := [(((pc : Int) + off).toNat, Instr.nop)]) (hd (by simp [m_iln])) hc (ih _ _ _ _ _ _ _ hn hmi hvr hlen) (hp (by simp [m_iln]) (ne hn)) (Int.toNat_of_nonneg (of_decide_eq_true hich)).symm
    · cases hs
  | goto off =>
    simp only [m_step, m_act, m_nx, m_ld, m_end] at hs
    cases hs
    exact g_goto (hd (by simp [m_iln])) (ih _ _ _ _ _ _ _ hn hmi (jo off).1 hlen) ((jo off).2 (ne hn))
  | tableswitch d lo hi offs =>
    simp only [m_step, m_act, m_sw, m_nx, m_ld, m_end] at hs
    split at hs
    · rename_i x st2
      split at hs
      · rename_i hc
        cases hs
        exact g_sw_out hdec hc (ih _ _ _ _ _ _ _ hn hmi (jo d).1 hlen) ((jo d).2 (ne hn))
      · rename_i hc
        split at hs
        · rename_i off ho
          cases hs
          exact g_sw_in hdec hc ho (ih _ _ _ _ _ _ _ hn hmi (jo off).1 hlen) ((jo off).2 (ne hn))
        · cases hs
    · cases hs
  | getfield k =>
    simp only [m_step, m_act, m_getf, m_nx, m_ld, m_end] at hs
    split at hs
    · rename_i ci f tk fin q st2 hf
      split at hs
      · rename_i v hv
        cases hs
        exact g_getf (hd (by simp [m_iln])) hf hv (ih _ _ _ _ _ _ _ hn hmi hvr hlen) (hp (by simp [m_iln]) (ne hn))
      · cases hs
    · cases hs
  | putfield k =>
    simp only [m_step, m_act, m_putf, m_nx, m_ld, m_end] at hs
    split at hs
    · rename_i ci f tk fin v q st2 hf
      split at hs
      · rename_i hc
        cases hs
        exact g_putf (hd (by simp [m_iln])) hf hc.1 hc.2.1 hc.2.2 (by
      cases fin with
      | false => exact Or.inr rfl
      | true =>
        refine Or.inl (Nat.lt_of_le_of_ne (by omega) (fun z => ?_))
        have h9 := (hc.2.2 rfl).1
        rw [z] at h9
        exact absurd h9 (by decide +kernel)) (ih _ _ _ _ _ _ _ hn hmi hvr hlen) (hp (by simp [m_iln]) (ne hn))
      · cases hs
    · cases hs
  | iaload =>
    simp only [m_step, m_act, m_iald, m_nx, m_ld, m_end] at hs
    split at hs
    · rename_i x q st2
      split at hs
      · rename_i v hv
        cases hs
        exact g_iald (hd (by simp [m_iln])) hv (ih _ _ _ _ _ _ _ hn hmi hvr hlen) (hp (by simp [m_iln]) (ne hn))
      · cases hs
    · rename_i x st2
      split at hs
      · rename_i hc
        cases hs
        exact g_sald (hd (by simp [m_iln])) hc.1 hc.2 (ih _ _ _ _ _ _ _ hn hmi hvr hlen) (hp (by simp [m_iln]) (ne hn))
      · cases hs
    · cases hs
  | baload =>
    simp only [m_step, m_act, m_zald, m_nx, m_ld, m_end] at hs
    split at hs
    · rename_i x q st2
      split at hs
      · rename_i v hv
        cases hs
        exact g_zald (hd (by simp [m_iln])) hv (ih _ _ _ _ _ _ _ hn hmi hvr hlen) (hp (by simp [m_iln]) (ne hn))
      · cases hs
    · cases hs
  | faload =>
    simp only [m_step, m_act, m_fald, m_nx, m_ld, m_end] at hs
    split at hs
    · rename_i x q st2
      split at hs
      · rename_i v hv
        cases hs
        exact g_fald (hd (by simp [m_iln])) hv (ih _ _ _ _ _ _ _ hn hmi hvr hlen) (hp (by simp [m_iln]) (ne hn))
      · cases hs
    · cases hs
  | laload =>
    simp only [m_step, m_act, m_lald, m_nx, m_ld, m_end] at hs
    split at hs
    · rename_i x q st2
      split at hs
      · rename_i v hv
        cases hs
        exact g_lald (hd (by simp [m_iln])) hv (ih _ _ _ _ _ _ _ hn hmi hvr hlen) (hp (by simp [m_iln]) (ne hn))
      · cases hs
    · cases hs
  | daload =>
    simp only [m_step, m_act, m_dald, m_nx, m_ld, m_end] at hs
    split at hs
    · rename_i x q st2
      split at hs
      · rename_i v hv
        cases hs
        exact g_dald (hd (by simp [m_iln])) hv (ih _ _ _ _ _ _ _ hn hmi hvr hlen) (hp (by simp [m_iln]) (ne hn))
      · cases hs
    · cases hs
  | aaload =>
    simp only [m_step, m_act, m_aald, m_nx, m_ld, m_end] at hs
    split at hs
    · rename_i x q st2
      split at hs
      · rename_i t ht
        split at hs
        · rename_i hc
          split at hs
          · rename_i z hv
            cases hs
            exact g_aald (hd (by simp [m_iln])) hc.1 hc.2 hv (ih _ _ _ _ _ _ _ hn hmi hvr hlen) (hp (by simp [m_iln]) (ne hn))
          · cases hs
        · cases hs
      · cases hs
    · cases hs
  | iastore =>
    simp only [m_step, m_act, m_iast, m_nx, m_ld, m_end] at hs
    split at hs
    · rename_i x y q st2
      split at hs
      · rename_i hc
        cases hs
        exact g_iast (hd (by simp [m_iln])) hc (ih _ _ _ _ _ _ _ hn hmi hvr hlen) (hp (by simp [m_iln]) (ne hn))
      · cases hs
    · cases hs
  | fastore =>
    simp only [m_step, m_act, m_fast, m_nx, m_ld, m_end] at hs
    split at hs
    · rename_i x y q st2
      split at hs
      · rename_i hc
        cases hs
        exact g_fast (hd (by simp [m_iln])) hc (ih _ _ _ _ _ _ _ hn hmi hvr hlen) (hp (by simp [m_iln]) (ne hn))
      · cases hs
    · cases hs
  | lastore =>
    simp only [m_step, m_act, m_last, m_nx, m_ld, m_end] at hs
    split at hs
    · rename_i x y q st2
      split at hs
      · rename_i hc
        cases hs
        exact g_last (hd (by simp [m_iln])) hc (ih _ _ _ _ _ _ _ hn hmi hvr hlen) (hp (by simp [m_iln]) (ne hn))
      · cases hs
    · cases hs
  | dastore =>
    simp only [m_step, m_act, m_dast, m_nx, m_ld, m_end] at hs
    split at hs
    · rename_i x y q st2
      split at hs
      · rename_i hc
        cases hs
        exact g_dast (hd (by simp [m_iln])) hc (ih _ _ _ _ _ _ _ hn hmi hvr hlen) (hp (by simp [m_iln]) (ne hn))
      · cases hs
    · cases hs
  | bastore =>
    simp only [m_step, m_act, m_zast, m_nx, m_ld, m_end] at hs
    split at hs
    · rename_i x y q st2
      split at hs
      · rename_i hc
        cases hs
        exact g_zast (hd (by simp [m_iln])) hc.1 hc.2 (ih _ _ _ _ _ _ _ hn hmi hvr hlen) (hp (by simp [m_iln]) (ne hn))
      · cases hs
    · cases hs
  | aastore =>
    simp only [m_step, m_act, m_aast, m_nx, m_ld, m_end] at hs
    split at hs
    · rename_i z x q st2
      split at hs
      · rename_i t ht
        split at hs
        · rename_i hc
          cases hs
          exact g_aast (hd (by simp [m_iln])) ht hc.1 hc.2 (ih _ _ _ _ _ _ _ hn hmi hvr hlen) (hp (by simp [m_iln]) (ne hn))
        · cases hs
      · cases hs
    · cases hs
  | arraylength =>
    simp only [m_step, m_act, m_alen, m_nx, m_ld, m_end] at hs
    split at hs
    · rename_i q st2
      split at hs
      · rename_i nn hv
        split at hs
        · rename_i hc
          cases hs
          exact g_alen2 (hd (by simp [m_iln])) hv hc (ih _ _ _ _ _ _ _ hn hmi hvr hlen) (hp (by simp [m_iln]) (ne hn))
        · cases hs
      · cases hs
    · rename_i st2
      split at hs
      · rename_i hc
        cases hs
        exact g_slen (hd (by simp [m_iln])) hc.1 hc.2 (ih _ _ _ _ _ _ _ hn hmi hvr hlen) (hp (by simp [m_iln]) (ne hn))
      · cases hs
    · cases hs
  | newarray at0 =>
    cases at0 <;> simp only [m_step, m_act, m_newarr, m_nx] at hs
    · split at hs
      · rename_i x st2
        split at hs
        · rename_i hc
          cases hs
          exact g_newz (hd (by simp [m_iln])) hc (ih _ _ _ _ _ _ _ hn hmi hvr hlen) (hp (by simp [m_iln]) (ne hn))
        · cases hs
      · cases hs
    · cases hs
    · split at hs
      · rename_i x st2
        split at hs
        · rename_i hc
          cases hs
          exact g_newf (hd (by simp [m_iln])) hc (ih _ _ _ _ _ _ _ hn hmi hvr hlen) (hp (by simp [m_iln]) (ne hn))
        · cases hs
      · cases hs
    · split at hs
      · rename_i x st2
        split at hs
        · rename_i hc
          cases hs
          exact g_newd (hd (by simp [m_iln])) hc (ih _ _ _ _ _ _ _ hn hmi hvr hlen) (hp (by simp [m_iln]) (ne hn))
        · cases hs
      · cases hs
    · cases hs
    · cases hs
    · split at hs
      · rename_i x st2
        split at hs
        · rename_i hc
          cases hs
          exact g_newi (hd (by simp [m_iln])) hc (ih _ _ _ _ _ _ _ hn hmi hvr hlen) (hp (by simp [m_iln]) (ne hn))
        · cases hs
      · cases hs
    · split at hs
      · rename_i x st2
        split at hs
        · rename_i hc
          cases hs
          exact g_newl (hd (by simp [m_iln])) hc (ih _ _ _ _ _ _ _ hn hmi hvr hlen) (hp (by simp [m_iln]) (ne hn))
        · cases hs
      · cases hs
  | anewarray k =>
    simp only [m_step, m_act, m_nx, m_ld, m_end] at hs
    split at hs
    · rename_i ci hk
      split at hs
      · rename_i hoa
        simp only [m_newarr, m_nx] at hs
        split at hs
        · rename_i x st2
          split at hs
          · rename_i hc
            cases hs
            exact g_newq (hd (by simp [m_iln])) hk hoa hc (ih _ _ _ _ _ _ _ hn hmi hvr hlen) (hp (by simp [m_iln]) (ne hn))
          · cases hs
        · cases hs
      · cases hs
    · cases hs
  | new k =>
    simp only [m_step, m_act, m_new, m_nx] at hs
    split at hs
    · rename_i ci hk
      cases hs
      exact g_new (hd (by simp [m_iln])) hk (ih _ _ _ _ _ _ _ hn hmi hvr hlen) (hp (by simp [m_iln]) (ne hn))
    · rename_i ex hk
      split at hs
      · rename_i q1 q2 is q3 ic q4 r4
        split at hs
        · rename_i hc
          cases hs
          have hn : (Sum.inr ex, (h.1, h.2.1 + 1, h.2.2 + 6)) = (o, h') := hn
          cases hn
          obtain ⟨⟨n1, e1, f1, g1⟩, -, ⟨n2, e2, f2, g2⟩, -, ⟨n3, e3, f3, g3⟩, hk3, ⟨n4, e4, f4, -⟩, -⟩ := hvr
          have hpn := hp (by simp [m_iln]) (List.cons_ne_nil _ _)
          have x1 : q1 = pc + 3 := hpn
          have y1 : n1 = 1 := by rcases f1 with z | z <;> cases z; rfl
          have y2 : n2 = 2 := by rcases f2 with z | z <;> cases z; rfl
          have y3 : n3 = 3 := by rcases f3 with z | z <;> cases z; rfl
          subst y1; subst y2; subst y3
          have x2 : q2 = q1 + 1 := g1 _ _ rfl
          have x3 : q3 = q2 + 2 := g2 _ _ rfl
          have x4 : q4 = q3 + 3 := g3 _ _ rfl
          subst x4; subst x3; subst x2; subst x1
          have y4 : n4 = 1 := by rcases f4 with z | z <;> cases z; rfl
          subst y4
          have hkc : m_kchk mi (cR (m_own mi) ic) = true := hk3
          rw [hc.1] at hkc
          simp only [m_kchk, Bool.and_eq_true, decide_eq_true_eq, List.isEmpty_iff] at hkc
          exact g_throw (nl := 2) (hd (by simp [m_iln])) hk hc.1 hc.2.1 hc.2.2 (Or.inl ⟨rfl, rfl⟩) e1 e2 e3 e4 hkc.1 hkc.2 hlen hl
        · cases hs
      · rename_i q1 q2 is q3 ic q4 r4
        split at hs
        · rename_i hc
          cases hs
          have hn : (Sum.inr ex, (h.1, h.2.1 + 1, h.2.2 + 6)) = (o, h') := hn
          cases hn
          obtain ⟨⟨n1, e1, f1, g1⟩, -, ⟨n2, e2, f2, g2⟩, -, ⟨n3, e3, f3, g3⟩, hk3, ⟨n4, e4, f4, -⟩, -⟩ := hvr
          have hpn := hp (by simp [m_iln]) (List.cons_ne_nil _ _)
          have x1 : q1 = pc + 3 := hpn
          have y1 : n1 = 1 := by rcases f1 with z | z <;> cases z; rfl
          have y2 : n2 = 3 := by rcases f2 with z | z <;> cases z; rfl
          have y3 : n3 = 3 := by rcases f3 with z | z <;> cases z; rfl
          have y4 : n4 = 1 := by rcases f4 with z | z <;> cases z; rfl
          subst y1; subst y2; subst y3; subst y4
          have x2 : q2 = q1 + 1 := g1 _ _ rfl
          have x3 : q3 = q2 + 3 := g2 _ _ rfl
          have x4 : q4 = q3 + 3 := g3 _ _ rfl
          subst x4; subst x3; subst x2; subst x1
          have hkc : m_kchk mi (cR (m_own mi) ic) = true := hk3
          rw [hc.1] at hkc
          simp only [m_kchk, Bool.and_eq_true, decide_eq_true_eq, List.isEmpty_iff] at hkc
          exact g_throw (nl := 3) (hd (by simp [m_iln])) hk hc.1 hc.2.1 hc.2.2 (Or.inr ⟨rfl, rfl⟩) e1 e2 e3 e4 hkc.1 hkc.2 hlen hl
        · cases hs
      · cases hs
    · cases hs
  | dup =>
    simp only [m_step, m_act, m_dup, m_nx, m_ld, m_end] at hs
    split at hs
    · rename_i v st2
      split at hs
      · rename_i hc
        cases hs
        exact g_dup (hd (by simp [m_iln])) hc (ih _ _ _ _ _ _ _ hn hmi hvr hlen) (hp (by simp [m_iln]) (ne hn))
      · cases hs
    · cases hs
  | dup2 =>
    simp only [m_step, m_act, m_dup2, m_nx, m_ld, m_end] at hs
    split at hs
    · rename_i v w st2
      split at hs
      · rename_i hc
        cases hs
        exact g_dup2 (hd (by simp [m_iln])) hc.1 hc.2 (ih _ _ _ _ _ _ _ hn hmi hvr hlen) (hp (by simp [m_iln]) (ne hn))
      · cases hs
    · cases hs
  | pop =>
    simp only [m_step, m_act, m_pop, m_nx, m_ld, m_end] at hs
    split at hs
    · rename_i v st2
      split at hs
      · rename_i hc
        cases hs
        exact g_pop (hd (by simp [m_iln])) hc (ih _ _ _ _ _ _ _ hn hmi hvr hlen) (hp (by simp [m_iln]) (ne hn))
      · cases hs
    · cases hs
  | invokestatic k =>
    simp only [m_step, m_act, m_invs, m_callA, m_nx] at hs
    have hich : m_kchk mi (cR (m_own mi) k) = true := hich
    split at hs
    · rename_i mj hk
      rw [hk] at hich
      simp only [m_kchk, decide_eq_true_eq] at hich
      split at hs
      · rename_i hc
        split at hs
        · rename_i hc2
          cases hs
          obtain ⟨o1, hr1, hb1⟩ := hn
          have hav : (st.take (m_narg mj)).reverse.length = m_narg mj := by rw [List.length_reverse, List.length_take]; omega
          have e : st = (st.take (m_narg mj)).reverse.reverse ++ st.drop (m_narg mj) := by rw [List.reverse_reverse, List.take_append_drop]
          rw [e]
          exact g_invs ih (hd (by simp [m_iln])) hk hc.1 hav hich (m_cat_all hc2.2.1) hc2.2.2 hc2.1 hl hmi hlen hvr (hp (by simp [m_iln])) (fun _ => trivial) hr1 hb1 (fun h9 w hw => h9 w (List.mem_append_left _ (List.mem_reverse.mpr hw)))
        · cases hs
      · cases hs
    · rename_i q hk
      rw [hk] at hich
      simp only [m_kchk, decide_eq_true_eq] at hich
      split at hs
      · rename_i x y st2
        split at hs
        · rename_i hc
          cases hs
          exact g_max (hd (by simp [m_iln])) hk hich hc hlen (ih _ _ _ _ _ _ _ hn hmi hvr hlen) (hp (by simp [m_iln]) (ne hn))
        · cases hs
      · cases hs
    · cases hs
  | invokevirtual k =>
    simp only [m_step, m_act, m_invv, m_callA, m_nx] at hs
    have hich : m_kchk mi (cR (m_own mi) k) = true := hich
    split at hs
    · rename_i mj hk
      rw [hk] at hich
      simp only [m_kchk, decide_eq_true_eq] at hich
      split at hs
      · rename_i z st2 hst
        split at hs
        · rename_i hc
          split at hs
          · rename_i hc2
            cases hs
            obtain ⟨o1, hr1, hb1⟩ := hn
            have hle : m_narg mj < st.length := by
              rcases Nat.lt_or_ge (m_narg mj) st.length with h9 | h9
              · exact h9
              · rw [List.drop_eq_nil_of_le h9] at hst; cases hst
            have hav : (st.take (m_narg mj)).reverse.length = m_narg mj := by rw [List.length_reverse, List.length_take]; omega
            have e : st = (st.take (m_narg mj)).reverse.reverse ++ vR z :: st2 := by rw [List.reverse_reverse, ← hst, List.take_append_drop]
            rw [e]
            have hcat := m_cat_all hc2.2.1
            exact g_invv ih (hd (by simp [m_iln])) hk hc.1 hc.2 hav hich (fun v hv => hcat v (List.mem_cons_of_mem _ hv)) hc2.2.2 hc2.1 hl hmi hlen hvr (hp (by simp [m_iln])) hr1 hb1
          · cases hs
        · cases hs
      · cases hs
    · cases hs
  | invokespecial k =>
    simp only [m_step, m_act, m_invi, m_callA, m_nx] at hs
    have hich : m_kchk mi (cR (m_own mi) k) = true := hich
    split at hs
    · rename_i mj hk
      rw [hk] at hich
      simp only [m_kchk, decide_eq_true_eq] at hich
      split at hs
      · rename_i z st2 hst
        split at hs
        · rename_i hc
          split at hs
          · rename_i hc2
            cases hs
            obtain ⟨o1, hr1, hb1⟩ := hn
            have hle : m_narg mj < st.length := by
              rcases Nat.lt_or_ge (m_narg mj) st.length with h9 | h9
              · exact h9
              · rw [List.drop_eq_nil_of_le h9] at hst; cases hst
            have hav : (st.take (m_narg mj)).reverse.length = m_narg mj := by rw [List.length_reverse, List.length_take]; omega
            have e : st = (st.take (m_narg mj)).reverse.reverse ++ vR z :: st2 := by rw [List.reverse_reverse, ← hst, List.take_append_drop]
            rw [e]
            have hcat := m_cat_all hc2.2.1
            exact g_invi ih (hd (by simp [m_iln])) hk (Or.inl rfl) hc hav hich (fun v hv => hcat v (List.mem_cons_of_mem _ hv)) hc2.2.2 hc2.1 hl hmi hlen hvr (hp (by simp [m_iln])) hr1 hb1
          · cases hs
        · cases hs
      · cases hs
    · rename_i mj hk
      rw [hk] at hich
      simp only [m_kchk, decide_eq_true_eq] at hich
      split at hs
      · rename_i z st2 hst
        split at hs
        · rename_i hc
          split at hs
          · rename_i hc2
            cases hs
            obtain ⟨o1, hr1, hb1⟩ := hn
            have hle : m_narg mj < st.length := by
              rcases Nat.lt_or_ge (m_narg mj) st.length with h9 | h9
              · exact h9
              · rw [List.drop_eq_nil_of_le h9] at hst; cases hst
            have hav : (st.take (m_narg mj)).reverse.length = m_narg mj := by rw [List.length_reverse, List.length_take]; omega
            have e : st = (st.take (m_narg mj)).reverse.reverse ++ vR z :: st2 := by rw [List.reverse_reverse, ← hst, List.take_append_drop]
            rw [e]
            have hcat := m_cat_all hc2.2.1
            exact g_invi ih (hd (by simp [m_iln])) hk (Or.inr rfl) hc hav hich (fun v hv => hcat v (List.mem_cons_of_mem _ hv)) hc2.2.2 hc2.1 hl hmi hlen hvr (hp (by simp [m_iln])) hr1 hb1
          · cases hs
        · cases hs
      · cases hs
    · rename_i q hk
      rw [hk] at hich
      simp only [m_kchk, decide_eq_true_eq] at hich
      split at hs
      · rename_i z st2
        split at hs
        · rename_i hc
          cases hs
          exact g_obj (hd (by simp [m_iln])) hk hich hc hlen (ih _ _ _ _ _ _ _ hn hmi hvr hlen) (hp (by simp [m_iln]) (ne hn))
        · cases hs
      · cases hs
    · cases hs
  | ireturn =>
    simp only [m_step, m_act, m_iret, m_end] at hs
    split at hs
    · rename_i x ht
      cases hs
      have hn : (Sum.inl (some (vI x)), h) = (o, h') := hn
      cases hn
      exact g_ret (Or.inl ⟨x, rfl, Or.inl ht, hd (by simp [m_iln])⟩) (fun h2 w hw => by cases hw; exact h2.head)
    · rename_i x ht
      split at hs
      · rename_i hc
        cases hs
        have hn : (Sum.inl (some (vI x)), h) = (o, h') := hn
        cases hn
        exact g_ret (Or.inl ⟨x, rfl, Or.inr ⟨ht, hc⟩, hd (by simp [m_iln])⟩) (fun h2 w hw => by cases hw; exact h2.head)
      · cases hs
    · cases hs
  | freturn =>
    simp only [m_step, m_act, m_fret, m_end] at hs
    split at hs
    · rename_i x ht
      cases hs
      have hn : (Sum.inl (some (vF x)), h) = (o, h') := hn
      cases hn
      exact g_ret (Or.inr (Or.inl ⟨x, rfl, ht, hd (by simp [m_iln])⟩)) (fun h2 w hw => by cases hw; exact h2.head)
    · cases hs
  | areturn =>
    simp only [m_step, m_act, m_aret, m_end] at hs
    split at hs
    · rename_i nn x ht
      cases hs
      have hn : (Sum.inl (some (vR x)), h) = (o, h') := hn
      cases hn
      exact g_ret (Or.inr (Or.inr (Or.inl ⟨x, nn, rfl, ht, hd (by simp [m_iln])⟩))) (fun h2 w hw => by cases hw; exact h2.head)
    · cases hs
  | return_ =>
    simp only [m_step, m_act, m_vret, m_end] at hs
    split at hs
    · rename_i ht
      cases hs
      have hn : (Sum.inl none, h) = (o, h') := hn
      cases hn
      exact g_ret (v := none) (Or.inr (Or.inr (Or.inr ⟨rfl, ht, hd (by simp [m_iln])⟩))) (fun h2 w hw => by cases hw)
    · cases hs
  | _ => cases hs
theorem m_sound (hl : l.stackTraces = false) : ∀ n, m_SND D Y b A0 xs L l n
  | 0 => fun mi cd ls st h h' o hrun => by cases hrun
  | n + 1 => m_stepSND hl (m_sound hl n)
end G
end
section
/-! THE CLAIM OUT OF ONE WALK OF THE LAW'S BODY. Your part is whole_start (and what it stands on); all else here is the same for every law, but numbers. -/
def R_law : String := "ThroughcoachLaw"
def lw_P (b : Addr) (xs : List Int32) (args : Array Value) (s : State) : Prop := args = #[.ref b] ∧ s.IntsAt b xs ∧ xs.length ≤ 4096 ∧ (Jvm.Cond.and given_1 narrow_1).before args s = true
/-- what a walk over the start with the record d0 says of its end, said of the start itself -/
theorem lw_closed {s t : State} {o : Outcome} {d0 : Drawn} {L : List Loc} {k n : Nat} (hd0 : s.drawn.sameBut d0 lw_cs) (hv : ∃ v, o = .returned v) (hW : (s.setDrawn d0).WarmedH t.vm) (hs : (s.setDrawn d0).sameButNew ({ t with vm := s.vm } : State) L k n) : State.butDraws s t lw_cs (fun t1 => Framed s o t1 L k n) := by
  have h2 : t.drawn = d0 := congrArg State.drawn hs.1
  refine ⟨⟨hv, hW, State.sameButNew.setDrawn hs s.drawn⟩, ?_, by decide⟩
  rw [h2]
  exact hd0
def lw_Q (_ : Array Value) (s : State) (o : Outcome) (t : State) : Prop := o = .returned (some (.int 1)) ∧ State.butDraws s t lw_cs (fun t1 => Framed s o t1 [] 601024 7293034)
def lw_Z (below : List Frame) (a : Array Value) (s : State) : State → Prop := fun t => ∃ o, t.status = .running ∧ Ended t below o ∧ lw_Q a s o t
/-- the law's own end, with 1 on the stack, nothing written that was there before, its room as the claim has it; d0: the record of draws at this point (at the entry s.drawn: begin with 'refine W.base ?_' and 'have hd0 := Drawn.sameBut.refl s.drawn lw_cs') -/
theorem lw_ret {p : Program} {l : Launch} {e : Env} {s : State} {m : MethodId} {below : List Frame} {meth : Method} {c : Code} {b : Nat} {d0 : Drawn} (hd0 : s.drawn.sameBut d0 lw_cs) (hx : p.tables.exec = Jvm.exec) (hb : c.code = code) (hr : meth.sig.returnType = ret) (hlocks : meth.locks = false) {pc : Nat} {H : Heap} {ls : Array Slot} (hdg : decode code pc = .ok (.ireturn, 1)) : W p l e room_1 (s.setDrawn d0) m #[Value.ref b] below meth c H [] 601024 7293034 (lw_Z below #[Value.ref b] s) (F0 m pc ls [.int 1]) := by
  intro T hT X
  obtain ⟨fs, hret, hrun, hended, hW, hframe⟩ := X.leave (v := some (.int 1)) (hlocks := hlocks) (fun h => by rw [hr] at h; cases h)
  have hmeth' : T.vm.method? m = some meth := X.method'
  refine ⟨T.setFrames fs, ?_, .returned (some (.int 1)), hrun, hended, rfl, lw_closed hd0 ⟨_, rfl⟩ hW hframe⟩
  jvm_step X.here [X.here.top, hx, hb, hdg, hmeth', hr, ret, narrow_b1]
  (try refine ⟨rfl, ?_⟩); (try refine ⟨rfl, ?_⟩)
  first | (intro acts; rw [hret _ acts rfl rfl rfl]) | rw [hret _ _ rfl rfl rfl]
  exact Steps.refl _
/-- what holds at the law's entry: the machine, the code, the tables' words (any of lw_tbl by 'hts w (by decide +kernel)'), the script of L ints xs at the cell b, what the Statement gives of the start (any of its parts by flat_of_before) -/
def lw_At (p : Program) (s : State) (m : MethodId) (meth : Method) (c : Code) (b L : Nat) (xs : Nat → Int32) : Prop :=
  p.tables.exec = Jvm.exec ∧ c.code = code ∧ meth.sig.returnType = ret ∧ c.maxLocals = 8 ∧ s.vm.findClass R_law = some m.cls ∧ (∀ w ∈ lw_tbl, w.before #[Value.ref b] s = true) ∧ va_X b L xs s s.heap ∧ b < s.heap.size ∧ meth.locks = false ∧ (Jvm.Cond.and given_1 narrow_1).before #[Value.ref b] s = true
end
section
/-! ===== the law's walk out of its run in the small machine ===== -/
def m_kd : List (Nat × FieldType) := [(20, .int), (21, .boolean), (22, .float), (23, .long), (24, .double), (31, .object RX1), (33, .object RX3), (35, .object RX5), (36, .object RX6), (37, .object RX7), (38, .object RX8)]
theorem m_arrP {s : State} {args : Array Value} {ty : FieldType} (h : (Cond.arrayClass ty).before args s = true) (hp : ∀ c, s.vm.findClass ("[" ++ ty.toString) = some c → va_RA s c ty) : ∃ cA, ArrOfT s cA ty ∧ va_RA s cA ty := by
  obtain ⟨c, k, comp, h1, h2, h3⟩ := Cond.arrayClass_spec h
  exact ⟨c, fun n z => ⟨fun k h => (by cases h), k, h2, comp, h3⟩, hp c h1⟩
theorem m_arrQ {s : State} {args : Array Value} {C : String} (h : (Cond.arrayOver (.object C)).before args s = true) : ∃ cA, ArrOfT s cA (.object C) ∧ va_RA s cA (.object C) := by
  obtain ⟨comp, c, k, h1, h2, h3, h4, h5⟩ := Cond.arrayOver_spec h
  exact ⟨c, fun n z => ⟨fun k h => (by cases h), k, h3, comp, h4⟩, k, comp, h3, h4, h1, h5⟩
theorem m_strw : ∀ q ∈ tT, Cond.stringRef (m_cn q.1) q.2.1 q.2.2 ∈ lw_tbl := by decide +kernel
theorem m_stre : ∀ q ∈ tT, Cond.exactly (.string (m_cn q.1) q.2.1) "java/lang/String" ∈ flatC (Jvm.Cond.and given_1 narrow_1) := by decide +kernel
theorem m_ncast : ∀ e, e < 3 → ∀ e', e' < 3 → e ≠ e' → Cond.not (.castable (eN e) (eN e')) ∈ flatC (Jvm.Cond.and given_1 narrow_1) := by decide +kernel
theorem m_stw : Cond.laysStatic Bundle.tN "UNASSIGNED_STACK" Bundle.steD ∈ lw_tbl ∧ Cond.laysStatic Bundle.tN "SUPPRESSED_SENTINEL" Bundle.listD ∈ lw_tbl ∧ Cond.initialized Bundle.tN ∈ lw_tbl ∧ Cond.isRef (.static Bundle.tN "UNASSIGNED_STACK" Bundle.steD) ∈ flatC (Jvm.Cond.and given_1 narrow_1) ∧ Cond.isRef (.static Bundle.tN "SUPPRESSED_SENTINEL" Bundle.listD) ∈ flatC (Jvm.Cond.and given_1 narrow_1) := by decide +kernel
theorem m_flags {l : Launch} (h : l.flags = flags0) : l.stackTraces = false := by
  unfold Launch.stackTraces
  rw [h]
  decide +kernel
set_option maxHeartbeats 4000000 in
theorem m_start {p : Program} {e : Env} {s : State} {m : MethodId} {below : List Frame} {meth : Method} {c : Code} (l : Launch) (hflags : l.flags = flags0) {b L : Nat} {xs : Nat → Int32} (C0 : lw_At p s m meth c b L xs) {n : Nat} {h' : MHp}
    (hrun : m_run xs (L + 1) n 177 (m_code 177, vS :: List.replicate 7 vU, [], ([], 0, 0)) = some (.inl (some (vI 1)), h')) (h1 : h'.2.1 ≤ 601024) (h2 : h'.2.2 ≤ 7293034) :
    W p l e room_1 s m #[Value.ref b] below meth c s.heap [] 0 0 (lw_Z below #[Value.ref b] s) (entryFrame m ([Value.ref b] : List Value).toArray 8) := by
  obtain ⟨hx, hb, hr, hml, hown, hts0, hX, hbl, hlocks, hgv⟩ := id C0
  have hts : ∀ w ∈ lw_good, w.before #[Value.ref b] s = true := fun w hw => hts0 w (List.mem_filter.mp hw).1
  have hfl := flat_of_before _ hgv
  have hl := m_flags hflags
  have hcl : ∀ k : Nat, ∃ d : ClassId × (Nat → Nat), ∀ q : vw_C, vwCl[k]? = some q → u_Kn s q.1 q.2.1 q.2.2 d.1 d.2 := by
    intro k
    cases hk : vwCl[k]? with
    | none => exact ⟨(0, fun _ => 0), fun q hq => by cases hq⟩
    | some q =>
      obtain ⟨C, T, N⟩ := q
      obtain ⟨-, huw, hins, -⟩ := m_cls hk
      obtain ⟨cC, iS, hKn⟩ := u_known hts huw (hts _ hins)
      exact ⟨(cC, iS), fun q hq => by cases hq; exact hKn⟩
  obtain ⟨f, hf⟩ := Classical.axiomOfChoice hcl
  have harr : ∀ t : Nat, ∃ cA : ClassId, ∀ ty : FieldType, (t, ty) ∈ m_kd → ArrOfT s cA ty ∧ va_RA s cA ty := by
    have hall : ∀ q ∈ m_kd, ∃ cA, ArrOfT s cA q.2 ∧ va_RA s cA q.2 := by
      intro q hq
      simp only [m_kd, List.mem_cons, List.not_mem_nil, or_false] at hq
      rcases hq with rfl | rfl | rfl | rfl | rfl | rfl | rfl | rfl | rfl | rfl | rfl
      · exact m_arrP (hts _ aw_int) (fun _ h => h)
      · exact m_arrP (hts _ aw_boolean) (fun _ h => h)
      · exact m_arrP (hts _ aw_float) (fun _ h => h)
      · exact m_arrP (hts _ aw_long) (fun _ h => h)
      · exact m_arrP (hts _ aw_double) (fun _ h => h)
      · exact m_arrQ (hts0 _ (List.mem_filter.mp ao_1).1)
      · exact m_arrQ (hts0 _ (List.mem_filter.mp ao_3).1)
      · exact m_arrQ (hts0 _ (List.mem_filter.mp ao_5).1)
      · exact m_arrQ (hts0 _ (List.mem_filter.mp ao_6).1)
      · exact m_arrQ (hts0 _ (List.mem_filter.mp ao_7).1)
      · exact m_arrQ (hts0 _ (List.mem_filter.mp ao_8).1)
    intro t
    by_cases ht : ∃ ty, (t, ty) ∈ m_kd
    · obtain ⟨ty, hty⟩ := ht
      obtain ⟨cA, hA⟩ := hall _ hty
      refine ⟨cA, fun ty2 h2 => ?_⟩
      have e : ty2 = ty := by
        have hinj : ∀ q ∈ m_kd, ∀ q2 ∈ m_kd, q.1 = q2.1 → q.2 = q2.2 := by decide +kernel
        exact hinj _ h2 _ hty rfl
      subst e
      exact hA
    · exact ⟨0, fun ty h => absurd ⟨ty, h⟩ ht⟩
  obtain ⟨Y, hY⟩ := Classical.axiomOfChoice harr
  have hK : va_K (fun k => (f k).1, fun k => (f k).2) vwCl (m_tys Y) s := by
    refine ⟨fun k q hq => hf k q hq, fun k q hq => ?_⟩
    have hm : q ∈ m_tys Y := List.mem_of_getElem? hq
    have e : m_tys Y = m_kd.map (fun q => (Y q.1, q.2)) := rfl
    rw [e] at hm
    obtain ⟨q0, hq0, rfl⟩ := List.mem_map.mp hm
    exact hY q0.1 q0.2 hq0
  have hA0 : ∀ a : Nat, a < s.heap.size → ¬ (fun q : Nat => s.heap.size ≤ q) a := fun a ha => Nat.not_le.mpr ha
  have hXX : m_X xs (L + 1) b (fun q : Nat => s.heap.size ≤ q) s s.heap := by
    refine ⟨vx_Zqof (hts0 _ m_stw.1) (hts0 _ m_stw.2.2.1) (hfl _ m_stw.2.2.2.1) hA0, vx_Zqof (hts0 _ m_stw.2.1) (hts0 _ m_stw.2.2.1) (hfl _ m_stw.2.2.2.2) hA0, fun q hq => ?_, fun w hw => ?_, fun e e' a1 a2 a3 => va_Nc.of (hfl _ (m_ncast e a1 e' a2 a3)), fun _ => ⟨hX, hbl, hA0 b hbl⟩⟩
    · obtain ⟨a, cc, cell, kk, g1, -⟩ := Cond.exactly_spec (hfl _ (m_stre q hq))
      exact ⟨a, vk_R.of (hts0 _ (m_strw q hq)) g1⟩
    · have h9 := hts0 w (List.mem_filter.mp hw).1
      have hB := (List.mem_filter.mp hw).2
      unfold m_isB at hB
      split at hB
      · exact va_Nw.of rfl h9
      · exact va_Nw.of rfl h9
      · exact va_Nw.of rfl h9
      · exact h9
      · cases hB
  have hC : m_C (fun k => (f k).1, fun k => (f k).2) Y b (fun q : Nat => s.heap.size ≤ q) xs (L + 1) p l room_1 s m #[Value.ref b] meth c 177 :=
    ⟨hx, hb, hml, hown, hts, hlocks, hr, fun z => absurd z (by decide), fun z => absurd z (by decide), hl, hK, hXX, fun _ h => h, by decide +kernel, by decide +kernel⟩
  have G := m_sound (D := (fun k => (f k).1, fun k => (f k).2)) (Y := Y) (b := b) (A0 := fun q : Nat => s.heap.size ≤ q) (xs := xs) (L := L + 1) hl n 177 (m_code 177) (vS :: List.replicate 7 vU) [] ([], 0, 0) h' _ hrun (by decide) (m_vlc (by decide)) (by decide +kernel)
  have hLL : m_L [] b (vS :: List.replicate 7 vU) (lg_sl ([Value.ref b] : List Value) ++ List.replicate (8 - (lg_sl ([Value.ref b] : List Value)).length) Slot.unset).toArray := m_L.entry (A := []) (b := b) (n := 8) (vs := [vS]) (fun v hv => by rw [List.mem_singleton.mp hv]; rfl) (by decide)
  rw [lg_entry_eq]
  generalize (lg_sl ([Value.ref b] : List Value) ++ List.replicate (8 - (lg_sl ([Value.ref b] : List Value)).length) Slot.unset).toArray = lsA at hLL ⊢
  have k := G.2.2 p e room_1 s m #[Value.ref b] below meth c hC [] s.heap [] 0 0 lsA (lw_Z below #[Value.ref b] s) ?_ ?_
  · rw [m_pc0 177 (by decide)] at k
    exact k
  · have hnil : m_ws Y [] b (([], 0, 0) : MHp).1 = [] := rfl
    have hW : m_W (fun k => (f k).1, fun k => (f k).2) Y b (fun q : Nat => s.heap.size ≤ q) [] ([], 0, 0) s.heap := by
      unfold m_W
      rw [hnil]
      refine ⟨rfl, fun c hc => ?_, fun k q hq => ?_, fun i j p q hi => ?_, fun k q hq => ?_⟩
      · exact absurd hc List.not_mem_nil
      · exact absurd hq (by simp)
      · exact absurd hi (by simp)
      · exact absurd hq (by simp)
    refine ⟨Nat.le_refl _, Nat.le_refl _, hW, va_S.rf, fun v hv => ?_, fun v hv => absurd hv List.not_mem_nil, hLL, by decide +kernel, h1, h2⟩
    rcases List.mem_cons.mp hv with rfl | hv
    · trivial
    · rw [(List.mem_replicate.mp hv).2]; trivial
  · refine ⟨fun v hv X H' locs' pc' lsA' w1 w2 w3 w4 => ?_, fun E hE => by cases hE⟩
    cases hv
    have hd : decode code pc' = .ok (.ireturn, 1) := by
      rcases w4 with ⟨a, h9, ht, hd⟩ | ⟨x, h9, ht, hd⟩ | ⟨q, nn, h9, ht, hd⟩ | ⟨h9, ht, hd⟩
      · exact hd
      · cases h9
      · cases h9
      · cases h9
    refine va_forget (fun q hq => w2.2.2 q hq) ?_
    refine W.widen (k := 601024) (n := 7293034) h1 h2 ?_
    exact lw_ret (d0 := s.drawn) (Drawn.sameBut.refl s.drawn lw_cs) hx hb hr hlocks hd
end
section
/-! ===== the small machine, reasoned about: what a run's end keeps ===== -/
theorem m_back_mono {ih ih2 : Nat → MCfg → Option (MOut × MHp)} (H : ∀ mi c o, ih mi c = some o → ih2 mi c = some o) {mi pc : Nat} {r : MCode} {ls st : List MV} {o1 o2 : MOut × MHp} (h : m_back ih mi pc r ls st o1 = some o2) : m_back ih2 mi pc r ls st o1 = some o2 := by
  obtain ⟨o, h1⟩ := o1
  cases o with
  | inl v => exact H _ _ _ h
  | inr e =>
    simp only [m_back] at h ⊢
    split at h
    · rename_i h9
      rw [if_pos h9]; exact h
    · rename_i h9
      rw [if_neg h9]
      split at h
      · exact H _ _ _ h
      · cases h
theorem m_stepF_mono {xs : Nat → Int32} {L : Nat} {ih ih2 : Nat → MCfg → Option (MOut × MHp)} (H : ∀ mi c o, ih mi c = some o → ih2 mi c = some o) {mi : Nat} {c : MCfg} {o : MOut × MHp} (h : m_stepF xs L ih mi c = some o) : m_stepF xs L ih2 mi c = some o := by
  unfold m_stepF at h ⊢
  cases hs : m_step xs L mi c with
  | none => rw [hs] at h; cases h
  | some a =>
    rw [hs] at h
    rcases a with c2 | ⟨q, c2, pc⟩ | o2
    · exact H _ _ _ h
    · simp only at h ⊢
      cases hq : ih q.1 (m_entry q.1 q.2 c2.2.2.2) with
      | none => rw [hq] at h; cases h
      | some o1 =>
        rw [hq] at h
        rw [H _ _ _ hq]
        exact m_back_mono H h
    · exact h
theorem m_run_mono1 (xs : Nat → Int32) (L : Nat) : ∀ n mi c o, m_run xs L n mi c = some o → m_run xs L (n + 1) mi c = some o
  | 0, _, _, _, h => by cases h
  | n + 1, mi, c, o, h => by
    rw [m_run_succ] at h ⊢
    exact m_stepF_mono (m_run_mono1 xs L n) h
theorem m_run_mono {xs : Nat → Int32} {L n n2 mi : Nat} {c : MCfg} {o : MOut × MHp} (h : m_run xs L n mi c = some o) (hn : n ≤ n2) : m_run xs L n2 mi c = some o := by
  obtain ⟨k, rfl⟩ := Nat.le.dest hn
  clear hn
  induction k with
  | zero => exact h
  | succ k ih => exact m_run_mono1 xs L _ mi c o ih
/-- it ends, and the end is as said -/
def m_ok (xs : Nat → Int32) (L mi : Nat) (c : MCode) (ls st : List MV) (h : MHp) (Q : MOut → MHp → Prop) : Prop := ∃ n o, m_run xs L n mi (c, ls, st, h) = some o ∧ Q o.1 o.2
/-- a call ends, and the end is as said -/
def m_do (xs : Nat → Int32) (L mi : Nat) (args : List MV) (h : MHp) (Q : MOut → MHp → Prop) : Prop := m_ok xs L mi (m_entry mi args h).1 (m_entry mi args h).2.1 [] h Q
def m_cont (xs : Nat → Int32) (L mi pc : Nat) (r : MCode) (ls st : List MV) (Q : MOut → MHp → Prop) : MOut → MHp → Prop
  | .inl v, h => m_ok xs L mi r ls (v.toList ++ st) h Q
  | .inr e, h => if m_hand mi = [] then Q (.inr e) h else match m_catch mi pc e ls h with
    | some c => m_ok xs L mi c.1 c.2.1 c.2.2.1 c.2.2.2 Q
    | none => False
def m_go (xs : Nat → Int32) (L mi : Nat) (Q : MOut → MHp → Prop) : Option MAct → Prop
  | some (.inl c) => m_ok xs L mi c.1 c.2.1 c.2.2.1 c.2.2.2 Q
  | some (.inr (.inl (q, c, pc))) => m_do xs L q.1 q.2 c.2.2.2 (m_cont xs L mi pc c.1 c.2.1 c.2.2.1 Q)
  | some (.inr (.inr o)) => Q o.1 o.2
  | none => False
theorem m_ok_step {xs : Nat → Int32} {L mi : Nat} {c : MCode} {ls st : List MV} {h : MHp} {Q : MOut → MHp → Prop} : m_ok xs L mi c ls st h Q ↔ m_go xs L mi Q (m_step xs L mi (c, ls, st, h)) := by
  constructor
  · rintro ⟨n, o, hr, hq⟩
    cases n with
    | zero => cases hr
    | succ n =>
      rw [m_run_succ] at hr
      unfold m_stepF at hr
      cases hs : m_step xs L mi (c, ls, st, h) with
      | none => rw [hs] at hr; cases hr
      | some a =>
        rw [hs] at hr
        rcases a with c2 | ⟨q, c2, pc⟩ | o2
        · exact ⟨n, o, hr, hq⟩
        · simp only at hr
          cases hz : m_run xs L n q.1 (m_entry q.1 q.2 c2.2.2.2) with
          | none => rw [hz] at hr; cases hr
          | some o1 =>
            rw [hz] at hr
            obtain ⟨ov, h1⟩ := o1
            refine ⟨n, (ov, h1), hz, ?_⟩
            cases ov with
            | inl v => exact ⟨n, o, hr, hq⟩
            | inr e =>
              simp only [m_back] at hr
              simp only [m_cont]
              split at hr
              · rename_i h9
                rw [if_pos h9]
                cases hr
                exact hq
              · rename_i h9
                rw [if_neg h9]
                split at hr
                · rename_i c3 hc3
                  rw [hc3]
                  exact ⟨n, o, hr, hq⟩
                · cases hr
        · cases hr
          exact hq
  · intro hg
    cases hs : m_step xs L mi (c, ls, st, h) with
    | none => rw [hs] at hg; exact hg.elim
    | some a =>
      rw [hs] at hg
      rcases a with c2 | ⟨q, c2, pc⟩ | o2
      · obtain ⟨n, o, hr, hq⟩ := hg
        refine ⟨n + 1, o, ?_, hq⟩
        rw [m_run_succ, m_stepF, hs]
        exact hr
      · obtain ⟨n, ⟨ov, h1⟩, hr, hq⟩ := hg
        cases ov with
        | inl v =>
          obtain ⟨n2, o2, hr2, hq2⟩ := hq
          refine ⟨max n n2 + 1, o2, ?_, hq2⟩
          rw [m_run_succ, m_stepF, hs]
          simp only
          rw [show m_run xs L (max n n2) q.1 (m_entry q.1 q.2 c2.2.2.2) = some (.inl v, h1) from m_run_mono hr (Nat.le_max_left _ _)]
          exact m_run_mono hr2 (Nat.le_max_right _ _)
        | inr e =>
          simp only [m_cont] at hq
          split at hq
          · rename_i h9
            refine ⟨n + 1, (.inr e, h1), ?_, hq⟩
            rw [m_run_succ, m_stepF, hs]
            simp only
            rw [show m_run xs L n q.1 (m_entry q.1 q.2 c2.2.2.2) = some (.inr e, h1) from hr]
            simp only [m_back]
            rw [if_pos h9]
          · rename_i h9
            split at hq
            · rename_i c3 hc3
              obtain ⟨n2, o2, hr2, hq2⟩ := hq
              refine ⟨max n n2 + 1, o2, ?_, hq2⟩
              rw [m_run_succ, m_stepF, hs]
              simp only
              rw [show m_run xs L (max n n2) q.1 (m_entry q.1 q.2 c2.2.2.2) = some (.inr e, h1) from m_run_mono hr (Nat.le_max_left _ _)]
              simp only [m_back]
              rw [if_neg h9, hc3]
              exact m_run_mono hr2 (Nat.le_max_right _ _)
            · exact hq.elim
      · refine ⟨1, o2, ?_, hg⟩
        rw [m_run_succ, m_stepF, hs]
theorem m_ok.mono {xs : Nat → Int32} {L mi : Nat} {c : MCode} {ls st : List MV} {h : MHp} {Q Q2 : MOut → MHp → Prop} (k : m_ok xs L mi c ls st h Q) (H : ∀ o h, Q o h → Q2 o h) : m_ok xs L mi c ls st h Q2 := by
  obtain ⟨n, o, h1, h2⟩ := k
  exact ⟨n, o, h1, H _ _ h2⟩
theorem m_do.mono {xs : Nat → Int32} {L mi : Nat} {args : List MV} {h : MHp} {Q Q2 : MOut → MHp → Prop} (k : m_do xs L mi args h Q) (H : ∀ o h, Q o h → Q2 o h) : m_do xs L mi args h Q2 := m_ok.mono k H
/-- what ends once ends there alone -/
theorem m_ok_eq {xs : Nat → Int32} {L mi : Nat} {c : MCode} {ls st : List MV} {h h' : MHp} {o : MOut} (k : m_ok xs L mi c ls st h (fun a b => a = o ∧ b = h')) (Q : MOut → MHp → Prop) : m_ok xs L mi c ls st h Q ↔ Q o h' := by
  obtain ⟨n, ⟨o1, h1⟩, hr, ha, hb⟩ := k
  constructor
  · rintro ⟨n2, ⟨o2, h2⟩, hr2, hq⟩
    have e1 := m_run_mono hr (Nat.le_max_left n n2)
    have e2 := m_run_mono hr2 (Nat.le_max_right n n2)
    rw [e1] at e2
    cases e2
    cases ha; cases hb
    exact hq
  · intro hq
    cases ha; cases hb
    exact ⟨n, _, hr, hq⟩
theorem m_do_eq {xs : Nat → Int32} {L mi : Nat} {args : List MV} {h h' : MHp} {o : MOut} (k : m_do xs L mi args h (fun a b => a = o ∧ b = h')) (Q : MOut → MHp → Prop) : m_do xs L mi args h Q ↔ Q o h' := m_ok_eq k Q
end
section
/-! ===== an instruction at the head of the code, rewritten ===== -/
theorem m_step_free {xs ys : Nat → Int32} {L mi : Nat} {c : MCfg} {a : MAct} (hs : m_step xs 0 mi c = some a) : m_step ys L mi c = some a := by
  obtain ⟨cd, ls, st, h⟩ := c
  cases cd with
  | nil => exact hs
  | cons x r =>
    obtain ⟨pc, i⟩ := x
    cases i <;> first | exact hs | skip
    case cons.iaload =>
      simp only [m_step, m_act, m_iald] at hs ⊢
      split at hs
      · exact hs
      · rename_i z hz
        rw [if_neg (by omega)] at hs
        cases hs
      · cases hs
    case cons.arraylength =>
      simp only [m_step, m_act, m_alen] at hs ⊢
      split at hs
      · exact hs
      · rw [if_neg (by omega)] at hs
        cases hs
      · cases hs
    case cons.newarray t => cases t <;> exact hs
theorem m_run_free {xs ys : Nat → Int32} {L : Nat} : ∀ {n mi : Nat} {c : MCfg} {o : MOut × MHp}, m_run xs 0 n mi c = some o → m_run ys L n mi c = some o
  | 0, _, _, _, h => by cases h
  | n + 1, mi, c, o, h => by
    rw [m_run_succ] at h ⊢
    unfold m_stepF at h ⊢
    cases hs : m_step xs 0 mi c with
    | none => rw [hs] at h; cases h
    | some a =>
      rw [hs] at h
      rw [m_step_free hs]
      rcases a with c2 | ⟨q, c2, pc⟩ | o2
      · exact m_run_free h
      · simp only at h ⊢
        cases hq : m_run xs 0 n q.1 (m_entry q.1 q.2 c2.2.2.2) with
        | none => rw [hq] at h; cases h
        | some o1 =>
          rw [hq] at h
          rw [m_run_free hq]
          exact m_back_mono (fun _ _ _ => m_run_free) h
      · exact h
section V
variable {xs : Nat → Int32} {L mi pc : Nat} {r : MCode} {ls st : List MV} {h : MHp} {Q : MOut → MHp → Prop}
theorem m_istore_eq {k : Nat} {a : Int} (hk : k < ls.length) : m_istore k r ls (vI a :: st) h = m_nx r (ls.set k (vI a)) st h := by
  simp only [m_istore, if_pos hk]
theorem m_astore_eq {k : Nat} {a : Nat} (hk : k < ls.length) : m_astore k r ls (vR a :: st) h = m_nx r (ls.set k (vR a)) st h := by
  simp only [m_astore, if_pos hk]
theorem m_fstore_eq {k : Nat} {a : UInt32} (hk : k < ls.length) : m_fstore k r ls (vF a :: st) h = m_nx r (ls.set k (vF a)) st h := by
  simp only [m_fstore, if_pos hk]
theorem V_iconst {n : Int} : m_ok xs L mi ((pc, .iconst n) :: r) ls st h Q ↔ (-2147483648 ≤ n ∧ n < 2147483648) ∧ m_ok xs L mi r ls (vI n :: st) h Q := by
  rw [m_ok_step]
  simp only [m_step, m_act, m_inD, decide_eq_true_eq, m_nx]
  split
  · rename_i hc; exact ⟨fun k => ⟨hc, k⟩, fun k => k.2⟩
  · rename_i hc; exact ⟨fun k => k.elim, fun k => absurd k.1 hc⟩
theorem V_bipush {n : Int} : m_ok xs L mi ((pc, .bipush n) :: r) ls st h Q ↔ (-128 ≤ n ∧ n < 128) ∧ m_ok xs L mi r ls (vI n :: st) h Q := by
  rw [m_ok_step]
  simp only [m_step, m_act, m_nx]
  split
  · rename_i hc; exact ⟨fun k => ⟨hc, k⟩, fun k => k.2⟩
  · rename_i hc; exact ⟨fun k => k.elim, fun k => absurd k.1 hc⟩
theorem V_sipush {n : Int} : m_ok xs L mi ((pc, .sipush n) :: r) ls st h Q ↔ (-32768 ≤ n ∧ n < 32768) ∧ m_ok xs L mi r ls (vI n :: st) h Q := by
  rw [m_ok_step]
  simp only [m_step, m_act, m_nx]
  split
  · rename_i hc; exact ⟨fun k => ⟨hc, k⟩, fun k => k.2⟩
  · rename_i hc; exact ⟨fun k => k.elim, fun k => absurd k.1 hc⟩
theorem V_lconst {k : Fin 2} : m_ok xs L mi ((pc, .lconst k) :: r) ls st h Q ↔ m_ok xs L mi r ls (vL (Int64.ofNat k) :: st) h Q := m_ok_step
theorem V_fconst : m_ok xs L mi ((pc, .fconst 0) :: r) ls st h Q ↔ m_ok xs L mi r ls (vF 0 :: st) h Q := m_ok_step
theorem V_ldc {k : Nat} {v : MV} (hk : lR (m_own mi) k = some v) : m_ok xs L mi ((pc, .ldc k) :: r) ls st h Q ↔ m_ok xs L mi r ls (v :: st) h Q := by
  rw [m_ok_step]
  simp only [m_step, m_act, hk, m_ld, m_nx, m_go]
theorem V_ldc_w {k : Nat} {v : MV} (hk : lR (m_own mi) k = some v) : m_ok xs L mi ((pc, .ldc_w k) :: r) ls st h Q ↔ m_ok xs L mi r ls (v :: st) h Q := by
  rw [m_ok_step]
  simp only [m_step, m_act, hk, m_ld, m_nx, m_go]
theorem V_iloadn0 {a : Int} : m_ok xs L mi ((pc, .iload_n 0) :: r) (vI a :: ls) st h Q ↔ m_ok xs L mi r (vI a :: ls) (vI a :: st) h Q := m_ok_step
theorem V_aloadn0 {a : Nat} : m_ok xs L mi ((pc, .aload_n 0) :: r) (vR a :: ls) st h Q ↔ m_ok xs L mi r (vR a :: ls) (vR a :: st) h Q := m_ok_step
theorem V_sloadn0 : m_ok xs L mi ((pc, .aload_n 0) :: r) (vS :: ls) st h Q ↔ m_ok xs L mi r (vS :: ls) (vS :: st) h Q := m_ok_step
theorem V_floadn0 {a : UInt32} : m_ok xs L mi ((pc, .fload_n 0) :: r) (vF a :: ls) st h Q ↔ m_ok xs L mi r (vF a :: ls) (vF a :: st) h Q := m_ok_step
theorem V_istoren0 {v : MV} {a : Int} : m_ok xs L mi ((pc, .istore_n 0) :: r) (v :: ls) (vI a :: st) h Q ↔ m_ok xs L mi r (vI a :: ls) st h Q := m_ok_step.trans (iff_of_eq (congrArg (m_go xs L mi Q) (m_istore_eq (k := 0) (r := r) (ls := (v :: ls)) (a := a) (st := st) (h := h) (by simp only [List.length_cons]; omega))))
theorem V_astoren0 {v : MV} {a : Nat} : m_ok xs L mi ((pc, .astore_n 0) :: r) (v :: ls) (vR a :: st) h Q ↔ m_ok xs L mi r (vR a :: ls) st h Q := m_ok_step.trans (iff_of_eq (congrArg (m_go xs L mi Q) (m_astore_eq (k := 0) (r := r) (ls := (v :: ls)) (a := a) (st := st) (h := h) (by simp only [List.length_cons]; omega))))
theorem V_fstoren0 {v : MV} {a : UInt32} : m_ok xs L mi ((pc, .fstore_n 0) :: r) (v :: ls) (vF a :: st) h Q ↔ m_ok xs L mi r (vF a :: ls) st h Q := m_ok_step.trans (iff_of_eq (congrArg (m_go xs L mi Q) (m_fstore_eq (k := 0) (r := r) (ls := (v :: ls)) (a := a) (st := st) (h := h) (by simp only [List.length_cons]; omega))))
theorem V_iload0 {a : Int} : m_ok xs L mi ((pc, .iload 0) :: r) (vI a :: ls) st h Q ↔ m_ok xs L mi r (vI a :: ls) (vI a :: st) h Q := m_ok_step
theorem V_aload0 {a : Nat} : m_ok xs L mi ((pc, .aload 0) :: r) (vR a :: ls) st h Q ↔ m_ok xs L mi r (vR a :: ls) (vR a :: st) h Q := m_ok_step
theorem V_sload0 : m_ok xs L mi ((pc, .aload 0) :: r) (vS :: ls) st h Q ↔ m_ok xs L mi r (vS :: ls) (vS :: st) h Q := m_ok_step
theorem V_fload0 {a : UInt32} : m_ok xs L mi ((pc, .fload 0) :: r) (vF a :: ls) st h Q ↔ m_ok xs L mi r (vF a :: ls) (vF a :: st) h Q := m_ok_step
theorem V_istore0 {v : MV} {a : Int} : m_ok xs L mi ((pc, .istore 0) :: r) (v :: ls) (vI a :: st) h Q ↔ m_ok xs L mi r (vI a :: ls) st h Q := m_ok_step.trans (iff_of_eq (congrArg (m_go xs L mi Q) (m_istore_eq (k := 0) (r := r) (ls := (v :: ls)) (a := a) (st := st) (h := h) (by simp only [List.length_cons]; omega))))
theorem V_astore0 {v : MV} {a : Nat} : m_ok xs L mi ((pc, .astore 0) :: r) (v :: ls) (vR a :: st) h Q ↔ m_ok xs L mi r (vR a :: ls) st h Q := m_ok_step.trans (iff_of_eq (congrArg (m_go xs L mi Q) (m_astore_eq (k := 0) (r := r) (ls := (v :: ls)) (a := a) (st := st) (h := h) (by simp only [List.length_cons]; omega))))
theorem V_fstore0 {v : MV} {a : UInt32} : m_ok xs L mi ((pc, .fstore 0) :: r) (v :: ls) (vF a :: st) h Q ↔ m_ok xs L mi r (vF a :: ls) st h Q := m_ok_step.trans (iff_of_eq (congrArg (m_go xs L mi Q) (m_fstore_eq (k := 0) (r := r) (ls := (v :: ls)) (a := a) (st := st) (h := h) (by simp only [List.length_cons]; omega))))
theorem V_iinc0 {a n : Int} : m_ok xs L mi ((pc, .iinc 0 n) :: r) (vI a :: ls) st h Q ↔ m_ok xs L mi r (vI (m_add a n) :: ls) st h Q := m_ok_step
theorem V_iloadn1 {v0 : MV} {a : Int} : m_ok xs L mi ((pc, .iload_n 1) :: r) (v0 :: vI a :: ls) st h Q ↔ m_ok xs L mi r (v0 :: vI a :: ls) (vI a :: st) h Q := m_ok_step
theorem V_aloadn1 {v0 : MV} {a : Nat} : m_ok xs L mi ((pc, .aload_n 1) :: r) (v0 :: vR a :: ls) st h Q ↔ m_ok xs L mi r (v0 :: vR a :: ls) (vR a :: st) h Q := m_ok_step
theorem V_floadn1 {v0 : MV} {a : UInt32} : m_ok xs L mi ((pc, .fload_n 1) :: r) (v0 :: vF a :: ls) st h Q ↔ m_ok xs L mi r (v0 :: vF a :: ls) (vF a :: st) h Q := m_ok_step
theorem V_istoren1 {v0 : MV} {v : MV} {a : Int} : m_ok xs L mi ((pc, .istore_n 1) :: r) (v0 :: v :: ls) (vI a :: st) h Q ↔ m_ok xs L mi r (v0 :: vI a :: ls) st h Q := m_ok_step.trans (iff_of_eq (congrArg (m_go xs L mi Q) (m_istore_eq (k := 1) (r := r) (ls := (v0 :: v :: ls)) (a := a) (st := st) (h := h) (by simp only [List.length_cons]; omega))))
theorem V_astoren1 {v0 : MV} {v : MV} {a : Nat} : m_ok xs L mi ((pc, .astore_n 1) :: r) (v0 :: v :: ls) (vR a :: st) h Q ↔ m_ok xs L mi r (v0 :: vR a :: ls) st h Q := m_ok_step.trans (iff_of_eq (congrArg (m_go xs L mi Q) (m_astore_eq (k := 1) (r := r) (ls := (v0 :: v :: ls)) (a := a) (st := st) (h := h) (by simp only [List.length_cons]; omega))))
theorem V_fstoren1 {v0 : MV} {v : MV} {a : UInt32} : m_ok xs L mi ((pc, .fstore_n 1) :: r) (v0 :: v :: ls) (vF a :: st) h Q ↔ m_ok xs L mi r (v0 :: vF a :: ls) st h Q := m_ok_step.trans (iff_of_eq (congrArg (m_go xs L mi Q) (m_fstore_eq (k := 1) (r := r) (ls := (v0 :: v :: ls)) (a := a) (st := st) (h := h) (by simp only [List.length_cons]; omega))))
theorem V_iload1 {v0 : MV} {a : Int} : m_ok xs L mi ((pc, .iload 1) :: r) (v0 :: vI a :: ls) st h Q ↔ m_ok xs L mi r (v0 :: vI a :: ls) (vI a :: st) h Q := m_ok_step
theorem V_aload1 {v0 : MV} {a : Nat} : m_ok xs L mi ((pc, .aload 1) :: r) (v0 :: vR a :: ls) st h Q ↔ m_ok xs L mi r (v0 :: vR a :: ls) (vR a :: st) h Q := m_ok_step
theorem V_fload1 {v0 : MV} {a : UInt32} : m_ok xs L mi ((pc, .fload 1) :: r) (v0 :: vF a :: ls) st h Q ↔ m_ok xs L mi r (v0 :: vF a :: ls) (vF a :: st) h Q := m_ok_step
theorem V_istore1 {v0 : MV} {v : MV} {a : Int} : m_ok xs L mi ((pc, .istore 1) :: r) (v0 :: v :: ls) (vI a :: st) h Q ↔ m_ok xs L mi r (v0 :: vI a :: ls) st h Q := m_ok_step.trans (iff_of_eq (congrArg (m_go xs L mi Q) (m_istore_eq (k := 1) (r := r) (ls := (v0 :: v :: ls)) (a := a) (st := st) (h := h) (by simp only [List.length_cons]; omega))))
theorem V_astore1 {v0 : MV} {v : MV} {a : Nat} : m_ok xs L mi ((pc, .astore 1) :: r) (v0 :: v :: ls) (vR a :: st) h Q ↔ m_ok xs L mi r (v0 :: vR a :: ls) st h Q := m_ok_step.trans (iff_of_eq (congrArg (m_go xs L mi Q) (m_astore_eq (k := 1) (r := r) (ls := (v0 :: v :: ls)) (a := a) (st := st) (h := h) (by simp only [List.length_cons]; omega))))
theorem V_fstore1 {v0 : MV} {v : MV} {a : UInt32} : m_ok xs L mi ((pc, .fstore 1) :: r) (v0 :: v :: ls) (vF a :: st) h Q ↔ m_ok xs L mi r (v0 :: vF a :: ls) st h Q := m_ok_step.trans (iff_of_eq (congrArg (m_go xs L mi Q) (m_fstore_eq (k := 1) (r := r) (ls := (v0 :: v :: ls)) (a := a) (st := st) (h := h) (by simp only [List.length_cons]; omega))))
theorem V_iinc1 {v0 : MV} {a n : Int} : m_ok xs L mi ((pc, .iinc 1 n) :: r) (v0 :: vI a :: ls) st h Q ↔ m_ok xs L mi r (v0 :: vI (m_add a n) :: ls) st h Q := m_ok_step
theorem V_iloadn2 {v0 v1 : MV} {a : Int} : m_ok xs L mi ((pc, .iload_n 2) :: r) (v0 :: v1 :: vI a :: ls) st h Q ↔ m_ok xs L mi r (v0 :: v1 :: vI a :: ls) (vI a :: st) h Q := m_ok_step
theorem V_aloadn2 {v0 v1 : MV} {a : Nat} : m_ok xs L mi ((pc, .aload_n 2) :: r) (v0 :: v1 :: vR a :: ls) st h Q ↔ m_ok xs L mi r (v0 :: v1 :: vR a :: ls) (vR a :: st) h Q := m_ok_step
theorem V_floadn2 {v0 v1 : MV} {a : UInt32} : m_ok xs L mi ((pc, .fload_n 2) :: r) (v0 :: v1 :: vF a :: ls) st h Q ↔ m_ok xs L mi r (v0 :: v1 :: vF a :: ls) (vF a :: st) h Q := m_ok_step
theorem V_istoren2 {v0 v1 : MV} {v : MV} {a : Int} : m_ok xs L mi ((pc, .istore_n 2) :: r) (v0 :: v1 :: v :: ls) (vI a :: st) h Q ↔ m_ok xs L mi r (v0 :: v1 :: vI a :: ls) st h Q := m_ok_step.trans (iff_of_eq (congrArg (m_go xs L mi Q) (m_istore_eq (k := 2) (r := r) (ls := (v0 :: v1 :: v :: ls)) (a := a) (st := st) (h := h) (by simp only [List.length_cons]; omega))))
theorem V_astoren2 {v0 v1 : MV} {v : MV} {a : Nat} : m_ok xs L mi ((pc, .astore_n 2) :: r) (v0 :: v1 :: v :: ls) (vR a :: st) h Q ↔ m_ok xs L mi r (v0 :: v1 :: vR a :: ls) st h Q := m_ok_step.trans (iff_of_eq (congrArg (m_go xs L mi Q) (m_astore_eq (k := 2) (r := r) (ls := (v0 :: v1 :: v :: ls)) (a := a) (st := st) (h := h) (by simp only [List.length_cons]; omega))))
theorem V_fstoren2 {v0 v1 : MV} {v : MV} {a : UInt32} : m_ok xs L mi ((pc, .fstore_n 2) :: r) (v0 :: v1 :: v :: ls) (vF a :: st) h Q ↔ m_ok xs L mi r (v0 :: v1 :: vF a :: ls) st h Q := m_ok_step.trans (iff_of_eq (congrArg (m_go xs L mi Q) (m_fstore_eq (k := 2) (r := r) (ls := (v0 :: v1 :: v :: ls)) (a := a) (st := st) (h := h) (by simp only [List.length_cons]; omega))))
theorem V_iload2 {v0 v1 : MV} {a : Int} : m_ok xs L mi ((pc, .iload 2) :: r) (v0 :: v1 :: vI a :: ls) st h Q ↔ m_ok xs L mi r (v0 :: v1 :: vI a :: ls) (vI a :: st) h Q := m_ok_step
theorem V_aload2 {v0 v1 : MV} {a : Nat} : m_ok xs L mi ((pc, .aload 2) :: r) (v0 :: v1 :: vR a :: ls) st h Q ↔ m_ok xs L mi r (v0 :: v1 :: vR a :: ls) (vR a :: st) h Q := m_ok_step
theorem V_fload2 {v0 v1 : MV} {a : UInt32} : m_ok xs L mi ((pc, .fload 2) :: r) (v0 :: v1 :: vF a :: ls) st h Q ↔ m_ok xs L mi r (v0 :: v1 :: vF a :: ls) (vF a :: st) h Q := m_ok_step
theorem V_istore2 {v0 v1 : MV} {v : MV} {a : Int} : m_ok xs L mi ((pc, .istore 2) :: r) (v0 :: v1 :: v :: ls) (vI a :: st) h Q ↔ m_ok xs L mi r (v0 :: v1 :: vI a :: ls) st h Q := m_ok_step.trans (iff_of_eq (congrArg (m_go xs L mi Q) (m_istore_eq (k := 2) (r := r) (ls := (v0 :: v1 :: v :: ls)) (a := a) (st := st) (h := h) (by simp only [List.length_cons]; omega))))
theorem V_astore2 {v0 v1 : MV} {v : MV} {a : Nat} : m_ok xs L mi ((pc, .astore 2) :: r) (v0 :: v1 :: v :: ls) (vR a :: st) h Q ↔ m_ok xs L mi r (v0 :: v1 :: vR a :: ls) st h Q := m_ok_step.trans (iff_of_eq (congrArg (m_go xs L mi Q) (m_astore_eq (k := 2) (r := r) (ls := (v0 :: v1 :: v :: ls)) (a := a) (st := st) (h := h) (by simp only [List.length_cons]; omega))))
theorem V_fstore2 {v0 v1 : MV} {v : MV} {a : UInt32} : m_ok xs L mi ((pc, .fstore 2) :: r) (v0 :: v1 :: v :: ls) (vF a :: st) h Q ↔ m_ok xs L mi r (v0 :: v1 :: vF a :: ls) st h Q := m_ok_step.trans (iff_of_eq (congrArg (m_go xs L mi Q) (m_fstore_eq (k := 2) (r := r) (ls := (v0 :: v1 :: v :: ls)) (a := a) (st := st) (h := h) (by simp only [List.length_cons]; omega))))
theorem V_iinc2 {v0 v1 : MV} {a n : Int} : m_ok xs L mi ((pc, .iinc 2 n) :: r) (v0 :: v1 :: vI a :: ls) st h Q ↔ m_ok xs L mi r (v0 :: v1 :: vI (m_add a n) :: ls) st h Q := m_ok_step
theorem V_iloadn3 {v0 v1 v2 : MV} {a : Int} : m_ok xs L mi ((pc, .iload_n 3) :: r) (v0 :: v1 :: v2 :: vI a :: ls) st h Q ↔ m_ok xs L mi r (v0 :: v1 :: v2 :: vI a :: ls) (vI a :: st) h Q := m_ok_step
theorem V_aloadn3 {v0 v1 v2 : MV} {a : Nat} : m_ok xs L mi ((pc, .aload_n 3) :: r) (v0 :: v1 :: v2 :: vR a :: ls) st h Q ↔ m_ok xs L mi r (v0 :: v1 :: v2 :: vR a :: ls) (vR a :: st) h Q := m_ok_step
theorem V_floadn3 {v0 v1 v2 : MV} {a : UInt32} : m_ok xs L mi ((pc, .fload_n 3) :: r) (v0 :: v1 :: v2 :: vF a :: ls) st h Q ↔ m_ok xs L mi r (v0 :: v1 :: v2 :: vF a :: ls) (vF a :: st) h Q := m_ok_step
theorem V_istoren3 {v0 v1 v2 : MV} {v : MV} {a : Int} : m_ok xs L mi ((pc, .istore_n 3) :: r) (v0 :: v1 :: v2 :: v :: ls) (vI a :: st) h Q ↔ m_ok xs L mi r (v0 :: v1 :: v2 :: vI a :: ls) st h Q := m_ok_step.trans (iff_of_eq (congrArg (m_go xs L mi Q) (m_istore_eq (k := 3) (r := r) (ls := (v0 :: v1 :: v2 :: v :: ls)) (a := a) (st := st) (h := h) (by simp only [List.length_cons]; omega))))
theorem V_astoren3 {v0 v1 v2 : MV} {v : MV} {a : Nat} : m_ok xs L mi ((pc, .astore_n 3) :: r) (v0 :: v1 :: v2 :: v :: ls) (vR a :: st) h Q ↔ m_ok xs L mi r (v0 :: v1 :: v2 :: vR a :: ls) st h Q := m_ok_step.trans (iff_of_eq (congrArg (m_go xs L mi Q) (m_astore_eq (k := 3) (r := r) (ls := (v0 :: v1 :: v2 :: v :: ls)) (a := a) (st := st) (h := h) (by simp only [List.length_cons]; omega))))
theorem V_fstoren3 {v0 v1 v2 : MV} {v : MV} {a : UInt32} : m_ok xs L mi ((pc, .fstore_n 3) :: r) (v0 :: v1 :: v2 :: v :: ls) (vF a :: st) h Q ↔ m_ok xs L mi r (v0 :: v1 :: v2 :: vF a :: ls) st h Q := m_ok_step.trans (iff_of_eq (congrArg (m_go xs L mi Q) (m_fstore_eq (k := 3) (r := r) (ls := (v0 :: v1 :: v2 :: v :: ls)) (a := a) (st := st) (h := h) (by simp only [List.length_cons]; omega))))
theorem V_iload3 {v0 v1 v2 : MV} {a : Int} : m_ok xs L mi ((pc, .iload 3) :: r) (v0 :: v1 :: v2 :: vI a :: ls) st h Q ↔ m_ok xs L mi r (v0 :: v1 :: v2 :: vI a :: ls) (vI a :: st) h Q := m_ok_step
theorem V_aload3 {v0 v1 v2 : MV} {a : Nat} : m_ok xs L mi ((pc, .aload 3) :: r) (v0 :: v1 :: v2 :: vR a :: ls) st h Q ↔ m_ok xs L mi r (v0 :: v1 :: v2 :: vR a :: ls) (vR a :: st) h Q := m_ok_step
theorem V_fload3 {v0 v1 v2 : MV} {a : UInt32} : m_ok xs L mi ((pc, .fload 3) :: r) (v0 :: v1 :: v2 :: vF a :: ls) st h Q ↔ m_ok xs L mi r (v0 :: v1 :: v2 :: vF a :: ls) (vF a :: st) h Q := m_ok_step
theorem V_istore3 {v0 v1 v2 : MV} {v : MV} {a : Int} : m_ok xs L mi ((pc, .istore 3) :: r) (v0 :: v1 :: v2 :: v :: ls) (vI a :: st) h Q ↔ m_ok xs L mi r (v0 :: v1 :: v2 :: vI a :: ls) st h Q := m_ok_step.trans (iff_of_eq (congrArg (m_go xs L mi Q) (m_istore_eq (k := 3) (r := r) (ls := (v0 :: v1 :: v2 :: v :: ls)) (a := a) (st := st) (h := h) (by simp only [List.length_cons]; omega))))
theorem V_astore3 {v0 v1 v2 : MV} {v : MV} {a : Nat} : m_ok xs L mi ((pc, .astore 3) :: r) (v0 :: v1 :: v2 :: v :: ls) (vR a :: st) h Q ↔ m_ok xs L mi r (v0 :: v1 :: v2 :: vR a :: ls) st h Q := m_ok_step.trans (iff_of_eq (congrArg (m_go xs L mi Q) (m_astore_eq (k := 3) (r := r) (ls := (v0 :: v1 :: v2 :: v :: ls)) (a := a) (st := st) (h := h) (by simp only [List.length_cons]; omega))))
theorem V_fstore3 {v0 v1 v2 : MV} {v : MV} {a : UInt32} : m_ok xs L mi ((pc, .fstore 3) :: r) (v0 :: v1 :: v2 :: v :: ls) (vF a :: st) h Q ↔ m_ok xs L mi r (v0 :: v1 :: v2 :: vF a :: ls) st h Q := m_ok_step.trans (iff_of_eq (congrArg (m_go xs L mi Q) (m_fstore_eq (k := 3) (r := r) (ls := (v0 :: v1 :: v2 :: v :: ls)) (a := a) (st := st) (h := h) (by simp only [List.length_cons]; omega))))
theorem V_iinc3 {v0 v1 v2 : MV} {a n : Int} : m_ok xs L mi ((pc, .iinc 3 n) :: r) (v0 :: v1 :: v2 :: vI a :: ls) st h Q ↔ m_ok xs L mi r (v0 :: v1 :: v2 :: vI (m_add a n) :: ls) st h Q := m_ok_step
theorem V_iload4 {v0 v1 v2 v3 : MV} {a : Int} : m_ok xs L mi ((pc, .iload 4) :: r) (v0 :: v1 :: v2 :: v3 :: vI a :: ls) st h Q ↔ m_ok xs L mi r (v0 :: v1 :: v2 :: v3 :: vI a :: ls) (vI a :: st) h Q := m_ok_step
theorem V_aload4 {v0 v1 v2 v3 : MV} {a : Nat} : m_ok xs L mi ((pc, .aload 4) :: r) (v0 :: v1 :: v2 :: v3 :: vR a :: ls) st h Q ↔ m_ok xs L mi r (v0 :: v1 :: v2 :: v3 :: vR a :: ls) (vR a :: st) h Q := m_ok_step
theorem V_fload4 {v0 v1 v2 v3 : MV} {a : UInt32} : m_ok xs L mi ((pc, .fload 4) :: r) (v0 :: v1 :: v2 :: v3 :: vF a :: ls) st h Q ↔ m_ok xs L mi r (v0 :: v1 :: v2 :: v3 :: vF a :: ls) (vF a :: st) h Q := m_ok_step
theorem V_istore4 {v0 v1 v2 v3 : MV} {v : MV} {a : Int} : m_ok xs L mi ((pc, .istore 4) :: r) (v0 :: v1 :: v2 :: v3 :: v :: ls) (vI a :: st) h Q ↔ m_ok xs L mi r (v0 :: v1 :: v2 :: v3 :: vI a :: ls) st h Q := m_ok_step.trans (iff_of_eq (congrArg (m_go xs L mi Q) (m_istore_eq (k := 4) (r := r) (ls := (v0 :: v1 :: v2 :: v3 :: v :: ls)) (a := a) (st := st) (h := h) (by simp only [List.length_cons]; omega))))
theorem V_astore4 {v0 v1 v2 v3 : MV} {v : MV} {a : Nat} : m_ok xs L mi ((pc, .astore 4) :: r) (v0 :: v1 :: v2 :: v3 :: v :: ls) (vR a :: st) h Q ↔ m_ok xs L mi r (v0 :: v1 :: v2 :: v3 :: vR a :: ls) st h Q := m_ok_step.trans (iff_of_eq (congrArg (m_go xs L mi Q) (m_astore_eq (k := 4) (r := r) (ls := (v0 :: v1 :: v2 :: v3 :: v :: ls)) (a := a) (st := st) (h := h) (by simp only [List.length_cons]; omega))))
theorem V_fstore4 {v0 v1 v2 v3 : MV} {v : MV} {a : UInt32} : m_ok xs L mi ((pc, .fstore 4) :: r) (v0 :: v1 :: v2 :: v3 :: v :: ls) (vF a :: st) h Q ↔ m_ok xs L mi r (v0 :: v1 :: v2 :: v3 :: vF a :: ls) st h Q := m_ok_step.trans (iff_of_eq (congrArg (m_go xs L mi Q) (m_fstore_eq (k := 4) (r := r) (ls := (v0 :: v1 :: v2 :: v3 :: v :: ls)) (a := a) (st := st) (h := h) (by simp only [List.length_cons]; omega))))
theorem V_iinc4 {v0 v1 v2 v3 : MV} {a n : Int} : m_ok xs L mi ((pc, .iinc 4 n) :: r) (v0 :: v1 :: v2 :: v3 :: vI a :: ls) st h Q ↔ m_ok xs L mi r (v0 :: v1 :: v2 :: v3 :: vI (m_add a n) :: ls) st h Q := m_ok_step
theorem V_iload5 {v0 v1 v2 v3 v4 : MV} {a : Int} : m_ok xs L mi ((pc, .iload 5) :: r) (v0 :: v1 :: v2 :: v3 :: v4 :: vI a :: ls) st h Q ↔ m_ok xs L mi r (v0 :: v1 :: v2 :: v3 :: v4 :: vI a :: ls) (vI a :: st) h Q := m_ok_step
theorem V_aload5 {v0 v1 v2 v3 v4 : MV} {a : Nat} : m_ok xs L mi ((pc, .aload 5) :: r) (v0 :: v1 :: v2 :: v3 :: v4 :: vR a :: ls) st h Q ↔ m_ok xs L mi r (v0 :: v1 :: v2 :: v3 :: v4 :: vR a :: ls) (vR a :: st) h Q := m_ok_step
theorem V_istore5 {v0 v1 v2 v3 v4 : MV} {v : MV} {a : Int} : m_ok xs L mi ((pc, .istore 5) :: r) (v0 :: v1 :: v2 :: v3 :: v4 :: v :: ls) (vI a :: st) h Q ↔ m_ok xs L mi r (v0 :: v1 :: v2 :: v3 :: v4 :: vI a :: ls) st h Q := m_ok_step.trans (iff_of_eq (congrArg (m_go xs L mi Q) (m_istore_eq (k := 5) (r := r) (ls := (v0 :: v1 :: v2 :: v3 :: v4 :: v :: ls)) (a := a) (st := st) (h := h) (by simp only [List.length_cons]; omega))))
theorem V_astore5 {v0 v1 v2 v3 v4 : MV} {v : MV} {a : Nat} : m_ok xs L mi ((pc, .astore 5) :: r) (v0 :: v1 :: v2 :: v3 :: v4 :: v :: ls) (vR a :: st) h Q ↔ m_ok xs L mi r (v0 :: v1 :: v2 :: v3 :: v4 :: vR a :: ls) st h Q := m_ok_step.trans (iff_of_eq (congrArg (m_go xs L mi Q) (m_astore_eq (k := 5) (r := r) (ls := (v0 :: v1 :: v2 :: v3 :: v4 :: v :: ls)) (a := a) (st := st) (h := h) (by simp only [List.length_cons]; omega))))
theorem V_iinc5 {v0 v1 v2 v3 v4 : MV} {a n : Int} : m_ok xs L mi ((pc, .iinc 5 n) :: r) (v0 :: v1 :: v2 :: v3 :: v4 :: vI a :: ls) st h Q ↔ m_ok xs L mi r (v0 :: v1 :: v2 :: v3 :: v4 :: vI (m_add a n) :: ls) st h Q := m_ok_step
theorem V_iload6 {v0 v1 v2 v3 v4 v5 : MV} {a : Int} : m_ok xs L mi ((pc, .iload 6) :: r) (v0 :: v1 :: v2 :: v3 :: v4 :: v5 :: vI a :: ls) st h Q ↔ m_ok xs L mi r (v0 :: v1 :: v2 :: v3 :: v4 :: v5 :: vI a :: ls) (vI a :: st) h Q := m_ok_step
theorem V_aload6 {v0 v1 v2 v3 v4 v5 : MV} {a : Nat} : m_ok xs L mi ((pc, .aload 6) :: r) (v0 :: v1 :: v2 :: v3 :: v4 :: v5 :: vR a :: ls) st h Q ↔ m_ok xs L mi r (v0 :: v1 :: v2 :: v3 :: v4 :: v5 :: vR a :: ls) (vR a :: st) h Q := m_ok_step
theorem V_istore6 {v0 v1 v2 v3 v4 v5 : MV} {v : MV} {a : Int} : m_ok xs L mi ((pc, .istore 6) :: r) (v0 :: v1 :: v2 :: v3 :: v4 :: v5 :: v :: ls) (vI a :: st) h Q ↔ m_ok xs L mi r (v0 :: v1 :: v2 :: v3 :: v4 :: v5 :: vI a :: ls) st h Q := m_ok_step.trans (iff_of_eq (congrArg (m_go xs L mi Q) (m_istore_eq (k := 6) (r := r) (ls := (v0 :: v1 :: v2 :: v3 :: v4 :: v5 :: v :: ls)) (a := a) (st := st) (h := h) (by simp only [List.length_cons]; omega))))
theorem V_astore6 {v0 v1 v2 v3 v4 v5 : MV} {v : MV} {a : Nat} : m_ok xs L mi ((pc, .astore 6) :: r) (v0 :: v1 :: v2 :: v3 :: v4 :: v5 :: v :: ls) (vR a :: st) h Q ↔ m_ok xs L mi r (v0 :: v1 :: v2 :: v3 :: v4 :: v5 :: vR a :: ls) st h Q := m_ok_step.trans (iff_of_eq (congrArg (m_go xs L mi Q) (m_astore_eq (k := 6) (r := r) (ls := (v0 :: v1 :: v2 :: v3 :: v4 :: v5 :: v :: ls)) (a := a) (st := st) (h := h) (by simp only [List.length_cons]; omega))))
theorem V_iinc6 {v0 v1 v2 v3 v4 v5 : MV} {a n : Int} : m_ok xs L mi ((pc, .iinc 6 n) :: r) (v0 :: v1 :: v2 :: v3 :: v4 :: v5 :: vI a :: ls) st h Q ↔ m_ok xs L mi r (v0 :: v1 :: v2 :: v3 :: v4 :: v5 :: vI (m_add a n) :: ls) st h Q := m_ok_step
theorem V_iload7 {v0 v1 v2 v3 v4 v5 v6 : MV} {a : Int} : m_ok xs L mi ((pc, .iload 7) :: r) (v0 :: v1 :: v2 :: v3 :: v4 :: v5 :: v6 :: vI a :: ls) st h Q ↔ m_ok xs L mi r (v0 :: v1 :: v2 :: v3 :: v4 :: v5 :: v6 :: vI a :: ls) (vI a :: st) h Q := m_ok_step
theorem V_aload7 {v0 v1 v2 v3 v4 v5 v6 : MV} {a : Nat} : m_ok xs L mi ((pc, .aload 7) :: r) (v0 :: v1 :: v2 :: v3 :: v4 :: v5 :: v6 :: vR a :: ls) st h Q ↔ m_ok xs L mi r (v0 :: v1 :: v2 :: v3 :: v4 :: v5 :: v6 :: vR a :: ls) (vR a :: st) h Q := m_ok_step
theorem V_istore7 {v0 v1 v2 v3 v4 v5 v6 : MV} {v : MV} {a : Int} : m_ok xs L mi ((pc, .istore 7) :: r) (v0 :: v1 :: v2 :: v3 :: v4 :: v5 :: v6 :: v :: ls) (vI a :: st) h Q ↔ m_ok xs L mi r (v0 :: v1 :: v2 :: v3 :: v4 :: v5 :: v6 :: vI a :: ls) st h Q := m_ok_step.trans (iff_of_eq (congrArg (m_go xs L mi Q) (m_istore_eq (k := 7) (r := r) (ls := (v0 :: v1 :: v2 :: v3 :: v4 :: v5 :: v6 :: v :: ls)) (a := a) (st := st) (h := h) (by simp only [List.length_cons]; omega))))
theorem V_astore7 {v0 v1 v2 v3 v4 v5 v6 : MV} {v : MV} {a : Nat} : m_ok xs L mi ((pc, .astore 7) :: r) (v0 :: v1 :: v2 :: v3 :: v4 :: v5 :: v6 :: v :: ls) (vR a :: st) h Q ↔ m_ok xs L mi r (v0 :: v1 :: v2 :: v3 :: v4 :: v5 :: v6 :: vR a :: ls) st h Q := m_ok_step.trans (iff_of_eq (congrArg (m_go xs L mi Q) (m_astore_eq (k := 7) (r := r) (ls := (v0 :: v1 :: v2 :: v3 :: v4 :: v5 :: v6 :: v :: ls)) (a := a) (st := st) (h := h) (by simp only [List.length_cons]; omega))))
theorem V_iinc7 {v0 v1 v2 v3 v4 v5 v6 : MV} {a n : Int} : m_ok xs L mi ((pc, .iinc 7 n) :: r) (v0 :: v1 :: v2 :: v3 :: v4 :: v5 :: v6 :: vI a :: ls) st h Q ↔ m_ok xs L mi r (v0 :: v1 :: v2 :: v3 :: v4 :: v5 :: v6 :: vI (m_add a n) :: ls) st h Q := m_ok_step
theorem V_iload8 {v0 v1 v2 v3 v4 v5 v6 v7 : MV} {a : Int} : m_ok xs L mi ((pc, .iload 8) :: r) (v0 :: v1 :: v2 :: v3 :: v4 :: v5 :: v6 :: v7 :: vI a :: ls) st h Q ↔ m_ok xs L mi r (v0 :: v1 :: v2 :: v3 :: v4 :: v5 :: v6 :: v7 :: vI a :: ls) (vI a :: st) h Q := m_ok_step
theorem V_aload8 {v0 v1 v2 v3 v4 v5 v6 v7 : MV} {a : Nat} : m_ok xs L mi ((pc, .aload 8) :: r) (v0 :: v1 :: v2 :: v3 :: v4 :: v5 :: v6 :: v7 :: vR a :: ls) st h Q ↔ m_ok xs L mi r (v0 :: v1 :: v2 :: v3 :: v4 :: v5 :: v6 :: v7 :: vR a :: ls) (vR a :: st) h Q := m_ok_step
theorem V_istore8 {v0 v1 v2 v3 v4 v5 v6 v7 : MV} {v : MV} {a : Int} : m_ok xs L mi ((pc, .istore 8) :: r) (v0 :: v1 :: v2 :: v3 :: v4 :: v5 :: v6 :: v7 :: v :: ls) (vI a :: st) h Q ↔ m_ok xs L mi r (v0 :: v1 :: v2 :: v3 :: v4 :: v5 :: v6 :: v7 :: vI a :: ls) st h Q := m_ok_step.trans (iff_of_eq (congrArg (m_go xs L mi Q) (m_istore_eq (k := 8) (r := r) (ls := (v0 :: v1 :: v2 :: v3 :: v4 :: v5 :: v6 :: v7 :: v :: ls)) (a := a) (st := st) (h := h) (by simp only [List.length_cons]; omega))))
theorem V_astore8 {v0 v1 v2 v3 v4 v5 v6 v7 : MV} {v : MV} {a : Nat} : m_ok xs L mi ((pc, .astore 8) :: r) (v0 :: v1 :: v2 :: v3 :: v4 :: v5 :: v6 :: v7 :: v :: ls) (vR a :: st) h Q ↔ m_ok xs L mi r (v0 :: v1 :: v2 :: v3 :: v4 :: v5 :: v6 :: v7 :: vR a :: ls) st h Q := m_ok_step.trans (iff_of_eq (congrArg (m_go xs L mi Q) (m_astore_eq (k := 8) (r := r) (ls := (v0 :: v1 :: v2 :: v3 :: v4 :: v5 :: v6 :: v7 :: v :: ls)) (a := a) (st := st) (h := h) (by simp only [List.length_cons]; omega))))
theorem V_iinc8 {v0 v1 v2 v3 v4 v5 v6 v7 : MV} {a n : Int} : m_ok xs L mi ((pc, .iinc 8 n) :: r) (v0 :: v1 :: v2 :: v3 :: v4 :: v5 :: v6 :: v7 :: vI a :: ls) st h Q ↔ m_ok xs L mi r (v0 :: v1 :: v2 :: v3 :: v4 :: v5 :: v6 :: v7 :: vI (m_add a n) :: ls) st h Q := m_ok_step
theorem V_iload9 {v0 v1 v2 v3 v4 v5 v6 v7 v8 : MV} {a : Int} : m_ok xs L mi ((pc, .iload 9) :: r) (v0 :: v1 :: v2 :: v3 :: v4 :: v5 :: v6 :: v7 :: v8 :: vI a :: ls) st h Q ↔ m_ok xs L mi r (v0 :: v1 :: v2 :: v3 :: v4 :: v5 :: v6 :: v7 :: v8 :: vI a :: ls) (vI a :: st) h Q := m_ok_step
theorem V_aload9 {v0 v1 v2 v3 v4 v5 v6 v7 v8 : MV} {a : Nat} : m_ok xs L mi ((pc, .aload 9) :: r) (v0 :: v1 :: v2 :: v3 :: v4 :: v5 :: v6 :: v7 :: v8 :: vR a :: ls) st h Q ↔ m_ok xs L mi r (v0 :: v1 :: v2 :: v3 :: v4 :: v5 :: v6 :: v7 :: v8 :: vR a :: ls) (vR a :: st) h Q := m_ok_step
theorem V_istore9 {v0 v1 v2 v3 v4 v5 v6 v7 v8 : MV} {v : MV} {a : Int} : m_ok xs L mi ((pc, .istore 9) :: r) (v0 :: v1 :: v2 :: v3 :: v4 :: v5 :: v6 :: v7 :: v8 :: v :: ls) (vI a :: st) h Q ↔ m_ok xs L mi r (v0 :: v1 :: v2 :: v3 :: v4 :: v5 :: v6 :: v7 :: v8 :: vI a :: ls) st h Q := m_ok_step.trans (iff_of_eq (congrArg (m_go xs L mi Q) (m_istore_eq (k := 9) (r := r) (ls := (v0 :: v1 :: v2 :: v3 :: v4 :: v5 :: v6 :: v7 :: v8 :: v :: ls)) (a := a) (st := st) (h := h) (by simp only [List.length_cons]; omega))))
theorem V_astore9 {v0 v1 v2 v3 v4 v5 v6 v7 v8 : MV} {v : MV} {a : Nat} : m_ok xs L mi ((pc, .astore 9) :: r) (v0 :: v1 :: v2 :: v3 :: v4 :: v5 :: v6 :: v7 :: v8 :: v :: ls) (vR a :: st) h Q ↔ m_ok xs L mi r (v0 :: v1 :: v2 :: v3 :: v4 :: v5 :: v6 :: v7 :: v8 :: vR a :: ls) st h Q := m_ok_step.trans (iff_of_eq (congrArg (m_go xs L mi Q) (m_astore_eq (k := 9) (r := r) (ls := (v0 :: v1 :: v2 :: v3 :: v4 :: v5 :: v6 :: v7 :: v8 :: v :: ls)) (a := a) (st := st) (h := h) (by simp only [List.length_cons]; omega))))
theorem V_iinc9 {v0 v1 v2 v3 v4 v5 v6 v7 v8 : MV} {a n : Int} : m_ok xs L mi ((pc, .iinc 9 n) :: r) (v0 :: v1 :: v2 :: v3 :: v4 :: v5 :: v6 :: v7 :: v8 :: vI a :: ls) st h Q ↔ m_ok xs L mi r (v0 :: v1 :: v2 :: v3 :: v4 :: v5 :: v6 :: v7 :: v8 :: vI (m_add a n) :: ls) st h Q := m_ok_step
theorem V_iload10 {v0 v1 v2 v3 v4 v5 v6 v7 v8 v9 : MV} {a : Int} : m_ok xs L mi ((pc, .iload 10) :: r) (v0 :: v1 :: v2 :: v3 :: v4 :: v5 :: v6 :: v7 :: v8 :: v9 :: vI a :: ls) st h Q ↔ m_ok xs L mi r (v0 :: v1 :: v2 :: v3 :: v4 :: v5 :: v6 :: v7 :: v8 :: v9 :: vI a :: ls) (vI a :: st) h Q := m_ok_step
theorem V_aload10 {v0 v1 v2 v3 v4 v5 v6 v7 v8 v9 : MV} {a : Nat} : m_ok xs L mi ((pc, .aload 10) :: r) (v0 :: v1 :: v2 :: v3 :: v4 :: v5 :: v6 :: v7 :: v8 :: v9 :: vR a :: ls) st h Q ↔ m_ok xs L mi r (v0 :: v1 :: v2 :: v3 :: v4 :: v5 :: v6 :: v7 :: v8 :: v9 :: vR a :: ls) (vR a :: st) h Q := m_ok_step
theorem V_istore10 {v0 v1 v2 v3 v4 v5 v6 v7 v8 v9 : MV} {v : MV} {a : Int} : m_ok xs L mi ((pc, .istore 10) :: r) (v0 :: v1 :: v2 :: v3 :: v4 :: v5 :: v6 :: v7 :: v8 :: v9 :: v :: ls) (vI a :: st) h Q ↔ m_ok xs L mi r (v0 :: v1 :: v2 :: v3 :: v4 :: v5 :: v6 :: v7 :: v8 :: v9 :: vI a :: ls) st h Q := m_ok_step.trans (iff_of_eq (congrArg (m_go xs L mi Q) (m_istore_eq (k := 10) (r := r) (ls := (v0 :: v1 :: v2 :: v3 :: v4 :: v5 :: v6 :: v7 :: v8 :: v9 :: v :: ls)) (a := a) (st := st) (h := h) (by simp only [List.length_cons]; omega))))
theorem V_astore10 {v0 v1 v2 v3 v4 v5 v6 v7 v8 v9 : MV} {v : MV} {a : Nat} : m_ok xs L mi ((pc, .astore 10) :: r) (v0 :: v1 :: v2 :: v3 :: v4 :: v5 :: v6 :: v7 :: v8 :: v9 :: v :: ls) (vR a :: st) h Q ↔ m_ok xs L mi r (v0 :: v1 :: v2 :: v3 :: v4 :: v5 :: v6 :: v7 :: v8 :: v9 :: vR a :: ls) st h Q := m_ok_step.trans (iff_of_eq (congrArg (m_go xs L mi Q) (m_astore_eq (k := 10) (r := r) (ls := (v0 :: v1 :: v2 :: v3 :: v4 :: v5 :: v6 :: v7 :: v8 :: v9 :: v :: ls)) (a := a) (st := st) (h := h) (by simp only [List.length_cons]; omega))))
theorem V_iinc10 {v0 v1 v2 v3 v4 v5 v6 v7 v8 v9 : MV} {a n : Int} : m_ok xs L mi ((pc, .iinc 10 n) :: r) (v0 :: v1 :: v2 :: v3 :: v4 :: v5 :: v6 :: v7 :: v8 :: v9 :: vI a :: ls) st h Q ↔ m_ok xs L mi r (v0 :: v1 :: v2 :: v3 :: v4 :: v5 :: v6 :: v7 :: v8 :: v9 :: vI (m_add a n) :: ls) st h Q := m_ok_step
theorem V_iload11 {v0 v1 v2 v3 v4 v5 v6 v7 v8 v9 v10 : MV} {a : Int} : m_ok xs L mi ((pc, .iload 11) :: r) (v0 :: v1 :: v2 :: v3 :: v4 :: v5 :: v6 :: v7 :: v8 :: v9 :: v10 :: vI a :: ls) st h Q ↔ m_ok xs L mi r (v0 :: v1 :: v2 :: v3 :: v4 :: v5 :: v6 :: v7 :: v8 :: v9 :: v10 :: vI a :: ls) (vI a :: st) h Q := m_ok_step
theorem V_aload11 {v0 v1 v2 v3 v4 v5 v6 v7 v8 v9 v10 : MV} {a : Nat} : m_ok xs L mi ((pc, .aload 11) :: r) (v0 :: v1 :: v2 :: v3 :: v4 :: v5 :: v6 :: v7 :: v8 :: v9 :: v10 :: vR a :: ls) st h Q ↔ m_ok xs L mi r (v0 :: v1 :: v2 :: v3 :: v4 :: v5 :: v6 :: v7 :: v8 :: v9 :: v10 :: vR a :: ls) (vR a :: st) h Q := m_ok_step
theorem V_istore11 {v0 v1 v2 v3 v4 v5 v6 v7 v8 v9 v10 : MV} {v : MV} {a : Int} : m_ok xs L mi ((pc, .istore 11) :: r) (v0 :: v1 :: v2 :: v3 :: v4 :: v5 :: v6 :: v7 :: v8 :: v9 :: v10 :: v :: ls) (vI a :: st) h Q ↔ m_ok xs L mi r (v0 :: v1 :: v2 :: v3 :: v4 :: v5 :: v6 :: v7 :: v8 :: v9 :: v10 :: vI a :: ls) st h Q := m_ok_step.trans (iff_of_eq (congrArg (m_go xs L mi Q) (m_istore_eq (k := 11) (r := r) (ls := (v0 :: v1 :: v2 :: v3 :: v4 :: v5 :: v6 :: v7 :: v8 :: v9 :: v10 :: v :: ls)) (a := a) (st := st) (h := h) (by simp only [List.length_cons]; omega))))
theorem V_astore11 {v0 v1 v2 v3 v4 v5 v6 v7 v8 v9 v10 : MV} {v : MV} {a : Nat} : m_ok xs L mi ((pc, .astore 11) :: r) (v0 :: v1 :: v2 :: v3 :: v4 :: v5 :: v6 :: v7 :: v8 :: v9 :: v10 :: v :: ls) (vR a :: st) h Q ↔ m_ok xs L mi r (v0 :: v1 :: v2 :: v3 :: v4 :: v5 :: v6 :: v7 :: v8 :: v9 :: v10 :: vR a :: ls) st h Q := m_ok_step.trans (iff_of_eq (congrArg (m_go xs L mi Q) (m_astore_eq (k := 11) (r := r) (ls := (v0 :: v1 :: v2 :: v3 :: v4 :: v5 :: v6 :: v7 :: v8 :: v9 :: v10 :: v :: ls)) (a := a) (st := st) (h := h) (by simp only [List.length_cons]; omega))))
theorem V_iinc11 {v0 v1 v2 v3 v4 v5 v6 v7 v8 v9 v10 : MV} {a n : Int} : m_ok xs L mi ((pc, .iinc 11 n) :: r) (v0 :: v1 :: v2 :: v3 :: v4 :: v5 :: v6 :: v7 :: v8 :: v9 :: v10 :: vI a :: ls) st h Q ↔ m_ok xs L mi r (v0 :: v1 :: v2 :: v3 :: v4 :: v5 :: v6 :: v7 :: v8 :: v9 :: v10 :: vI (m_add a n) :: ls) st h Q := m_ok_step
theorem V_iload12 {v0 v1 v2 v3 v4 v5 v6 v7 v8 v9 v10 v11 : MV} {a : Int} : m_ok xs L mi ((pc, .iload 12) :: r) (v0 :: v1 :: v2 :: v3 :: v4 :: v5 :: v6 :: v7 :: v8 :: v9 :: v10 :: v11 :: vI a :: ls) st h Q ↔ m_ok xs L mi r (v0 :: v1 :: v2 :: v3 :: v4 :: v5 :: v6 :: v7 :: v8 :: v9 :: v10 :: v11 :: vI a :: ls) (vI a :: st) h Q := m_ok_step
theorem V_aload12 {v0 v1 v2 v3 v4 v5 v6 v7 v8 v9 v10 v11 : MV} {a : Nat} : m_ok xs L mi ((pc, .aload 12) :: r) (v0 :: v1 :: v2 :: v3 :: v4 :: v5 :: v6 :: v7 :: v8 :: v9 :: v10 :: v11 :: vR a :: ls) st h Q ↔ m_ok xs L mi r (v0 :: v1 :: v2 :: v3 :: v4 :: v5 :: v6 :: v7 :: v8 :: v9 :: v10 :: v11 :: vR a :: ls) (vR a :: st) h Q := m_ok_step
theorem V_istore12 {v0 v1 v2 v3 v4 v5 v6 v7 v8 v9 v10 v11 : MV} {v : MV} {a : Int} : m_ok xs L mi ((pc, .istore 12) :: r) (v0 :: v1 :: v2 :: v3 :: v4 :: v5 :: v6 :: v7 :: v8 :: v9 :: v10 :: v11 :: v :: ls) (vI a :: st) h Q ↔ m_ok xs L mi r (v0 :: v1 :: v2 :: v3 :: v4 :: v5 :: v6 :: v7 :: v8 :: v9 :: v10 :: v11 :: vI a :: ls) st h Q := m_ok_step.trans (iff_of_eq (congrArg (m_go xs L mi Q) (m_istore_eq (k := 12) (r := r) (ls := (v0 :: v1 :: v2 :: v3 :: v4 :: v5 :: v6 :: v7 :: v8 :: v9 :: v10 :: v11 :: v :: ls)) (a := a) (st := st) (h := h) (by simp only [List.length_cons]; omega))))
theorem V_astore12 {v0 v1 v2 v3 v4 v5 v6 v7 v8 v9 v10 v11 : MV} {v : MV} {a : Nat} : m_ok xs L mi ((pc, .astore 12) :: r) (v0 :: v1 :: v2 :: v3 :: v4 :: v5 :: v6 :: v7 :: v8 :: v9 :: v10 :: v11 :: v :: ls) (vR a :: st) h Q ↔ m_ok xs L mi r (v0 :: v1 :: v2 :: v3 :: v4 :: v5 :: v6 :: v7 :: v8 :: v9 :: v10 :: v11 :: vR a :: ls) st h Q := m_ok_step.trans (iff_of_eq (congrArg (m_go xs L mi Q) (m_astore_eq (k := 12) (r := r) (ls := (v0 :: v1 :: v2 :: v3 :: v4 :: v5 :: v6 :: v7 :: v8 :: v9 :: v10 :: v11 :: v :: ls)) (a := a) (st := st) (h := h) (by simp only [List.length_cons]; omega))))
theorem V_iinc12 {v0 v1 v2 v3 v4 v5 v6 v7 v8 v9 v10 v11 : MV} {a n : Int} : m_ok xs L mi ((pc, .iinc 12 n) :: r) (v0 :: v1 :: v2 :: v3 :: v4 :: v5 :: v6 :: v7 :: v8 :: v9 :: v10 :: v11 :: vI a :: ls) st h Q ↔ m_ok xs L mi r (v0 :: v1 :: v2 :: v3 :: v4 :: v5 :: v6 :: v7 :: v8 :: v9 :: v10 :: v11 :: vI (m_add a n) :: ls) st h Q := m_ok_step
theorem V_iload13 {v0 v1 v2 v3 v4 v5 v6 v7 v8 v9 v10 v11 v12 : MV} {a : Int} : m_ok xs L mi ((pc, .iload 13) :: r) (v0 :: v1 :: v2 :: v3 :: v4 :: v5 :: v6 :: v7 :: v8 :: v9 :: v10 :: v11 :: v12 :: vI a :: ls) st h Q ↔ m_ok xs L mi r (v0 :: v1 :: v2 :: v3 :: v4 :: v5 :: v6 :: v7 :: v8 :: v9 :: v10 :: v11 :: v12 :: vI a :: ls) (vI a :: st) h Q := m_ok_step
theorem V_aload13 {v0 v1 v2 v3 v4 v5 v6 v7 v8 v9 v10 v11 v12 : MV} {a : Nat} : m_ok xs L mi ((pc, .aload 13) :: r) (v0 :: v1 :: v2 :: v3 :: v4 :: v5 :: v6 :: v7 :: v8 :: v9 :: v10 :: v11 :: v12 :: vR a :: ls) st h Q ↔ m_ok xs L mi r (v0 :: v1 :: v2 :: v3 :: v4 :: v5 :: v6 :: v7 :: v8 :: v9 :: v10 :: v11 :: v12 :: vR a :: ls) (vR a :: st) h Q := m_ok_step
theorem V_istore13 {v0 v1 v2 v3 v4 v5 v6 v7 v8 v9 v10 v11 v12 : MV} {v : MV} {a : Int} : m_ok xs L mi ((pc, .istore 13) :: r) (v0 :: v1 :: v2 :: v3 :: v4 :: v5 :: v6 :: v7 :: v8 :: v9 :: v10 :: v11 :: v12 :: v :: ls) (vI a :: st) h Q ↔ m_ok xs L mi r (v0 :: v1 :: v2 :: v3 :: v4 :: v5 :: v6 :: v7 :: v8 :: v9 :: v10 :: v11 :: v12 :: vI a :: ls) st h Q := m_ok_step.trans (iff_of_eq (congrArg (m_go xs L mi Q) (m_istore_eq (k := 13) (r := r) (ls := (v0 :: v1 :: v2 :: v3 :: v4 :: v5 :: v6 :: v7 :: v8 :: v9 :: v10 :: v11 :: v12 :: v :: ls)) (a := a) (st := st) (h := h) (by simp only [List.length_cons]; omega))))
theorem V_astore13 {v0 v1 v2 v3 v4 v5 v6 v7 v8 v9 v10 v11 v12 : MV} {v : MV} {a : Nat} : m_ok xs L mi ((pc, .astore 13) :: r) (v0 :: v1 :: v2 :: v3 :: v4 :: v5 :: v6 :: v7 :: v8 :: v9 :: v10 :: v11 :: v12 :: v :: ls) (vR a :: st) h Q ↔ m_ok xs L mi r (v0 :: v1 :: v2 :: v3 :: v4 :: v5 :: v6 :: v7 :: v8 :: v9 :: v10 :: v11 :: v12 :: vR a :: ls) st h Q := m_ok_step.trans (iff_of_eq (congrArg (m_go xs L mi Q) (m_astore_eq (k := 13) (r := r) (ls := (v0 :: v1 :: v2 :: v3 :: v4 :: v5 :: v6 :: v7 :: v8 :: v9 :: v10 :: v11 :: v12 :: v :: ls)) (a := a) (st := st) (h := h) (by simp only [List.length_cons]; omega))))
theorem V_iinc13 {v0 v1 v2 v3 v4 v5 v6 v7 v8 v9 v10 v11 v12 : MV} {a n : Int} : m_ok xs L mi ((pc, .iinc 13 n) :: r) (v0 :: v1 :: v2 :: v3 :: v4 :: v5 :: v6 :: v7 :: v8 :: v9 :: v10 :: v11 :: v12 :: vI a :: ls) st h Q ↔ m_ok xs L mi r (v0 :: v1 :: v2 :: v3 :: v4 :: v5 :: v6 :: v7 :: v8 :: v9 :: v10 :: v11 :: v12 :: vI (m_add a n) :: ls) st h Q := m_ok_step
theorem V_iadd {a b : Int} : m_ok xs L mi ((pc, .iadd) :: r) ls (vI b :: vI a :: st) h Q ↔ m_ok xs L mi r ls (vI (m_add a b) :: st) h Q := m_ok_step
theorem V_isub {a b : Int} : m_ok xs L mi ((pc, .isub) :: r) ls (vI b :: vI a :: st) h Q ↔ m_ok xs L mi r ls (vI (m_sub a b) :: st) h Q := m_ok_step
theorem V_imul {a b : Int} : m_ok xs L mi ((pc, .imul) :: r) ls (vI b :: vI a :: st) h Q ↔ m_ok xs L mi r ls (vI (m_mul a b) :: st) h Q := m_ok_step
theorem V_iand {a b : Int} : m_ok xs L mi ((pc, .iand) :: r) ls (vI b :: vI a :: st) h Q ↔ m_ok xs L mi r ls (vI (m_and a b) :: st) h Q := m_ok_step
theorem V_ishr {a b : Int} : m_ok xs L mi ((pc, .ishr) :: r) ls (vI b :: vI a :: st) h Q ↔ m_ok xs L mi r ls (vI (m_shr a b) :: st) h Q := m_ok_step
theorem V_idiv {a b : Int} : m_ok xs L mi ((pc, .idiv) :: r) ls (vI b :: vI a :: st) h Q ↔ b ≠ 0 ∧ m_ok xs L mi r ls (vI (m_div a b) :: st) h Q := by
  rw [m_ok_step]
  simp only [m_step, m_act, m_dbin, m_nx]
  split
  · rename_i hc; exact ⟨fun k => k.elim, fun k => absurd hc k.1⟩
  · rename_i hc; exact ⟨fun k => ⟨hc, k⟩, fun k => k.2⟩
theorem V_irem {a b : Int} : m_ok xs L mi ((pc, .irem) :: r) ls (vI b :: vI a :: st) h Q ↔ b ≠ 0 ∧ m_ok xs L mi r ls (vI (m_rem a b) :: st) h Q := by
  rw [m_ok_step]
  simp only [m_step, m_act, m_dbin, m_nx]
  split
  · rename_i hc; exact ⟨fun k => k.elim, fun k => absurd hc k.1⟩
  · rename_i hc; exact ⟨fun k => ⟨hc, k⟩, fun k => k.2⟩
theorem V_i2l {a : Int} : m_ok xs L mi ((pc, .i2l) :: r) ls (vI a :: st) h Q ↔ m_ok xs L mi r ls (vL (Int32.ofInt a).toInt64 :: st) h Q := m_ok_step
theorem V_i2f {a : Int} : m_ok xs L mi ((pc, .i2f) :: r) ls (vI a :: st) h Q ↔ m_ok xs L mi r ls (vF (FP.i2f (Int32.ofInt a)) :: st) h Q := m_ok_step
theorem V_f2d {a : UInt32} : m_ok xs L mi ((pc, .f2d) :: r) ls (vF a :: st) h Q ↔ m_nn64 (FP.f2d a) = true ∧ m_ok xs L mi r ls (vD (FP.f2d a) :: st) h Q := by
  rw [m_ok_step]
  simp only [m_step, m_act, m_f2d, m_nx]
  split
  · rename_i hc; exact ⟨fun k => ⟨hc, k⟩, fun k => k.2⟩
  · rename_i hc; exact ⟨fun k => k.elim, fun k => absurd k.1 hc⟩
theorem V_fmul {a b : UInt32} : m_ok xs L mi ((pc, .fmul) :: r) ls (vF b :: vF a :: st) h Q ↔ m_nn32 (FP.fmul a b) = true ∧ m_ok xs L mi r ls (vF (FP.fmul a b) :: st) h Q := by
  rw [m_ok_step]
  simp only [m_step, m_act, m_fbin, m_nx]
  split
  · rename_i hc; exact ⟨fun k => ⟨hc, k⟩, fun k => k.2⟩
  · rename_i hc; exact ⟨fun k => k.elim, fun k => absurd k.1 hc⟩
theorem V_fdiv {a b : UInt32} : m_ok xs L mi ((pc, .fdiv) :: r) ls (vF b :: vF a :: st) h Q ↔ m_nn32 (FP.fdiv a b) = true ∧ m_ok xs L mi r ls (vF (FP.fdiv a b) :: st) h Q := by
  rw [m_ok_step]
  simp only [m_step, m_act, m_fbin, m_nx]
  split
  · rename_i hc; exact ⟨fun k => ⟨hc, k⟩, fun k => k.2⟩
  · rename_i hc; exact ⟨fun k => k.elim, fun k => absurd k.1 hc⟩
theorem V_fcmp {op : CmpOp} {a b : UInt32} : m_ok xs L mi ((pc, .fcmp op) :: r) ls (vF b :: vF a :: st) h Q ↔ m_ok xs L mi r ls (vI (Op.cmpValue (FP.fcmp a b) op).toInt :: st) h Q := m_ok_step
theorem V_dcmp {op : CmpOp} {a b : UInt64} : m_ok xs L mi ((pc, .dcmp op) :: r) ls (vD b :: vD a :: st) h Q ↔ m_ok xs L mi r ls (vI (Op.cmpValue (FP.dcmp a b) op).toInt :: st) h Q := m_ok_step
theorem V_lcmp {a b : Int64} : m_ok xs L mi ((pc, .lcmp) :: r) ls (vL b :: vL a :: st) h Q ↔ m_ok xs L mi r ls (vI (lg_cmp a b).toInt :: st) h Q := m_ok_step
theorem V_if_eq {a off : Int} : m_ok xs L mi ((pc, .ifCond .eq off) :: r) ls (vI a :: st) h Q ↔ if a = 0 then m_ok xs L mi (m_jmp mi pc off) ls st h Q else m_ok xs L mi r ls st h Q := by
  rw [m_ok_step]
  simp only [m_step, m_act, m_if, m_holds, decide_eq_true_eq, m_nx]
  by_cases hc : a = 0
  · rw [if_pos hc, if_pos hc]; rfl
  · rw [if_neg hc, if_neg hc]; rfl
theorem V_icmp_eq {a b off : Int} : m_ok xs L mi ((pc, .if_icmp .eq off) :: r) ls (vI b :: vI a :: st) h Q ↔ if a = b then m_ok xs L mi (m_jmp mi pc off) ls st h Q else m_ok xs L mi r ls st h Q := by
  rw [m_ok_step]
  simp only [m_step, m_act, m_icmp, m_holds, decide_eq_true_eq, m_nx]
  by_cases hc : a = b
  · rw [if_pos hc, if_pos hc]; rfl
  · rw [if_neg hc, if_neg hc]; rfl
theorem V_if_ne {a off : Int} : m_ok xs L mi ((pc, .ifCond .ne off) :: r) ls (vI a :: st) h Q ↔ if ¬ a = 0 then m_ok xs L mi (m_jmp mi pc off) ls st h Q else m_ok xs L mi r ls st h Q := by
  rw [m_ok_step]
  simp only [m_step, m_act, m_if, m_holds, decide_eq_true_eq, m_nx]
  by_cases hc : ¬ a = 0
  · rw [if_pos hc, if_pos hc]; rfl
  · rw [if_neg hc, if_neg hc]; rfl
theorem V_icmp_ne {a b off : Int} : m_ok xs L mi ((pc, .if_icmp .ne off) :: r) ls (vI b :: vI a :: st) h Q ↔ if ¬ a = b then m_ok xs L mi (m_jmp mi pc off) ls st h Q else m_ok xs L mi r ls st h Q := by
  rw [m_ok_step]
  simp only [m_step, m_act, m_icmp, m_holds, decide_eq_true_eq, m_nx]
  by_cases hc : ¬ a = b
  · rw [if_pos hc, if_pos hc]; rfl
  · rw [if_neg hc, if_neg hc]; rfl
theorem V_if_lt {a off : Int} : m_ok xs L mi ((pc, .ifCond .lt off) :: r) ls (vI a :: st) h Q ↔ if a < 0 then m_ok xs L mi (m_jmp mi pc off) ls st h Q else m_ok xs L mi r ls st h Q := by
  rw [m_ok_step]
  simp only [m_step, m_act, m_if, m_holds, decide_eq_true_eq, m_nx]
  by_cases hc : a < 0
  · rw [if_pos hc, if_pos hc]; rfl
  · rw [if_neg hc, if_neg hc]; rfl
theorem V_icmp_lt {a b off : Int} : m_ok xs L mi ((pc, .if_icmp .lt off) :: r) ls (vI b :: vI a :: st) h Q ↔ if a < b then m_ok xs L mi (m_jmp mi pc off) ls st h Q else m_ok xs L mi r ls st h Q := by
  rw [m_ok_step]
  simp only [m_step, m_act, m_icmp, m_holds, decide_eq_true_eq, m_nx]
  by_cases hc : a < b
  · rw [if_pos hc, if_pos hc]; rfl
  · rw [if_neg hc, if_neg hc]; rfl
theorem V_if_ge {a off : Int} : m_ok xs L mi ((pc, .ifCond .ge off) :: r) ls (vI a :: st) h Q ↔ if 0 ≤ a then m_ok xs L mi (m_jmp mi pc off) ls st h Q else m_ok xs L mi r ls st h Q := by
  rw [m_ok_step]
  simp only [m_step, m_act, m_if, m_holds, decide_eq_true_eq, m_nx]
  by_cases hc : 0 ≤ a
  · rw [if_pos hc, if_pos hc]; rfl
  · rw [if_neg hc, if_neg hc]; rfl
theorem V_icmp_ge {a b off : Int} : m_ok xs L mi ((pc, .if_icmp .ge off) :: r) ls (vI b :: vI a :: st) h Q ↔ if b ≤ a then m_ok xs L mi (m_jmp mi pc off) ls st h Q else m_ok xs L mi r ls st h Q := by
  rw [m_ok_step]
  simp only [m_step, m_act, m_icmp, m_holds, decide_eq_true_eq, m_nx]
  by_cases hc : b ≤ a
  · rw [if_pos hc, if_pos hc]; rfl
  · rw [if_neg hc, if_neg hc]; rfl
theorem V_if_gt {a off : Int} : m_ok xs L mi ((pc, .ifCond .gt off) :: r) ls (vI a :: st) h Q ↔ if 0 < a then m_ok xs L mi (m_jmp mi pc off) ls st h Q else m_ok xs L mi r ls st h Q := by
  rw [m_ok_step]
  simp only [m_step, m_act, m_if, m_holds, decide_eq_true_eq, m_nx]
  by_cases hc : 0 < a
  · rw [if_pos hc, if_pos hc]; rfl
  · rw [if_neg hc, if_neg hc]; rfl
theorem V_icmp_gt {a b off : Int} : m_ok xs L mi ((pc, .if_icmp .gt off) :: r) ls (vI b :: vI a :: st) h Q ↔ if b < a then m_ok xs L mi (m_jmp mi pc off) ls st h Q else m_ok xs L mi r ls st h Q := by
  rw [m_ok_step]
  simp only [m_step, m_act, m_icmp, m_holds, decide_eq_true_eq, m_nx]
  by_cases hc : b < a
  · rw [if_pos hc, if_pos hc]; rfl
  · rw [if_neg hc, if_neg hc]; rfl
theorem V_if_le {a off : Int} : m_ok xs L mi ((pc, .ifCond .le off) :: r) ls (vI a :: st) h Q ↔ if a ≤ 0 then m_ok xs L mi (m_jmp mi pc off) ls st h Q else m_ok xs L mi r ls st h Q := by
  rw [m_ok_step]
  simp only [m_step, m_act, m_if, m_holds, decide_eq_true_eq, m_nx]
  by_cases hc : a ≤ 0
  · rw [if_pos hc, if_pos hc]; rfl
  · rw [if_neg hc, if_neg hc]; rfl
theorem V_icmp_le {a b off : Int} : m_ok xs L mi ((pc, .if_icmp .le off) :: r) ls (vI b :: vI a :: st) h Q ↔ if a ≤ b then m_ok xs L mi (m_jmp mi pc off) ls st h Q else m_ok xs L mi r ls st h Q := by
  rw [m_ok_step]
  simp only [m_step, m_act, m_icmp, m_holds, decide_eq_true_eq, m_nx]
  by_cases hc : a ≤ b
  · rw [if_pos hc, if_pos hc]; rfl
  · rw [if_neg hc, if_neg hc]; rfl
theorem V_goto {off : Int} : m_ok xs L mi ((pc, .goto off) :: r) ls st h Q ↔ m_ok xs L mi (m_jmp mi pc off) ls st h Q := m_ok_step
theorem V_sw {d lo hi a : Int} {offs : Array Int} : m_ok xs L mi ((pc, .tableswitch d lo hi offs) :: r) ls (vI a :: st) h Q ↔ if a < lo ∨ hi < a then m_ok xs L mi (m_jmp mi pc d) ls st h Q else ∃ off, offs[(a - lo).toNat]? = some off ∧ m_ok xs L mi (m_jmp mi pc off) ls st h Q := by
  rw [m_ok_step]
  simp only [m_step, m_act, m_sw, m_nx]
  split
  · rfl
  · cases offs[(a - lo).toNat]? with
    | none => exact ⟨fun k => k.elim, fun ⟨_, k, _⟩ => by cases k⟩
    | some off => exact ⟨fun k => ⟨off, rfl, k⟩, fun ⟨_, k, k2⟩ => by cases k; exact k2⟩
theorem V_getf {k ci f tk o : Nat} {fin : Bool} {v : MV} (hf : fR (m_own mi) k = some (ci, f, tk, fin)) (hv : m_get h o ci f = some v) : m_ok xs L mi ((pc, .getfield k) :: r) ls (vR o :: st) h Q ↔ m_ok xs L mi r ls (v :: st) h Q := by
  rw [m_ok_step]
  simp only [m_step, m_act, m_getf, hf, hv, m_ld, m_nx, m_go]
theorem V_putf {k ci f tk o : Nat} {fin : Bool} {v v0 : MV} (hf : fR (m_own mi) k = some (ci, f, tk, fin)) (hv : m_get h o ci f = some v0) (hk : m_fit tk v = true) (hfin : fin = false) : m_ok xs L mi ((pc, .putfield k) :: r) ls (v :: vR o :: st) h Q ↔ m_ok xs L mi r ls st (m_set h o f v) Q := by
  subst hfin
  rw [m_ok_step]
  simp only [m_step, m_act, m_putf, hf]
  rw [if_pos ⟨hk, by rw [hv]; rfl, fun z => by cases z⟩]
  rfl
theorem V_iaload {i : Int} {o : Nat} {a : Int} (hv : m_age h o 20 i = some (vI a)) : m_ok xs L mi ((pc, .iaload) :: r) ls (vI i :: vR o :: st) h Q ↔ m_ok xs L mi r ls (vI a :: st) h Q := by
  rw [m_ok_step]
  simp only [m_step, m_act, m_iald, hv, m_ld, m_nx, m_go]
theorem V_baload {i : Int} {o : Nat} {a : Int} (hv : m_age h o 21 i = some (vI a)) : m_ok xs L mi ((pc, .baload) :: r) ls (vI i :: vR o :: st) h Q ↔ m_ok xs L mi r ls (vI a :: st) h Q := by
  rw [m_ok_step]
  simp only [m_step, m_act, m_zald, hv, m_ld, m_nx, m_go]
theorem V_faload {i : Int} {o : Nat} {a : UInt32} (hv : m_age h o 22 i = some (vF a)) : m_ok xs L mi ((pc, .faload) :: r) ls (vI i :: vR o :: st) h Q ↔ m_ok xs L mi r ls (vF a :: st) h Q := by
  rw [m_ok_step]
  simp only [m_step, m_act, m_fald, hv, m_ld, m_nx, m_go]
theorem V_laload {i : Int} {o : Nat} {a : Int64} (hv : m_age h o 23 i = some (vL a)) : m_ok xs L mi ((pc, .laload) :: r) ls (vI i :: vR o :: st) h Q ↔ m_ok xs L mi r ls (vL a :: st) h Q := by
  rw [m_ok_step]
  simp only [m_step, m_act, m_lald, hv, m_ld, m_nx, m_go]
theorem V_daload {i : Int} {o : Nat} {a : UInt64} (hv : m_age h o 24 i = some (vD a)) : m_ok xs L mi ((pc, .daload) :: r) ls (vI i :: vR o :: st) h Q ↔ m_ok xs L mi r ls (vD a :: st) h Q := by
  rw [m_ok_step]
  simp only [m_step, m_act, m_dald, hv, m_ld, m_nx, m_go]
theorem V_saload {i : Int} : m_ok xs L mi ((pc, .iaload) :: r) ls (vI i :: vS :: st) h Q ↔ (0 ≤ i ∧ i + 1 < (L : Int)) ∧ m_ok xs L mi r ls (vI (xs i.toNat).toInt :: st) h Q := by
  rw [m_ok_step]
  simp only [m_step, m_act, m_iald, m_nx]
  split
  · rename_i hc; exact ⟨fun k => ⟨hc, k⟩, fun k => k.2⟩
  · rename_i hc; exact ⟨fun k => k.elim, fun k => absurd k.1 hc⟩
theorem V_aaload {i : Int} {o t q : Nat} (ht : m_tag h o = some t) (hc : 30 ≤ t ∧ m_oa (t - 30) = true) (hv : m_age h o t i = some (vR q)) : m_ok xs L mi ((pc, .aaload) :: r) ls (vI i :: vR o :: st) h Q ↔ m_ok xs L mi r ls (vR q :: st) h Q := by
  rw [m_ok_step]
  simp only [m_step, m_act, m_aald, ht, if_pos hc, hv, m_nx, m_go]
theorem V_iastore {i : Int} {o : Nat} {a : Int} {v0 : MV} (hv : m_age h o 20 i = some v0) : m_ok xs L mi ((pc, .iastore) :: r) ls (vI a :: vI i :: vR o :: st) h Q ↔ m_ok xs L mi r ls st (m_set h o i.toNat (vI a)) Q := by
  rw [m_ok_step]
  simp only [m_step, m_act, m_iast, m_nx]
  rw [if_pos (by rw [hv]; rfl)]
  rfl
theorem V_fastore {i : Int} {o : Nat} {a : UInt32} {v0 : MV} (hv : m_age h o 22 i = some v0) : m_ok xs L mi ((pc, .fastore) :: r) ls (vF a :: vI i :: vR o :: st) h Q ↔ m_ok xs L mi r ls st (m_set h o i.toNat (vF a)) Q := by
  rw [m_ok_step]
  simp only [m_step, m_act, m_fast, m_nx]
  rw [if_pos (by rw [hv]; rfl)]
  rfl
theorem V_lastore {i : Int} {o : Nat} {a : Int64} {v0 : MV} (hv : m_age h o 23 i = some v0) : m_ok xs L mi ((pc, .lastore) :: r) ls (vL a :: vI i :: vR o :: st) h Q ↔ m_ok xs L mi r ls st (m_set h o i.toNat (vL a)) Q := by
  rw [m_ok_step]
  simp only [m_step, m_act, m_last, m_nx]
  rw [if_pos (by rw [hv]; rfl)]
  rfl
theorem V_dastore {i : Int} {o : Nat} {a : UInt64} {v0 : MV} (hv : m_age h o 24 i = some v0) : m_ok xs L mi ((pc, .dastore) :: r) ls (vD a :: vI i :: vR o :: st) h Q ↔ m_ok xs L mi r ls st (m_set h o i.toNat (vD a)) Q := by
  rw [m_ok_step]
  simp only [m_step, m_act, m_dast, m_nx]
  rw [if_pos (by rw [hv]; rfl)]
  rfl
theorem V_bastore {i a : Int} {o : Nat} {v0 : MV} (hv : m_age h o 21 i = some v0) (ha : a = 0 ∨ a = 1) : m_ok xs L mi ((pc, .bastore) :: r) ls (vI a :: vI i :: vR o :: st) h Q ↔ m_ok xs L mi r ls st (m_set h o i.toNat (vI a)) Q := by
  rw [m_ok_step]
  simp only [m_step, m_act, m_zast, m_nx]
  rw [if_pos ⟨ha, by rw [hv]; rfl⟩]
  rfl
theorem V_alen {o n : Nat} (hv : m_len h o = some n) (hn : n < 2147483648) : m_ok xs L mi ((pc, .arraylength) :: r) ls (vR o :: st) h Q ↔ m_ok xs L mi r ls (vI n :: st) h Q := by
  rw [m_ok_step]
  simp only [m_step, m_act, m_alen, hv, if_pos hn, m_nx, m_go]
theorem V_slen : m_ok xs L mi ((pc, .arraylength) :: r) ls (vS :: st) h Q ↔ (0 < L ∧ L ≤ 2147483648) ∧ m_ok xs L mi r ls (vI ((L : Int) - 1) :: st) h Q := by
  rw [m_ok_step]
  simp only [m_step, m_act, m_alen, m_nx]
  split
  · rename_i hc; exact ⟨fun k => ⟨hc, k⟩, fun k => k.2⟩
  · rename_i hc; exact ⟨fun k => k.elim, fun k => absurd k.1 hc⟩
theorem V_throw {k is ic e p1 p2 p3 p4 : Nat} (hk : kR (m_own mi) k = some (1, e)) (hc : cR (m_own mi) ic = some (4, e)) (hs : (sR (m_own mi) is).isSome = true) (h8 : (st.map m_cat).sum ≤ 8) : m_ok xs L mi ((pc, .new k) :: (p1, .dup) :: (p2, .ldc is) :: (p3, .invokespecial ic) :: (p4, .athrow) :: r) ls st h Q ↔ Q (.inr e) (h.1, h.2.1 + 1, h.2.2 + 6) := by
  rw [m_ok_step]
  simp only [m_step, m_act, m_new, hk]
  rw [if_pos ⟨hc, hs, h8⟩]
  rfl
theorem V_throww {k is ic e p1 p2 p3 p4 : Nat} (hk : kR (m_own mi) k = some (1, e)) (hc : cR (m_own mi) ic = some (4, e)) (hs : (sR (m_own mi) is).isSome = true) (h8 : (st.map m_cat).sum ≤ 8) : m_ok xs L mi ((pc, .new k) :: (p1, .dup) :: (p2, .ldc_w is) :: (p3, .invokespecial ic) :: (p4, .athrow) :: r) ls st h Q ↔ Q (.inr e) (h.1, h.2.1 + 1, h.2.2 + 6) := by
  rw [m_ok_step]
  simp only [m_step, m_act, m_new, hk]
  rw [if_pos ⟨hc, hs, h8⟩]
  rfl
theorem V_newo {k ci : Nat} (hk : kR (m_own mi) k = some (0, ci)) : m_ok xs L mi ((pc, .new k) :: r) ls st h Q ↔ m_ok xs L mi r ls (vR h.1.length :: st) (m_push h ci (tD.getD ci [])) Q := by
  rw [m_ok_step]
  simp only [m_step, m_act, m_new, hk, m_nx, m_go]
theorem V_newi {n : Int} : m_ok xs L mi ((pc, .newarray .int) :: r) ls (vI n :: st) h Q ↔ (0 ≤ n ∧ n ≤ 1000) ∧ m_ok xs L mi r ls (vR h.1.length :: st) (m_push h 20 (List.replicate n.toNat (vI 0))) Q := by
  rw [m_ok_step]
  simp only [m_step, m_act, m_newarr, m_nx]
  split
  · rename_i hc; exact ⟨fun k => ⟨hc, k⟩, fun k => k.2⟩
  · rename_i hc; exact ⟨fun k => k.elim, fun k => absurd k.1 hc⟩
theorem V_newz {n : Int} : m_ok xs L mi ((pc, .newarray .boolean) :: r) ls (vI n :: st) h Q ↔ (0 ≤ n ∧ n ≤ 1000) ∧ m_ok xs L mi r ls (vR h.1.length :: st) (m_push h 21 (List.replicate n.toNat (vI 0))) Q := by
  rw [m_ok_step]
  simp only [m_step, m_act, m_newarr, m_nx]
  split
  · rename_i hc; exact ⟨fun k => ⟨hc, k⟩, fun k => k.2⟩
  · rename_i hc; exact ⟨fun k => k.elim, fun k => absurd k.1 hc⟩
theorem V_newf {n : Int} : m_ok xs L mi ((pc, .newarray .float) :: r) ls (vI n :: st) h Q ↔ (0 ≤ n ∧ n ≤ 1000) ∧ m_ok xs L mi r ls (vR h.1.length :: st) (m_push h 22 (List.replicate n.toNat (vF 0))) Q := by
  rw [m_ok_step]
  simp only [m_step, m_act, m_newarr, m_nx]
  split
  · rename_i hc; exact ⟨fun k => ⟨hc, k⟩, fun k => k.2⟩
  · rename_i hc; exact ⟨fun k => k.elim, fun k => absurd k.1 hc⟩
theorem V_newl {n : Int} : m_ok xs L mi ((pc, .newarray .long) :: r) ls (vI n :: st) h Q ↔ (0 ≤ n ∧ n ≤ 1000) ∧ m_ok xs L mi r ls (vR h.1.length :: st) (m_push h 23 (List.replicate n.toNat (vL 0))) Q := by
  rw [m_ok_step]
  simp only [m_step, m_act, m_newarr, m_nx]
  split
  · rename_i hc; exact ⟨fun k => ⟨hc, k⟩, fun k => k.2⟩
  · rename_i hc; exact ⟨fun k => k.elim, fun k => absurd k.1 hc⟩
theorem V_newd {n : Int} : m_ok xs L mi ((pc, .newarray .double) :: r) ls (vI n :: st) h Q ↔ (0 ≤ n ∧ n ≤ 1000) ∧ m_ok xs L mi r ls (vR h.1.length :: st) (m_push h 24 (List.replicate n.toNat (vD 0))) Q := by
  rw [m_ok_step]
  simp only [m_step, m_act, m_newarr, m_nx]
  split
  · rename_i hc; exact ⟨fun k => ⟨hc, k⟩, fun k => k.2⟩
  · rename_i hc; exact ⟨fun k => k.elim, fun k => absurd k.1 hc⟩
theorem V_dup_vI {a : Int} : m_ok xs L mi ((pc, .dup) :: r) ls (vI a :: st) h Q ↔ m_ok xs L mi r ls (vI a :: vI a :: st) h Q := m_ok_step
theorem V_pop_vI {a : Int} : m_ok xs L mi ((pc, .pop) :: r) ls (vI a :: st) h Q ↔ m_ok xs L mi r ls st h Q := m_ok_step
theorem V_dup_vR {a : Nat} : m_ok xs L mi ((pc, .dup) :: r) ls (vR a :: st) h Q ↔ m_ok xs L mi r ls (vR a :: vR a :: st) h Q := m_ok_step
theorem V_pop_vR {a : Nat} : m_ok xs L mi ((pc, .pop) :: r) ls (vR a :: st) h Q ↔ m_ok xs L mi r ls st h Q := m_ok_step
theorem V_dup_vF {a : UInt32} : m_ok xs L mi ((pc, .dup) :: r) ls (vF a :: st) h Q ↔ m_ok xs L mi r ls (vF a :: vF a :: st) h Q := m_ok_step
theorem V_pop_vF {a : UInt32} : m_ok xs L mi ((pc, .pop) :: r) ls (vF a :: st) h Q ↔ m_ok xs L mi r ls st h Q := m_ok_step
theorem V_dup2 {i : Int} {o : Nat} : m_ok xs L mi ((pc, .dup2) :: r) ls (vI i :: vR o :: st) h Q ↔ m_ok xs L mi r ls (vI i :: vR o :: vI i :: vR o :: st) h Q := m_ok_step
theorem V_max {k q : Nat} {a b : Int} (hk : cR (m_own mi) k = some (2, q)) (h8 : (st.map m_cat).sum ≤ 8) : m_ok xs L mi ((pc, .invokestatic k) :: r) ls (vI b :: vI a :: st) h Q ↔ m_ok xs L mi r ls (vI (if a < b then b else a) :: st) h Q := by
  rw [m_ok_step]
  simp only [m_step, m_act, m_invs, hk, if_pos h8, m_nx, m_go]
theorem V_invs {k mj : Nat} {av : List MV} (hk : cR (m_own mi) k = some (1, mj)) (hkd : m_kind mj = 0) (hn : m_narg mj = av.length) (h8 : (st.map m_cat).sum ≤ 8) (h1 : av.all (fun v => decide (m_cat v = 1)) = true) (hm : av.length ≤ m_maxL mj) : m_ok xs L mi ((pc, .invokestatic k) :: r) ls (av ++ st) h Q ↔ m_do xs L mj av.reverse h (m_cont xs L mi pc r ls st Q) := by
  rw [m_ok_step]
  simp only [m_step, m_act, m_invs, hk, m_callA]
  rw [if_pos ⟨hkd, by rw [hn, List.length_append]; omega⟩, hn, List.take_left' rfl, List.drop_left' rfl, if_pos ⟨h8, by rw [List.all_reverse]; exact h1, by rw [List.length_reverse]; exact hm⟩]
  rfl
theorem V_invv {k mj o : Nat} {av : List MV} (hk : cR (m_own mi) k = some (1, mj)) (hkd : m_kind mj = 1) (hn : m_narg mj = av.length) (ht : m_tag h o = some (m_own mj)) (h8 : (st.map m_cat).sum ≤ 8) (h1 : av.all (fun v => decide (m_cat v = 1)) = true) (hm : av.length + 1 ≤ m_maxL mj) : m_ok xs L mi ((pc, .invokevirtual k) :: r) ls (av ++ vR o :: st) h Q ↔ m_do xs L mj (vR o :: av.reverse) h (m_cont xs L mi pc r ls st Q) := by
  rw [m_ok_step]
  simp only [m_step, m_act, m_invv, hk, m_callA]
  rw [hn, List.take_left' rfl, List.drop_left' rfl]
  simp only
  rw [if_pos ⟨hkd, ht⟩, if_pos ⟨h8, by rw [List.all_cons, List.all_reverse, h1]; rfl, by rw [List.length_cons, List.length_reverse]; exact hm⟩]
  rfl
theorem V_invi {k mj o z : Nat} {av : List MV} (hk : cR (m_own mi) k = some (z, mj)) (hz : z = 1 ∨ z = 5) (hkd : m_kind mj = 2) (hn : m_narg mj = av.length) (h8 : (st.map m_cat).sum ≤ 8) (h1 : av.all (fun v => decide (m_cat v = 1)) = true) (hm : av.length + 1 ≤ m_maxL mj) : m_ok xs L mi ((pc, .invokespecial k) :: r) ls (av ++ vR o :: st) h Q ↔ m_do xs L mj (vR o :: av.reverse) h (m_cont xs L mi pc r ls st Q) := by
  rw [m_ok_step]
  rcases hz with rfl | rfl
  all_goals
    simp only [m_step, m_act, m_invi, hk, m_callA]
    rw [hn, List.take_left' rfl, List.drop_left' rfl]
    simp only
    rw [if_pos hkd, if_pos ⟨h8, by rw [List.all_cons, List.all_reverse, h1]; rfl, by rw [List.length_cons, List.length_reverse]; exact hm⟩]
    rfl
theorem V_ireti {a : Int} (hr : m_ret mi = some .int) : m_ok xs L mi ((pc, .ireturn) :: r) ls [vI a] h Q ↔ Q (.inl (some (vI a))) h := by
  rw [m_ok_step]
  simp only [m_step, m_act, m_iret, hr, m_end, m_go]
theorem V_iretz {a : Int} (hr : m_ret mi = some .boolean) : m_ok xs L mi ((pc, .ireturn) :: r) ls [vI a] h Q ↔ (a = 0 ∨ a = 1) ∧ Q (.inl (some (vI a))) h := by
  rw [m_ok_step]
  simp only [m_step, m_act, m_iret, hr, m_end]
  split
  · rename_i hc; exact ⟨fun k => ⟨hc, k⟩, fun k => k.2⟩
  · rename_i hc; exact ⟨fun k => k.elim, fun k => absurd k.1 hc⟩
theorem V_fret {a : UInt32} (hr : m_ret mi = some .float) : m_ok xs L mi ((pc, .freturn) :: r) ls [vF a] h Q ↔ Q (.inl (some (vF a))) h := by
  rw [m_ok_step]
  simp only [m_step, m_act, m_fret, hr, m_end, m_go]
theorem V_aret {o : Nat} {n : String} (hr : m_ret mi = some (.object n)) : m_ok xs L mi ((pc, .areturn) :: r) ls [vR o] h Q ↔ Q (.inl (some (vR o))) h := by
  rw [m_ok_step]
  simp only [m_step, m_act, m_aret, hr, m_end, m_go]
theorem V_vret (hr : m_ret mi = none) : m_ok xs L mi ((pc, .return_) :: r) ls [] h Q ↔ Q (.inl none) h := by
  rw [m_ok_step]
  simp only [m_step, m_act, m_vret, hr, m_end, m_go]
theorem V_cont {v : Option MV} : m_cont xs L mi pc r ls st Q (.inl v) h ↔ m_ok xs L mi r ls (v.toList ++ st) h Q := Iff.rfl
theorem V_contx {e : Nat} (hh : m_hand mi = []) : m_cont xs L mi pc r ls st Q (.inr e) h ↔ Q (.inr e) h := by
  simp only [m_cont, if_pos hh]
end V
end
section
/-! ===== the heap behind the constructors, as a function of its ints: S family index place ===== -/
abbrev Sg : Type := Nat → Nat → Nat → Int
def kT : List (Nat × Nat) := [(1900, 0), (1400, 0), (902, 0), (903, 0), (904, 0), (1600, 0), (1600, 1), (1600, 2), (1600, 3), (1600, 4), (1600, 5), (1600, 6), (1600, 7), (1600, 8), (1600, 9), (1700, 0), (10, 0), (11, 0), (12, 0), (13, 0), (14, 0), (15, 0), (16, 0), (1700, 1), (10, 1), (11, 1), (12, 1), (13, 1), (14, 1), (15, 1), (16, 1), (1700, 2), (10, 2), (11, 2), (12, 2), (13, 2), (14, 2), (15, 2), (16, 2), (1700, 3), (10, 3), (11, 3), (12, 3), (13, 3), (14, 3), (15, 3), (16, 3), (1700, 4), (10, 4), (11, 4), (12, 4), (13, 4), (14, 4), (15, 4), (16, 4), (1700, 5), (10, 5), (11, 5), (12, 5), (13, 5), (14, 5), (15, 5), (16, 5), (1100, 0), (20, 0), (21, 0), (22, 0), (1100, 1), (20, 1), (21, 1), (22, 1), (1100, 2), (20, 2), (21, 2), (22, 2), (1100, 3), (20, 3), (21, 3), (22, 3), (1100, 4), (20, 4), (21, 4), (22, 4), (1100, 5), (20, 5), (21, 5), (22, 5), (1100, 6), (20, 6), (21, 6), (22, 6), (1100, 7), (20, 7), (21, 7), (22, 7), (1100, 8), (20, 8), (21, 8), (22, 8), (1100, 9), (20, 9), (21, 9), (22, 9), (1200, 0), (905, 0), (906, 0), (30, 0), (1500, 0), (31, 0), (32, 0), (33, 0), (34, 0), (35, 0), (1500, 1), (31, 1), (32, 1), (33, 1), (34, 1), (35, 1), (1500, 2), (31, 2), (32, 2), (33, 2), (34, 2), (35, 2), (1500, 3), (31, 3), (32, 3), (33, 3), (34, 3), (35, 3), (1500, 4), (31, 4), (32, 4), (33, 4), (34, 4), (35, 4), (1500, 5), (31, 5), (32, 5), (33, 5), (34, 5), (35, 5), (1800, 0), (1800, 1), (1800, 2), (1800, 3), (1800, 4), (1800, 5), (1800, 6), (1800, 7), (1800, 8), (1800, 9), (1200, 1), (905, 1), (906, 1), (30, 1), (1500, 6), (31, 6), (32, 6), (33, 6), (34, 6), (35, 6), (1500, 7), (31, 7), (32, 7), (33, 7), (34, 7), (35, 7), (1500, 8), (31, 8), (32, 8), (33, 8), (34, 8), (35, 8), (1500, 9), (31, 9), (32, 9), (33, 9), (34, 9), (35, 9), (1500, 10), (31, 10), (32, 10), (33, 10), (34, 10), (35, 10), (1500, 11), (31, 11), (32, 11), (33, 11), (34, 11), (35, 11), (1800, 10), (1800, 11), (1800, 12), (1800, 13), (1800, 14), (1800, 15), (1800, 16), (1800, 17), (1800, 18), (1800, 19), (1200, 2), (905, 2), (906, 2), (30, 2), (1500, 12), (31, 12), (32, 12), (33, 12), (34, 12), (35, 12), (1500, 13), (31, 13), (32, 13), (33, 13), (34, 13), (35, 13), (1500, 14), (31, 14), (32, 14), (33, 14), (34, 14), (35, 14), (1500, 15), (31, 15), (32, 15), (33, 15), (34, 15), (35, 15), (1500, 16), (31, 16), (32, 16), (33, 16), (34, 16), (35, 16), (1500, 17), (31, 17), (32, 17), (33, 17), (34, 17), (35, 17), (1800, 20), (1800, 21), (1800, 22), (1800, 23), (1800, 24), (1800, 25), (1800, 26), (1800, 27), (1800, 28), (1800, 29), (1000, 0), (907, 0), (40, 0), (1300, 0), (1300, 1), (1300, 2), (1300, 3), (1300, 4), (1300, 5), (1300, 6), (1300, 7), (1300, 8), (1300, 9), (1300, 10), (1300, 11), (1300, 12), (1300, 13), (1300, 14), (1300, 15), (1300, 16), (1300, 17), (1300, 18), (1300, 19), (1300, 20), (1300, 21), (1300, 22), (1300, 23), (1300, 24), (1300, 25), (1300, 26), (1300, 27), (1300, 28), (1300, 29), (1300, 30), (1300, 31), (1300, 32), (1300, 33), (1300, 34), (1300, 35), (1300, 36), (1300, 37), (1300, 38), (1300, 39), (2000, 0), (50, 0), (51, 0), (52, 0), (53, 0), (54, 0), (55, 0), (56, 0), (57, 0), (58, 0), (59, 0), (60, 0), (61, 0), (62, 0), (63, 0), (64, 0), (65, 0), (66, 0), (67, 0), (68, 0), (69, 0), (70, 0), (71, 0), (72, 0), (73, 0), (74, 0), (75, 0), (76, 0), (77, 0), (78, 0), (79, 0), (80, 0), (81, 0), (82, 0), (83, 0), (84, 0), (85, 0), (86, 0), (87, 0), (88, 0), (89, 0), (90, 0), (91, 0), (92, 0), (93, 0), (98, 0), (99, 0)]
def hq (q : MV) (a : Int) : MV := match q with
  | .inl _ => vI a
  | .inr (.inr (.inl _)) => vF (UInt32.ofNat a.toNat)
  | .inr (.inr (.inr (.inl _))) => vL (Int64.ofInt a)
  | .inr (.inr (.inr (.inr (.inl _)))) => vD (UInt64.ofNat a.toNat)
  | q => q
def kf (o : Nat) : Nat × Nat := kT.getD o (0, 0)
def sg (S : Sg) (o t k : Nat) : Int := if t < 20 then S ((kf o).1 + k) (kf o).2 0 else S (kf o).1 (kf o).2 k
def mk (S : Sg) (e : Nat) : MHp := (h0.mapIdx (fun o c => (c.1, c.2.mapIdx (fun k q => hq q (sg S o c.1 k)))), 343 + e, 4862 + 6 * e)
def up (S : Sg) (F I K : Nat) (a : Int) : Sg := fun f i k => if f = F ∧ i = I ∧ k = K then a else S f i k
abbrev hz : MHp := (h0, 0, 0)
theorem mk_get (S : Sg) (e o : Nat) : (mk S e).1[o]? = (h0[o]?).map (fun c => (c.1, c.2.mapIdx (fun k q => hq q (sg S o c.1 k)))) := by
  unfold mk
  rw [List.getElem?_mapIdx]
theorem m_get_mk (S : Sg) (e o ci k : Nat) : m_get (mk S e) o ci k = (m_get hz o ci k).map (fun q => hq q (sg S o ci k)) := by
  unfold m_get
  rw [mk_get]
  show _ = Option.map _ (match h0[o]? with | some c => if c.1 = ci then c.2[k]? else none | none => none)
  cases h0[o]? with
  | none => rfl
  | some c =>
    simp only [Option.map_some]
    by_cases hc : c.1 = ci
    · rw [if_pos hc, if_pos hc, List.getElem?_mapIdx, hc]
    · rw [if_neg hc, if_neg hc]; rfl
theorem m_tag_mk (S : Sg) (e o : Nat) : m_tag (mk S e) o = m_tag hz o := by
  unfold m_tag
  rw [mk_get]
  show _ = (match h0[o]? with | some c => some c.1 | none => none)
  cases h0[o]? with
  | none => rfl
  | some c => rfl
theorem m_len_mk (S : Sg) (e o : Nat) : m_len (mk S e) o = m_len hz o := by
  unfold m_len
  rw [mk_get]
  show _ = (match h0[o]? with | some c => if c.1 = 20 ∨ c.1 = 22 then some c.2.length else none | none => none)
  cases h0[o]? with
  | none => rfl
  | some c => simp only [Option.map_some, List.length_mapIdx]
/-- no two places of the heap have the same name -/
def rT : List (Nat × Nat × Nat) := List.zipWith (fun c f => (f.1, f.1 + (if c.1 < 20 then c.2.length else 1), f.2)) h0 kT
def r1 (a b : Nat × Nat × Nat) : Bool := !(Nat.beq a.2.2 b.2.2) || Nat.ble a.2.1 b.1 || Nat.ble b.2.1 a.1
theorem r1_ok {a b : Nat × Nat × Nat} (h : r1 a b = true) : a.2.2 ≠ b.2.2 ∨ a.2.1 ≤ b.1 ∨ b.2.1 ≤ a.1 := by
  unfold r1 at h
  by_cases e : a.2.2 = b.2.2
  · rw [e, Nat.beq_refl] at h
    simp only [Bool.not_true, Bool.false_or, Bool.or_eq_true] at h
    rcases h with h | h
    · exact Or.inr (Or.inl (Nat.le_of_ble_eq_true h))
    · exact Or.inr (Or.inr (Nat.le_of_ble_eq_true h))
  · exact Or.inl e
def r2 : List (Nat × Nat × Nat) → Bool
  | [] => true
  | a :: l => l.all (r1 a) && r2 l
theorem r2_ok : r2 rT = true := by decide +kernel
theorem r2_pair : ∀ {l : List (Nat × Nat × Nat)}, r2 l = true → ∀ {i j : Nat} {a b : Nat × Nat × Nat}, i < j → l[i]? = some a → l[j]? = some b → r1 a b = true
  | [], _, i, j, a, b, _, h, _ => by simp at h
  | x :: l, hl, i, j, a, b, hij, hi, hj => by
    simp only [r2, Bool.and_eq_true] at hl
    cases j with
    | zero => omega
    | succ j =>
      cases i with
      | zero =>
        simp only [List.getElem?_cons_zero, Option.some.injEq] at hi
        simp only [List.getElem?_cons_succ] at hj
        subst hi
        exact List.all_eq_true.mp hl.1 _ (List.mem_of_getElem? hj)
      | succ i =>
        simp only [List.getElem?_cons_succ] at hi hj
        exact r2_pair hl.2 (by omega) hi hj
theorem kT_len : kT.length = h0.length := by decide +kernel
theorem rT_get {o : Nat} {c : Nat × List MV} (hc : h0[o]? = some c) : rT[o]? = some ((kf o).1, (kf o).1 + (if c.1 < 20 then c.2.length else 1), (kf o).2) := by
  have ho : o < kT.length := by rw [kT_len]; exact (List.getElem?_eq_some_iff.mp hc).1
  unfold rT kf
  rw [List.getElem?_zipWith, hc, List.getElem?_eq_getElem ho, List.getD_eq_getElem?_getD, List.getElem?_eq_getElem ho]
  rfl
theorem sg_up {S : Sg} {o t k : Nat} {c : Nat × List MV} (hc : h0[o]? = some c) (ht : c.1 = t) (hk : k < c.2.length) {F I K : Nat} (hF : F = if t < 20 then (kf o).1 + k else (kf o).1) (hI : I = (kf o).2) (hK : K = if t < 20 then 0 else k) {a : Int}
    {o2 k2 : Nat} {c2 : Nat × List MV} (hc2 : h0[o2]? = some c2) (hk2 : k2 < c2.2.length) : sg (up S F I K a) o2 c2.1 k2 = if o2 = o ∧ k2 = k then a else sg S o2 c2.1 k2 := by
  subst ht hF hI hK
  have hd : o2 ≠ o → ¬((if c2.1 < 20 then (kf o2).1 + k2 else (kf o2).1) = (if c.1 < 20 then (kf o).1 + k else (kf o).1) ∧ (kf o2).2 = (kf o).2) := by
    intro hne ⟨h1, h2⟩
    have hr : r1 ((kf o).1, (kf o).1 + (if c.1 < 20 then c.2.length else 1), (kf o).2) ((kf o2).1, (kf o2).1 + (if c2.1 < 20 then c2.2.length else 1), (kf o2).2) = true ∨ r1 ((kf o2).1, (kf o2).1 + (if c2.1 < 20 then c2.2.length else 1), (kf o2).2) ((kf o).1, (kf o).1 + (if c.1 < 20 then c.2.length else 1), (kf o).2) = true := by
      rcases Nat.lt_or_gt_of_ne hne with h9 | h9
      · exact Or.inr (r2_pair r2_ok h9 (rT_get hc2) (rT_get hc))
      · exact Or.inl (r2_pair r2_ok h9 (rT_get hc) (rT_get hc2))
    have hr := hr.imp r1_ok r1_ok
    simp only at hr
    split at h1 <;> split at h1 <;> rename_i z1 z2 <;> simp only [z1, z2, if_true, if_false] at hr <;> omega
  unfold sg up
  by_cases ho : o2 = o
  · subst ho
    rw [hc] at hc2
    cases hc2
    by_cases ht : c.1 < 20
    · simp only [if_pos ht]
      by_cases hkk : k2 = k
      · subst hkk; simp
      · rw [if_neg (by omega), if_neg (by omega)]
    · simp only [if_neg ht]
      by_cases hkk : k2 = k
      · subst hkk; simp
      · rw [if_neg (by omega), if_neg (by omega)]
  · rw [if_neg (show ¬(o2 = o ∧ k2 = k) from fun z => ho z.1)]
    have hd := hd ho
    by_cases ht : c2.1 < 20
    · simp only [if_pos ht] at hd ⊢
      rw [if_neg (fun z => hd ⟨z.1, z.2.1⟩)]
    · simp only [if_neg ht] at hd ⊢
      rw [if_neg (fun z => hd ⟨z.1, z.2.1⟩)]
theorem m_set_mk {S : Sg} {e o t k : Nat} {q v : MV} {a : Int} (hq0 : m_get hz o t k = some q) (hv : hq q a = v) {F I K : Nat} (hF : F = if t < 20 then (kf o).1 + k else (kf o).1) (hI : I = (kf o).2) (hK : K = if t < 20 then 0 else k) : m_set (mk S e) o k v = mk (up S F I K a) e := by
  obtain ⟨c, hc, ht, hk⟩ : ∃ c, h0[o]? = some c ∧ c.1 = t ∧ c.2[k]? = some q := by
    unfold m_get at hq0
    split at hq0
    · rename_i c hc
      split at hq0
      · rename_i ht; exact ⟨c, hc, ht, hq0⟩
      · cases hq0
    · cases hq0
  have hkl : k < c.2.length := (List.getElem?_eq_some_iff.mp hk).1
  unfold m_set
  refine Prod.ext ?_ rfl
  refine List.ext_getElem? (fun o2 => ?_)
  show ((mk S e).1.modify o _)[o2]? = _
  rw [List.getElem?_modify, mk_get, mk_get]
  cases hc2 : h0[o2]? with
  | none => simp
  | some c2 =>
    simp only [Option.map_some, Option.map_map]
    have hrow : c2.2.mapIdx (fun k2 q => hq q (sg (up S F I K a) o2 c2.1 k2)) = if o = o2 then (c2.2.mapIdx (fun k2 q => hq q (sg S o2 c2.1 k2))).set k v else c2.2.mapIdx (fun k2 q => hq q (sg S o2 c2.1 k2)) := by
      refine List.ext_getElem? (fun k2 => ?_)
      rw [List.getElem?_mapIdx]
      by_cases ho : o = o2
      · subst ho
        rw [hc] at hc2
        cases hc2
        rw [if_pos rfl, List.getElem?_set, List.length_mapIdx, List.getElem?_mapIdx]
        by_cases hkk : k = k2
        · subst hkk
          rw [if_pos rfl, if_pos hkl, hk]
          simp only [Option.map_some]
          rw [sg_up hc ht hkl hF hI hK hc hkl, if_pos ⟨rfl, rfl⟩, hv]
        · rw [if_neg hkk]
          cases h9 : c.2[k2]? with
          | none => rfl
          | some q2 =>
            simp only [Option.map_some]
            rw [sg_up hc ht hkl hF hI hK hc (List.getElem?_eq_some_iff.mp h9).1, if_neg (fun z => hkk z.2.symm)]
      · rw [if_neg ho, List.getElem?_mapIdx]
        cases h9 : c2.2[k2]? with
        | none => rfl
        | some q2 =>
          simp only [Option.map_some]
          rw [sg_up hc ht hkl hF hI hK hc2 (List.getElem?_eq_some_iff.mp h9).1, if_neg (fun z => ho z.1.symm)]
    rw [hrow]
    by_cases ho : o = o2
    · simp [ho]
    · simp [ho]
def st (i : Nat) : Nat := 5 + i
def tr (i : Nat) : Nat := 15 + 8 * i
def co (i : Nat) : Nat := 63 + 4 * i
def nt (n : Nat) : Nat := 103 + 50 * n
def ntR (n : Nat) : Nat := 104 + 50 * n
def ntW (n : Nat) : Nat := 105 + 50 * n
def ntO (n : Nat) : Nat := 106 + 50 * n
def ru (n i : Nat) : Nat := 107 + 50 * n + 6 * i
def wg (n i : Nat) : Nat := 143 + 50 * n + i
def pe (i : Nat) : Nat := 256 + i
def trA0 (i : Nat) : Nat := 16 + 8 * i
def trA1 (i : Nat) : Nat := 17 + 8 * i
def trA2 (i : Nat) : Nat := 18 + 8 * i
def trA3 (i : Nat) : Nat := 19 + 8 * i
def trA4 (i : Nat) : Nat := 20 + 8 * i
def trA5 (i : Nat) : Nat := 21 + 8 * i
def trA6 (i : Nat) : Nat := 22 + 8 * i
def coA0 (i : Nat) : Nat := 64 + 4 * i
def coA1 (i : Nat) : Nat := 65 + 4 * i
def coA2 (i : Nat) : Nat := 66 + 4 * i
def ruA0 (n i : Nat) : Nat := 108 + 50 * n + 6 * i
def ruA1 (n i : Nat) : Nat := 109 + 50 * n + 6 * i
def ruA2 (n i : Nat) : Nat := 110 + 50 * n + 6 * i
def ruA3 (n i : Nat) : Nat := 111 + 50 * n + 6 * i
def ruA4 (n i : Nat) : Nat := 112 + 50 * n + 6 * i
end
section
/-! ===== each field and array, read and written ===== -/
def m_isI : Option MV → Bool
  | some (.inl _) => true
  | _ => false
def m_isF : Option MV → Bool
  | some (.inr (.inr (.inl _))) => true
  | _ => false
theorem m_isI_ok {o : Option MV} (h : m_isI o = true) : ∃ a, o = some (vI a) := by
  unfold m_isI at h
  split at h
  · exact ⟨_, rfl⟩
  · cases h
theorem m_isF_ok {o : Option MV} (h : m_isF o = true) : ∃ a, o = some (vF a) := by
  unfold m_isF at h
  split at h
  · exact ⟨_, rfl⟩
  · cases h
def m_rf : Option MV → Nat
  | some (.inr (.inl (some q))) => q + 1
  | _ => 0
theorem m_rf_ok {o : Option MV} {q : Nat} (h : m_rf o = q + 1) : o = some (vR q) := by
  unfold m_rf at h
  split at h
  · rw [Nat.add_right_cancel h]
  · cases h
section W
variable {S : Sg} {e : Nat}
theorem gI {o c k F I : Nat} (h : m_isI (m_get hz o c k) = true) (hk : kf o = (F, I)) (hc : c < 20) : m_get (mk S e) o c k = some (vI (S (F + k) I 0)) := by
  obtain ⟨a, ha⟩ := m_isI_ok h
  rw [m_get_mk, ha]
  simp only [Option.map_some, hq, sg, if_pos hc, hk]
theorem sI {o k F I : Nat} (c : Nat) (h : m_isI (m_get hz o c k) = true) (hk : kf o = (F, I)) (hc : c < 20) {a : Int} : m_set (mk S e) o k (vI a) = mk (up S (F + k) I 0 a) e := by
  obtain ⟨a0, ha⟩ := m_isI_ok h
  exact m_set_mk ha rfl (by rw [if_pos hc, hk]) (by rw [hk]) (by rw [if_pos hc])
theorem aI {o c F I n : Nat} (h : ∀ k, k < n → m_isI (m_get hz o c k) = true) (hk : kf o = (F, I)) (hc : ¬ c < 20) {x : Int} (h0 : 0 ≤ x) (h1 : x < n) : m_age (mk S e) o c x = some (vI (S F I x.toNat)) := by
  obtain ⟨a, ha⟩ := m_isI_ok (h x.toNat (by omega))
  unfold m_age
  rw [if_pos h0, m_get_mk, ha]
  simp only [Option.map_some, hq, sg, if_neg hc, hk]
theorem tI {o F I n : Nat} (c : Nat) (h : ∀ k, k < n → m_isI (m_get hz o c k) = true) (hk : kf o = (F, I)) (hc : ¬ c < 20) {x a : Int} (h0 : 0 ≤ x) (h1 : x < n) : m_set (mk S e) o x.toNat (vI a) = mk (up S F I x.toNat a) e := by
  obtain ⟨a0, ha⟩ := m_isI_ok (h x.toNat (by omega))
  exact m_set_mk ha rfl (by rw [if_neg hc, hk]) (by rw [hk]) (by rw [if_neg hc])
theorem aF {o c F I n : Nat} (h : ∀ k, k < n → m_isF (m_get hz o c k) = true) (hk : kf o = (F, I)) (hc : ¬ c < 20) {x : Int} (h0 : 0 ≤ x) (h1 : x < n) : m_age (mk S e) o c x = some (vF (UInt32.ofNat (S F I x.toNat).toNat)) := by
  obtain ⟨a, ha⟩ := m_isF_ok (h x.toNat (by omega))
  unfold m_age
  rw [if_pos h0, m_get_mk, ha]
  simp only [Option.map_some, hq, sg, if_neg hc, hk]
theorem tFl {o F I n : Nat} (c : Nat) (h : ∀ k, k < n → m_isF (m_get hz o c k) = true) (hk : kf o = (F, I)) (hc : ¬ c < 20) {x : Int} {b : UInt32} (h0 : 0 ≤ x) (h1 : x < n) : m_set (mk S e) o x.toNat (vF b) = mk (up S F I x.toNat (b.toNat : Int)) e := by
  obtain ⟨a0, ha⟩ := m_isF_ok (h x.toNat (by omega))
  exact m_set_mk ha (by simp only [hq, Int.toNat_natCast, UInt32.ofNat_toNat]) (by rw [if_neg hc, hk]) (by rw [hk]) (by rw [if_neg hc])
theorem gR {o c k q : Nat} (h : m_rf (m_get hz o c k) = q + 1) : m_get (mk S e) o c k = some (vR q) := by
  rw [m_get_mk, m_rf_ok h]
  rfl
theorem aR {o c n : Nat} {f : Nat → Nat} (h : ∀ k, k < n → m_rf (m_get hz o c k) = f k + 1) {x : Int} (h0 : 0 ≤ x) (h1 : x < n) : m_age (mk S e) o c x = some (vR (f x.toNat)) := by
  unfold m_age
  rw [if_pos h0]
  exact gR (h x.toNat (by omega))
theorem gT {o c : Nat} (h : m_tag hz o = some c) : m_tag (mk S e) o = some c := by rw [m_tag_mk, h]
theorem gL {o n : Nat} (h : m_len hz o = some n) : m_len (mk S e) o = some n := by rw [m_len_mk, h]
theorem K_9 : kf 0 = (1900, 0) := by decide +kernel
theorem T_9 : m_tag (mk S e) 0 = some 9 := gT (by decide +kernel)
theorem G_9_0 : m_get (mk S e) 0 9 0 = some (vR 1) := gR (by decide +kernel)
theorem G_9_1 : m_get (mk S e) 0 9 1 = some (vR (nt 0)) := gR (by decide +kernel)
theorem G_9_2 : m_get (mk S e) 0 9 2 = some (vR (nt 1)) := gR (by decide +kernel)
theorem G_9_3 : m_get (mk S e) 0 9 3 = some (vR (nt 2)) := gR (by decide +kernel)
theorem G_9_4 : m_get (mk S e) 0 9 4 = some (vR 253) := gR (by decide +kernel)
theorem K_4 : kf 1 = (1400, 0) := by decide +kernel
theorem T_4 : m_tag (mk S e) 1 = some 4 := gT (by decide +kernel)
theorem G_4_0 : m_get (mk S e) 1 4 0 = some (vR 2) := gR (by decide +kernel)
theorem Z_4_1 : m_isI (m_get hz 1 4 1) = true := by decide +kernel
theorem G_4_1 : m_get (mk S e) 1 4 1 = some (vI (S 1401 0 0)) := gI Z_4_1 K_4 (by decide)
theorem P_4_1 {a : Int} : m_set (mk S e) 1 1 (vI a) = mk (up S 1401 0 0 a) e := sI 4 Z_4_1 K_4 (by decide)
theorem G_4_2 : m_get (mk S e) 1 4 2 = some (vR 3) := gR (by decide +kernel)
theorem Z_4_3 : m_isI (m_get hz 1 4 3) = true := by decide +kernel
theorem G_4_3 : m_get (mk S e) 1 4 3 = some (vI (S 1403 0 0)) := gI Z_4_3 K_4 (by decide)
theorem P_4_3 {a : Int} : m_set (mk S e) 1 3 (vI a) = mk (up S 1403 0 0 a) e := sI 4 Z_4_3 K_4 (by decide)
theorem G_4_4 : m_get (mk S e) 1 4 4 = some (vR 4) := gR (by decide +kernel)
theorem Z_4_5 : m_isI (m_get hz 1 4 5) = true := by decide +kernel
theorem G_4_5 : m_get (mk S e) 1 4 5 = some (vI (S 1405 0 0)) := gI Z_4_5 K_4 (by decide)
theorem P_4_5 {a : Int} : m_set (mk S e) 1 5 (vI a) = mk (up S 1405 0 0 a) e := sI 4 Z_4_5 K_4 (by decide)
theorem Z_4_6 : m_isI (m_get hz 1 4 6) = true := by decide +kernel
theorem G_4_6 : m_get (mk S e) 1 4 6 = some (vI (S 1406 0 0)) := gI Z_4_6 K_4 (by decide)
theorem P_4_6 {a : Int} : m_set (mk S e) 1 6 (vI a) = mk (up S 1406 0 0 a) e := sI 4 Z_4_6 K_4 (by decide)
theorem K_6 : ∀ i, i < 10 → kf (st i) = (1600, i) := by decide +kernel
theorem T_6 {i : Nat} (hi : i < 10) : m_tag (mk S e) (st i) = some 6 := gT ((by decide +kernel : ∀ i, i < 10 → m_tag hz (st i) = some 6) _ hi)
theorem Z_6_0 : ∀ i, i < 10 → m_isI (m_get hz (st i) 6 0) = true := by decide +kernel
theorem G_6_0 {i : Nat} (hi : i < 10) : m_get (mk S e) (st i) 6 0 = some (vI (S 1600 i 0)) := gI (Z_6_0 _ hi) (K_6 _ hi) (by decide)
theorem P_6_0 {i : Nat} (hi : i < 10) {a : Int} : m_set (mk S e) (st i) 0 (vI a) = mk (up S 1600 i 0 a) e := sI 6 (Z_6_0 _ hi) (K_6 _ hi) (by decide)
theorem Z_6_1 : ∀ i, i < 10 → m_isI (m_get hz (st i) 6 1) = true := by decide +kernel
theorem G_6_1 {i : Nat} (hi : i < 10) : m_get (mk S e) (st i) 6 1 = some (vI (S 1601 i 0)) := gI (Z_6_1 _ hi) (K_6 _ hi) (by decide)
theorem P_6_1 {i : Nat} (hi : i < 10) {a : Int} : m_set (mk S e) (st i) 1 (vI a) = mk (up S 1601 i 0 a) e := sI 6 (Z_6_1 _ hi) (K_6 _ hi) (by decide)
theorem K_7 : ∀ i, i < 6 → kf (tr i) = (1700, i) := by decide +kernel
theorem T_7 {i : Nat} (hi : i < 6) : m_tag (mk S e) (tr i) = some 7 := gT ((by decide +kernel : ∀ i, i < 6 → m_tag hz (tr i) = some 7) _ hi)
theorem Z_7_0 : ∀ i, i < 6 → m_isI (m_get hz (tr i) 7 0) = true := by decide +kernel
theorem G_7_0 {i : Nat} (hi : i < 6) : m_get (mk S e) (tr i) 7 0 = some (vI (S 1700 i 0)) := gI (Z_7_0 _ hi) (K_7 _ hi) (by decide)
theorem P_7_0 {i : Nat} (hi : i < 6) {a : Int} : m_set (mk S e) (tr i) 0 (vI a) = mk (up S 1700 i 0 a) e := sI 7 (Z_7_0 _ hi) (K_7 _ hi) (by decide)
theorem Z_7_1 : ∀ i, i < 6 → m_isI (m_get hz (tr i) 7 1) = true := by decide +kernel
theorem G_7_1 {i : Nat} (hi : i < 6) : m_get (mk S e) (tr i) 7 1 = some (vI (S 1701 i 0)) := gI (Z_7_1 _ hi) (K_7 _ hi) (by decide)
theorem P_7_1 {i : Nat} (hi : i < 6) {a : Int} : m_set (mk S e) (tr i) 1 (vI a) = mk (up S 1701 i 0 a) e := sI 7 (Z_7_1 _ hi) (K_7 _ hi) (by decide)
theorem Z_7_2 : ∀ i, i < 6 → m_isI (m_get hz (tr i) 7 2) = true := by decide +kernel
theorem G_7_2 {i : Nat} (hi : i < 6) : m_get (mk S e) (tr i) 7 2 = some (vI (S 1702 i 0)) := gI (Z_7_2 _ hi) (K_7 _ hi) (by decide)
theorem P_7_2 {i : Nat} (hi : i < 6) {a : Int} : m_set (mk S e) (tr i) 2 (vI a) = mk (up S 1702 i 0 a) e := sI 7 (Z_7_2 _ hi) (K_7 _ hi) (by decide)
theorem G_7_3 {i : Nat} (hi : i < 6) : m_get (mk S e) (tr i) 7 3 = some (vR (trA0 i)) := gR ((by decide +kernel : ∀ i, i < 6 → m_rf (m_get hz (tr i) 7 3) = (trA0 i) + 1) _ hi)
theorem G_7_4 {i : Nat} (hi : i < 6) : m_get (mk S e) (tr i) 7 4 = some (vR (trA1 i)) := gR ((by decide +kernel : ∀ i, i < 6 → m_rf (m_get hz (tr i) 7 4) = (trA1 i) + 1) _ hi)
theorem G_7_5 {i : Nat} (hi : i < 6) : m_get (mk S e) (tr i) 7 5 = some (vR (trA2 i)) := gR ((by decide +kernel : ∀ i, i < 6 → m_rf (m_get hz (tr i) 7 5) = (trA2 i) + 1) _ hi)
theorem G_7_6 {i : Nat} (hi : i < 6) : m_get (mk S e) (tr i) 7 6 = some (vR (trA3 i)) := gR ((by decide +kernel : ∀ i, i < 6 → m_rf (m_get hz (tr i) 7 6) = (trA3 i) + 1) _ hi)
theorem G_7_7 {i : Nat} (hi : i < 6) : m_get (mk S e) (tr i) 7 7 = some (vR (trA4 i)) := gR ((by decide +kernel : ∀ i, i < 6 → m_rf (m_get hz (tr i) 7 7) = (trA4 i) + 1) _ hi)
theorem G_7_8 {i : Nat} (hi : i < 6) : m_get (mk S e) (tr i) 7 8 = some (vR (trA5 i)) := gR ((by decide +kernel : ∀ i, i < 6 → m_rf (m_get hz (tr i) 7 8) = (trA5 i) + 1) _ hi)
theorem G_7_9 {i : Nat} (hi : i < 6) : m_get (mk S e) (tr i) 7 9 = some (vR (trA6 i)) := gR ((by decide +kernel : ∀ i, i < 6 → m_rf (m_get hz (tr i) 7 9) = (trA6 i) + 1) _ hi)
theorem K_1 : ∀ i, i < 10 → kf (co i) = (1100, i) := by decide +kernel
theorem T_1 {i : Nat} (hi : i < 10) : m_tag (mk S e) (co i) = some 1 := gT ((by decide +kernel : ∀ i, i < 10 → m_tag hz (co i) = some 1) _ hi)
theorem Z_1_0 : ∀ i, i < 10 → m_isI (m_get hz (co i) 1 0) = true := by decide +kernel
theorem G_1_0 {i : Nat} (hi : i < 10) : m_get (mk S e) (co i) 1 0 = some (vI (S 1100 i 0)) := gI (Z_1_0 _ hi) (K_1 _ hi) (by decide)
theorem P_1_0 {i : Nat} (hi : i < 10) {a : Int} : m_set (mk S e) (co i) 0 (vI a) = mk (up S 1100 i 0 a) e := sI 1 (Z_1_0 _ hi) (K_1 _ hi) (by decide)
theorem Z_1_1 : ∀ i, i < 10 → m_isI (m_get hz (co i) 1 1) = true := by decide +kernel
theorem G_1_1 {i : Nat} (hi : i < 10) : m_get (mk S e) (co i) 1 1 = some (vI (S 1101 i 0)) := gI (Z_1_1 _ hi) (K_1 _ hi) (by decide)
theorem P_1_1 {i : Nat} (hi : i < 10) {a : Int} : m_set (mk S e) (co i) 1 (vI a) = mk (up S 1101 i 0 a) e := sI 1 (Z_1_1 _ hi) (K_1 _ hi) (by decide)
theorem Z_1_2 : ∀ i, i < 10 → m_isI (m_get hz (co i) 1 2) = true := by decide +kernel
theorem G_1_2 {i : Nat} (hi : i < 10) : m_get (mk S e) (co i) 1 2 = some (vI (S 1102 i 0)) := gI (Z_1_2 _ hi) (K_1 _ hi) (by decide)
theorem P_1_2 {i : Nat} (hi : i < 10) {a : Int} : m_set (mk S e) (co i) 2 (vI a) = mk (up S 1102 i 0 a) e := sI 1 (Z_1_2 _ hi) (K_1 _ hi) (by decide)
theorem Z_1_3 : ∀ i, i < 10 → m_isI (m_get hz (co i) 1 3) = true := by decide +kernel
theorem G_1_3 {i : Nat} (hi : i < 10) : m_get (mk S e) (co i) 1 3 = some (vI (S 1103 i 0)) := gI (Z_1_3 _ hi) (K_1 _ hi) (by decide)
theorem P_1_3 {i : Nat} (hi : i < 10) {a : Int} : m_set (mk S e) (co i) 3 (vI a) = mk (up S 1103 i 0 a) e := sI 1 (Z_1_3 _ hi) (K_1 _ hi) (by decide)
theorem Z_1_4 : ∀ i, i < 10 → m_isI (m_get hz (co i) 1 4) = true := by decide +kernel
theorem G_1_4 {i : Nat} (hi : i < 10) : m_get (mk S e) (co i) 1 4 = some (vI (S 1104 i 0)) := gI (Z_1_4 _ hi) (K_1 _ hi) (by decide)
theorem P_1_4 {i : Nat} (hi : i < 10) {a : Int} : m_set (mk S e) (co i) 4 (vI a) = mk (up S 1104 i 0 a) e := sI 1 (Z_1_4 _ hi) (K_1 _ hi) (by decide)
theorem Z_1_5 : ∀ i, i < 10 → m_isI (m_get hz (co i) 1 5) = true := by decide +kernel
theorem G_1_5 {i : Nat} (hi : i < 10) : m_get (mk S e) (co i) 1 5 = some (vI (S 1105 i 0)) := gI (Z_1_5 _ hi) (K_1 _ hi) (by decide)
theorem P_1_5 {i : Nat} (hi : i < 10) {a : Int} : m_set (mk S e) (co i) 5 (vI a) = mk (up S 1105 i 0 a) e := sI 1 (Z_1_5 _ hi) (K_1 _ hi) (by decide)
theorem Z_1_6 : ∀ i, i < 10 → m_isI (m_get hz (co i) 1 6) = true := by decide +kernel
theorem G_1_6 {i : Nat} (hi : i < 10) : m_get (mk S e) (co i) 1 6 = some (vI (S 1106 i 0)) := gI (Z_1_6 _ hi) (K_1 _ hi) (by decide)
theorem P_1_6 {i : Nat} (hi : i < 10) {a : Int} : m_set (mk S e) (co i) 6 (vI a) = mk (up S 1106 i 0 a) e := sI 1 (Z_1_6 _ hi) (K_1 _ hi) (by decide)
theorem Z_1_7 : ∀ i, i < 10 → m_isI (m_get hz (co i) 1 7) = true := by decide +kernel
theorem G_1_7 {i : Nat} (hi : i < 10) : m_get (mk S e) (co i) 1 7 = some (vI (S 1107 i 0)) := gI (Z_1_7 _ hi) (K_1 _ hi) (by decide)
theorem P_1_7 {i : Nat} (hi : i < 10) {a : Int} : m_set (mk S e) (co i) 7 (vI a) = mk (up S 1107 i 0 a) e := sI 1 (Z_1_7 _ hi) (K_1 _ hi) (by decide)
theorem Z_1_8 : ∀ i, i < 10 → m_isI (m_get hz (co i) 1 8) = true := by decide +kernel
theorem G_1_8 {i : Nat} (hi : i < 10) : m_get (mk S e) (co i) 1 8 = some (vI (S 1108 i 0)) := gI (Z_1_8 _ hi) (K_1 _ hi) (by decide)
theorem P_1_8 {i : Nat} (hi : i < 10) {a : Int} : m_set (mk S e) (co i) 8 (vI a) = mk (up S 1108 i 0 a) e := sI 1 (Z_1_8 _ hi) (K_1 _ hi) (by decide)
theorem Z_1_9 : ∀ i, i < 10 → m_isI (m_get hz (co i) 1 9) = true := by decide +kernel
theorem G_1_9 {i : Nat} (hi : i < 10) : m_get (mk S e) (co i) 1 9 = some (vI (S 1109 i 0)) := gI (Z_1_9 _ hi) (K_1 _ hi) (by decide)
theorem P_1_9 {i : Nat} (hi : i < 10) {a : Int} : m_set (mk S e) (co i) 9 (vI a) = mk (up S 1109 i 0 a) e := sI 1 (Z_1_9 _ hi) (K_1 _ hi) (by decide)
theorem G_1_10 {i : Nat} (hi : i < 10) : m_get (mk S e) (co i) 1 10 = some (vR (coA0 i)) := gR ((by decide +kernel : ∀ i, i < 10 → m_rf (m_get hz (co i) 1 10) = (coA0 i) + 1) _ hi)
theorem G_1_11 {i : Nat} (hi : i < 10) : m_get (mk S e) (co i) 1 11 = some (vR (coA1 i)) := gR ((by decide +kernel : ∀ i, i < 10 → m_rf (m_get hz (co i) 1 11) = (coA1 i) + 1) _ hi)
theorem G_1_12 {i : Nat} (hi : i < 10) : m_get (mk S e) (co i) 1 12 = some (vR (coA2 i)) := gR ((by decide +kernel : ∀ i, i < 10 → m_rf (m_get hz (co i) 1 12) = (coA2 i) + 1) _ hi)
theorem K_2 : ∀ n, n < 3 → kf (nt n) = (1200, n) := by decide +kernel
theorem T_2 {n : Nat} (hn : n < 3) : m_tag (mk S e) (nt n) = some 2 := gT ((by decide +kernel : ∀ n, n < 3 → m_tag hz (nt n) = some 2) _ hn)
theorem G_2_0 {n : Nat} (hn : n < 3) : m_get (mk S e) (nt n) 2 0 = some (vR 1) := gR ((by decide +kernel : ∀ n, n < 3 → m_rf (m_get hz (nt n) 2 0) = 1 + 1) _ hn)
theorem G_2_1 {n : Nat} (hn : n < 3) : m_get (mk S e) (nt n) 2 1 = some (vR (ntR n)) := gR ((by decide +kernel : ∀ n, n < 3 → m_rf (m_get hz (nt n) 2 1) = (ntR n) + 1) _ hn)
theorem G_2_2 {n : Nat} (hn : n < 3) : m_get (mk S e) (nt n) 2 2 = some (vR (ntW n)) := gR ((by decide +kernel : ∀ n, n < 3 → m_rf (m_get hz (nt n) 2 2) = (ntW n) + 1) _ hn)
theorem G_2_3 {n : Nat} (hn : n < 3) : m_get (mk S e) (nt n) 2 3 = some (vR (ntO n)) := gR ((by decide +kernel : ∀ n, n < 3 → m_rf (m_get hz (nt n) 2 3) = (ntO n) + 1) _ hn)
theorem Z_2_4 : ∀ n, n < 3 → m_isI (m_get hz (nt n) 2 4) = true := by decide +kernel
theorem G_2_4 {n : Nat} (hn : n < 3) : m_get (mk S e) (nt n) 2 4 = some (vI (S 1204 n 0)) := gI (Z_2_4 _ hn) (K_2 _ hn) (by decide)
theorem P_2_4 {n : Nat} (hn : n < 3) {a : Int} : m_set (mk S e) (nt n) 4 (vI a) = mk (up S 1204 n 0 a) e := sI 2 (Z_2_4 _ hn) (K_2 _ hn) (by decide)
theorem Z_2_5 : ∀ n, n < 3 → m_isI (m_get hz (nt n) 2 5) = true := by decide +kernel
theorem G_2_5 {n : Nat} (hn : n < 3) : m_get (mk S e) (nt n) 2 5 = some (vI (S 1205 n 0)) := gI (Z_2_5 _ hn) (K_2 _ hn) (by decide)
theorem P_2_5 {n : Nat} (hn : n < 3) {a : Int} : m_set (mk S e) (nt n) 5 (vI a) = mk (up S 1205 n 0 a) e := sI 2 (Z_2_5 _ hn) (K_2 _ hn) (by decide)
theorem K_5 : ∀ n, n < 3 → ∀ i, i < 6 → kf (ru n i) = (1500, (6 * n + i)) := by decide +kernel
theorem T_5 {n : Nat} {i : Nat} (hn : n < 3) (hi : i < 6) : m_tag (mk S e) (ru n i) = some 5 := gT ((by decide +kernel : ∀ n, n < 3 → ∀ i, i < 6 → m_tag hz (ru n i) = some 5) _ hn _ hi)
theorem Z_5_0 : ∀ n, n < 3 → ∀ i, i < 6 → m_isI (m_get hz (ru n i) 5 0) = true := by decide +kernel
theorem G_5_0 {n : Nat} {i : Nat} (hn : n < 3) (hi : i < 6) : m_get (mk S e) (ru n i) 5 0 = some (vI (S 1500 (6 * n + i) 0)) := gI (Z_5_0 _ hn _ hi) (K_5 _ hn _ hi) (by decide)
theorem P_5_0 {n : Nat} {i : Nat} (hn : n < 3) (hi : i < 6) {a : Int} : m_set (mk S e) (ru n i) 0 (vI a) = mk (up S 1500 (6 * n + i) 0 a) e := sI 5 (Z_5_0 _ hn _ hi) (K_5 _ hn _ hi) (by decide)
theorem G_5_1 {n : Nat} {i : Nat} (hn : n < 3) (hi : i < 6) : m_get (mk S e) (ru n i) 5 1 = some (vR (tr i)) := gR ((by decide +kernel : ∀ n, n < 3 → ∀ i, i < 6 → m_rf (m_get hz (ru n i) 5 1) = (tr i) + 1) _ hn _ hi)
theorem Z_5_2 : ∀ n, n < 3 → ∀ i, i < 6 → m_isI (m_get hz (ru n i) 5 2) = true := by decide +kernel
theorem G_5_2 {n : Nat} {i : Nat} (hn : n < 3) (hi : i < 6) : m_get (mk S e) (ru n i) 5 2 = some (vI (S 1502 (6 * n + i) 0)) := gI (Z_5_2 _ hn _ hi) (K_5 _ hn _ hi) (by decide)
theorem P_5_2 {n : Nat} {i : Nat} (hn : n < 3) (hi : i < 6) {a : Int} : m_set (mk S e) (ru n i) 2 (vI a) = mk (up S 1502 (6 * n + i) 0 a) e := sI 5 (Z_5_2 _ hn _ hi) (K_5 _ hn _ hi) (by decide)
theorem Z_5_3 : ∀ n, n < 3 → ∀ i, i < 6 → m_isI (m_get hz (ru n i) 5 3) = true := by decide +kernel
theorem G_5_3 {n : Nat} {i : Nat} (hn : n < 3) (hi : i < 6) : m_get (mk S e) (ru n i) 5 3 = some (vI (S 1503 (6 * n + i) 0)) := gI (Z_5_3 _ hn _ hi) (K_5 _ hn _ hi) (by decide)
theorem P_5_3 {n : Nat} {i : Nat} (hn : n < 3) (hi : i < 6) {a : Int} : m_set (mk S e) (ru n i) 3 (vI a) = mk (up S 1503 (6 * n + i) 0 a) e := sI 5 (Z_5_3 _ hn _ hi) (K_5 _ hn _ hi) (by decide)
theorem Z_5_4 : ∀ n, n < 3 → ∀ i, i < 6 → m_isI (m_get hz (ru n i) 5 4) = true := by decide +kernel
theorem G_5_4 {n : Nat} {i : Nat} (hn : n < 3) (hi : i < 6) : m_get (mk S e) (ru n i) 5 4 = some (vI (S 1504 (6 * n + i) 0)) := gI (Z_5_4 _ hn _ hi) (K_5 _ hn _ hi) (by decide)
theorem P_5_4 {n : Nat} {i : Nat} (hn : n < 3) (hi : i < 6) {a : Int} : m_set (mk S e) (ru n i) 4 (vI a) = mk (up S 1504 (6 * n + i) 0 a) e := sI 5 (Z_5_4 _ hn _ hi) (K_5 _ hn _ hi) (by decide)
theorem Z_5_5 : ∀ n, n < 3 → ∀ i, i < 6 → m_isI (m_get hz (ru n i) 5 5) = true := by decide +kernel
theorem G_5_5 {n : Nat} {i : Nat} (hn : n < 3) (hi : i < 6) : m_get (mk S e) (ru n i) 5 5 = some (vI (S 1505 (6 * n + i) 0)) := gI (Z_5_5 _ hn _ hi) (K_5 _ hn _ hi) (by decide)
theorem P_5_5 {n : Nat} {i : Nat} (hn : n < 3) (hi : i < 6) {a : Int} : m_set (mk S e) (ru n i) 5 (vI a) = mk (up S 1505 (6 * n + i) 0 a) e := sI 5 (Z_5_5 _ hn _ hi) (K_5 _ hn _ hi) (by decide)
theorem G_5_6 {n : Nat} {i : Nat} (hn : n < 3) (hi : i < 6) : m_get (mk S e) (ru n i) 5 6 = some (vR (ruA0 n i)) := gR ((by decide +kernel : ∀ n, n < 3 → ∀ i, i < 6 → m_rf (m_get hz (ru n i) 5 6) = (ruA0 n i) + 1) _ hn _ hi)
theorem Z_5_7 : ∀ n, n < 3 → ∀ i, i < 6 → m_isI (m_get hz (ru n i) 5 7) = true := by decide +kernel
theorem G_5_7 {n : Nat} {i : Nat} (hn : n < 3) (hi : i < 6) : m_get (mk S e) (ru n i) 5 7 = some (vI (S 1507 (6 * n + i) 0)) := gI (Z_5_7 _ hn _ hi) (K_5 _ hn _ hi) (by decide)
theorem P_5_7 {n : Nat} {i : Nat} (hn : n < 3) (hi : i < 6) {a : Int} : m_set (mk S e) (ru n i) 7 (vI a) = mk (up S 1507 (6 * n + i) 0 a) e := sI 5 (Z_5_7 _ hn _ hi) (K_5 _ hn _ hi) (by decide)
theorem Z_5_8 : ∀ n, n < 3 → ∀ i, i < 6 → m_isI (m_get hz (ru n i) 5 8) = true := by decide +kernel
theorem G_5_8 {n : Nat} {i : Nat} (hn : n < 3) (hi : i < 6) : m_get (mk S e) (ru n i) 5 8 = some (vI (S 1508 (6 * n + i) 0)) := gI (Z_5_8 _ hn _ hi) (K_5 _ hn _ hi) (by decide)
theorem P_5_8 {n : Nat} {i : Nat} (hn : n < 3) (hi : i < 6) {a : Int} : m_set (mk S e) (ru n i) 8 (vI a) = mk (up S 1508 (6 * n + i) 0 a) e := sI 5 (Z_5_8 _ hn _ hi) (K_5 _ hn _ hi) (by decide)
theorem Z_5_9 : ∀ n, n < 3 → ∀ i, i < 6 → m_isI (m_get hz (ru n i) 5 9) = true := by decide +kernel
theorem G_5_9 {n : Nat} {i : Nat} (hn : n < 3) (hi : i < 6) : m_get (mk S e) (ru n i) 5 9 = some (vI (S 1509 (6 * n + i) 0)) := gI (Z_5_9 _ hn _ hi) (K_5 _ hn _ hi) (by decide)
theorem P_5_9 {n : Nat} {i : Nat} (hn : n < 3) (hi : i < 6) {a : Int} : m_set (mk S e) (ru n i) 9 (vI a) = mk (up S 1509 (6 * n + i) 0 a) e := sI 5 (Z_5_9 _ hn _ hi) (K_5 _ hn _ hi) (by decide)
theorem G_5_10 {n : Nat} {i : Nat} (hn : n < 3) (hi : i < 6) : m_get (mk S e) (ru n i) 5 10 = some (vR (ruA1 n i)) := gR ((by decide +kernel : ∀ n, n < 3 → ∀ i, i < 6 → m_rf (m_get hz (ru n i) 5 10) = (ruA1 n i) + 1) _ hn _ hi)
theorem G_5_11 {n : Nat} {i : Nat} (hn : n < 3) (hi : i < 6) : m_get (mk S e) (ru n i) 5 11 = some (vR (ruA2 n i)) := gR ((by decide +kernel : ∀ n, n < 3 → ∀ i, i < 6 → m_rf (m_get hz (ru n i) 5 11) = (ruA2 n i) + 1) _ hn _ hi)
theorem G_5_12 {n : Nat} {i : Nat} (hn : n < 3) (hi : i < 6) : m_get (mk S e) (ru n i) 5 12 = some (vR (ruA3 n i)) := gR ((by decide +kernel : ∀ n, n < 3 → ∀ i, i < 6 → m_rf (m_get hz (ru n i) 5 12) = (ruA3 n i) + 1) _ hn _ hi)
theorem G_5_13 {n : Nat} {i : Nat} (hn : n < 3) (hi : i < 6) : m_get (mk S e) (ru n i) 5 13 = some (vR (ruA4 n i)) := gR ((by decide +kernel : ∀ n, n < 3 → ∀ i, i < 6 → m_rf (m_get hz (ru n i) 5 13) = (ruA4 n i) + 1) _ hn _ hi)
theorem K_8 : ∀ n, n < 3 → ∀ i, i < 10 → kf (wg n i) = (1800, (10 * n + i)) := by decide +kernel
theorem T_8 {n : Nat} {i : Nat} (hn : n < 3) (hi : i < 10) : m_tag (mk S e) (wg n i) = some 8 := gT ((by decide +kernel : ∀ n, n < 3 → ∀ i, i < 10 → m_tag hz (wg n i) = some 8) _ hn _ hi)
theorem G_8_0 {n : Nat} {i : Nat} (hn : n < 3) (hi : i < 10) : m_get (mk S e) (wg n i) 8 0 = some (vR (co i)) := gR ((by decide +kernel : ∀ n, n < 3 → ∀ i, i < 10 → m_rf (m_get hz (wg n i) 8 0) = (co i) + 1) _ hn _ hi)
theorem Z_8_1 : ∀ n, n < 3 → ∀ i, i < 10 → m_isI (m_get hz (wg n i) 8 1) = true := by decide +kernel
theorem G_8_1 {n : Nat} {i : Nat} (hn : n < 3) (hi : i < 10) : m_get (mk S e) (wg n i) 8 1 = some (vI (S 1801 (10 * n + i) 0)) := gI (Z_8_1 _ hn _ hi) (K_8 _ hn _ hi) (by decide)
theorem P_8_1 {n : Nat} {i : Nat} (hn : n < 3) (hi : i < 10) {a : Int} : m_set (mk S e) (wg n i) 1 (vI a) = mk (up S 1801 (10 * n + i) 0 a) e := sI 8 (Z_8_1 _ hn _ hi) (K_8 _ hn _ hi) (by decide)
theorem Z_8_2 : ∀ n, n < 3 → ∀ i, i < 10 → m_isI (m_get hz (wg n i) 8 2) = true := by decide +kernel
theorem G_8_2 {n : Nat} {i : Nat} (hn : n < 3) (hi : i < 10) : m_get (mk S e) (wg n i) 8 2 = some (vI (S 1802 (10 * n + i) 0)) := gI (Z_8_2 _ hn _ hi) (K_8 _ hn _ hi) (by decide)
theorem P_8_2 {n : Nat} {i : Nat} (hn : n < 3) (hi : i < 10) {a : Int} : m_set (mk S e) (wg n i) 2 (vI a) = mk (up S 1802 (10 * n + i) 0 a) e := sI 8 (Z_8_2 _ hn _ hi) (K_8 _ hn _ hi) (by decide)
theorem Z_8_3 : ∀ n, n < 3 → ∀ i, i < 10 → m_isI (m_get hz (wg n i) 8 3) = true := by decide +kernel
theorem G_8_3 {n : Nat} {i : Nat} (hn : n < 3) (hi : i < 10) : m_get (mk S e) (wg n i) 8 3 = some (vI (S 1803 (10 * n + i) 0)) := gI (Z_8_3 _ hn _ hi) (K_8 _ hn _ hi) (by decide)
theorem P_8_3 {n : Nat} {i : Nat} (hn : n < 3) (hi : i < 10) {a : Int} : m_set (mk S e) (wg n i) 3 (vI a) = mk (up S 1803 (10 * n + i) 0 a) e := sI 8 (Z_8_3 _ hn _ hi) (K_8 _ hn _ hi) (by decide)
theorem Z_8_4 : ∀ n, n < 3 → ∀ i, i < 10 → m_isI (m_get hz (wg n i) 8 4) = true := by decide +kernel
theorem G_8_4 {n : Nat} {i : Nat} (hn : n < 3) (hi : i < 10) : m_get (mk S e) (wg n i) 8 4 = some (vI (S 1804 (10 * n + i) 0)) := gI (Z_8_4 _ hn _ hi) (K_8 _ hn _ hi) (by decide)
theorem P_8_4 {n : Nat} {i : Nat} (hn : n < 3) (hi : i < 10) {a : Int} : m_set (mk S e) (wg n i) 4 (vI a) = mk (up S 1804 (10 * n + i) 0 a) e := sI 8 (Z_8_4 _ hn _ hi) (K_8 _ hn _ hi) (by decide)
theorem K_0 : kf 253 = (1000, 0) := by decide +kernel
theorem T_0 : m_tag (mk S e) 253 = some 0 := gT (by decide +kernel)
theorem G_0_0 : m_get (mk S e) 253 0 0 = some (vR 254) := gR (by decide +kernel)
theorem Z_0_1 : m_isI (m_get hz 253 0 1) = true := by decide +kernel
theorem G_0_1 : m_get (mk S e) 253 0 1 = some (vI (S 1001 0 0)) := gI Z_0_1 K_0 (by decide)
theorem P_0_1 {a : Int} : m_set (mk S e) 253 1 (vI a) = mk (up S 1001 0 0 a) e := sI 0 Z_0_1 K_0 (by decide)
theorem G_0_2 : m_get (mk S e) 253 0 2 = some (vR 255) := gR (by decide +kernel)
theorem Z_0_3 : m_isI (m_get hz 253 0 3) = true := by decide +kernel
theorem G_0_3 : m_get (mk S e) 253 0 3 = some (vI (S 1003 0 0)) := gI Z_0_3 K_0 (by decide)
theorem P_0_3 {a : Int} : m_set (mk S e) 253 3 (vI a) = mk (up S 1003 0 0 a) e := sI 0 Z_0_3 K_0 (by decide)
theorem K_3 : ∀ i, i < 40 → kf (pe i) = (1300, i) := by decide +kernel
theorem T_3 {i : Nat} (hi : i < 40) : m_tag (mk S e) (pe i) = some 3 := gT ((by decide +kernel : ∀ i, i < 40 → m_tag hz (pe i) = some 3) _ hi)
theorem Z_3_0 : ∀ i, i < 40 → m_isI (m_get hz (pe i) 3 0) = true := by decide +kernel
theorem G_3_0 {i : Nat} (hi : i < 40) : m_get (mk S e) (pe i) 3 0 = some (vI (S 1300 i 0)) := gI (Z_3_0 _ hi) (K_3 _ hi) (by decide)
theorem P_3_0 {i : Nat} (hi : i < 40) {a : Int} : m_set (mk S e) (pe i) 0 (vI a) = mk (up S 1300 i 0 a) e := sI 3 (Z_3_0 _ hi) (K_3 _ hi) (by decide)
theorem Z_3_1 : ∀ i, i < 40 → m_isI (m_get hz (pe i) 3 1) = true := by decide +kernel
theorem G_3_1 {i : Nat} (hi : i < 40) : m_get (mk S e) (pe i) 3 1 = some (vI (S 1301 i 0)) := gI (Z_3_1 _ hi) (K_3 _ hi) (by decide)
theorem P_3_1 {i : Nat} (hi : i < 40) {a : Int} : m_set (mk S e) (pe i) 1 (vI a) = mk (up S 1301 i 0 a) e := sI 3 (Z_3_1 _ hi) (K_3 _ hi) (by decide)
theorem Z_3_2 : ∀ i, i < 40 → m_isI (m_get hz (pe i) 3 2) = true := by decide +kernel
theorem G_3_2 {i : Nat} (hi : i < 40) : m_get (mk S e) (pe i) 3 2 = some (vI (S 1302 i 0)) := gI (Z_3_2 _ hi) (K_3 _ hi) (by decide)
theorem P_3_2 {i : Nat} (hi : i < 40) {a : Int} : m_set (mk S e) (pe i) 2 (vI a) = mk (up S 1302 i 0 a) e := sI 3 (Z_3_2 _ hi) (K_3 _ hi) (by decide)
theorem Z_3_3 : ∀ i, i < 40 → m_isI (m_get hz (pe i) 3 3) = true := by decide +kernel
theorem G_3_3 {i : Nat} (hi : i < 40) : m_get (mk S e) (pe i) 3 3 = some (vI (S 1303 i 0)) := gI (Z_3_3 _ hi) (K_3 _ hi) (by decide)
theorem P_3_3 {i : Nat} (hi : i < 40) {a : Int} : m_set (mk S e) (pe i) 3 (vI a) = mk (up S 1303 i 0 a) e := sI 3 (Z_3_3 _ hi) (K_3 _ hi) (by decide)
theorem Z_3_4 : ∀ i, i < 40 → m_isI (m_get hz (pe i) 3 4) = true := by decide +kernel
theorem G_3_4 {i : Nat} (hi : i < 40) : m_get (mk S e) (pe i) 3 4 = some (vI (S 1304 i 0)) := gI (Z_3_4 _ hi) (K_3 _ hi) (by decide)
theorem P_3_4 {i : Nat} (hi : i < 40) {a : Int} : m_set (mk S e) (pe i) 4 (vI a) = mk (up S 1304 i 0 a) e := sI 3 (Z_3_4 _ hi) (K_3 _ hi) (by decide)
theorem Z_3_5 : ∀ i, i < 40 → m_isI (m_get hz (pe i) 3 5) = true := by decide +kernel
theorem G_3_5 {i : Nat} (hi : i < 40) : m_get (mk S e) (pe i) 3 5 = some (vI (S 1305 i 0)) := gI (Z_3_5 _ hi) (K_3 _ hi) (by decide)
theorem P_3_5 {i : Nat} (hi : i < 40) {a : Int} : m_set (mk S e) (pe i) 5 (vI a) = mk (up S 1305 i 0 a) e := sI 3 (Z_3_5 _ hi) (K_3 _ hi) (by decide)
theorem Z_3_6 : ∀ i, i < 40 → m_isI (m_get hz (pe i) 3 6) = true := by decide +kernel
theorem G_3_6 {i : Nat} (hi : i < 40) : m_get (mk S e) (pe i) 3 6 = some (vI (S 1306 i 0)) := gI (Z_3_6 _ hi) (K_3 _ hi) (by decide)
theorem P_3_6 {i : Nat} (hi : i < 40) {a : Int} : m_set (mk S e) (pe i) 6 (vI a) = mk (up S 1306 i 0 a) e := sI 3 (Z_3_6 _ hi) (K_3 _ hi) (by decide)
theorem Z_3_7 : ∀ i, i < 40 → m_isI (m_get hz (pe i) 3 7) = true := by decide +kernel
theorem G_3_7 {i : Nat} (hi : i < 40) : m_get (mk S e) (pe i) 3 7 = some (vI (S 1307 i 0)) := gI (Z_3_7 _ hi) (K_3 _ hi) (by decide)
theorem P_3_7 {i : Nat} (hi : i < 40) {a : Int} : m_set (mk S e) (pe i) 7 (vI a) = mk (up S 1307 i 0 a) e := sI 3 (Z_3_7 _ hi) (K_3 _ hi) (by decide)
theorem K_10 : kf 296 = (2000, 0) := by decide +kernel
theorem T_10 : m_tag (mk S e) 296 = some 10 := gT (by decide +kernel)
theorem Z_10_0 : m_isI (m_get hz 296 10 0) = true := by decide +kernel
theorem G_10_0 : m_get (mk S e) 296 10 0 = some (vI (S 2000 0 0)) := gI Z_10_0 K_10 (by decide)
theorem P_10_0 {a : Int} : m_set (mk S e) 296 0 (vI a) = mk (up S 2000 0 0 a) e := sI 10 Z_10_0 K_10 (by decide)
theorem Z_10_1 : m_isI (m_get hz 296 10 1) = true := by decide +kernel
theorem G_10_1 : m_get (mk S e) 296 10 1 = some (vI (S 2001 0 0)) := gI Z_10_1 K_10 (by decide)
theorem P_10_1 {a : Int} : m_set (mk S e) 296 1 (vI a) = mk (up S 2001 0 0 a) e := sI 10 Z_10_1 K_10 (by decide)
theorem G_10_2 : m_get (mk S e) 296 10 2 = some (vR 297) := gR (by decide +kernel)
theorem G_10_3 : m_get (mk S e) 296 10 3 = some (vR 298) := gR (by decide +kernel)
theorem Z_10_4 : m_isI (m_get hz 296 10 4) = true := by decide +kernel
theorem G_10_4 : m_get (mk S e) 296 10 4 = some (vI (S 2004 0 0)) := gI Z_10_4 K_10 (by decide)
theorem P_10_4 {a : Int} : m_set (mk S e) 296 4 (vI a) = mk (up S 2004 0 0 a) e := sI 10 Z_10_4 K_10 (by decide)
theorem G_10_5 : m_get (mk S e) 296 10 5 = some (vR 299) := gR (by decide +kernel)
theorem G_10_6 : m_get (mk S e) 296 10 6 = some (vR 300) := gR (by decide +kernel)
theorem G_10_7 : m_get (mk S e) 296 10 7 = some (vR 301) := gR (by decide +kernel)
theorem G_10_8 : m_get (mk S e) 296 10 8 = some (vR 302) := gR (by decide +kernel)
theorem G_10_9 : m_get (mk S e) 296 10 9 = some (vR 303) := gR (by decide +kernel)
theorem G_10_10 : m_get (mk S e) 296 10 10 = some (vR 304) := gR (by decide +kernel)
theorem G_10_11 : m_get (mk S e) 296 10 11 = some (vR 305) := gR (by decide +kernel)
theorem G_10_12 : m_get (mk S e) 296 10 12 = some (vR 306) := gR (by decide +kernel)
theorem G_10_13 : m_get (mk S e) 296 10 13 = some (vR 307) := gR (by decide +kernel)
theorem Z_10_14 : m_isI (m_get hz 296 10 14) = true := by decide +kernel
theorem G_10_14 : m_get (mk S e) 296 10 14 = some (vI (S 2014 0 0)) := gI Z_10_14 K_10 (by decide)
theorem P_10_14 {a : Int} : m_set (mk S e) 296 14 (vI a) = mk (up S 2014 0 0 a) e := sI 10 Z_10_14 K_10 (by decide)
theorem G_10_15 : m_get (mk S e) 296 10 15 = some (vR 308) := gR (by decide +kernel)
theorem G_10_16 : m_get (mk S e) 296 10 16 = some (vR 309) := gR (by decide +kernel)
theorem G_10_17 : m_get (mk S e) 296 10 17 = some (vR 310) := gR (by decide +kernel)
theorem G_10_18 : m_get (mk S e) 296 10 18 = some (vR 311) := gR (by decide +kernel)
theorem G_10_19 : m_get (mk S e) 296 10 19 = some (vR 312) := gR (by decide +kernel)
theorem G_10_20 : m_get (mk S e) 296 10 20 = some (vR 313) := gR (by decide +kernel)
theorem G_10_21 : m_get (mk S e) 296 10 21 = some (vR 314) := gR (by decide +kernel)
theorem G_10_22 : m_get (mk S e) 296 10 22 = some (vR 315) := gR (by decide +kernel)
theorem G_10_23 : m_get (mk S e) 296 10 23 = some (vR 316) := gR (by decide +kernel)
theorem G_10_24 : m_get (mk S e) 296 10 24 = some (vR 317) := gR (by decide +kernel)
theorem G_10_25 : m_get (mk S e) 296 10 25 = some (vR 318) := gR (by decide +kernel)
theorem Z_10_26 : m_isI (m_get hz 296 10 26) = true := by decide +kernel
theorem G_10_26 : m_get (mk S e) 296 10 26 = some (vI (S 2026 0 0)) := gI Z_10_26 K_10 (by decide)
theorem P_10_26 {a : Int} : m_set (mk S e) 296 26 (vI a) = mk (up S 2026 0 0 a) e := sI 10 Z_10_26 K_10 (by decide)
theorem G_10_27 : m_get (mk S e) 296 10 27 = some (vR 319) := gR (by decide +kernel)
theorem G_10_28 : m_get (mk S e) 296 10 28 = some (vR 320) := gR (by decide +kernel)
theorem G_10_29 : m_get (mk S e) 296 10 29 = some (vR 321) := gR (by decide +kernel)
theorem G_10_30 : m_get (mk S e) 296 10 30 = some (vR 322) := gR (by decide +kernel)
theorem G_10_31 : m_get (mk S e) 296 10 31 = some (vR 323) := gR (by decide +kernel)
theorem G_10_32 : m_get (mk S e) 296 10 32 = some (vR 324) := gR (by decide +kernel)
theorem G_10_33 : m_get (mk S e) 296 10 33 = some (vR 325) := gR (by decide +kernel)
theorem Z_10_34 : m_isI (m_get hz 296 10 34) = true := by decide +kernel
theorem G_10_34 : m_get (mk S e) 296 10 34 = some (vI (S 2034 0 0)) := gI Z_10_34 K_10 (by decide)
theorem P_10_34 {a : Int} : m_set (mk S e) 296 34 (vI a) = mk (up S 2034 0 0 a) e := sI 10 Z_10_34 K_10 (by decide)
theorem G_10_35 : m_get (mk S e) 296 10 35 = some (vR 326) := gR (by decide +kernel)
theorem G_10_36 : m_get (mk S e) 296 10 36 = some (vR 327) := gR (by decide +kernel)
theorem G_10_37 : m_get (mk S e) 296 10 37 = some (vR 328) := gR (by decide +kernel)
theorem G_10_38 : m_get (mk S e) 296 10 38 = some (vR 329) := gR (by decide +kernel)
theorem G_10_39 : m_get (mk S e) 296 10 39 = some (vR 330) := gR (by decide +kernel)
theorem G_10_40 : m_get (mk S e) 296 10 40 = some (vR 331) := gR (by decide +kernel)
theorem G_10_41 : m_get (mk S e) 296 10 41 = some (vR 332) := gR (by decide +kernel)
theorem G_10_42 : m_get (mk S e) 296 10 42 = some (vR 333) := gR (by decide +kernel)
theorem G_10_43 : m_get (mk S e) 296 10 43 = some (vR 334) := gR (by decide +kernel)
theorem G_10_44 : m_get (mk S e) 296 10 44 = some (vR 335) := gR (by decide +kernel)
theorem G_10_45 : m_get (mk S e) 296 10 45 = some (vR 336) := gR (by decide +kernel)
theorem G_10_46 : m_get (mk S e) 296 10 46 = some (vR 337) := gR (by decide +kernel)
theorem G_10_47 : m_get (mk S e) 296 10 47 = some (vR 338) := gR (by decide +kernel)
theorem G_10_48 : m_get (mk S e) 296 10 48 = some (vR 339) := gR (by decide +kernel)
theorem G_10_49 : m_get (mk S e) 296 10 49 = some (vR 340) := gR (by decide +kernel)
theorem T_a2 : m_tag (mk S e) 2 = some 36 := gT (by decide +kernel)
theorem Z_a2 : ∀ k, k < 10 → m_rf (m_get hz 2 36 k) = (st k) + 1 := by decide +kernel
theorem A_2 {x : Int} (h0 : 0 ≤ x) (h1 : x < 10) : m_age (mk S e) 2 36 x = some (vR (st x.toNat)) := aR (f := fun k => (st k)) Z_a2 h0 h1
theorem T_a254 : m_tag (mk S e) 254 = some 33 := gT (by decide +kernel)
theorem Z_a254 : ∀ k, k < 40 → m_rf (m_get hz 254 33 k) = (pe k) + 1 := by decide +kernel
theorem A_254 {x : Int} (h0 : 0 ≤ x) (h1 : x < 40) : m_age (mk S e) 254 33 x = some (vR (pe x.toNat)) := aR (f := fun k => (pe k)) Z_a254 h0 h1
theorem T_a255 : m_tag (mk S e) 255 = some 20 := gT (by decide +kernel)
theorem L_a255 : m_len (mk S e) 255 = some 180 := gL (by decide +kernel)
theorem K_a255 : kf 255 = (40, 0) := by decide +kernel
theorem Z_a255 : ∀ k, k < 180 → m_isI (m_get hz 255 20 k) = true := by decide +kernel
theorem A_255 {x : Int} (h0 : 0 ≤ x) (h1 : x < 180) : m_age (mk S e) 255 20 x = some (vI (S 40 0 x.toNat)) := aI Z_a255 K_a255 (by decide) h0 h1
theorem B_255 {x a : Int} (h0 : 0 ≤ x) (h1 : x < 180) : m_set (mk S e) 255 x.toNat (vI a) = mk (up S 40 0 x.toNat a) e := tI 20 Z_a255 K_a255 (by decide) h0 h1
theorem T_a297 : m_tag (mk S e) 297 = some 20 := gT (by decide +kernel)
theorem L_a297 : m_len (mk S e) 297 = some 10 := gL (by decide +kernel)
theorem K_a297 : kf 297 = (50, 0) := by decide +kernel
theorem Z_a297 : ∀ k, k < 10 → m_isI (m_get hz 297 20 k) = true := by decide +kernel
theorem A_297 {x : Int} (h0 : 0 ≤ x) (h1 : x < 10) : m_age (mk S e) 297 20 x = some (vI (S 50 0 x.toNat)) := aI Z_a297 K_a297 (by decide) h0 h1
theorem B_297 {x a : Int} (h0 : 0 ≤ x) (h1 : x < 10) : m_set (mk S e) 297 x.toNat (vI a) = mk (up S 50 0 x.toNat a) e := tI 20 Z_a297 K_a297 (by decide) h0 h1
theorem T_a298 : m_tag (mk S e) 298 = some 20 := gT (by decide +kernel)
theorem L_a298 : m_len (mk S e) 298 = some 10 := gL (by decide +kernel)
theorem K_a298 : kf 298 = (51, 0) := by decide +kernel
theorem Z_a298 : ∀ k, k < 10 → m_isI (m_get hz 298 20 k) = true := by decide +kernel
theorem A_298 {x : Int} (h0 : 0 ≤ x) (h1 : x < 10) : m_age (mk S e) 298 20 x = some (vI (S 51 0 x.toNat)) := aI Z_a298 K_a298 (by decide) h0 h1
theorem B_298 {x a : Int} (h0 : 0 ≤ x) (h1 : x < 10) : m_set (mk S e) 298 x.toNat (vI a) = mk (up S 51 0 x.toNat a) e := tI 20 Z_a298 K_a298 (by decide) h0 h1
theorem T_a299 : m_tag (mk S e) 299 = some 20 := gT (by decide +kernel)
theorem L_a299 : m_len (mk S e) 299 = some 6 := gL (by decide +kernel)
theorem K_a299 : kf 299 = (52, 0) := by decide +kernel
theorem Z_a299 : ∀ k, k < 6 → m_isI (m_get hz 299 20 k) = true := by decide +kernel
theorem A_299 {x : Int} (h0 : 0 ≤ x) (h1 : x < 6) : m_age (mk S e) 299 20 x = some (vI (S 52 0 x.toNat)) := aI Z_a299 K_a299 (by decide) h0 h1
theorem B_299 {x a : Int} (h0 : 0 ≤ x) (h1 : x < 6) : m_set (mk S e) 299 x.toNat (vI a) = mk (up S 52 0 x.toNat a) e := tI 20 Z_a299 K_a299 (by decide) h0 h1
theorem T_a3 : m_tag (mk S e) 3 = some 37 := gT (by decide +kernel)
theorem Z_a3 : ∀ k, k < 6 → m_rf (m_get hz 3 37 k) = (tr k) + 1 := by decide +kernel
theorem A_3 {x : Int} (h0 : 0 ≤ x) (h1 : x < 6) : m_age (mk S e) 3 37 x = some (vR (tr x.toNat)) := aR (f := fun k => (tr k)) Z_a3 h0 h1
theorem T_a300 : m_tag (mk S e) 300 = some 20 := gT (by decide +kernel)
theorem L_a300 : m_len (mk S e) 300 = some 6 := gL (by decide +kernel)
theorem K_a300 : kf 300 = (53, 0) := by decide +kernel
theorem Z_a300 : ∀ k, k < 6 → m_isI (m_get hz 300 20 k) = true := by decide +kernel
theorem A_300 {x : Int} (h0 : 0 ≤ x) (h1 : x < 6) : m_age (mk S e) 300 20 x = some (vI (S 53 0 x.toNat)) := aI Z_a300 K_a300 (by decide) h0 h1
theorem B_300 {x a : Int} (h0 : 0 ≤ x) (h1 : x < 6) : m_set (mk S e) 300 x.toNat (vI a) = mk (up S 53 0 x.toNat a) e := tI 20 Z_a300 K_a300 (by decide) h0 h1
theorem T_a301 : m_tag (mk S e) 301 = some 20 := gT (by decide +kernel)
theorem L_a301 : m_len (mk S e) 301 = some 6 := gL (by decide +kernel)
theorem K_a301 : kf 301 = (54, 0) := by decide +kernel
theorem Z_a301 : ∀ k, k < 6 → m_isI (m_get hz 301 20 k) = true := by decide +kernel
theorem A_301 {x : Int} (h0 : 0 ≤ x) (h1 : x < 6) : m_age (mk S e) 301 20 x = some (vI (S 54 0 x.toNat)) := aI Z_a301 K_a301 (by decide) h0 h1
theorem B_301 {x a : Int} (h0 : 0 ≤ x) (h1 : x < 6) : m_set (mk S e) 301 x.toNat (vI a) = mk (up S 54 0 x.toNat a) e := tI 20 Z_a301 K_a301 (by decide) h0 h1
theorem T_a302 : m_tag (mk S e) 302 = some 20 := gT (by decide +kernel)
theorem L_a302 : m_len (mk S e) 302 = some 36 := gL (by decide +kernel)
theorem K_a302 : kf 302 = (55, 0) := by decide +kernel
theorem Z_a302 : ∀ k, k < 36 → m_isI (m_get hz 302 20 k) = true := by decide +kernel
theorem A_302 {x : Int} (h0 : 0 ≤ x) (h1 : x < 36) : m_age (mk S e) 302 20 x = some (vI (S 55 0 x.toNat)) := aI Z_a302 K_a302 (by decide) h0 h1
theorem B_302 {x a : Int} (h0 : 0 ≤ x) (h1 : x < 36) : m_set (mk S e) 302 x.toNat (vI a) = mk (up S 55 0 x.toNat a) e := tI 20 Z_a302 K_a302 (by decide) h0 h1
theorem T_a303 : m_tag (mk S e) 303 = some 20 := gT (by decide +kernel)
theorem L_a303 : m_len (mk S e) 303 = some 36 := gL (by decide +kernel)
theorem K_a303 : kf 303 = (56, 0) := by decide +kernel
theorem Z_a303 : ∀ k, k < 36 → m_isI (m_get hz 303 20 k) = true := by decide +kernel
theorem A_303 {x : Int} (h0 : 0 ≤ x) (h1 : x < 36) : m_age (mk S e) 303 20 x = some (vI (S 56 0 x.toNat)) := aI Z_a303 K_a303 (by decide) h0 h1
theorem B_303 {x a : Int} (h0 : 0 ≤ x) (h1 : x < 36) : m_set (mk S e) 303 x.toNat (vI a) = mk (up S 56 0 x.toNat a) e := tI 20 Z_a303 K_a303 (by decide) h0 h1
theorem T_a304 : m_tag (mk S e) 304 = some 20 := gT (by decide +kernel)
theorem L_a304 : m_len (mk S e) 304 = some 36 := gL (by decide +kernel)
theorem K_a304 : kf 304 = (57, 0) := by decide +kernel
theorem Z_a304 : ∀ k, k < 36 → m_isI (m_get hz 304 20 k) = true := by decide +kernel
theorem A_304 {x : Int} (h0 : 0 ≤ x) (h1 : x < 36) : m_age (mk S e) 304 20 x = some (vI (S 57 0 x.toNat)) := aI Z_a304 K_a304 (by decide) h0 h1
theorem B_304 {x a : Int} (h0 : 0 ≤ x) (h1 : x < 36) : m_set (mk S e) 304 x.toNat (vI a) = mk (up S 57 0 x.toNat a) e := tI 20 Z_a304 K_a304 (by decide) h0 h1
theorem T_a305 : m_tag (mk S e) 305 = some 20 := gT (by decide +kernel)
theorem L_a305 : m_len (mk S e) 305 = some 36 := gL (by decide +kernel)
theorem K_a305 : kf 305 = (58, 0) := by decide +kernel
theorem Z_a305 : ∀ k, k < 36 → m_isI (m_get hz 305 20 k) = true := by decide +kernel
theorem A_305 {x : Int} (h0 : 0 ≤ x) (h1 : x < 36) : m_age (mk S e) 305 20 x = some (vI (S 58 0 x.toNat)) := aI Z_a305 K_a305 (by decide) h0 h1
theorem B_305 {x a : Int} (h0 : 0 ≤ x) (h1 : x < 36) : m_set (mk S e) 305 x.toNat (vI a) = mk (up S 58 0 x.toNat a) e := tI 20 Z_a305 K_a305 (by decide) h0 h1
theorem T_a306 : m_tag (mk S e) 306 = some 20 := gT (by decide +kernel)
theorem L_a306 : m_len (mk S e) 306 = some 36 := gL (by decide +kernel)
theorem K_a306 : kf 306 = (59, 0) := by decide +kernel
theorem Z_a306 : ∀ k, k < 36 → m_isI (m_get hz 306 20 k) = true := by decide +kernel
theorem A_306 {x : Int} (h0 : 0 ≤ x) (h1 : x < 36) : m_age (mk S e) 306 20 x = some (vI (S 59 0 x.toNat)) := aI Z_a306 K_a306 (by decide) h0 h1
theorem B_306 {x a : Int} (h0 : 0 ≤ x) (h1 : x < 36) : m_set (mk S e) 306 x.toNat (vI a) = mk (up S 59 0 x.toNat a) e := tI 20 Z_a306 K_a306 (by decide) h0 h1
theorem T_a307 : m_tag (mk S e) 307 = some 20 := gT (by decide +kernel)
theorem L_a307 : m_len (mk S e) 307 = some 36 := gL (by decide +kernel)
theorem K_a307 : kf 307 = (60, 0) := by decide +kernel
theorem Z_a307 : ∀ k, k < 36 → m_isI (m_get hz 307 20 k) = true := by decide +kernel
theorem A_307 {x : Int} (h0 : 0 ≤ x) (h1 : x < 36) : m_age (mk S e) 307 20 x = some (vI (S 60 0 x.toNat)) := aI Z_a307 K_a307 (by decide) h0 h1
theorem B_307 {x a : Int} (h0 : 0 ≤ x) (h1 : x < 36) : m_set (mk S e) 307 x.toNat (vI a) = mk (up S 60 0 x.toNat a) e := tI 20 Z_a307 K_a307 (by decide) h0 h1
theorem T_a308 : m_tag (mk S e) 308 = some 20 := gT (by decide +kernel)
theorem L_a308 : m_len (mk S e) 308 = some 10 := gL (by decide +kernel)
theorem K_a308 : kf 308 = (61, 0) := by decide +kernel
theorem Z_a308 : ∀ k, k < 10 → m_isI (m_get hz 308 20 k) = true := by decide +kernel
theorem A_308 {x : Int} (h0 : 0 ≤ x) (h1 : x < 10) : m_age (mk S e) 308 20 x = some (vI (S 61 0 x.toNat)) := aI Z_a308 K_a308 (by decide) h0 h1
theorem B_308 {x a : Int} (h0 : 0 ≤ x) (h1 : x < 10) : m_set (mk S e) 308 x.toNat (vI a) = mk (up S 61 0 x.toNat a) e := tI 20 Z_a308 K_a308 (by decide) h0 h1
theorem T_a309 : m_tag (mk S e) 309 = some 20 := gT (by decide +kernel)
theorem L_a309 : m_len (mk S e) 309 = some 10 := gL (by decide +kernel)
theorem K_a309 : kf 309 = (62, 0) := by decide +kernel
theorem Z_a309 : ∀ k, k < 10 → m_isI (m_get hz 309 20 k) = true := by decide +kernel
theorem A_309 {x : Int} (h0 : 0 ≤ x) (h1 : x < 10) : m_age (mk S e) 309 20 x = some (vI (S 62 0 x.toNat)) := aI Z_a309 K_a309 (by decide) h0 h1
theorem B_309 {x a : Int} (h0 : 0 ≤ x) (h1 : x < 10) : m_set (mk S e) 309 x.toNat (vI a) = mk (up S 62 0 x.toNat a) e := tI 20 Z_a309 K_a309 (by decide) h0 h1
theorem T_a310 : m_tag (mk S e) 310 = some 20 := gT (by decide +kernel)
theorem L_a310 : m_len (mk S e) 310 = some 10 := gL (by decide +kernel)
theorem K_a310 : kf 310 = (63, 0) := by decide +kernel
theorem Z_a310 : ∀ k, k < 10 → m_isI (m_get hz 310 20 k) = true := by decide +kernel
theorem A_310 {x : Int} (h0 : 0 ≤ x) (h1 : x < 10) : m_age (mk S e) 310 20 x = some (vI (S 63 0 x.toNat)) := aI Z_a310 K_a310 (by decide) h0 h1
theorem B_310 {x a : Int} (h0 : 0 ≤ x) (h1 : x < 10) : m_set (mk S e) 310 x.toNat (vI a) = mk (up S 63 0 x.toNat a) e := tI 20 Z_a310 K_a310 (by decide) h0 h1
theorem T_a311 : m_tag (mk S e) 311 = some 20 := gT (by decide +kernel)
theorem L_a311 : m_len (mk S e) 311 = some 10 := gL (by decide +kernel)
theorem K_a311 : kf 311 = (64, 0) := by decide +kernel
theorem Z_a311 : ∀ k, k < 10 → m_isI (m_get hz 311 20 k) = true := by decide +kernel
theorem A_311 {x : Int} (h0 : 0 ≤ x) (h1 : x < 10) : m_age (mk S e) 311 20 x = some (vI (S 64 0 x.toNat)) := aI Z_a311 K_a311 (by decide) h0 h1
theorem B_311 {x a : Int} (h0 : 0 ≤ x) (h1 : x < 10) : m_set (mk S e) 311 x.toNat (vI a) = mk (up S 64 0 x.toNat a) e := tI 20 Z_a311 K_a311 (by decide) h0 h1
theorem T_a312 : m_tag (mk S e) 312 = some 20 := gT (by decide +kernel)
theorem L_a312 : m_len (mk S e) 312 = some 10 := gL (by decide +kernel)
theorem K_a312 : kf 312 = (65, 0) := by decide +kernel
theorem Z_a312 : ∀ k, k < 10 → m_isI (m_get hz 312 20 k) = true := by decide +kernel
theorem A_312 {x : Int} (h0 : 0 ≤ x) (h1 : x < 10) : m_age (mk S e) 312 20 x = some (vI (S 65 0 x.toNat)) := aI Z_a312 K_a312 (by decide) h0 h1
theorem B_312 {x a : Int} (h0 : 0 ≤ x) (h1 : x < 10) : m_set (mk S e) 312 x.toNat (vI a) = mk (up S 65 0 x.toNat a) e := tI 20 Z_a312 K_a312 (by decide) h0 h1
theorem T_a313 : m_tag (mk S e) 313 = some 20 := gT (by decide +kernel)
theorem L_a313 : m_len (mk S e) 313 = some 10 := gL (by decide +kernel)
theorem K_a313 : kf 313 = (66, 0) := by decide +kernel
theorem Z_a313 : ∀ k, k < 10 → m_isI (m_get hz 313 20 k) = true := by decide +kernel
theorem A_313 {x : Int} (h0 : 0 ≤ x) (h1 : x < 10) : m_age (mk S e) 313 20 x = some (vI (S 66 0 x.toNat)) := aI Z_a313 K_a313 (by decide) h0 h1
theorem B_313 {x a : Int} (h0 : 0 ≤ x) (h1 : x < 10) : m_set (mk S e) 313 x.toNat (vI a) = mk (up S 66 0 x.toNat a) e := tI 20 Z_a313 K_a313 (by decide) h0 h1
theorem T_a314 : m_tag (mk S e) 314 = some 21 := gT (by decide +kernel)
theorem K_a314 : kf 314 = (67, 0) := by decide +kernel
theorem Z_a314 : ∀ k, k < 10 → m_isI (m_get hz 314 21 k) = true := by decide +kernel
theorem A_314 {x : Int} (h0 : 0 ≤ x) (h1 : x < 10) : m_age (mk S e) 314 21 x = some (vI (S 67 0 x.toNat)) := aI Z_a314 K_a314 (by decide) h0 h1
theorem B_314 {x a : Int} (h0 : 0 ≤ x) (h1 : x < 10) : m_set (mk S e) 314 x.toNat (vI a) = mk (up S 67 0 x.toNat a) e := tI 21 Z_a314 K_a314 (by decide) h0 h1
theorem T_a315 : m_tag (mk S e) 315 = some 21 := gT (by decide +kernel)
theorem K_a315 : kf 315 = (68, 0) := by decide +kernel
theorem Z_a315 : ∀ k, k < 10 → m_isI (m_get hz 315 21 k) = true := by decide +kernel
theorem A_315 {x : Int} (h0 : 0 ≤ x) (h1 : x < 10) : m_age (mk S e) 315 21 x = some (vI (S 68 0 x.toNat)) := aI Z_a315 K_a315 (by decide) h0 h1
theorem B_315 {x a : Int} (h0 : 0 ≤ x) (h1 : x < 10) : m_set (mk S e) 315 x.toNat (vI a) = mk (up S 68 0 x.toNat a) e := tI 21 Z_a315 K_a315 (by decide) h0 h1
theorem T_a316 : m_tag (mk S e) 316 = some 20 := gT (by decide +kernel)
theorem L_a316 : m_len (mk S e) 316 = some 10 := gL (by decide +kernel)
theorem K_a316 : kf 316 = (69, 0) := by decide +kernel
theorem Z_a316 : ∀ k, k < 10 → m_isI (m_get hz 316 20 k) = true := by decide +kernel
theorem A_316 {x : Int} (h0 : 0 ≤ x) (h1 : x < 10) : m_age (mk S e) 316 20 x = some (vI (S 69 0 x.toNat)) := aI Z_a316 K_a316 (by decide) h0 h1
theorem B_316 {x a : Int} (h0 : 0 ≤ x) (h1 : x < 10) : m_set (mk S e) 316 x.toNat (vI a) = mk (up S 69 0 x.toNat a) e := tI 20 Z_a316 K_a316 (by decide) h0 h1
theorem T_a317 : m_tag (mk S e) 317 = some 20 := gT (by decide +kernel)
theorem L_a317 : m_len (mk S e) 317 = some 30 := gL (by decide +kernel)
theorem K_a317 : kf 317 = (70, 0) := by decide +kernel
theorem Z_a317 : ∀ k, k < 30 → m_isI (m_get hz 317 20 k) = true := by decide +kernel
theorem A_317 {x : Int} (h0 : 0 ≤ x) (h1 : x < 30) : m_age (mk S e) 317 20 x = some (vI (S 70 0 x.toNat)) := aI Z_a317 K_a317 (by decide) h0 h1
theorem B_317 {x a : Int} (h0 : 0 ≤ x) (h1 : x < 30) : m_set (mk S e) 317 x.toNat (vI a) = mk (up S 70 0 x.toNat a) e := tI 20 Z_a317 K_a317 (by decide) h0 h1
theorem T_a318 : m_tag (mk S e) 318 = some 20 := gT (by decide +kernel)
theorem L_a318 : m_len (mk S e) 318 = some 30 := gL (by decide +kernel)
theorem K_a318 : kf 318 = (71, 0) := by decide +kernel
theorem Z_a318 : ∀ k, k < 30 → m_isI (m_get hz 318 20 k) = true := by decide +kernel
theorem A_318 {x : Int} (h0 : 0 ≤ x) (h1 : x < 30) : m_age (mk S e) 318 20 x = some (vI (S 71 0 x.toNat)) := aI Z_a318 K_a318 (by decide) h0 h1
theorem B_318 {x a : Int} (h0 : 0 ≤ x) (h1 : x < 30) : m_set (mk S e) 318 x.toNat (vI a) = mk (up S 71 0 x.toNat a) e := tI 20 Z_a318 K_a318 (by decide) h0 h1
theorem T_a319 : m_tag (mk S e) 319 = some 21 := gT (by decide +kernel)
theorem K_a319 : kf 319 = (72, 0) := by decide +kernel
theorem Z_a319 : ∀ k, k < 40 → m_isI (m_get hz 319 21 k) = true := by decide +kernel
theorem A_319 {x : Int} (h0 : 0 ≤ x) (h1 : x < 40) : m_age (mk S e) 319 21 x = some (vI (S 72 0 x.toNat)) := aI Z_a319 K_a319 (by decide) h0 h1
theorem B_319 {x a : Int} (h0 : 0 ≤ x) (h1 : x < 40) : m_set (mk S e) 319 x.toNat (vI a) = mk (up S 72 0 x.toNat a) e := tI 21 Z_a319 K_a319 (by decide) h0 h1
theorem T_a320 : m_tag (mk S e) 320 = some 20 := gT (by decide +kernel)
theorem L_a320 : m_len (mk S e) 320 = some 40 := gL (by decide +kernel)
theorem K_a320 : kf 320 = (73, 0) := by decide +kernel
theorem Z_a320 : ∀ k, k < 40 → m_isI (m_get hz 320 20 k) = true := by decide +kernel
theorem A_320 {x : Int} (h0 : 0 ≤ x) (h1 : x < 40) : m_age (mk S e) 320 20 x = some (vI (S 73 0 x.toNat)) := aI Z_a320 K_a320 (by decide) h0 h1
theorem B_320 {x a : Int} (h0 : 0 ≤ x) (h1 : x < 40) : m_set (mk S e) 320 x.toNat (vI a) = mk (up S 73 0 x.toNat a) e := tI 20 Z_a320 K_a320 (by decide) h0 h1
theorem T_a321 : m_tag (mk S e) 321 = some 20 := gT (by decide +kernel)
theorem L_a321 : m_len (mk S e) 321 = some 40 := gL (by decide +kernel)
theorem K_a321 : kf 321 = (74, 0) := by decide +kernel
theorem Z_a321 : ∀ k, k < 40 → m_isI (m_get hz 321 20 k) = true := by decide +kernel
theorem A_321 {x : Int} (h0 : 0 ≤ x) (h1 : x < 40) : m_age (mk S e) 321 20 x = some (vI (S 74 0 x.toNat)) := aI Z_a321 K_a321 (by decide) h0 h1
theorem B_321 {x a : Int} (h0 : 0 ≤ x) (h1 : x < 40) : m_set (mk S e) 321 x.toNat (vI a) = mk (up S 74 0 x.toNat a) e := tI 20 Z_a321 K_a321 (by decide) h0 h1
theorem T_a322 : m_tag (mk S e) 322 = some 20 := gT (by decide +kernel)
theorem L_a322 : m_len (mk S e) 322 = some 40 := gL (by decide +kernel)
theorem K_a322 : kf 322 = (75, 0) := by decide +kernel
theorem Z_a322 : ∀ k, k < 40 → m_isI (m_get hz 322 20 k) = true := by decide +kernel
theorem A_322 {x : Int} (h0 : 0 ≤ x) (h1 : x < 40) : m_age (mk S e) 322 20 x = some (vI (S 75 0 x.toNat)) := aI Z_a322 K_a322 (by decide) h0 h1
theorem B_322 {x a : Int} (h0 : 0 ≤ x) (h1 : x < 40) : m_set (mk S e) 322 x.toNat (vI a) = mk (up S 75 0 x.toNat a) e := tI 20 Z_a322 K_a322 (by decide) h0 h1
theorem T_a323 : m_tag (mk S e) 323 = some 20 := gT (by decide +kernel)
theorem L_a323 : m_len (mk S e) 323 = some 40 := gL (by decide +kernel)
theorem K_a323 : kf 323 = (76, 0) := by decide +kernel
theorem Z_a323 : ∀ k, k < 40 → m_isI (m_get hz 323 20 k) = true := by decide +kernel
theorem A_323 {x : Int} (h0 : 0 ≤ x) (h1 : x < 40) : m_age (mk S e) 323 20 x = some (vI (S 76 0 x.toNat)) := aI Z_a323 K_a323 (by decide) h0 h1
theorem B_323 {x a : Int} (h0 : 0 ≤ x) (h1 : x < 40) : m_set (mk S e) 323 x.toNat (vI a) = mk (up S 76 0 x.toNat a) e := tI 20 Z_a323 K_a323 (by decide) h0 h1
theorem T_a324 : m_tag (mk S e) 324 = some 20 := gT (by decide +kernel)
theorem L_a324 : m_len (mk S e) 324 = some 40 := gL (by decide +kernel)
theorem K_a324 : kf 324 = (77, 0) := by decide +kernel
theorem Z_a324 : ∀ k, k < 40 → m_isI (m_get hz 324 20 k) = true := by decide +kernel
theorem A_324 {x : Int} (h0 : 0 ≤ x) (h1 : x < 40) : m_age (mk S e) 324 20 x = some (vI (S 77 0 x.toNat)) := aI Z_a324 K_a324 (by decide) h0 h1
theorem B_324 {x a : Int} (h0 : 0 ≤ x) (h1 : x < 40) : m_set (mk S e) 324 x.toNat (vI a) = mk (up S 77 0 x.toNat a) e := tI 20 Z_a324 K_a324 (by decide) h0 h1
theorem T_a325 : m_tag (mk S e) 325 = some 20 := gT (by decide +kernel)
theorem L_a325 : m_len (mk S e) 325 = some 180 := gL (by decide +kernel)
theorem K_a325 : kf 325 = (78, 0) := by decide +kernel
theorem Z_a325 : ∀ k, k < 180 → m_isI (m_get hz 325 20 k) = true := by decide +kernel
theorem A_325 {x : Int} (h0 : 0 ≤ x) (h1 : x < 180) : m_age (mk S e) 325 20 x = some (vI (S 78 0 x.toNat)) := aI Z_a325 K_a325 (by decide) h0 h1
theorem B_325 {x a : Int} (h0 : 0 ≤ x) (h1 : x < 180) : m_set (mk S e) 325 x.toNat (vI a) = mk (up S 78 0 x.toNat a) e := tI 20 Z_a325 K_a325 (by decide) h0 h1
theorem T_a326 : m_tag (mk S e) 326 = some 20 := gT (by decide +kernel)
theorem L_a326 : m_len (mk S e) 326 = some 36 := gL (by decide +kernel)
theorem K_a326 : kf 326 = (79, 0) := by decide +kernel
theorem Z_a326 : ∀ k, k < 36 → m_isI (m_get hz 326 20 k) = true := by decide +kernel
theorem A_326 {x : Int} (h0 : 0 ≤ x) (h1 : x < 36) : m_age (mk S e) 326 20 x = some (vI (S 79 0 x.toNat)) := aI Z_a326 K_a326 (by decide) h0 h1
theorem B_326 {x a : Int} (h0 : 0 ≤ x) (h1 : x < 36) : m_set (mk S e) 326 x.toNat (vI a) = mk (up S 79 0 x.toNat a) e := tI 20 Z_a326 K_a326 (by decide) h0 h1
theorem T_a327 : m_tag (mk S e) 327 = some 20 := gT (by decide +kernel)
theorem L_a327 : m_len (mk S e) 327 = some 36 := gL (by decide +kernel)
theorem K_a327 : kf 327 = (80, 0) := by decide +kernel
theorem Z_a327 : ∀ k, k < 36 → m_isI (m_get hz 327 20 k) = true := by decide +kernel
theorem A_327 {x : Int} (h0 : 0 ≤ x) (h1 : x < 36) : m_age (mk S e) 327 20 x = some (vI (S 80 0 x.toNat)) := aI Z_a327 K_a327 (by decide) h0 h1
theorem B_327 {x a : Int} (h0 : 0 ≤ x) (h1 : x < 36) : m_set (mk S e) 327 x.toNat (vI a) = mk (up S 80 0 x.toNat a) e := tI 20 Z_a327 K_a327 (by decide) h0 h1
theorem T_a328 : m_tag (mk S e) 328 = some 20 := gT (by decide +kernel)
theorem L_a328 : m_len (mk S e) 328 = some 6 := gL (by decide +kernel)
theorem K_a328 : kf 328 = (81, 0) := by decide +kernel
theorem Z_a328 : ∀ k, k < 6 → m_isI (m_get hz 328 20 k) = true := by decide +kernel
theorem A_328 {x : Int} (h0 : 0 ≤ x) (h1 : x < 6) : m_age (mk S e) 328 20 x = some (vI (S 81 0 x.toNat)) := aI Z_a328 K_a328 (by decide) h0 h1
theorem B_328 {x a : Int} (h0 : 0 ≤ x) (h1 : x < 6) : m_set (mk S e) 328 x.toNat (vI a) = mk (up S 81 0 x.toNat a) e := tI 20 Z_a328 K_a328 (by decide) h0 h1
theorem T_a329 : m_tag (mk S e) 329 = some 21 := gT (by decide +kernel)
theorem K_a329 : kf 329 = (82, 0) := by decide +kernel
theorem Z_a329 : ∀ k, k < 6 → m_isI (m_get hz 329 21 k) = true := by decide +kernel
theorem A_329 {x : Int} (h0 : 0 ≤ x) (h1 : x < 6) : m_age (mk S e) 329 21 x = some (vI (S 82 0 x.toNat)) := aI Z_a329 K_a329 (by decide) h0 h1
theorem B_329 {x a : Int} (h0 : 0 ≤ x) (h1 : x < 6) : m_set (mk S e) 329 x.toNat (vI a) = mk (up S 82 0 x.toNat a) e := tI 21 Z_a329 K_a329 (by decide) h0 h1
theorem T_a330 : m_tag (mk S e) 330 = some 20 := gT (by decide +kernel)
theorem L_a330 : m_len (mk S e) 330 = some 60 := gL (by decide +kernel)
theorem K_a330 : kf 330 = (83, 0) := by decide +kernel
theorem Z_a330 : ∀ k, k < 60 → m_isI (m_get hz 330 20 k) = true := by decide +kernel
theorem A_330 {x : Int} (h0 : 0 ≤ x) (h1 : x < 60) : m_age (mk S e) 330 20 x = some (vI (S 83 0 x.toNat)) := aI Z_a330 K_a330 (by decide) h0 h1
theorem B_330 {x a : Int} (h0 : 0 ≤ x) (h1 : x < 60) : m_set (mk S e) 330 x.toNat (vI a) = mk (up S 83 0 x.toNat a) e := tI 20 Z_a330 K_a330 (by decide) h0 h1
theorem T_a331 : m_tag (mk S e) 331 = some 20 := gT (by decide +kernel)
theorem L_a331 : m_len (mk S e) 331 = some 6 := gL (by decide +kernel)
theorem K_a331 : kf 331 = (84, 0) := by decide +kernel
theorem Z_a331 : ∀ k, k < 6 → m_isI (m_get hz 331 20 k) = true := by decide +kernel
theorem A_331 {x : Int} (h0 : 0 ≤ x) (h1 : x < 6) : m_age (mk S e) 331 20 x = some (vI (S 84 0 x.toNat)) := aI Z_a331 K_a331 (by decide) h0 h1
theorem B_331 {x a : Int} (h0 : 0 ≤ x) (h1 : x < 6) : m_set (mk S e) 331 x.toNat (vI a) = mk (up S 84 0 x.toNat a) e := tI 20 Z_a331 K_a331 (by decide) h0 h1
theorem T_a332 : m_tag (mk S e) 332 = some 20 := gT (by decide +kernel)
theorem L_a332 : m_len (mk S e) 332 = some 36 := gL (by decide +kernel)
theorem K_a332 : kf 332 = (85, 0) := by decide +kernel
theorem Z_a332 : ∀ k, k < 36 → m_isI (m_get hz 332 20 k) = true := by decide +kernel
theorem A_332 {x : Int} (h0 : 0 ≤ x) (h1 : x < 36) : m_age (mk S e) 332 20 x = some (vI (S 85 0 x.toNat)) := aI Z_a332 K_a332 (by decide) h0 h1
theorem B_332 {x a : Int} (h0 : 0 ≤ x) (h1 : x < 36) : m_set (mk S e) 332 x.toNat (vI a) = mk (up S 85 0 x.toNat a) e := tI 20 Z_a332 K_a332 (by decide) h0 h1
theorem T_a333 : m_tag (mk S e) 333 = some 20 := gT (by decide +kernel)
theorem L_a333 : m_len (mk S e) 333 = some 36 := gL (by decide +kernel)
theorem K_a333 : kf 333 = (86, 0) := by decide +kernel
theorem Z_a333 : ∀ k, k < 36 → m_isI (m_get hz 333 20 k) = true := by decide +kernel
theorem A_333 {x : Int} (h0 : 0 ≤ x) (h1 : x < 36) : m_age (mk S e) 333 20 x = some (vI (S 86 0 x.toNat)) := aI Z_a333 K_a333 (by decide) h0 h1
theorem B_333 {x a : Int} (h0 : 0 ≤ x) (h1 : x < 36) : m_set (mk S e) 333 x.toNat (vI a) = mk (up S 86 0 x.toNat a) e := tI 20 Z_a333 K_a333 (by decide) h0 h1
theorem T_a334 : m_tag (mk S e) 334 = some 20 := gT (by decide +kernel)
theorem L_a334 : m_len (mk S e) 334 = some 360 := gL (by decide +kernel)
theorem K_a334 : kf 334 = (87, 0) := by decide +kernel
theorem Z_a334 : ∀ k, k < 360 → m_isI (m_get hz 334 20 k) = true := by decide +kernel
theorem A_334 {x : Int} (h0 : 0 ≤ x) (h1 : x < 360) : m_age (mk S e) 334 20 x = some (vI (S 87 0 x.toNat)) := aI Z_a334 K_a334 (by decide) h0 h1
theorem B_334 {x a : Int} (h0 : 0 ≤ x) (h1 : x < 360) : m_set (mk S e) 334 x.toNat (vI a) = mk (up S 87 0 x.toNat a) e := tI 20 Z_a334 K_a334 (by decide) h0 h1
theorem T_a335 : m_tag (mk S e) 335 = some 20 := gT (by decide +kernel)
theorem L_a335 : m_len (mk S e) 335 = some 10 := gL (by decide +kernel)
theorem K_a335 : kf 335 = (88, 0) := by decide +kernel
theorem Z_a335 : ∀ k, k < 10 → m_isI (m_get hz 335 20 k) = true := by decide +kernel
theorem A_335 {x : Int} (h0 : 0 ≤ x) (h1 : x < 10) : m_age (mk S e) 335 20 x = some (vI (S 88 0 x.toNat)) := aI Z_a335 K_a335 (by decide) h0 h1
theorem B_335 {x a : Int} (h0 : 0 ≤ x) (h1 : x < 10) : m_set (mk S e) 335 x.toNat (vI a) = mk (up S 88 0 x.toNat a) e := tI 20 Z_a335 K_a335 (by decide) h0 h1
theorem T_a336 : m_tag (mk S e) 336 = some 20 := gT (by decide +kernel)
theorem L_a336 : m_len (mk S e) 336 = some 10 := gL (by decide +kernel)
theorem K_a336 : kf 336 = (89, 0) := by decide +kernel
theorem Z_a336 : ∀ k, k < 10 → m_isI (m_get hz 336 20 k) = true := by decide +kernel
theorem A_336 {x : Int} (h0 : 0 ≤ x) (h1 : x < 10) : m_age (mk S e) 336 20 x = some (vI (S 89 0 x.toNat)) := aI Z_a336 K_a336 (by decide) h0 h1
theorem B_336 {x a : Int} (h0 : 0 ≤ x) (h1 : x < 10) : m_set (mk S e) 336 x.toNat (vI a) = mk (up S 89 0 x.toNat a) e := tI 20 Z_a336 K_a336 (by decide) h0 h1
theorem T_a337 : m_tag (mk S e) 337 = some 20 := gT (by decide +kernel)
theorem L_a337 : m_len (mk S e) 337 = some 10 := gL (by decide +kernel)
theorem K_a337 : kf 337 = (90, 0) := by decide +kernel
theorem Z_a337 : ∀ k, k < 10 → m_isI (m_get hz 337 20 k) = true := by decide +kernel
theorem A_337 {x : Int} (h0 : 0 ≤ x) (h1 : x < 10) : m_age (mk S e) 337 20 x = some (vI (S 90 0 x.toNat)) := aI Z_a337 K_a337 (by decide) h0 h1
theorem B_337 {x a : Int} (h0 : 0 ≤ x) (h1 : x < 10) : m_set (mk S e) 337 x.toNat (vI a) = mk (up S 90 0 x.toNat a) e := tI 20 Z_a337 K_a337 (by decide) h0 h1
theorem T_a338 : m_tag (mk S e) 338 = some 20 := gT (by decide +kernel)
theorem L_a338 : m_len (mk S e) 338 = some 10 := gL (by decide +kernel)
theorem K_a338 : kf 338 = (91, 0) := by decide +kernel
theorem Z_a338 : ∀ k, k < 10 → m_isI (m_get hz 338 20 k) = true := by decide +kernel
theorem A_338 {x : Int} (h0 : 0 ≤ x) (h1 : x < 10) : m_age (mk S e) 338 20 x = some (vI (S 91 0 x.toNat)) := aI Z_a338 K_a338 (by decide) h0 h1
theorem B_338 {x a : Int} (h0 : 0 ≤ x) (h1 : x < 10) : m_set (mk S e) 338 x.toNat (vI a) = mk (up S 91 0 x.toNat a) e := tI 20 Z_a338 K_a338 (by decide) h0 h1
theorem T_a339 : m_tag (mk S e) 339 = some 21 := gT (by decide +kernel)
theorem K_a339 : kf 339 = (92, 0) := by decide +kernel
theorem Z_a339 : ∀ k, k < 10 → m_isI (m_get hz 339 21 k) = true := by decide +kernel
theorem A_339 {x : Int} (h0 : 0 ≤ x) (h1 : x < 10) : m_age (mk S e) 339 21 x = some (vI (S 92 0 x.toNat)) := aI Z_a339 K_a339 (by decide) h0 h1
theorem B_339 {x a : Int} (h0 : 0 ≤ x) (h1 : x < 10) : m_set (mk S e) 339 x.toNat (vI a) = mk (up S 92 0 x.toNat a) e := tI 21 Z_a339 K_a339 (by decide) h0 h1
theorem T_a340 : m_tag (mk S e) 340 = some 20 := gT (by decide +kernel)
theorem L_a340 : m_len (mk S e) 340 = some 36 := gL (by decide +kernel)
theorem K_a340 : kf 340 = (93, 0) := by decide +kernel
theorem Z_a340 : ∀ k, k < 36 → m_isI (m_get hz 340 20 k) = true := by decide +kernel
theorem A_340 {x : Int} (h0 : 0 ≤ x) (h1 : x < 36) : m_age (mk S e) 340 20 x = some (vI (S 93 0 x.toNat)) := aI Z_a340 K_a340 (by decide) h0 h1
theorem B_340 {x a : Int} (h0 : 0 ≤ x) (h1 : x < 36) : m_set (mk S e) 340 x.toNat (vI a) = mk (up S 93 0 x.toNat a) e := tI 20 Z_a340 K_a340 (by decide) h0 h1
theorem T_a4 : m_tag (mk S e) 4 = some 31 := gT (by decide +kernel)
theorem Z_a4 : ∀ k, k < 10 → m_rf (m_get hz 4 31 k) = (co k) + 1 := by decide +kernel
theorem A_4 {x : Int} (h0 : 0 ≤ x) (h1 : x < 10) : m_age (mk S e) 4 31 x = some (vR (co x.toNat)) := aR (f := fun k => (co k)) Z_a4 h0 h1
theorem T_acoA0 {i : Nat} (hi : i < 10) : m_tag (mk S e) (coA0 i) = some 20 := gT ((by decide +kernel : ∀ i, i < 10 → m_tag hz (coA0 i) = some 20) _ hi)
theorem L_acoA0 {i : Nat} (hi : i < 10) : m_len (mk S e) (coA0 i) = some 3 := gL ((by decide +kernel : ∀ i, i < 10 → m_len hz (coA0 i) = some 3) _ hi)
theorem K_acoA0 : ∀ i, i < 10 → kf (coA0 i) = (20, i) := by decide +kernel
theorem Z_acoA0 : ∀ i, i < 10 → ∀ k, k < 3 → m_isI (m_get hz (coA0 i) 20 k) = true := by decide +kernel
theorem A_coA0 {i : Nat} (hi : i < 10) {x : Int} (h0 : 0 ≤ x) (h1 : x < 3) : m_age (mk S e) (coA0 i) 20 x = some (vI (S 20 i x.toNat)) := aI (Z_acoA0 _ hi) (K_acoA0 _ hi) (by decide) h0 h1
theorem B_coA0 {i : Nat} (hi : i < 10) {x a : Int} (h0 : 0 ≤ x) (h1 : x < 3) : m_set (mk S e) (coA0 i) x.toNat (vI a) = mk (up S 20 i x.toNat a) e := tI 20 (Z_acoA0 _ hi) (K_acoA0 _ hi) (by decide) h0 h1
theorem T_acoA1 {i : Nat} (hi : i < 10) : m_tag (mk S e) (coA1 i) = some 20 := gT ((by decide +kernel : ∀ i, i < 10 → m_tag hz (coA1 i) = some 20) _ hi)
theorem L_acoA1 {i : Nat} (hi : i < 10) : m_len (mk S e) (coA1 i) = some 3 := gL ((by decide +kernel : ∀ i, i < 10 → m_len hz (coA1 i) = some 3) _ hi)
theorem K_acoA1 : ∀ i, i < 10 → kf (coA1 i) = (21, i) := by decide +kernel
theorem Z_acoA1 : ∀ i, i < 10 → ∀ k, k < 3 → m_isI (m_get hz (coA1 i) 20 k) = true := by decide +kernel
theorem A_coA1 {i : Nat} (hi : i < 10) {x : Int} (h0 : 0 ≤ x) (h1 : x < 3) : m_age (mk S e) (coA1 i) 20 x = some (vI (S 21 i x.toNat)) := aI (Z_acoA1 _ hi) (K_acoA1 _ hi) (by decide) h0 h1
theorem B_coA1 {i : Nat} (hi : i < 10) {x a : Int} (h0 : 0 ≤ x) (h1 : x < 3) : m_set (mk S e) (coA1 i) x.toNat (vI a) = mk (up S 21 i x.toNat a) e := tI 20 (Z_acoA1 _ hi) (K_acoA1 _ hi) (by decide) h0 h1
theorem T_acoA2 {i : Nat} (hi : i < 10) : m_tag (mk S e) (coA2 i) = some 20 := gT ((by decide +kernel : ∀ i, i < 10 → m_tag hz (coA2 i) = some 20) _ hi)
theorem L_acoA2 {i : Nat} (hi : i < 10) : m_len (mk S e) (coA2 i) = some 3 := gL ((by decide +kernel : ∀ i, i < 10 → m_len hz (coA2 i) = some 3) _ hi)
theorem K_acoA2 : ∀ i, i < 10 → kf (coA2 i) = (22, i) := by decide +kernel
theorem Z_acoA2 : ∀ i, i < 10 → ∀ k, k < 3 → m_isI (m_get hz (coA2 i) 20 k) = true := by decide +kernel
theorem A_coA2 {i : Nat} (hi : i < 10) {x : Int} (h0 : 0 ≤ x) (h1 : x < 3) : m_age (mk S e) (coA2 i) 20 x = some (vI (S 22 i x.toNat)) := aI (Z_acoA2 _ hi) (K_acoA2 _ hi) (by decide) h0 h1
theorem B_coA2 {i : Nat} (hi : i < 10) {x a : Int} (h0 : 0 ≤ x) (h1 : x < 3) : m_set (mk S e) (coA2 i) x.toNat (vI a) = mk (up S 22 i x.toNat a) e := tI 20 (Z_acoA2 _ hi) (K_acoA2 _ hi) (by decide) h0 h1
theorem T_antO {n : Nat} (hn : n < 3) : m_tag (mk S e) (ntO n) = some 20 := gT ((by decide +kernel : ∀ n, n < 3 → m_tag hz (ntO n) = some 20) _ hn)
theorem L_antO {n : Nat} (hn : n < 3) : m_len (mk S e) (ntO n) = some 36 := gL ((by decide +kernel : ∀ n, n < 3 → m_len hz (ntO n) = some 36) _ hn)
theorem K_antO : ∀ n, n < 3 → kf (ntO n) = (30, n) := by decide +kernel
theorem Z_antO : ∀ n, n < 3 → ∀ k, k < 36 → m_isI (m_get hz (ntO n) 20 k) = true := by decide +kernel
theorem A_ntO {n : Nat} (hn : n < 3) {x : Int} (h0 : 0 ≤ x) (h1 : x < 36) : m_age (mk S e) (ntO n) 20 x = some (vI (S 30 n x.toNat)) := aI (Z_antO _ hn) (K_antO _ hn) (by decide) h0 h1
theorem B_ntO {n : Nat} (hn : n < 3) {x a : Int} (h0 : 0 ≤ x) (h1 : x < 36) : m_set (mk S e) (ntO n) x.toNat (vI a) = mk (up S 30 n x.toNat a) e := tI 20 (Z_antO _ hn) (K_antO _ hn) (by decide) h0 h1
theorem T_antR {n : Nat} (hn : n < 3) : m_tag (mk S e) (ntR n) = some 35 := gT ((by decide +kernel : ∀ n, n < 3 → m_tag hz (ntR n) = some 35) _ hn)
theorem Z_antR : ∀ n, n < 3 → ∀ k, k < 6 → m_rf (m_get hz (ntR n) 35 k) = (ru n k) + 1 := by decide +kernel
theorem A_ntR {n : Nat} (hn : n < 3) {x : Int} (h0 : 0 ≤ x) (h1 : x < 6) : m_age (mk S e) (ntR n) 35 x = some (vR (ru n x.toNat)) := aR (f := fun k => (ru n k)) (Z_antR _ hn) h0 h1
theorem T_antW {n : Nat} (hn : n < 3) : m_tag (mk S e) (ntW n) = some 38 := gT ((by decide +kernel : ∀ n, n < 3 → m_tag hz (ntW n) = some 38) _ hn)
theorem Z_antW : ∀ n, n < 3 → ∀ k, k < 10 → m_rf (m_get hz (ntW n) 38 k) = (wg n k) + 1 := by decide +kernel
theorem A_ntW {n : Nat} (hn : n < 3) {x : Int} (h0 : 0 ≤ x) (h1 : x < 10) : m_age (mk S e) (ntW n) 38 x = some (vR (wg n x.toNat)) := aR (f := fun k => (wg n k)) (Z_antW _ hn) h0 h1
theorem T_aruA0 {n : Nat} {i : Nat} (hn : n < 3) (hi : i < 6) : m_tag (mk S e) (ruA0 n i) = some 20 := gT ((by decide +kernel : ∀ n, n < 3 → ∀ i, i < 6 → m_tag hz (ruA0 n i) = some 20) _ hn _ hi)
theorem L_aruA0 {n : Nat} {i : Nat} (hn : n < 3) (hi : i < 6) : m_len (mk S e) (ruA0 n i) = some 10 := gL ((by decide +kernel : ∀ n, n < 3 → ∀ i, i < 6 → m_len hz (ruA0 n i) = some 10) _ hn _ hi)
theorem K_aruA0 : ∀ n, n < 3 → ∀ i, i < 6 → kf (ruA0 n i) = (31, (6 * n + i)) := by decide +kernel
theorem Z_aruA0 : ∀ n, n < 3 → ∀ i, i < 6 → ∀ k, k < 10 → m_isI (m_get hz (ruA0 n i) 20 k) = true := by decide +kernel
theorem A_ruA0 {n : Nat} {i : Nat} (hn : n < 3) (hi : i < 6) {x : Int} (h0 : 0 ≤ x) (h1 : x < 10) : m_age (mk S e) (ruA0 n i) 20 x = some (vI (S 31 (6 * n + i) x.toNat)) := aI (Z_aruA0 _ hn _ hi) (K_aruA0 _ hn _ hi) (by decide) h0 h1
theorem B_ruA0 {n : Nat} {i : Nat} (hn : n < 3) (hi : i < 6) {x a : Int} (h0 : 0 ≤ x) (h1 : x < 10) : m_set (mk S e) (ruA0 n i) x.toNat (vI a) = mk (up S 31 (6 * n + i) x.toNat a) e := tI 20 (Z_aruA0 _ hn _ hi) (K_aruA0 _ hn _ hi) (by decide) h0 h1
theorem T_aruA1 {n : Nat} {i : Nat} (hn : n < 3) (hi : i < 6) : m_tag (mk S e) (ruA1 n i) = some 20 := gT ((by decide +kernel : ∀ n, n < 3 → ∀ i, i < 6 → m_tag hz (ruA1 n i) = some 20) _ hn _ hi)
theorem L_aruA1 {n : Nat} {i : Nat} (hn : n < 3) (hi : i < 6) : m_len (mk S e) (ruA1 n i) = some 6 := gL ((by decide +kernel : ∀ n, n < 3 → ∀ i, i < 6 → m_len hz (ruA1 n i) = some 6) _ hn _ hi)
theorem K_aruA1 : ∀ n, n < 3 → ∀ i, i < 6 → kf (ruA1 n i) = (32, (6 * n + i)) := by decide +kernel
theorem Z_aruA1 : ∀ n, n < 3 → ∀ i, i < 6 → ∀ k, k < 6 → m_isI (m_get hz (ruA1 n i) 20 k) = true := by decide +kernel
theorem A_ruA1 {n : Nat} {i : Nat} (hn : n < 3) (hi : i < 6) {x : Int} (h0 : 0 ≤ x) (h1 : x < 6) : m_age (mk S e) (ruA1 n i) 20 x = some (vI (S 32 (6 * n + i) x.toNat)) := aI (Z_aruA1 _ hn _ hi) (K_aruA1 _ hn _ hi) (by decide) h0 h1
theorem B_ruA1 {n : Nat} {i : Nat} (hn : n < 3) (hi : i < 6) {x a : Int} (h0 : 0 ≤ x) (h1 : x < 6) : m_set (mk S e) (ruA1 n i) x.toNat (vI a) = mk (up S 32 (6 * n + i) x.toNat a) e := tI 20 (Z_aruA1 _ hn _ hi) (K_aruA1 _ hn _ hi) (by decide) h0 h1
theorem T_aruA2 {n : Nat} {i : Nat} (hn : n < 3) (hi : i < 6) : m_tag (mk S e) (ruA2 n i) = some 20 := gT ((by decide +kernel : ∀ n, n < 3 → ∀ i, i < 6 → m_tag hz (ruA2 n i) = some 20) _ hn _ hi)
theorem L_aruA2 {n : Nat} {i : Nat} (hn : n < 3) (hi : i < 6) : m_len (mk S e) (ruA2 n i) = some 6 := gL ((by decide +kernel : ∀ n, n < 3 → ∀ i, i < 6 → m_len hz (ruA2 n i) = some 6) _ hn _ hi)
theorem K_aruA2 : ∀ n, n < 3 → ∀ i, i < 6 → kf (ruA2 n i) = (33, (6 * n + i)) := by decide +kernel
theorem Z_aruA2 : ∀ n, n < 3 → ∀ i, i < 6 → ∀ k, k < 6 → m_isI (m_get hz (ruA2 n i) 20 k) = true := by decide +kernel
theorem A_ruA2 {n : Nat} {i : Nat} (hn : n < 3) (hi : i < 6) {x : Int} (h0 : 0 ≤ x) (h1 : x < 6) : m_age (mk S e) (ruA2 n i) 20 x = some (vI (S 33 (6 * n + i) x.toNat)) := aI (Z_aruA2 _ hn _ hi) (K_aruA2 _ hn _ hi) (by decide) h0 h1
theorem B_ruA2 {n : Nat} {i : Nat} (hn : n < 3) (hi : i < 6) {x a : Int} (h0 : 0 ≤ x) (h1 : x < 6) : m_set (mk S e) (ruA2 n i) x.toNat (vI a) = mk (up S 33 (6 * n + i) x.toNat a) e := tI 20 (Z_aruA2 _ hn _ hi) (K_aruA2 _ hn _ hi) (by decide) h0 h1
theorem T_aruA3 {n : Nat} {i : Nat} (hn : n < 3) (hi : i < 6) : m_tag (mk S e) (ruA3 n i) = some 20 := gT ((by decide +kernel : ∀ n, n < 3 → ∀ i, i < 6 → m_tag hz (ruA3 n i) = some 20) _ hn _ hi)
theorem L_aruA3 {n : Nat} {i : Nat} (hn : n < 3) (hi : i < 6) : m_len (mk S e) (ruA3 n i) = some 60 := gL ((by decide +kernel : ∀ n, n < 3 → ∀ i, i < 6 → m_len hz (ruA3 n i) = some 60) _ hn _ hi)
theorem K_aruA3 : ∀ n, n < 3 → ∀ i, i < 6 → kf (ruA3 n i) = (34, (6 * n + i)) := by decide +kernel
theorem Z_aruA3 : ∀ n, n < 3 → ∀ i, i < 6 → ∀ k, k < 60 → m_isI (m_get hz (ruA3 n i) 20 k) = true := by decide +kernel
theorem A_ruA3 {n : Nat} {i : Nat} (hn : n < 3) (hi : i < 6) {x : Int} (h0 : 0 ≤ x) (h1 : x < 60) : m_age (mk S e) (ruA3 n i) 20 x = some (vI (S 34 (6 * n + i) x.toNat)) := aI (Z_aruA3 _ hn _ hi) (K_aruA3 _ hn _ hi) (by decide) h0 h1
theorem B_ruA3 {n : Nat} {i : Nat} (hn : n < 3) (hi : i < 6) {x a : Int} (h0 : 0 ≤ x) (h1 : x < 60) : m_set (mk S e) (ruA3 n i) x.toNat (vI a) = mk (up S 34 (6 * n + i) x.toNat a) e := tI 20 (Z_aruA3 _ hn _ hi) (K_aruA3 _ hn _ hi) (by decide) h0 h1
theorem T_aruA4 {n : Nat} {i : Nat} (hn : n < 3) (hi : i < 6) : m_tag (mk S e) (ruA4 n i) = some 22 := gT ((by decide +kernel : ∀ n, n < 3 → ∀ i, i < 6 → m_tag hz (ruA4 n i) = some 22) _ hn _ hi)
theorem L_aruA4 {n : Nat} {i : Nat} (hn : n < 3) (hi : i < 6) : m_len (mk S e) (ruA4 n i) = some 6 := gL ((by decide +kernel : ∀ n, n < 3 → ∀ i, i < 6 → m_len hz (ruA4 n i) = some 6) _ hn _ hi)
theorem K_aruA4 : ∀ n, n < 3 → ∀ i, i < 6 → kf (ruA4 n i) = (35, (6 * n + i)) := by decide +kernel
theorem Z_aruA4 : ∀ n, n < 3 → ∀ i, i < 6 → ∀ k, k < 6 → m_isF (m_get hz (ruA4 n i) 22 k) = true := by decide +kernel
theorem A_ruA4 {n : Nat} {i : Nat} (hn : n < 3) (hi : i < 6) {x : Int} (h0 : 0 ≤ x) (h1 : x < 6) : m_age (mk S e) (ruA4 n i) 22 x = some (vF (UInt32.ofNat (S 35 (6 * n + i) x.toNat).toNat)) := aF (Z_aruA4 _ hn _ hi) (K_aruA4 _ hn _ hi) (by decide) h0 h1
theorem B_ruA4 {n : Nat} {i : Nat} (hn : n < 3) (hi : i < 6) {x : Int} {b : UInt32} (h0 : 0 ≤ x) (h1 : x < 6) : m_set (mk S e) (ruA4 n i) x.toNat (vF b) = mk (up S 35 (6 * n + i) x.toNat (b.toNat : Int)) e := tFl 22 (Z_aruA4 _ hn _ hi) (K_aruA4 _ hn _ hi) (by decide) h0 h1
theorem T_atrA0 {i : Nat} (hi : i < 6) : m_tag (mk S e) (trA0 i) = some 20 := gT ((by decide +kernel : ∀ i, i < 6 → m_tag hz (trA0 i) = some 20) _ hi)
theorem L_atrA0 {i : Nat} (hi : i < 6) : m_len (mk S e) (trA0 i) = some 6 := gL ((by decide +kernel : ∀ i, i < 6 → m_len hz (trA0 i) = some 6) _ hi)
theorem K_atrA0 : ∀ i, i < 6 → kf (trA0 i) = (10, i) := by decide +kernel
theorem Z_atrA0 : ∀ i, i < 6 → ∀ k, k < 6 → m_isI (m_get hz (trA0 i) 20 k) = true := by decide +kernel
theorem A_trA0 {i : Nat} (hi : i < 6) {x : Int} (h0 : 0 ≤ x) (h1 : x < 6) : m_age (mk S e) (trA0 i) 20 x = some (vI (S 10 i x.toNat)) := aI (Z_atrA0 _ hi) (K_atrA0 _ hi) (by decide) h0 h1
theorem B_trA0 {i : Nat} (hi : i < 6) {x a : Int} (h0 : 0 ≤ x) (h1 : x < 6) : m_set (mk S e) (trA0 i) x.toNat (vI a) = mk (up S 10 i x.toNat a) e := tI 20 (Z_atrA0 _ hi) (K_atrA0 _ hi) (by decide) h0 h1
theorem T_atrA1 {i : Nat} (hi : i < 6) : m_tag (mk S e) (trA1 i) = some 20 := gT ((by decide +kernel : ∀ i, i < 6 → m_tag hz (trA1 i) = some 20) _ hi)
theorem L_atrA1 {i : Nat} (hi : i < 6) : m_len (mk S e) (trA1 i) = some 6 := gL ((by decide +kernel : ∀ i, i < 6 → m_len hz (trA1 i) = some 6) _ hi)
theorem K_atrA1 : ∀ i, i < 6 → kf (trA1 i) = (11, i) := by decide +kernel
theorem Z_atrA1 : ∀ i, i < 6 → ∀ k, k < 6 → m_isI (m_get hz (trA1 i) 20 k) = true := by decide +kernel
theorem A_trA1 {i : Nat} (hi : i < 6) {x : Int} (h0 : 0 ≤ x) (h1 : x < 6) : m_age (mk S e) (trA1 i) 20 x = some (vI (S 11 i x.toNat)) := aI (Z_atrA1 _ hi) (K_atrA1 _ hi) (by decide) h0 h1
theorem B_trA1 {i : Nat} (hi : i < 6) {x a : Int} (h0 : 0 ≤ x) (h1 : x < 6) : m_set (mk S e) (trA1 i) x.toNat (vI a) = mk (up S 11 i x.toNat a) e := tI 20 (Z_atrA1 _ hi) (K_atrA1 _ hi) (by decide) h0 h1
theorem T_atrA2 {i : Nat} (hi : i < 6) : m_tag (mk S e) (trA2 i) = some 20 := gT ((by decide +kernel : ∀ i, i < 6 → m_tag hz (trA2 i) = some 20) _ hi)
theorem L_atrA2 {i : Nat} (hi : i < 6) : m_len (mk S e) (trA2 i) = some 6 := gL ((by decide +kernel : ∀ i, i < 6 → m_len hz (trA2 i) = some 6) _ hi)
theorem K_atrA2 : ∀ i, i < 6 → kf (trA2 i) = (12, i) := by decide +kernel
theorem Z_atrA2 : ∀ i, i < 6 → ∀ k, k < 6 → m_isI (m_get hz (trA2 i) 20 k) = true := by decide +kernel
theorem A_trA2 {i : Nat} (hi : i < 6) {x : Int} (h0 : 0 ≤ x) (h1 : x < 6) : m_age (mk S e) (trA2 i) 20 x = some (vI (S 12 i x.toNat)) := aI (Z_atrA2 _ hi) (K_atrA2 _ hi) (by decide) h0 h1
theorem B_trA2 {i : Nat} (hi : i < 6) {x a : Int} (h0 : 0 ≤ x) (h1 : x < 6) : m_set (mk S e) (trA2 i) x.toNat (vI a) = mk (up S 12 i x.toNat a) e := tI 20 (Z_atrA2 _ hi) (K_atrA2 _ hi) (by decide) h0 h1
theorem T_atrA3 {i : Nat} (hi : i < 6) : m_tag (mk S e) (trA3 i) = some 20 := gT ((by decide +kernel : ∀ i, i < 6 → m_tag hz (trA3 i) = some 20) _ hi)
theorem L_atrA3 {i : Nat} (hi : i < 6) : m_len (mk S e) (trA3 i) = some 6 := gL ((by decide +kernel : ∀ i, i < 6 → m_len hz (trA3 i) = some 6) _ hi)
theorem K_atrA3 : ∀ i, i < 6 → kf (trA3 i) = (13, i) := by decide +kernel
theorem Z_atrA3 : ∀ i, i < 6 → ∀ k, k < 6 → m_isI (m_get hz (trA3 i) 20 k) = true := by decide +kernel
theorem A_trA3 {i : Nat} (hi : i < 6) {x : Int} (h0 : 0 ≤ x) (h1 : x < 6) : m_age (mk S e) (trA3 i) 20 x = some (vI (S 13 i x.toNat)) := aI (Z_atrA3 _ hi) (K_atrA3 _ hi) (by decide) h0 h1
theorem B_trA3 {i : Nat} (hi : i < 6) {x a : Int} (h0 : 0 ≤ x) (h1 : x < 6) : m_set (mk S e) (trA3 i) x.toNat (vI a) = mk (up S 13 i x.toNat a) e := tI 20 (Z_atrA3 _ hi) (K_atrA3 _ hi) (by decide) h0 h1
theorem T_atrA4 {i : Nat} (hi : i < 6) : m_tag (mk S e) (trA4 i) = some 20 := gT ((by decide +kernel : ∀ i, i < 6 → m_tag hz (trA4 i) = some 20) _ hi)
theorem L_atrA4 {i : Nat} (hi : i < 6) : m_len (mk S e) (trA4 i) = some 6 := gL ((by decide +kernel : ∀ i, i < 6 → m_len hz (trA4 i) = some 6) _ hi)
theorem K_atrA4 : ∀ i, i < 6 → kf (trA4 i) = (14, i) := by decide +kernel
theorem Z_atrA4 : ∀ i, i < 6 → ∀ k, k < 6 → m_isI (m_get hz (trA4 i) 20 k) = true := by decide +kernel
theorem A_trA4 {i : Nat} (hi : i < 6) {x : Int} (h0 : 0 ≤ x) (h1 : x < 6) : m_age (mk S e) (trA4 i) 20 x = some (vI (S 14 i x.toNat)) := aI (Z_atrA4 _ hi) (K_atrA4 _ hi) (by decide) h0 h1
theorem B_trA4 {i : Nat} (hi : i < 6) {x a : Int} (h0 : 0 ≤ x) (h1 : x < 6) : m_set (mk S e) (trA4 i) x.toNat (vI a) = mk (up S 14 i x.toNat a) e := tI 20 (Z_atrA4 _ hi) (K_atrA4 _ hi) (by decide) h0 h1
theorem T_atrA5 {i : Nat} (hi : i < 6) : m_tag (mk S e) (trA5 i) = some 20 := gT ((by decide +kernel : ∀ i, i < 6 → m_tag hz (trA5 i) = some 20) _ hi)
theorem L_atrA5 {i : Nat} (hi : i < 6) : m_len (mk S e) (trA5 i) = some 6 := gL ((by decide +kernel : ∀ i, i < 6 → m_len hz (trA5 i) = some 6) _ hi)
theorem K_atrA5 : ∀ i, i < 6 → kf (trA5 i) = (15, i) := by decide +kernel
theorem Z_atrA5 : ∀ i, i < 6 → ∀ k, k < 6 → m_isI (m_get hz (trA5 i) 20 k) = true := by decide +kernel
theorem A_trA5 {i : Nat} (hi : i < 6) {x : Int} (h0 : 0 ≤ x) (h1 : x < 6) : m_age (mk S e) (trA5 i) 20 x = some (vI (S 15 i x.toNat)) := aI (Z_atrA5 _ hi) (K_atrA5 _ hi) (by decide) h0 h1
theorem B_trA5 {i : Nat} (hi : i < 6) {x a : Int} (h0 : 0 ≤ x) (h1 : x < 6) : m_set (mk S e) (trA5 i) x.toNat (vI a) = mk (up S 15 i x.toNat a) e := tI 20 (Z_atrA5 _ hi) (K_atrA5 _ hi) (by decide) h0 h1
theorem T_atrA6 {i : Nat} (hi : i < 6) : m_tag (mk S e) (trA6 i) = some 20 := gT ((by decide +kernel : ∀ i, i < 6 → m_tag hz (trA6 i) = some 20) _ hi)
theorem L_atrA6 {i : Nat} (hi : i < 6) : m_len (mk S e) (trA6 i) = some 10 := gL ((by decide +kernel : ∀ i, i < 6 → m_len hz (trA6 i) = some 10) _ hi)
theorem K_atrA6 : ∀ i, i < 6 → kf (trA6 i) = (16, i) := by decide +kernel
theorem Z_atrA6 : ∀ i, i < 6 → ∀ k, k < 10 → m_isI (m_get hz (trA6 i) 20 k) = true := by decide +kernel
theorem A_trA6 {i : Nat} (hi : i < 6) {x : Int} (h0 : 0 ≤ x) (h1 : x < 10) : m_age (mk S e) (trA6 i) 20 x = some (vI (S 16 i x.toNat)) := aI (Z_atrA6 _ hi) (K_atrA6 _ hi) (by decide) h0 h1
theorem B_trA6 {i : Nat} (hi : i < 6) {x a : Int} (h0 : 0 ≤ x) (h1 : x < 10) : m_set (mk S e) (trA6 i) x.toNat (vI a) = mk (up S 16 i x.toNat a) e := tI 20 (Z_atrA6 _ hi) (K_atrA6 _ hi) (by decide) h0 h1
theorem A_341 : m_age (mk S e) 341 23 0 = some (vL (Int64.ofInt (S 98 0 0))) := by
  unfold m_age
  rw [if_pos (by decide), m_get_mk, show m_get hz 341 23 (0 : Int).toNat = some (vL 0) from rfl]
  simp only [Option.map_some, hq, sg, show kf 341 = (98, 0) from by decide +kernel]
  rfl
theorem B_341 {b : Int64} : m_set (mk S e) 341 (0 : Int).toNat (vL b) = mk (up S 98 0 0 b.toInt) e :=
  m_set_mk (t := 23) (q := vL 0) rfl (by simp only [hq, Int64.ofInt_toInt]) (by decide +kernel) (by decide +kernel) (by decide)
theorem A_342 : m_age (mk S e) 342 24 0 = some (vD (UInt64.ofNat (S 99 0 0).toNat)) := by
  unfold m_age
  rw [if_pos (by decide), m_get_mk, show m_get hz 342 24 (0 : Int).toNat = some (vD 0) from rfl]
  simp only [Option.map_some, hq, sg, show kf 342 = (99, 0) from by decide +kernel]
  rfl
theorem B_342 {b : UInt64} : m_set (mk S e) 342 (0 : Int).toNat (vD b) = mk (up S 99 0 0 (b.toNat : Int)) e :=
  m_set_mk (t := 24) (q := vD 0) rfl (by simp only [hq, Int.toNat_natCast, UInt64.ofNat_toNat]) (by decide +kernel) (by decide +kernel) (by decide)
end W
end
