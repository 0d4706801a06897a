-- ===== PART A: goes FIRST, ahead of the names: the tables' words, and 'selects' of the private methods out of them =====
/-- a private method of a class that the tables say can be made, by its rows of tables_1 -/
def lw_okq (q : MethodName × Nat) : Prop := (q.1.cls ≠ "java/lang/invoke/MethodHandle" ∧ q.1.cls ≠ "java/lang/invoke/VarHandle") ∧ Cond.instantiable q.1.cls q.2 ∈ tables_1 ∧ Cond.privateMethod q.1 ∈ tables_1 ∧ Cond.instanceMethod q.1 ∈ tables_1
theorem lw_p0 : lw_okq (⟨"CelHouse", "filmLength", "()I"⟩, 18) := ⟨⟨by decide +kernel, by decide +kernel⟩, List.mem_of_getElem? (i := 19) (by decide +kernel), List.mem_of_getElem? (i := 132) (by decide +kernel), List.mem_of_getElem? (i := 133) (by decide +kernel)⟩
theorem lw_p1 : lw_okq (⟨"CelHouse", "needRoomForDrawing", "()V"⟩, 18) := ⟨⟨by decide +kernel, by decide +kernel⟩, List.mem_of_getElem? (i := 19) (by decide +kernel), List.mem_of_getElem? (i := 144) (by decide +kernel), List.mem_of_getElem? (i := 145) (by decide +kernel)⟩
theorem lw_p2 : lw_okq (⟨"java/lang/Throwable", "fillInStackTrace", "(I)Ljava/lang/Throwable;"⟩, 6) := ⟨⟨by decide +kernel, by decide +kernel⟩, List.mem_of_getElem? (i := 186) (by decide +kernel), List.mem_of_getElem? (i := 184) (by decide +kernel), List.mem_of_getElem? (i := 185) (by decide +kernel)⟩
theorem lw_p3 : lw_okq (⟨"CelHouse", "needDrawing", "(I)V"⟩, 18) := ⟨⟨by decide +kernel, by decide +kernel⟩, List.mem_of_getElem? (i := 19) (by decide +kernel), List.mem_of_getElem? (i := 322) (by decide +kernel), List.mem_of_getElem? (i := 323) (by decide +kernel)⟩
theorem lw_p4 : lw_okq (⟨"CelHouse", "needChangeable", "(I)V"⟩, 18) := ⟨⟨by decide +kernel, by decide +kernel⟩, List.mem_of_getElem? (i := 19) (by decide +kernel), List.mem_of_getElem? (i := 406) (by decide +kernel), List.mem_of_getElem? (i := 407) (by decide +kernel)⟩
theorem lw_p5 : lw_okq (⟨"CelHouse", "letAllFollow", "(I)V"⟩, 18) := ⟨⟨by decide +kernel, by decide +kernel⟩, List.mem_of_getElem? (i := 19) (by decide +kernel), List.mem_of_getElem? (i := 420) (by decide +kernel), List.mem_of_getElem? (i := 421) (by decide +kernel)⟩
theorem lw_p6 : lw_okq (⟨"CelHouse", "framesHangingOn", "(I)I"⟩, 18) := ⟨⟨by decide +kernel, by decide +kernel⟩, List.mem_of_getElem? (i := 19) (by decide +kernel), List.mem_of_getElem? (i := 473) (by decide +kernel), List.mem_of_getElem? (i := 474) (by decide +kernel)⟩
theorem lw_p7 : lw_okq (⟨"CelHouse", "frameHangsOn", "(LCelHouse$Scene;II)Z"⟩, 18) := ⟨⟨by decide +kernel, by decide +kernel⟩, List.mem_of_getElem? (i := 19) (by decide +kernel), List.mem_of_getElem? (i := 477) (by decide +kernel), List.mem_of_getElem? (i := 478) (by decide +kernel)⟩
theorem lw_p8 : lw_okq (⟨"CelHouse", "drawingAt", "(LCelHouse$Scene;II)I"⟩, 18) := ⟨⟨by decide +kernel, by decide +kernel⟩, List.mem_of_getElem? (i := 19) (by decide +kernel), List.mem_of_getElem? (i := 481) (by decide +kernel), List.mem_of_getElem? (i := 482) (by decide +kernel)⟩
theorem lw_p9 : lw_okq (⟨"CelHouse", "needScene", "(I)V"⟩, 18) := ⟨⟨by decide +kernel, by decide +kernel⟩, List.mem_of_getElem? (i := 19) (by decide +kernel), List.mem_of_getElem? (i := 567) (by decide +kernel), List.mem_of_getElem? (i := 568) (by decide +kernel)⟩
theorem lw_p10 : lw_okq (⟨"CelHouse", "needFrame", "(II)V"⟩, 18) := ⟨⟨by decide +kernel, by decide +kernel⟩, List.mem_of_getElem? (i := 19) (by decide +kernel), List.mem_of_getElem? (i := 576) (by decide +kernel), List.mem_of_getElem? (i := 577) (by decide +kernel)⟩
theorem lw_p11 : lw_okq (⟨"CelHouse", "needPeg", "(I)V"⟩, 18) := ⟨⟨by decide +kernel, by decide +kernel⟩, List.mem_of_getElem? (i := 19) (by decide +kernel), List.mem_of_getElem? (i := 614) (by decide +kernel), List.mem_of_getElem? (i := 615) (by decide +kernel)⟩
theorem lw_p12 : lw_okq (⟨"CelHouse", "compose", "(LCelHouse$Scene;I)V"⟩, 18) := ⟨⟨by decide +kernel, by decide +kernel⟩, List.mem_of_getElem? (i := 19) (by decide +kernel), List.mem_of_getElem? (i := 672) (by decide +kernel), List.mem_of_getElem? (i := 673) (by decide +kernel)⟩
theorem lw_p13 : lw_okq (⟨"CelHouse", "pictureOf", "(LCelHouse$Drawing;)LCelHouse$Picture;"⟩, 18) := ⟨⟨by decide +kernel, by decide +kernel⟩, List.mem_of_getElem? (i := 19) (by decide +kernel), List.mem_of_getElem? (i := 700) (by decide +kernel), List.mem_of_getElem? (i := 701) (by decide +kernel)⟩
theorem lw_p14 : lw_okq (⟨"CelHouse", "layOver", "(LCelHouse$Picture;III)V"⟩, 18) := ⟨⟨by decide +kernel, by decide +kernel⟩, List.mem_of_getElem? (i := 19) (by decide +kernel), List.mem_of_getElem? (i := 752) (by decide +kernel), List.mem_of_getElem? (i := 753) (by decide +kernel)⟩
theorem lw_p15 : lw_okq (⟨"CelHouse", "plainPoint", "(LCelHouse$Drawing;II)I"⟩, 18) := ⟨⟨by decide +kernel, by decide +kernel⟩, List.mem_of_getElem? (i := 19) (by decide +kernel), List.mem_of_getElem? (i := 837) (by decide +kernel), List.mem_of_getElem? (i := 838) (by decide +kernel)⟩
def lw_privs_1 : List (MethodName × Nat) := [(⟨"CelHouse", "filmLength", "()I"⟩, 18), (⟨"CelHouse", "needRoomForDrawing", "()V"⟩, 18), (⟨"java/lang/Throwable", "fillInStackTrace", "(I)Ljava/lang/Throwable;"⟩, 6), (⟨"CelHouse", "needDrawing", "(I)V"⟩, 18), (⟨"CelHouse", "needChangeable", "(I)V"⟩, 18), (⟨"CelHouse", "letAllFollow", "(I)V"⟩, 18), (⟨"CelHouse", "framesHangingOn", "(I)I"⟩, 18), (⟨"CelHouse", "frameHangsOn", "(LCelHouse$Scene;II)Z"⟩, 18), (⟨"CelHouse", "drawingAt", "(LCelHouse$Scene;II)I"⟩, 18), (⟨"CelHouse", "needScene", "(I)V"⟩, 18), (⟨"CelHouse", "needFrame", "(II)V"⟩, 18), (⟨"CelHouse", "needPeg", "(I)V"⟩, 18), (⟨"CelHouse", "compose", "(LCelHouse$Scene;I)V"⟩, 18), (⟨"CelHouse", "pictureOf", "(LCelHouse$Drawing;)LCelHouse$Picture;"⟩, 18), (⟨"CelHouse", "layOver", "(LCelHouse$Picture;III)V"⟩, 18), (⟨"CelHouse", "plainPoint", "(LCelHouse$Drawing;II)I"⟩, 18)]
theorem lw_r1 : ∀ q ∈ lw_privs_1, lw_okq q := List.forall_mem_cons.mpr ⟨lw_p0, List.forall_mem_cons.mpr ⟨lw_p1, List.forall_mem_cons.mpr ⟨lw_p2, List.forall_mem_cons.mpr ⟨lw_p3, List.forall_mem_cons.mpr ⟨lw_p4, List.forall_mem_cons.mpr ⟨lw_p5, List.forall_mem_cons.mpr ⟨lw_p6, List.forall_mem_cons.mpr ⟨lw_p7, List.forall_mem_cons.mpr ⟨lw_p8, List.forall_mem_cons.mpr ⟨lw_p9, List.forall_mem_cons.mpr ⟨lw_p10, List.forall_mem_cons.mpr ⟨lw_p11, List.forall_mem_cons.mpr ⟨lw_p12, List.forall_mem_cons.mpr ⟨lw_p13, List.forall_mem_cons.mpr ⟨lw_p14, List.forall_mem_cons.mpr ⟨lw_p15, fun _ h => absurd h List.not_mem_nil⟩⟩⟩⟩⟩⟩⟩⟩⟩⟩⟩⟩⟩⟩⟩⟩
theorem lw_p16 : lw_okq (⟨"CelHouse", "hasEmptyDrawing", "(LCelHouse$Scene;I)Z"⟩, 18) := ⟨⟨by decide +kernel, by decide +kernel⟩, List.mem_of_getElem? (i := 19) (by decide +kernel), List.mem_of_getElem? (i := 875) (by decide +kernel), List.mem_of_getElem? (i := 876) (by decide +kernel)⟩
theorem lw_p17 : lw_okq (⟨"CelHouse", "hasFlash", "(LCelHouse$Scene;I)Z"⟩, 18) := ⟨⟨by decide +kernel, by decide +kernel⟩, List.mem_of_getElem? (i := 19) (by decide +kernel), List.mem_of_getElem? (i := 879) (by decide +kernel), List.mem_of_getElem? (i := 880) (by decide +kernel)⟩
theorem lw_p18 : lw_okq (⟨"CelHouse", "isComposedEmpty", "()Z"⟩, 18) := ⟨⟨by decide +kernel, by decide +kernel⟩, List.mem_of_getElem? (i := 19) (by decide +kernel), List.mem_of_getElem? (i := 883) (by decide +kernel), List.mem_of_getElem? (i := 884) (by decide +kernel)⟩
theorem lw_p19 : lw_okq (⟨"CelHouse", "firstFree", "()I"⟩, 18) := ⟨⟨by decide +kernel, by decide +kernel⟩, List.mem_of_getElem? (i := 19) (by decide +kernel), List.mem_of_getElem? (i := 895) (by decide +kernel), List.mem_of_getElem? (i := 896) (by decide +kernel)⟩
theorem lw_p20 : lw_okq (⟨"CelHouseModel", "asked", "(Z)Z"⟩, 46) := ⟨⟨by decide +kernel, by decide +kernel⟩, List.mem_of_getElem? (i := 908) (by decide +kernel), List.mem_of_getElem? (i := 1061) (by decide +kernel), List.mem_of_getElem? (i := 1062) (by decide +kernel)⟩
theorem lw_p21 : lw_okq (⟨"CelHouseModel", "makes", "(IIII)I"⟩, 46) := ⟨⟨by decide +kernel, by decide +kernel⟩, List.mem_of_getElem? (i := 908) (by decide +kernel), List.mem_of_getElem? (i := 1065) (by decide +kernel), List.mem_of_getElem? (i := 1066) (by decide +kernel)⟩
theorem lw_p22 : lw_okq (⟨"CelHouseModel", "isDrawing", "(I)Z"⟩, 46) := ⟨⟨by decide +kernel, by decide +kernel⟩, List.mem_of_getElem? (i := 908) (by decide +kernel), List.mem_of_getElem? (i := 1073) (by decide +kernel), List.mem_of_getElem? (i := 1074) (by decide +kernel)⟩
theorem lw_p23 : lw_okq (⟨"CelHouseModel", "asked", "(ZZZ)Z"⟩, 46) := ⟨⟨by decide +kernel, by decide +kernel⟩, List.mem_of_getElem? (i := 908) (by decide +kernel), List.mem_of_getElem? (i := 1080) (by decide +kernel), List.mem_of_getElem? (i := 1081) (by decide +kernel)⟩
theorem lw_p24 : lw_okq (⟨"CelHouseModel", "isOpen", "(I)Z"⟩, 46) := ⟨⟨by decide +kernel, by decide +kernel⟩, List.mem_of_getElem? (i := 908) (by decide +kernel), List.mem_of_getElem? (i := 1091) (by decide +kernel), List.mem_of_getElem? (i := 1092) (by decide +kernel)⟩
theorem lw_p25 : lw_okq (⟨"CelHouseModel", "strokeOf", "(II)I"⟩, 46) := ⟨⟨by decide +kernel, by decide +kernel⟩, List.mem_of_getElem? (i := 908) (by decide +kernel), List.mem_of_getElem? (i := 1095) (by decide +kernel), List.mem_of_getElem? (i := 1096) (by decide +kernel)⟩
theorem lw_p26 : lw_okq (⟨"CelHouseModel", "asked", "(ZZ)Z"⟩, 46) := ⟨⟨by decide +kernel, by decide +kernel⟩, List.mem_of_getElem? (i := 908) (by decide +kernel), List.mem_of_getElem? (i := 1111) (by decide +kernel), List.mem_of_getElem? (i := 1112) (by decide +kernel)⟩
theorem lw_p27 : lw_okq (⟨"CelHouseModel", "isLevel", "(II)Z"⟩, 46) := ⟨⟨by decide +kernel, by decide +kernel⟩, List.mem_of_getElem? (i := 908) (by decide +kernel), List.mem_of_getElem? (i := 1131) (by decide +kernel), List.mem_of_getElem? (i := 1132) (by decide +kernel)⟩
theorem lw_p28 : lw_okq (⟨"CelHouseModel", "isScene", "(I)Z"⟩, 46) := ⟨⟨by decide +kernel, by decide +kernel⟩, List.mem_of_getElem? (i := 908) (by decide +kernel), List.mem_of_getElem? (i := 1135) (by decide +kernel), List.mem_of_getElem? (i := 1136) (by decide +kernel)⟩
theorem lw_p29 : lw_okq (⟨"CelHouseModel", "isFrame", "(II)Z"⟩, 46) := ⟨⟨by decide +kernel, by decide +kernel⟩, List.mem_of_getElem? (i := 908) (by decide +kernel), List.mem_of_getElem? (i := 1139) (by decide +kernel), List.mem_of_getElem? (i := 1140) (by decide +kernel)⟩
theorem lw_p30 : lw_okq (⟨"CelHouseModel", "soundAt", "(II)I"⟩, 46) := ⟨⟨by decide +kernel, by decide +kernel⟩, List.mem_of_getElem? (i := 908) (by decide +kernel), List.mem_of_getElem? (i := 1147) (by decide +kernel), List.mem_of_getElem? (i := 1148) (by decide +kernel)⟩
theorem lw_p31 : lw_okq (⟨"CelHouseModel", "lays", "()V"⟩, 46) := ⟨⟨by decide +kernel, by decide +kernel⟩, List.mem_of_getElem? (i := 908) (by decide +kernel), List.mem_of_getElem? (i := 1175) (by decide +kernel), List.mem_of_getElem? (i := 1176) (by decide +kernel)⟩
def lw_privs_2 : List (MethodName × Nat) := [(⟨"CelHouse", "hasEmptyDrawing", "(LCelHouse$Scene;I)Z"⟩, 18), (⟨"CelHouse", "hasFlash", "(LCelHouse$Scene;I)Z"⟩, 18), (⟨"CelHouse", "isComposedEmpty", "()Z"⟩, 18), (⟨"CelHouse", "firstFree", "()I"⟩, 18), (⟨"CelHouseModel", "asked", "(Z)Z"⟩, 46), (⟨"CelHouseModel", "makes", "(IIII)I"⟩, 46), (⟨"CelHouseModel", "isDrawing", "(I)Z"⟩, 46), (⟨"CelHouseModel", "asked", "(ZZZ)Z"⟩, 46), (⟨"CelHouseModel", "isOpen", "(I)Z"⟩, 46), (⟨"CelHouseModel", "strokeOf", "(II)I"⟩, 46), (⟨"CelHouseModel", "asked", "(ZZ)Z"⟩, 46), (⟨"CelHouseModel", "isLevel", "(II)Z"⟩, 46), (⟨"CelHouseModel", "isScene", "(I)Z"⟩, 46), (⟨"CelHouseModel", "isFrame", "(II)Z"⟩, 46), (⟨"CelHouseModel", "soundAt", "(II)I"⟩, 46), (⟨"CelHouseModel", "lays", "()V"⟩, 46)]
theorem lw_r2 : ∀ q ∈ lw_privs_2, lw_okq q := List.forall_mem_cons.mpr ⟨lw_p16, List.forall_mem_cons.mpr ⟨lw_p17, List.forall_mem_cons.mpr ⟨lw_p18, List.forall_mem_cons.mpr ⟨lw_p19, List.forall_mem_cons.mpr ⟨lw_p20, List.forall_mem_cons.mpr ⟨lw_p21, List.forall_mem_cons.mpr ⟨lw_p22, List.forall_mem_cons.mpr ⟨lw_p23, List.forall_mem_cons.mpr ⟨lw_p24, List.forall_mem_cons.mpr ⟨lw_p25, List.forall_mem_cons.mpr ⟨lw_p26, List.forall_mem_cons.mpr ⟨lw_p27, List.forall_mem_cons.mpr ⟨lw_p28, List.forall_mem_cons.mpr ⟨lw_p29, List.forall_mem_cons.mpr ⟨lw_p30, List.forall_mem_cons.mpr ⟨lw_p31, fun _ h => absurd h List.not_mem_nil⟩⟩⟩⟩⟩⟩⟩⟩⟩⟩⟩⟩⟩⟩⟩⟩
theorem lw_p32 : lw_okq (⟨"CelHouseModel", "comes", "(I)V"⟩, 46) := ⟨⟨by decide +kernel, by decide +kernel⟩, List.mem_of_getElem? (i := 908) (by decide +kernel), List.mem_of_getElem? (i := 1179) (by decide +kernel), List.mem_of_getElem? (i := 1180) (by decide +kernel)⟩
theorem lw_p33 : lw_okq (⟨"CelHouseModel", "draws", "(I)V"⟩, 46) := ⟨⟨by decide +kernel, by decide +kernel⟩, List.mem_of_getElem? (i := 908) (by decide +kernel), List.mem_of_getElem? (i := 1183) (by decide +kernel), List.mem_of_getElem? (i := 1184) (by decide +kernel)⟩
theorem lw_p34 : lw_okq (⟨"CelHouseModel", "isLine", "(III)Z"⟩, 46) := ⟨⟨by decide +kernel, by decide +kernel⟩, List.mem_of_getElem? (i := 908) (by decide +kernel), List.mem_of_getElem? (i := 1190) (by decide +kernel), List.mem_of_getElem? (i := 1191) (by decide +kernel)⟩
theorem lw_p35 : lw_okq (⟨"CelHouseModel", "fills", "(III)V"⟩, 46) := ⟨⟨by decide +kernel, by decide +kernel⟩, List.mem_of_getElem? (i := 908) (by decide +kernel), List.mem_of_getElem? (i := 1194) (by decide +kernel), List.mem_of_getElem? (i := 1195) (by decide +kernel)⟩
theorem lw_p36 : lw_okq (⟨"CelHouseModel", "steps", "(III)V"⟩, 46) := ⟨⟨by decide +kernel, by decide +kernel⟩, List.mem_of_getElem? (i := 908) (by decide +kernel), List.mem_of_getElem? (i := 1198) (by decide +kernel), List.mem_of_getElem? (i := 1199) (by decide +kernel)⟩
theorem lw_p37 : lw_okq (⟨"CelHouseModel", "isStale", "(II)Z"⟩, 46) := ⟨⟨by decide +kernel, by decide +kernel⟩, List.mem_of_getElem? (i := 908) (by decide +kernel), List.mem_of_getElem? (i := 1202) (by decide +kernel), List.mem_of_getElem? (i := 1203) (by decide +kernel)⟩
theorem lw_p38 : lw_okq (⟨"CelHouseModel", "seenAt", "(IIII)I"⟩, 46) := ⟨⟨by decide +kernel, by decide +kernel⟩, List.mem_of_getElem? (i := 908) (by decide +kernel), List.mem_of_getElem? (i := 1206) (by decide +kernel), List.mem_of_getElem? (i := 1207) (by decide +kernel)⟩
theorem lw_p39 : lw_okq (⟨"CelHouseModel", "hasAt", "(III)I"⟩, 46) := ⟨⟨by decide +kernel, by decide +kernel⟩, List.mem_of_getElem? (i := 908) (by decide +kernel), List.mem_of_getElem? (i := 1210) (by decide +kernel), List.mem_of_getElem? (i := 1211) (by decide +kernel)⟩
theorem lw_p40 : lw_okq (⟨"CelHouseModel", "movedBy", "(IIIZ)I"⟩, 46) := ⟨⟨by decide +kernel, by decide +kernel⟩, List.mem_of_getElem? (i := 908) (by decide +kernel), List.mem_of_getElem? (i := 1214) (by decide +kernel), List.mem_of_getElem? (i := 1215) (by decide +kernel)⟩
theorem lw_p41 : lw_okq (⟨"CelHouseModel", "placeOf", "(IIZ)I"⟩, 46) := ⟨⟨by decide +kernel, by decide +kernel⟩, List.mem_of_getElem? (i := 908) (by decide +kernel), List.mem_of_getElem? (i := 1218) (by decide +kernel), List.mem_of_getElem? (i := 1219) (by decide +kernel)⟩
theorem lw_p42 : lw_okq (⟨"CelHouseModel", "ownOf", "(IIZ)I"⟩, 46) := ⟨⟨by decide +kernel, by decide +kernel⟩, List.mem_of_getElem? (i := 908) (by decide +kernel), List.mem_of_getElem? (i := 1222) (by decide +kernel), List.mem_of_getElem? (i := 1223) (by decide +kernel)⟩
theorem lw_p43 : lw_okq (⟨"CelHouseModel", "hangsOn", "(III)Z"⟩, 46) := ⟨⟨by decide +kernel, by decide +kernel⟩, List.mem_of_getElem? (i := 908) (by decide +kernel), List.mem_of_getElem? (i := 1230) (by decide +kernel), List.mem_of_getElem? (i := 1231) (by decide +kernel)⟩
theorem lw_p44 : lw_okq (⟨"CelHouseModel", "isOn", "(II)Z"⟩, 46) := ⟨⟨by decide +kernel, by decide +kernel⟩, List.mem_of_getElem? (i := 908) (by decide +kernel), List.mem_of_getElem? (i := 1234) (by decide +kernel), List.mem_of_getElem? (i := 1235) (by decide +kernel)⟩
theorem lw_p45 : lw_okq (⟨"CelHouseModel", "filmed", "()I"⟩, 46) := ⟨⟨by decide +kernel, by decide +kernel⟩, List.mem_of_getElem? (i := 908) (by decide +kernel), List.mem_of_getElem? (i := 1246) (by decide +kernel), List.mem_of_getElem? (i := 1247) (by decide +kernel)⟩
def lw_privs_3 : List (MethodName × Nat) := [(⟨"CelHouseModel", "comes", "(I)V"⟩, 46), (⟨"CelHouseModel", "draws", "(I)V"⟩, 46), (⟨"CelHouseModel", "isLine", "(III)Z"⟩, 46), (⟨"CelHouseModel", "fills", "(III)V"⟩, 46), (⟨"CelHouseModel", "steps", "(III)V"⟩, 46), (⟨"CelHouseModel", "isStale", "(II)Z"⟩, 46), (⟨"CelHouseModel", "seenAt", "(IIII)I"⟩, 46), (⟨"CelHouseModel", "hasAt", "(III)I"⟩, 46), (⟨"CelHouseModel", "movedBy", "(IIIZ)I"⟩, 46), (⟨"CelHouseModel", "placeOf", "(IIZ)I"⟩, 46), (⟨"CelHouseModel", "ownOf", "(IIZ)I"⟩, 46), (⟨"CelHouseModel", "hangsOn", "(III)Z"⟩, 46), (⟨"CelHouseModel", "isOn", "(II)Z"⟩, 46), (⟨"CelHouseModel", "filmed", "()I"⟩, 46)]
theorem lw_r3 : ∀ q ∈ lw_privs_3, lw_okq q := List.forall_mem_cons.mpr ⟨lw_p32, List.forall_mem_cons.mpr ⟨lw_p33, List.forall_mem_cons.mpr ⟨lw_p34, List.forall_mem_cons.mpr ⟨lw_p35, List.forall_mem_cons.mpr ⟨lw_p36, List.forall_mem_cons.mpr ⟨lw_p37, List.forall_mem_cons.mpr ⟨lw_p38, List.forall_mem_cons.mpr ⟨lw_p39, List.forall_mem_cons.mpr ⟨lw_p40, List.forall_mem_cons.mpr ⟨lw_p41, List.forall_mem_cons.mpr ⟨lw_p42, List.forall_mem_cons.mpr ⟨lw_p43, List.forall_mem_cons.mpr ⟨lw_p44, List.forall_mem_cons.mpr ⟨lw_p45, fun _ h => absurd h List.not_mem_nil⟩⟩⟩⟩⟩⟩⟩⟩⟩⟩⟩⟩⟩⟩
def lw_privs : List (MethodName × Nat) := lw_privs_1 ++ (lw_privs_2 ++ (lw_privs_3))
def lw_tbl : List Cond := k2_sels lw_privs ++ tables_1
theorem lw_privs_ok : ∀ q ∈ lw_privs, lw_okq q := by
  show ∀ q ∈ lw_privs_1 ++ (lw_privs_2 ++ (lw_privs_3)), lw_okq q
  exact List.forall_mem_append.mpr ⟨lw_r1, List.forall_mem_append.mpr ⟨lw_r2, lw_r3⟩⟩
def mC_0 : u_T := fun k => match k with
  | 0 => ("CelHouse$Drawing", "a", "LCelHouse$Drawing;", true)
  | 1 => ("CelHouse$Drawing", "b", "LCelHouse$Drawing;", true)
  | 2 => ("CelHouse$Drawing", "n", "I", true)
  | 3 => ("CelHouse$Drawing", "d", "I", true)
  | 4 => ("CelHouse$Drawing", "hangsOn", "I", true)
  | 5 => ("CelHouse$Drawing", "strokes", "[LCelHouse$Stroke;", true)
  | 6 => ("CelHouse$Drawing", "strokeCount", "I", false)
  | 7 => ("CelHouse$Drawing", "paintPlaces", "[I", true)
  | 8 => ("CelHouse$Drawing", "paintColours", "[I", true)
  | 9 => ("CelHouse$Drawing", "paintCount", "I", false)
  | 10 => ("CelHouse$Drawing", "isClosed", "Z", false)
  | 11 => ("CelHouse$Drawing", "isApproved", "Z", false)
  | 12 => ("CelHouse$Drawing", "picture", "LCelHouse$Picture;", true)
  | _ => ("CelHouse$Drawing", "isPictured", "Z", false)
def mT_0 : Nat → FieldType := fun k => match k with
  | 0 => .object "CelHouse$Drawing"
  | 1 => .object "CelHouse$Drawing"
  | 2 => .int
  | 3 => .int
  | 4 => .int
  | 5 => .array (.object "CelHouse$Stroke")
  | 6 => .int
  | 7 => .array .int
  | 8 => .array .int
  | 9 => .int
  | 10 => .boolean
  | 11 => .boolean
  | 12 => .object "CelHouse$Picture"
  | _ => .boolean
def mC_1 : u_T := fun k => match k with
  | 0 => ("CelHouse$Fill", "queue", "[I", true)
  | 1 => ("CelHouse$Fill", "reached", "[I", true)
  | _ => ("CelHouse$Fill", "count", "I", false)
def mT_1 : Nat → FieldType := fun k => match k with
  | 0 => .array .int
  | 1 => .array .int
  | _ => .int
def mC_2 : u_T := fun k => match k with
  | 0 => ("CelHouse$Peg", "by", "LCelHouse$Peg;", true)
  | 1 => ("CelHouse$Peg", "isTold", "[Z", true)
  | 2 => ("CelHouse$Peg", "toldX", "[I", true)
  | 3 => ("CelHouse$Peg", "toldY", "[I", true)
  | _ => ("CelHouse$Peg", "toldCount", "I", false)
def mT_2 : Nat → FieldType := fun k => match k with
  | 0 => .object "CelHouse$Peg"
  | 1 => .array .boolean
  | 2 => .array .int
  | 3 => .array .int
  | _ => .int
def mC_3 : u_T := fun k => match k with
  | 0 => ("CelHouse$Picture", "lines", "[I", true)
  | 1 => ("CelHouse$Picture", "walls", "[I", true)
  | _ => ("CelHouse$Picture", "points", "[I", true)
def mT_3 : Nat → FieldType := fun k => match k with
  | 0 => .array .int
  | 1 => .array .int
  | _ => .array .int
def mC_4 : u_T := fun k => match k with
  | 0 => ("CelHouse$Scene", "frames", "I", true)
  | 1 => ("CelHouse$Scene", "palette", "I", true)
  | 2 => ("CelHouse$Scene", "sheets", "[I", true)
  | 3 => ("CelHouse$Scene", "sounds", "[I", true)
  | 4 => ("CelHouse$Scene", "isOfVoice", "[Z", true)
  | 5 => ("CelHouse$Scene", "pegs", "[LCelHouse$Peg;", true)
  | 6 => ("CelHouse$Scene", "depths", "[I", true)
  | 7 => ("CelHouse$Scene", "camera", "LCelHouse$Peg;", false)
  | _ => ("CelHouse$Scene", "shots", "[I", true)
def mT_4 : Nat → FieldType := fun k => match k with
  | 0 => .int
  | 1 => .int
  | 2 => .array .int
  | 3 => .array .int
  | 4 => .array .boolean
  | 5 => .array (.object "CelHouse$Peg")
  | 6 => .array .int
  | 7 => .object "CelHouse$Peg"
  | _ => .array .int
def mC_5 : u_T := fun k => match k with
  | 0 => ("CelHouse$Stroke", "name", "I", false)
  | 1 => ("CelHouse$Stroke", "fromX", "I", false)
  | 2 => ("CelHouse$Stroke", "fromY", "I", false)
  | 3 => ("CelHouse$Stroke", "toX", "I", false)
  | 4 => ("CelHouse$Stroke", "toY", "I", false)
  | _ => ("CelHouse$Stroke", "colourName", "I", false)
def mT_5 : Nat → FieldType := fun k => match k with
  | 0 => .int
  | 1 => .int
  | 2 => .int
  | 3 => .int
  | 4 => .int
  | _ => .int
def mC_6 : u_T := fun k => match k with
  | 0 => ("CelHouse", "drawings", "[LCelHouse$Drawing;", true)
  | 1 => ("CelHouse", "drawingCount", "I", false)
  | 2 => ("CelHouse", "penX", "I", false)
  | 3 => ("CelHouse", "penY", "I", false)
  | 4 => ("CelHouse", "paletteColours", "[I", true)
  | 5 => ("CelHouse", "scenes", "[LCelHouse$Scene;", true)
  | 6 => ("CelHouse", "sceneCount", "I", false)
  | 7 => ("CelHouse", "mouths", "[I", true)
  | 8 => ("CelHouse", "pegs", "[LCelHouse$Peg;", true)
  | 9 => ("CelHouse", "pegCount", "I", false)
  | 10 => ("CelHouse", "speeds", "[I", true)
  | 11 => ("CelHouse", "handCount", "I", false)
  | 12 => ("CelHouse", "splices", "[I", true)
  | 13 => ("CelHouse", "spliceCount", "I", false)
  | 14 => ("CelHouse", "composed", "[I", true)
  | 15 => ("CelHouse", "sketch", "LCelHouse$Picture;", true)
  | 16 => ("CelHouse", "fill", "LCelHouse$Fill;", true)
  | _ => ("CelHouse", "busyUntil", "[I", true)
def mT_6 : Nat → FieldType := fun k => match k with
  | 0 => .array (.object "CelHouse$Drawing")
  | 1 => .int
  | 2 => .int
  | 3 => .int
  | 4 => .array .int
  | 5 => .array (.object "CelHouse$Scene")
  | 6 => .int
  | 7 => .array .int
  | 8 => .array (.object "CelHouse$Peg")
  | 9 => .int
  | 10 => .array .int
  | 11 => .int
  | 12 => .array .int
  | 13 => .int
  | 14 => .array .int
  | 15 => .object "CelHouse$Picture"
  | 16 => .object "CelHouse$Fill"
  | _ => .array .int
def mC_7 : u_T := fun k => match k with
  | 0 => ("CelHouseModel", "thrown", "I", false)
  | 1 => ("CelHouseModel", "penX", "I", false)
  | 2 => ("CelHouseModel", "penY", "I", false)
  | 3 => ("CelHouseModel", "drawings", "I", false)
  | 4 => ("CelHouseModel", "first", "[I", true)
  | 5 => ("CelHouseModel", "second", "[I", true)
  | 6 => ("CelHouseModel", "part", "[I", true)
  | 7 => ("CelHouseModel", "whole", "[I", true)
  | 8 => ("CelHouseModel", "good", "[Z", true)
  | 9 => ("CelHouseModel", "strokes", "[I", true)
  | 10 => ("CelHouseModel", "name", "[I", true)
  | 11 => ("CelHouseModel", "ink", "[I", true)
  | 12 => ("CelHouseModel", "ends", "[I", true)
  | 13 => ("CelHouseModel", "paints", "[I", true)
  | 14 => ("CelHouseModel", "spot", "[I", true)
  | 15 => ("CelHouseModel", "fill", "[I", true)
  | 16 => ("CelHouseModel", "closed", "[Z", true)
  | 17 => ("CelHouseModel", "isOld", "Z", false)
  | 18 => ("CelHouseModel", "picture", "[I", true)
  | 19 => ("CelHouseModel", "mark", "[I", true)
  | 20 => ("CelHouseModel", "way", "[I", true)
  | 21 => ("CelHouseModel", "come", "[Z", true)
  | 22 => ("CelHouseModel", "colour", "[I", true)
  | 23 => ("CelHouseModel", "scenes", "I", false)
  | 24 => ("CelHouseModel", "frames", "[I", true)
  | 25 => ("CelHouseModel", "palette", "[I", true)
  | 26 => ("CelHouseModel", "sheet", "[I", true)
  | 27 => ("CelHouseModel", "voice", "[I", true)
  | 28 => ("CelHouseModel", "speaks", "[Z", true)
  | 29 => ("CelHouseModel", "hung", "[I", true)
  | 30 => ("CelHouseModel", "depth", "[I", true)
  | 31 => ("CelHouseModel", "mouth", "[I", true)
  | 32 => ("CelHouseModel", "pegs", "I", false)
  | 33 => ("CelHouseModel", "carrier", "[I", true)
  | 34 => ("CelHouseModel", "told", "[I", true)
  | 35 => ("CelHouseModel", "toldAt", "[I", true)
  | 36 => ("CelHouseModel", "toldX", "[I", true)
  | 37 => ("CelHouseModel", "toldY", "[I", true)
  | 38 => ("CelHouseModel", "isShot", "[Z", true)
  | 39 => ("CelHouseModel", "shot", "[I", true)
  | 40 => ("CelHouseModel", "hands", "I", false)
  | 41 => ("CelHouseModel", "speed", "[I", true)
  | 42 => ("CelHouseModel", "busy", "[I", true)
  | 43 => ("CelHouseModel", "film", "I", false)
  | 44 => ("CelHouseModel", "reel", "[I", true)
  | _ => ("CelHouseModel", "ways", "I", false)
def mT_7 : Nat → FieldType := fun k => match k with
  | 0 => .int
  | 1 => .int
  | 2 => .int
  | 3 => .int
  | 4 => .array .int
  | 5 => .array .int
  | 6 => .array .int
  | 7 => .array .int
  | 8 => .array .boolean
  | 9 => .array .int
  | 10 => .array .int
  | 11 => .array .int
  | 12 => .array .int
  | 13 => .array .int
  | 14 => .array .int
  | 15 => .array .int
  | 16 => .array .boolean
  | 17 => .boolean
  | 18 => .array .int
  | 19 => .array .int
  | 20 => .array .int
  | 21 => .array .boolean
  | 22 => .array .int
  | 23 => .int
  | 24 => .array .int
  | 25 => .array .int
  | 26 => .array .int
  | 27 => .array .int
  | 28 => .array .boolean
  | 29 => .array .int
  | 30 => .array .int
  | 31 => .array .int
  | 32 => .int
  | 33 => .array .int
  | 34 => .array .int
  | 35 => .array .int
  | 36 => .array .int
  | 37 => .array .int
  | 38 => .array .boolean
  | 39 => .array .int
  | 40 => .int
  | 41 => .array .int
  | 42 => .array .int
  | 43 => .int
  | 44 => .array .int
  | _ => .int
def mj_cl : List vw_C := [("CelHouse$Drawing", mC_0, 14), ("CelHouse$Fill", mC_1, 3), ("CelHouse$Peg", mC_2, 5), ("CelHouse$Picture", mC_3, 3), ("CelHouse$Scene", mC_4, 9), ("CelHouse$Stroke", mC_5, 6), ("CelHouse", mC_6, 18), ("CelHouseModel", mC_7, 46)]
def mj_fT (ci : Nat) : Nat → FieldType := match ci with
  | 0 => mT_0
  | 1 => mT_1
  | 2 => mT_2
  | 3 => mT_3
  | 4 => mT_4
  | 5 => mT_5
  | 6 => mT_6
  | _ => mT_7
/-- the words that stay true as the tables warm -/
def mj_TB : List Cond := lw_tbl.filter goodWord
theorem mj_TBin {w : Cond} (i : Nat) (h : lw_tbl[i]? = some w) (hg : goodWord w = true) : w ∈ mj_TB := List.mem_filter.mpr ⟨List.mem_of_getElem? h, hg⟩
theorem mU_0 : ∀ w ∈ u_ws "CelHouse$Drawing" mC_0 14, w ∈ mj_TB := by decide +kernel
theorem mN_0 : ∀ a, a < 14 → ∀ b, b < 14 → a ≠ b → (mC_0 a).2.1 ≠ (mC_0 b).2.1 := by decide +kernel
theorem mY_0 : ∀ k, k < 14 → parseFieldDescriptor (mC_0 k).2.2.1 = some (mT_0 k) := by decide +kernel
theorem mU_1 : ∀ w ∈ u_ws "CelHouse$Fill" mC_1 3, w ∈ mj_TB := by decide +kernel
theorem mN_1 : ∀ a, a < 3 → ∀ b, b < 3 → a ≠ b → (mC_1 a).2.1 ≠ (mC_1 b).2.1 := by decide +kernel
theorem mY_1 : ∀ k, k < 3 → parseFieldDescriptor (mC_1 k).2.2.1 = some (mT_1 k) := by decide +kernel
theorem mU_2 : ∀ w ∈ u_ws "CelHouse$Peg" mC_2 5, w ∈ mj_TB := by decide +kernel
theorem mN_2 : ∀ a, a < 5 → ∀ b, b < 5 → a ≠ b → (mC_2 a).2.1 ≠ (mC_2 b).2.1 := by decide +kernel
theorem mY_2 : ∀ k, k < 5 → parseFieldDescriptor (mC_2 k).2.2.1 = some (mT_2 k) := by decide +kernel
theorem mU_3 : ∀ w ∈ u_ws "CelHouse$Picture" mC_3 3, w ∈ mj_TB := by decide +kernel
theorem mN_3 : ∀ a, a < 3 → ∀ b, b < 3 → a ≠ b → (mC_3 a).2.1 ≠ (mC_3 b).2.1 := by decide +kernel
theorem mY_3 : ∀ k, k < 3 → parseFieldDescriptor (mC_3 k).2.2.1 = some (mT_3 k) := by decide +kernel
theorem mU_4 : ∀ w ∈ u_ws "CelHouse$Scene" mC_4 9, w ∈ mj_TB := by decide +kernel
theorem mN_4 : ∀ a, a < 9 → ∀ b, b < 9 → a ≠ b → (mC_4 a).2.1 ≠ (mC_4 b).2.1 := by decide +kernel
theorem mY_4 : ∀ k, k < 9 → parseFieldDescriptor (mC_4 k).2.2.1 = some (mT_4 k) := by decide +kernel
theorem mU_5 : ∀ w ∈ u_ws "CelHouse$Stroke" mC_5 6, w ∈ mj_TB := by decide +kernel
theorem mN_5 : ∀ a, a < 6 → ∀ b, b < 6 → a ≠ b → (mC_5 a).2.1 ≠ (mC_5 b).2.1 := by decide +kernel
theorem mY_5 : ∀ k, k < 6 → parseFieldDescriptor (mC_5 k).2.2.1 = some (mT_5 k) := by decide +kernel
theorem mU_6 : ∀ w ∈ u_ws "CelHouse" mC_6 18, w ∈ mj_TB := by decide +kernel
theorem mN_6 : ∀ a, a < 18 → ∀ b, b < 18 → a ≠ b → (mC_6 a).2.1 ≠ (mC_6 b).2.1 := by decide +kernel
theorem mY_6 : ∀ k, k < 18 → parseFieldDescriptor (mC_6 k).2.2.1 = some (mT_6 k) := by decide +kernel
theorem mU_7 : ∀ w ∈ u_ws "CelHouseModel" mC_7 46, w ∈ mj_TB := by decide +kernel
theorem mN_7 : ∀ a, a < 46 → ∀ b, b < 46 → a ≠ b → (mC_7 a).2.1 ≠ (mC_7 b).2.1 := by decide +kernel
theorem mY_7 : ∀ k, k < 46 → parseFieldDescriptor (mC_7 k).2.2.1 = some (mT_7 k) := by decide +kernel
theorem mj_cls {ci : Nat} {r : vw_C} (h : mj_cl[ci]? = some r) : (∀ w ∈ u_ws r.1 r.2.1 r.2.2, w ∈ mj_TB) ∧ (∀ a, a < r.2.2 → ∀ b, b < r.2.2 → a ≠ b → (r.2.1 a).2.1 ≠ (r.2.1 b).2.1) ∧ (∀ k, k < r.2.2 → parseFieldDescriptor (r.2.1 k).2.2.1 = some (mj_fT ci k)) := by
  match ci, h with
  | 0, h => cases h; exact ⟨mU_0, mN_0, mY_0⟩
  | 1, h => cases h; exact ⟨mU_1, mN_1, mY_1⟩
  | 2, h => cases h; exact ⟨mU_2, mN_2, mY_2⟩
  | 3, h => cases h; exact ⟨mU_3, mN_3, mY_3⟩
  | 4, h => cases h; exact ⟨mU_4, mN_4, mY_4⟩
  | 5, h => cases h; exact ⟨mU_5, mN_5, mY_5⟩
  | 6, h => cases h; exact ⟨mU_6, mN_6, mY_6⟩
  | 7, h => cases h; exact ⟨mU_7, mN_7, mY_7⟩
  | n + 8, h => simp [mj_cl] at h
