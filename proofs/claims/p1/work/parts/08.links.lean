-- links, calls: laid by program
theorem zac {α : Type} {P : α → Prop} {a : α} {l : List α} (h : P a) (t : zall P l) : zall P (a :: l) := ⟨h, t⟩
theorem zpar_0 : zPar "()V" 0 := by unfold zPar; decide +kernel
theorem zpar_1 : zPar "(I)V" 1 := by unfold zPar; decide +kernel
theorem zpar_2 : zPar "(I)Z" 1 := by unfold zPar; decide +kernel
theorem zpar_3 : zPar "(II)V" 2 := by unfold zPar; decide +kernel
theorem zpar_4 : zPar "()Z" 0 := by unfold zPar; decide +kernel
theorem zpar_5 : zPar "(LManagedBus$Bus;)V" 1 := by unfold zPar; decide +kernel
theorem zpar_6 : zPar "(II)I" 2 := by unfold zPar; decide +kernel
theorem zpar_7 : zPar "(I)LManagedBus$SensingNode;" 1 := by unfold zPar; decide +kernel
theorem zpar_8 : zPar "(I)LManagedBus$Request;" 1 := by unfold zPar; decide +kernel
theorem zpar_9 : zPar "(I)I" 1 := by unfold zPar; decide +kernel
theorem zpar_10 : zPar "()LManagedBus$Port;" 0 := by unfold zPar; decide +kernel
theorem zpar_11 : zPar "(LManagedBus$Bus;LManagedBus$Port;)Z" 2 := by unfold zPar; decide +kernel
theorem zpar_12 : zPar "()LManagedBus$Packet;" 0 := by unfold zPar; decide +kernel
theorem zpar_13 : zPar "(LManagedBus$Packet;I)LManagedBus$Part;" 2 := by unfold zPar; decide +kernel
theorem zpar_14 : zPar "(LManagedBus$Part;)V" 1 := by unfold zPar; decide +kernel
theorem zpar_15 : zPar "(III)Z" 3 := by unfold zPar; decide +kernel
theorem zpar_16 : zPar "(III)V" 3 := by unfold zPar; decide +kernel
theorem zpar_17 : zPar "(II)Z" 2 := by unfold zPar; decide +kernel
theorem zpar_18 : zPar "(Z)V" 1 := by unfold zPar; decide +kernel
theorem zpar_19 : zPar "([III)V" 3 := by unfold zPar; decide +kernel
theorem zpar_20 : zPar "(LManagedBus$Port;)Z" 1 := by unfold zPar; decide +kernel
theorem zpar_21 : zPar "(LManagedBus$Port;)V" 1 := by unfold zPar; decide +kernel
theorem zpar_22 : zPar "(LManagedBus$Row;)Z" 1 := by unfold zPar; decide +kernel
theorem zpar_23 : zPar "(LManagedBus$Row;)V" 1 := by unfold zPar; decide +kernel
theorem zpar_24 : zPar "(LManagedBus$Port;)I" 1 := by unfold zPar; decide +kernel
theorem zpar_25 : zPar "()I" 0 := by unfold zPar; decide +kernel
theorem zpar_26 : zPar "(ZI)V" 2 := by unfold zPar; decide +kernel
theorem zpar_27 : zPar "([II)[I" 2 := by unfold zPar; decide +kernel
theorem zpar_28 : zPar "(II[I)V" 3 := by unfold zPar; decide +kernel
theorem zpar_29 : zPar "(LManagedBus$Request;)V" 1 := by unfold zPar; decide +kernel
theorem zpar_30 : zPar "(II[II)V" 4 := by unfold zPar; decide +kernel
theorem zpar_31 : zPar "(LManagedBus$Part;)Z" 1 := by unfold zPar; decide +kernel
theorem zpar_32 : zPar "(LManagedBus$Packet;I)V" 2 := by unfold zPar; decide +kernel
theorem zpar_33 : zPar "(LManagedBus$Packet;)Z" 1 := by unfold zPar; decide +kernel
theorem zpar_34 : zPar "([II)V" 2 := by unfold zPar; decide +kernel
theorem zpar_35 : zPar "(LManagedBus$Part;)I" 1 := by unfold zPar; decide +kernel
theorem zpar_36 : zPar "([I)V" 1 := by unfold zPar; decide +kernel
theorem zuw_0 : zall (fun w => w ∈ zGW) (u_ws zR_0 zTT_0 6) := zac (zw_347) (zac (zw_349) (zac (zw_351) (zac (zw_353) (zac (zw_355) (zac (zw_357) trivial)))))
theorem zk_0 : zKok 0 zR_0 zTT_0 6 zTY_0 := ⟨rfl, by decide, by decide, zuw_0.get, zTO_0, zNM_0, by decide +kernel, by decide +kernel, by decide +kernel⟩
theorem zuw_1 : zall (fun w => w ∈ zGW) (u_ws zR_1 zTT_1 11) := zac (zw_161) (zac (zw_163) (zac (zw_165) (zac (zw_167) (zac (zw_169) (zac (zw_171) (zac (zw_173) (zac (zw_175) (zac (zw_177) (zac (zw_179) (zac (zw_181) trivial))))))))))
theorem zk_1 : zKok 1 zR_1 zTT_1 11 zTY_1 := ⟨rfl, by decide, by decide, zuw_1.get, zTO_1, zNM_1, by decide +kernel, by decide +kernel, by decide +kernel⟩
theorem zuw_2 : zall (fun w => w ∈ zGW) (u_ws zR_2 zTT_2 9) := zac (zw_110) (zac (zw_112) (zac (zw_114) (zac (zw_116) (zac (zw_118) (zac (zw_120) (zac (zw_122) (zac (zw_124) (zac (zw_126) trivial))))))))
theorem zk_2 : zKok 2 zR_2 zTT_2 9 zTY_2 := ⟨rfl, by decide, by decide, zuw_2.get, zTO_2, zNM_2, by decide +kernel, by decide +kernel, by decide +kernel⟩
theorem zuw_3 : zall (fun w => w ∈ zGW) (u_ws zR_3 zTT_3 5) := zac (zw_74) (zac (zw_76) (zac (zw_78) (zac (zw_80) (zac (zw_82) trivial))))
theorem zk_3 : zKok 3 zR_3 zTT_3 5 zTY_3 := ⟨rfl, by decide, by decide, zuw_3.get, zTO_3, zNM_3, by decide +kernel, by decide +kernel, by decide +kernel⟩
theorem zuw_4 : zall (fun w => w ∈ zGW) (u_ws zR_4 zTT_4 13) := zac (zw_214) (zac (zw_216) (zac (zw_218) (zac (zw_220) (zac (zw_222) (zac (zw_224) (zac (zw_226) (zac (zw_228) (zac (zw_230) (zac (zw_232) (zac (zw_234) (zac (zw_235) (zac (zw_236) trivial))))))))))))
theorem zk_4 : zKok 4 zR_4 zTT_4 13 zTY_4 := ⟨rfl, by decide, by decide, zuw_4.get, zTO_4, zNM_4, by decide +kernel, by decide +kernel, by decide +kernel⟩
theorem zuw_5 : zall (fun w => w ∈ zGW) (u_ws zR_5 zTT_5 7) := zac (zw_311) (zac (zw_313) (zac (zw_315) (zac (zw_317) (zac (zw_319) (zac (zw_321) (zac (zw_323) trivial))))))
theorem zk_5 : zKok 5 zR_5 zTT_5 7 zTY_5 := ⟨rfl, by decide, by decide, zuw_5.get, zTO_5, zNM_5, by decide +kernel, by decide +kernel, by decide +kernel⟩
theorem zuw_6 : zall (fun w => w ∈ zGW) (u_ws zR_6 zTT_6 8) := zac (zw_263) (zac (zw_265) (zac (zw_267) (zac (zw_269) (zac (zw_271) (zac (zw_273) (zac (zw_275) (zac (zw_277) trivial)))))))
theorem zk_6 : zKok 6 zR_6 zTT_6 8 zTY_6 := ⟨rfl, by decide, by decide, zuw_6.get, zTO_6, zNM_6, by decide +kernel, by decide +kernel, by decide +kernel⟩
theorem zuw_7 : zall (fun w => w ∈ zGW) (u_ws zR_7 zTT_7 2) := zac (zw_292) (zac (zw_294) trivial)
theorem zk_7 : zKok 7 zR_7 zTT_7 2 zTY_7 := ⟨rfl, by decide, by decide, zuw_7.get, zTO_7, zNM_7, by decide +kernel, by decide +kernel, by decide +kernel⟩
theorem zuw_8 : zall (fun w => w ∈ zGW) (u_ws zR_8 zTT_8 12) := zac (zw_328) (zac (zw_329) (zac (zw_330) (zac (zw_331) (zac (zw_332) (zac (zw_333) (zac (zw_334) (zac (zw_335) (zac (zw_336) (zac (zw_337) (zac (zw_338) (zac (zw_339) trivial)))))))))))
theorem zk_8 : zKok 8 zR_8 zTT_8 12 zTY_8 := ⟨rfl, by decide, by decide, zuw_8.get, zTO_8, zNM_8, by decide +kernel, by decide +kernel, by decide +kernel⟩
theorem zuw_9 : zall (fun w => w ∈ zGW) (u_ws zR_9 zTT_9 6) := zac (zw_610) (zac (zw_612) (zac (zw_614) (zac (zw_616) (zac (zw_618) (zac (zw_620) trivial)))))
theorem zk_9 : zKok 9 zR_9 zTT_9 6 zTY_9 := ⟨rfl, by decide, by decide, zuw_9.get, zTO_9, zNM_9, by decide +kernel, by decide +kernel, by decide +kernel⟩
theorem zuw_10 : zall (fun w => w ∈ zGW) (u_ws zR_10 zTT_10 8) := zac (zw_793) (zac (zw_795) (zac (zw_797) (zac (zw_799) (zac (zw_801) (zac (zw_803) (zac (zw_805) (zac (zw_807) trivial)))))))
theorem zk_10 : zKok 10 zR_10 zTT_10 8 zTY_10 := ⟨rfl, by decide, by decide, zuw_10.get, zTO_10, zNM_10, by decide +kernel, by decide +kernel, by decide +kernel⟩
theorem zuw_11 : zall (fun w => w ∈ zGW) (u_ws zR_11 zTT_11 52) := zac (zw_918) (zac (zw_920) (zac (zw_922) (zac (zw_924) (zac (zw_926) (zac (zw_928) (zac (zw_930) (zac (zw_932) (zac (zw_934) (zac (zw_936) (zac (zw_938) (zac (zw_940) (zac (zw_942) (zac (zw_944) (zac (zw_946) (zac (zw_948) (zac (zw_950) (zac (zw_952) (zac (zw_954) (zac (zw_956) (zac (zw_958) (zac (zw_960) (zac (zw_962) (zac (zw_964) (zac (zw_966) (zac (zw_968) (zac (zw_970) (zac (zw_972) (zac (zw_974) (zac (zw_976) (zac (zw_978) (zac (zw_980) (zac (zw_982) (zac (zw_984) (zac (zw_986) (zac (zw_988) (zac (zw_990) (zac (zw_992) (zac (zw_994) (zac (zw_996) (zac (zw_998) (zac (zw_1000) (zac (zw_1002) (zac (zw_1004) (zac (zw_1006) (zac (zw_1008) (zac (zw_1010) (zac (zw_1012) (zac (zw_1014) (zac (zw_1016) (zac (zw_1018) (zac (zw_1020) trivial)))))))))))))))))))))))))))))))))))))))))))))))))))
theorem zk_11 : zKok 11 zR_11 zTT_11 52 zTY_11 := ⟨rfl, by decide, by decide, zuw_11.get, zTO_11, zNM_11, by decide +kernel, by decide +kernel, by decide +kernel⟩
theorem zj_0 : zJok 0 := ⟨by decide +kernel, zw_21, zw_1, ⟨by decide +kernel, by decide +kernel⟩, by decide +kernel⟩
theorem zj_1 : zJok 1 := ⟨by decide +kernel, zw_363, zw_1, ⟨by decide +kernel, by decide +kernel⟩, by decide +kernel⟩
theorem zj_2 : zJok 2 := ⟨by decide +kernel, zw_394, zw_1, ⟨by decide +kernel, by decide +kernel⟩, by decide +kernel⟩
theorem zj_3 : zJok 3 := ⟨by decide +kernel, zw_398, zw_1, ⟨by decide +kernel, by decide +kernel⟩, by decide +kernel⟩
theorem zj_4 : zJok 4 := ⟨by decide +kernel, zw_414, zw_1, ⟨by decide +kernel, by decide +kernel⟩, by decide +kernel⟩
theorem zj_5 : zJok 5 := ⟨by decide +kernel, zw_418, zw_1, ⟨by decide +kernel, by decide +kernel⟩, by decide +kernel⟩
theorem zj_6 : zJok 6 := ⟨by decide +kernel, zw_750, zw_1, ⟨by decide +kernel, by decide +kernel⟩, by decide +kernel⟩
theorem zj_7 : zJok 7 := ⟨by decide +kernel, zw_754, zw_1, ⟨by decide +kernel, by decide +kernel⟩, by decide +kernel⟩
theorem zj_8 : zJok 8 := ⟨by decide +kernel, zw_813, zw_1, ⟨by decide +kernel, by decide +kernel⟩, by decide +kernel⟩
theorem zj_9 : zJok 9 := ⟨by decide +kernel, zw_822, zw_1, ⟨by decide +kernel, by decide +kernel⟩, by decide +kernel⟩
theorem zj_10 : zJok 10 := ⟨by decide +kernel, zw_826, zw_1, ⟨by decide +kernel, by decide +kernel⟩, by decide +kernel⟩
theorem zj_11 : zJok 11 := ⟨by decide +kernel, zw_830, zw_1, ⟨by decide +kernel, by decide +kernel⟩, by decide +kernel⟩
theorem zj_12 : zJok 12 := ⟨by decide +kernel, zw_834, zw_1, ⟨by decide +kernel, by decide +kernel⟩, by decide +kernel⟩
theorem zj_13 : zJok 13 := ⟨by decide +kernel, zw_838, zw_1, ⟨by decide +kernel, by decide +kernel⟩, by decide +kernel⟩
theorem zj_14 : zJok 14 := ⟨by decide +kernel, zw_846, zw_1, ⟨by decide +kernel, by decide +kernel⟩, by decide +kernel⟩
theorem zj_15 : zJok 15 := ⟨by decide +kernel, zw_850, zw_1, ⟨by decide +kernel, by decide +kernel⟩, by decide +kernel⟩
theorem zj_16 : zJok 16 := ⟨by decide +kernel, zw_859, zw_1, ⟨by decide +kernel, by decide +kernel⟩, by decide +kernel⟩
theorem zj_17 : zJok 17 := ⟨by decide +kernel, zw_369, zw_1, ⟨by decide +kernel, by decide +kernel⟩, by decide +kernel⟩
theorem zj_18 : zJok 18 := ⟨by decide +kernel, zw_366, zw_1, ⟨by decide +kernel, by decide +kernel⟩, by decide +kernel⟩
theorem zj_19 : zJok 19 := ⟨by decide +kernel, zw_817, zw_1, ⟨by decide +kernel, by decide +kernel⟩, by decide +kernel⟩
theorem zj_20 : zJok 20 := ⟨by decide +kernel, zw_422, zw_1, ⟨by decide +kernel, by decide +kernel⟩, by decide +kernel⟩
theorem zj_21 : zJok 21 := ⟨by decide +kernel, zw_554, zw_1, ⟨by decide +kernel, by decide +kernel⟩, by decide +kernel⟩
theorem zj_22 : zJok 22 := ⟨by decide +kernel, zw_670, zw_1, ⟨by decide +kernel, by decide +kernel⟩, by decide +kernel⟩
theorem zj_23 : zJok 23 := ⟨by decide +kernel, zw_864, zw_11, ⟨by decide +kernel, by decide +kernel⟩, by decide +kernel⟩
theorem zj_24 : zJok 24 := ⟨by decide +kernel, zw_1033, zw_11, ⟨by decide +kernel, by decide +kernel⟩, by decide +kernel⟩
theorem zj_25 : zJok 25 := ⟨by decide +kernel, zw_1132, zw_11, ⟨by decide +kernel, by decide +kernel⟩, by decide +kernel⟩
theorem zj_26 : zJok 26 := ⟨by decide +kernel, zw_1089, zw_11, ⟨by decide +kernel, by decide +kernel⟩, by decide +kernel⟩
theorem zj_27 : zJok 27 := ⟨by decide +kernel, zw_1030, zw_11, ⟨by decide +kernel, by decide +kernel⟩, by decide +kernel⟩
theorem zj_28 : zJok 28 := ⟨by decide +kernel, zw_1070, zw_11, ⟨by decide +kernel, by decide +kernel⟩, by decide +kernel⟩
theorem zj_29 : zJok 29 := ⟨by decide +kernel, zw_1027, zw_11, ⟨by decide +kernel, by decide +kernel⟩, by decide +kernel⟩
theorem zj_30 : zJok 30 := ⟨by decide +kernel, zw_1038, zw_11, ⟨by decide +kernel, by decide +kernel⟩, by decide +kernel⟩
theorem zj_31 : zJok 31 := ⟨by decide +kernel, zw_1042, zw_11, ⟨by decide +kernel, by decide +kernel⟩, by decide +kernel⟩
theorem zj_32 : zJok 32 := ⟨by decide +kernel, zw_1046, zw_11, ⟨by decide +kernel, by decide +kernel⟩, by decide +kernel⟩
theorem zj_33 : zJok 33 := ⟨by decide +kernel, zw_1050, zw_11, ⟨by decide +kernel, by decide +kernel⟩, by decide +kernel⟩
theorem zj_34 : zJok 34 := ⟨by decide +kernel, zw_1054, zw_11, ⟨by decide +kernel, by decide +kernel⟩, by decide +kernel⟩
theorem zj_35 : zJok 35 := ⟨by decide +kernel, zw_1058, zw_11, ⟨by decide +kernel, by decide +kernel⟩, by decide +kernel⟩
theorem zj_36 : zJok 36 := ⟨by decide +kernel, zw_1066, zw_11, ⟨by decide +kernel, by decide +kernel⟩, by decide +kernel⟩
theorem zj_37 : zJok 37 := ⟨by decide +kernel, zw_1062, zw_11, ⟨by decide +kernel, by decide +kernel⟩, by decide +kernel⟩
theorem zj_38 : zJok 38 := ⟨by decide +kernel, zw_1074, zw_11, ⟨by decide +kernel, by decide +kernel⟩, by decide +kernel⟩
theorem zj_39 : zJok 39 := ⟨by decide +kernel, zw_1176, zw_11, ⟨by decide +kernel, by decide +kernel⟩, by decide +kernel⟩
theorem zj_40 : zJok 40 := ⟨by decide +kernel, zw_1172, zw_11, ⟨by decide +kernel, by decide +kernel⟩, by decide +kernel⟩
theorem zj_41 : zJok 41 := ⟨by decide +kernel, zw_1168, zw_11, ⟨by decide +kernel, by decide +kernel⟩, by decide +kernel⟩
theorem zj_42 : zJok 42 := ⟨by decide +kernel, zw_1180, zw_11, ⟨by decide +kernel, by decide +kernel⟩, by decide +kernel⟩
theorem zj_43 : zJok 43 := ⟨by decide +kernel, zw_1184, zw_11, ⟨by decide +kernel, by decide +kernel⟩, by decide +kernel⟩
theorem zj_44 : zJok 44 := ⟨by decide +kernel, zw_1164, zw_11, ⟨by decide +kernel, by decide +kernel⟩, by decide +kernel⟩
theorem zj_45 : zJok 45 := ⟨by decide +kernel, zw_1160, zw_11, ⟨by decide +kernel, by decide +kernel⟩, by decide +kernel⟩
theorem zj_46 : zJok 46 := ⟨by decide +kernel, zw_1144, zw_11, ⟨by decide +kernel, by decide +kernel⟩, by decide +kernel⟩
theorem zj_47 : zJok 47 := ⟨by decide +kernel, zw_1110, zw_11, ⟨by decide +kernel, by decide +kernel⟩, by decide +kernel⟩
theorem zj_48 : zJok 48 := ⟨by decide +kernel, zw_1121, zw_11, ⟨by decide +kernel, by decide +kernel⟩, by decide +kernel⟩
theorem zj_49 : zJok 49 := ⟨by decide +kernel, zw_1118, zw_11, ⟨by decide +kernel, by decide +kernel⟩, by decide +kernel⟩
theorem zj_50 : zJok 50 := ⟨by decide +kernel, zw_1114, zw_11, ⟨by decide +kernel, by decide +kernel⟩, by decide +kernel⟩
theorem zj_51 : zJok 51 := ⟨by decide +kernel, zw_1129, zw_11, ⟨by decide +kernel, by decide +kernel⟩, by decide +kernel⟩
theorem zj_52 : zJok 52 := ⟨by decide +kernel, zw_1148, zw_11, ⟨by decide +kernel, by decide +kernel⟩, by decide +kernel⟩
theorem zj_53 : zJok 53 := ⟨by decide +kernel, zw_1152, zw_11, ⟨by decide +kernel, by decide +kernel⟩, by decide +kernel⟩
theorem zj_54 : zJok 54 := ⟨by decide +kernel, zw_1140, zw_11, ⟨by decide +kernel, by decide +kernel⟩, by decide +kernel⟩
theorem zj_55 : zJok 55 := ⟨by decide +kernel, zw_1156, zw_11, ⟨by decide +kernel, by decide +kernel⟩, by decide +kernel⟩
theorem zj_56 : zJok 56 := ⟨by decide +kernel, zw_1086, zw_11, ⟨by decide +kernel, by decide +kernel⟩, by decide +kernel⟩
theorem zj_57 : zJok 57 := ⟨by decide +kernel, zw_1102, zw_11, ⟨by decide +kernel, by decide +kernel⟩, by decide +kernel⟩
theorem zj_58 : zJok 58 := ⟨by decide +kernel, zw_1093, zw_11, ⟨by decide +kernel, by decide +kernel⟩, by decide +kernel⟩
theorem zj_59 : zJok 59 := ⟨by decide +kernel, zw_1125, zw_11, ⟨by decide +kernel, by decide +kernel⟩, by decide +kernel⟩
theorem zj_60 : zJok 60 := ⟨by decide +kernel, zw_1082, zw_11, ⟨by decide +kernel, by decide +kernel⟩, by decide +kernel⟩
theorem zj_61 : zJok 61 := ⟨by decide +kernel, zw_1097, zw_11, ⟨by decide +kernel, by decide +kernel⟩, by decide +kernel⟩
theorem zj_62 : zJok 62 := ⟨by decide +kernel, zw_1136, zw_11, ⟨by decide +kernel, by decide +kernel⟩, by decide +kernel⟩
theorem zj_63 : zJok 63 := ⟨by decide +kernel, zw_1106, zw_11, ⟨by decide +kernel, by decide +kernel⟩, by decide +kernel⟩
theorem zj_64 : zJok 64 := ⟨by decide +kernel, zw_1188, zw_11, ⟨by decide +kernel, by decide +kernel⟩, by decide +kernel⟩
theorem zj_65 : zJok 65 := ⟨by decide +kernel, zw_1078, zw_11, ⟨by decide +kernel, by decide +kernel⟩, by decide +kernel⟩
theorem zj_66 : zJok 66 := ⟨by decide +kernel, zw_1192, zw_11, ⟨by decide +kernel, by decide +kernel⟩, by decide +kernel⟩
theorem zj_67 : zJok 67 := ⟨by decide +kernel, zw_1196, zw_11, ⟨by decide +kernel, by decide +kernel⟩, by decide +kernel⟩
theorem zj_68 : zJok 68 := ⟨by decide +kernel, zw_1200, zw_11, ⟨by decide +kernel, by decide +kernel⟩, by decide +kernel⟩
theorem zj_69 : zJok 69 := ⟨by decide +kernel, zw_1204, zw_11, ⟨by decide +kernel, by decide +kernel⟩, by decide +kernel⟩
theorem zj_70 : zJok 70 := ⟨by decide +kernel, zw_1208, zw_11, ⟨by decide +kernel, by decide +kernel⟩, by decide +kernel⟩
theorem zj_71 : zJok 71 := ⟨by decide +kernel, zw_1212, zw_11, ⟨by decide +kernel, by decide +kernel⟩, by decide +kernel⟩
theorem zj_72 : zJok 72 := ⟨by decide +kernel, zw_1216, zw_11, ⟨by decide +kernel, by decide +kernel⟩, by decide +kernel⟩
theorem zj_73 : zJok 73 := ⟨by decide +kernel, zw_1221, zw_11, ⟨by decide +kernel, by decide +kernel⟩, by decide +kernel⟩
theorem zj_74 : zJok 74 := ⟨by decide +kernel, zw_188, zw_7, ⟨by decide +kernel, by decide +kernel⟩, by decide +kernel⟩
theorem zj_75 : zJok 75 := ⟨by decide +kernel, zw_568, zw_7, ⟨by decide +kernel, by decide +kernel⟩, by decide +kernel⟩
theorem zj_76 : zJok 76 := ⟨by decide +kernel, zw_241, zw_8, ⟨by decide +kernel, by decide +kernel⟩, by decide +kernel⟩
theorem zj_77 : zJok 77 := ⟨by decide +kernel, zw_484, zw_8, ⟨by decide +kernel, by decide +kernel⟩, by decide +kernel⟩
theorem zj_78 : zJok 78 := ⟨by decide +kernel, zw_516, zw_8, ⟨by decide +kernel, by decide +kernel⟩, by decide +kernel⟩
theorem zj_79 : zJok 79 := ⟨by decide +kernel, zw_520, zw_8, ⟨by decide +kernel, by decide +kernel⟩, by decide +kernel⟩
theorem zj_80 : zJok 80 := ⟨by decide +kernel, zw_524, zw_8, ⟨by decide +kernel, by decide +kernel⟩, by decide +kernel⟩
theorem zj_81 : zJok 81 := ⟨by decide +kernel, zw_532, zw_8, ⟨by decide +kernel, by decide +kernel⟩, by decide +kernel⟩
theorem zj_82 : zJok 82 := ⟨by decide +kernel, zw_471, zw_8, ⟨by decide +kernel, by decide +kernel⟩, by decide +kernel⟩
theorem zj_83 : zJok 83 := ⟨by decide +kernel, zw_442, zw_8, ⟨by decide +kernel, by decide +kernel⟩, by decide +kernel⟩
theorem zj_84 : zJok 84 := ⟨by decide +kernel, zw_434, zw_8, ⟨by decide +kernel, by decide +kernel⟩, by decide +kernel⟩
theorem zj_85 : zJok 85 := ⟨by decide +kernel, zw_500, zw_8, ⟨by decide +kernel, by decide +kernel⟩, by decide +kernel⟩
theorem zj_86 : zJok 86 := ⟨by decide +kernel, zw_508, zw_8, ⟨by decide +kernel, by decide +kernel⟩, by decide +kernel⟩
theorem zj_87 : zJok 87 := ⟨by decide +kernel, zw_249, zw_9, ⟨by decide +kernel, by decide +kernel⟩, by decide +kernel⟩
theorem zj_88 : zJok 88 := ⟨by decide +kernel, zw_402, zw_9, ⟨by decide +kernel, by decide +kernel⟩, by decide +kernel⟩
theorem zj_89 : zJok 89 := ⟨by decide +kernel, zw_406, zw_9, ⟨by decide +kernel, by decide +kernel⟩, by decide +kernel⟩
theorem zj_90 : zJok 90 := ⟨by decide +kernel, zw_426, zw_9, ⟨by decide +kernel, by decide +kernel⟩, by decide +kernel⟩
theorem zj_91 : zJok 91 := ⟨by decide +kernel, zw_430, zw_9, ⟨by decide +kernel, by decide +kernel⟩, by decide +kernel⟩
theorem zj_92 : zJok 92 := ⟨by decide +kernel, zw_438, zw_9, ⟨by decide +kernel, by decide +kernel⟩, by decide +kernel⟩
theorem zj_93 : zJok 93 := ⟨by decide +kernel, zw_446, zw_9, ⟨by decide +kernel, by decide +kernel⟩, by decide +kernel⟩
theorem zj_94 : zJok 94 := ⟨by decide +kernel, zw_459, zw_9, ⟨by decide +kernel, by decide +kernel⟩, by decide +kernel⟩
theorem zj_95 : zJok 95 := ⟨by decide +kernel, zw_492, zw_9, ⟨by decide +kernel, by decide +kernel⟩, by decide +kernel⟩
theorem zj_96 : zJok 96 := ⟨by decide +kernel, zw_496, zw_9, ⟨by decide +kernel, by decide +kernel⟩, by decide +kernel⟩
theorem zj_97 : zJok 97 := ⟨by decide +kernel, zw_504, zw_9, ⟨by decide +kernel, by decide +kernel⟩, by decide +kernel⟩
theorem zj_98 : zJok 98 := ⟨by decide +kernel, zw_410, zw_9, ⟨by decide +kernel, by decide +kernel⟩, by decide +kernel⟩
theorem zj_99 : zJok 99 := ⟨by decide +kernel, zw_512, zw_9, ⟨by decide +kernel, by decide +kernel⟩, by decide +kernel⟩
theorem zj_100 : zJok 100 := ⟨by decide +kernel, zw_450, zw_9, ⟨by decide +kernel, by decide +kernel⟩, by decide +kernel⟩
theorem zj_101 : zJok 101 := ⟨by decide +kernel, zw_454, zw_9, ⟨by decide +kernel, by decide +kernel⟩, by decide +kernel⟩
theorem zj_102 : zJok 102 := ⟨by decide +kernel, zw_35, zw_3, ⟨by decide +kernel, by decide +kernel⟩, by decide +kernel⟩
theorem zj_103 : zJok 103 := ⟨by decide +kernel, zw_842, zw_3, ⟨by decide +kernel, by decide +kernel⟩, by decide +kernel⟩
theorem zj_104 : zJok 104 := ⟨by decide +kernel, zw_758, zw_3, ⟨by decide +kernel, by decide +kernel⟩, by decide +kernel⟩
theorem zj_105 : zJok 105 := ⟨by decide +kernel, zw_735, zw_3, ⟨by decide +kernel, by decide +kernel⟩, by decide +kernel⟩
theorem zj_106 : zJok 106 := ⟨by decide +kernel, zw_743, zw_3, ⟨by decide +kernel, by decide +kernel⟩, by decide +kernel⟩
theorem zj_107 : zJok 107 := ⟨by decide +kernel, zw_700, zw_3, ⟨by decide +kernel, by decide +kernel⟩, by decide +kernel⟩
theorem zj_108 : zJok 108 := ⟨by decide +kernel, zw_719, zw_3, ⟨by decide +kernel, by decide +kernel⟩, by decide +kernel⟩
theorem zj_109 : zJok 109 := ⟨by decide +kernel, zw_855, zw_3, ⟨by decide +kernel, by decide +kernel⟩, by decide +kernel⟩
theorem zj_110 : zJok 110 := ⟨by decide +kernel, zw_705, zw_3, ⟨by decide +kernel, by decide +kernel⟩, by decide +kernel⟩
theorem zj_111 : zJok 111 := ⟨by decide +kernel, zw_38, zw_2, ⟨by decide +kernel, by decide +kernel⟩, by decide +kernel⟩
theorem zj_112 : zJok 112 := ⟨by decide +kernel, zw_588, zw_2, ⟨by decide +kernel, by decide +kernel⟩, by decide +kernel⟩
theorem zj_113 : zJok 113 := ⟨by decide +kernel, zw_562, zw_2, ⟨by decide +kernel, by decide +kernel⟩, by decide +kernel⟩
theorem zj_114 : zJok 114 := ⟨by decide +kernel, zw_687, zw_2, ⟨by decide +kernel, by decide +kernel⟩, by decide +kernel⟩
theorem zj_115 : zJok 115 := ⟨by decide +kernel, zw_387, zw_2, ⟨by decide +kernel, by decide +kernel⟩, by decide +kernel⟩
theorem zj_116 : zJok 116 := ⟨by decide +kernel, zw_53, zw_5, ⟨by decide +kernel, by decide +kernel⟩, by decide +kernel⟩
theorem zj_117 : zJok 117 := ⟨by decide +kernel, zw_580, zw_5, ⟨by decide +kernel, by decide +kernel⟩, by decide +kernel⟩
theorem zj_118 : zJok 118 := ⟨by decide +kernel, zw_584, zw_5, ⟨by decide +kernel, by decide +kernel⟩, by decide +kernel⟩
theorem zj_119 : zJok 119 := ⟨by decide +kernel, zw_630, zw_5, ⟨by decide +kernel, by decide +kernel⟩, by decide +kernel⟩
theorem zj_120 : zJok 120 := ⟨by decide +kernel, zw_643, zw_5, ⟨by decide +kernel, by decide +kernel⟩, by decide +kernel⟩
theorem zj_121 : zJok 121 := ⟨by decide +kernel, zw_638, zw_5, ⟨by decide +kernel, by decide +kernel⟩, by decide +kernel⟩
theorem zj_122 : zJok 122 := ⟨by decide +kernel, zw_634, zw_5, ⟨by decide +kernel, by decide +kernel⟩, by decide +kernel⟩
theorem zj_123 : zJok 123 := ⟨by decide +kernel, zw_592, zw_15, ⟨by decide +kernel, by decide +kernel⟩, by decide +kernel⟩
theorem zj_124 : zJok 124 := ⟨by decide +kernel, zw_653, zw_15, ⟨by decide +kernel, by decide +kernel⟩, by decide +kernel⟩
theorem zj_125 : zJok 125 := ⟨by decide +kernel, zw_697, zw_15, ⟨by decide +kernel, by decide +kernel⟩, by decide +kernel⟩
theorem zj_126 : zJok 126 := ⟨by decide +kernel, zw_626, zw_15, ⟨by decide +kernel, by decide +kernel⟩, by decide +kernel⟩
theorem zj_127 : zJok 127 := ⟨by decide +kernel, zw_46, zw_4, ⟨by decide +kernel, by decide +kernel⟩, by decide +kernel⟩
theorem zj_128 : zJok 128 := ⟨by decide +kernel, zw_380, zw_4, ⟨by decide +kernel, by decide +kernel⟩, by decide +kernel⟩
theorem zj_129 : zJok 129 := ⟨by decide +kernel, zw_572, zw_4, ⟨by decide +kernel, by decide +kernel⟩, by decide +kernel⟩
theorem zj_130 : zJok 130 := ⟨by decide +kernel, zw_528, zw_4, ⟨by decide +kernel, by decide +kernel⟩, by decide +kernel⟩
theorem zj_131 : zJok 131 := ⟨by decide +kernel, zw_576, zw_4, ⟨by decide +kernel, by decide +kernel⟩, by decide +kernel⟩
theorem zj_132 : zJok 132 := ⟨by decide +kernel, zw_726, zw_4, ⟨by decide +kernel, by decide +kernel⟩, by decide +kernel⟩
theorem zj_133 : zJok 133 := ⟨by decide +kernel, zw_730, zw_4, ⟨by decide +kernel, by decide +kernel⟩, by decide +kernel⟩
theorem zj_134 : zJok 134 := ⟨by decide +kernel, zw_774, zw_16, ⟨by decide +kernel, by decide +kernel⟩, by decide +kernel⟩
theorem zj_135 : zJok 135 := ⟨by decide +kernel, zw_739, zw_16, ⟨by decide +kernel, by decide +kernel⟩, by decide +kernel⟩
theorem zj_136 : zJok 136 := ⟨by decide +kernel, zw_709, zw_16, ⟨by decide +kernel, by decide +kernel⟩, by decide +kernel⟩
theorem zj_137 : zJok 137 := ⟨by decide +kernel, zw_714, zw_16, ⟨by decide +kernel, by decide +kernel⟩, by decide +kernel⟩
theorem zj_138 : zJok 138 := ⟨by decide +kernel, zw_284, zw_10, ⟨by decide +kernel, by decide +kernel⟩, by decide +kernel⟩
theorem zj_139 : zJok 139 := ⟨by decide +kernel, zw_463, zw_10, ⟨by decide +kernel, by decide +kernel⟩, by decide +kernel⟩
theorem zj_140 : zJok 140 := ⟨by decide +kernel, zw_467, zw_10, ⟨by decide +kernel, by decide +kernel⟩, by decide +kernel⟩
theorem zj_141 : zJok 141 := ⟨by decide +kernel, zw_475, zw_10, ⟨by decide +kernel, by decide +kernel⟩, by decide +kernel⟩
theorem zj_142 : zJok 142 := ⟨by decide +kernel, zw_488, zw_10, ⟨by decide +kernel, by decide +kernel⟩, by decide +kernel⟩
theorem zj_143 : zJok 143 := ⟨by decide +kernel, zw_539, zw_10, ⟨by decide +kernel, by decide +kernel⟩, by decide +kernel⟩
theorem zj_144 : zJok 144 := ⟨by decide +kernel, zw_546, zw_10, ⟨by decide +kernel, by decide +kernel⟩, by decide +kernel⟩
theorem zj_145 : zJok 145 := ⟨by decide +kernel, zw_479, zw_10, ⟨by decide +kernel, by decide +kernel⟩, by decide +kernel⟩
theorem zj_146 : zJok 146 := ⟨by decide +kernel, zw_191, zw_6, ⟨by decide +kernel, by decide +kernel⟩, by decide +kernel⟩
theorem zj_147 : zJok 147 := ⟨by decide +kernel, zw_376, zw_6, ⟨by decide +kernel, by decide +kernel⟩, by decide +kernel⟩
theorem zj_148 : zJok 148 := ⟨by decide +kernel, zw_676, zw_6, ⟨by decide +kernel, by decide +kernel⟩, by decide +kernel⟩
theorem zj_149 : zJok 149 := ⟨by decide +kernel, zw_680, zw_6, ⟨by decide +kernel, by decide +kernel⟩, by decide +kernel⟩
theorem zj_150 : zJok 150 := ⟨by decide +kernel, zw_649, zw_6, ⟨by decide +kernel, by decide +kernel⟩, by decide +kernel⟩
theorem zj_151 : zJok 151 := ⟨by decide +kernel, zw_656, zw_6, ⟨by decide +kernel, by decide +kernel⟩, by decide +kernel⟩
theorem zj_152 : zJok 152 := ⟨by decide +kernel, zw_659, zw_6, ⟨by decide +kernel, by decide +kernel⟩, by decide +kernel⟩
theorem zj_153 : zJok 153 := ⟨by decide +kernel, zw_667, zw_6, ⟨by decide +kernel, by decide +kernel⟩, by decide +kernel⟩
theorem zj_154 : zJok 154 := ⟨by decide +kernel, zw_663, zw_6, ⟨by decide +kernel, by decide +kernel⟩, by decide +kernel⟩
theorem zj_156 : zJok 156 := ⟨by decide +kernel, zw_761, zw_12, ⟨by decide +kernel, by decide +kernel⟩, by decide +kernel⟩
theorem zj_157 : zJok 157 := ⟨by decide +kernel, zw_390, zw_12, ⟨by decide +kernel, by decide +kernel⟩, by decide +kernel⟩
theorem zo_0_1 : (([] : List (Nat × Nat)) = [] → zOb "ManagedBus" 1) ∧ zall (zIok "ManagedBus" 1 0) [] := ⟨fun _ => ⟨zw_22, zw_23, zw_24⟩, trivial⟩
theorem za_0_9 : zall (zAok "ManagedBus" 9) [(15, 0)] := zac (⟨"ManagedBus$Bus", by decide, by decide, rfl, zw_25, List.mem_cons_self⟩) trivial
theorem zf_0_11_q : zall (zFok "<init>" "ManagedBus" 11 true) [(0, 0)] := zac (⟨zR_0, zTT_0, 6, zTY_0, "ManagedBus", zk_0, by decide, zw_341, Or.inl rfl, fun _ => Or.inr ⟨rfl, rfl, rfl⟩⟩) trivial
theorem za_0_15 : zall (zAok "ManagedBus" 15) [(16, 0)] := zac (⟨"ManagedBus$Node", by decide, by decide, rfl, zw_27, List.mem_cons_of_mem _ (List.mem_cons_self)⟩) trivial
theorem zf_0_17_q : zall (zFok "<init>" "ManagedBus" 17 true) [(0, 1)] := zac (⟨zR_0, zTT_0, 6, zTY_0, "ManagedBus", zk_0, by decide, zw_342, Or.inl rfl, fun _ => Or.inr ⟨rfl, rfl, rfl⟩⟩) trivial
theorem za_0_21 : zall (zAok "ManagedBus" 21) [(17, 0)] := zac (⟨"ManagedBus$SensingNode", by decide, by decide, rfl, zw_29, List.mem_cons_of_mem _ (List.mem_cons_of_mem _ (List.mem_cons_self))⟩) trivial
theorem zf_0_23_q : zall (zFok "<init>" "ManagedBus" 23 true) [(0, 2)] := zac (⟨zR_0, zTT_0, 6, zTY_0, "ManagedBus", zk_0, by decide, zw_343, Or.inl rfl, fun _ => Or.inr ⟨rfl, rfl, rfl⟩⟩) trivial
theorem zn_0_27 : zall (zNok "ManagedBus" 27) [(1, 11)] := zac (⟨zR_1, zTT_1, 11, zTY_1, zk_1, rfl, zw_31, zw_32, zw_3⟩) trivial
theorem zi_0_29 : ([(102, 1)] = [] → zOb "ManagedBus" 29) ∧ zall (zIok "ManagedBus" 29 0) [(102, 1)] := ⟨(fun h => nomatch h), zac (⟨zj_102, zpar_0, rfl, rfl, zw_34, Or.inl zw_33⟩) trivial⟩
theorem zf_0_30_q : zall (zFok "<init>" "ManagedBus" 30 true) [(0, 3)] := zac (⟨zR_0, zTT_0, 6, zTY_0, "ManagedBus", zk_0, by decide, zw_344, Or.inl rfl, fun _ => Or.inr ⟨rfl, rfl, rfl⟩⟩) trivial
theorem zn_0_34 : zall (zNok "ManagedBus" 34) [(4, 13)] := zac (⟨zR_4, zTT_4, 13, zTY_4, zk_4, rfl, zw_184, zw_185, zw_7⟩) trivial
theorem zi_0_36 : ([(74, 1)] = [] → zOb "ManagedBus" 36) ∧ zall (zIok "ManagedBus" 36 0) [(74, 1)] := ⟨(fun h => nomatch h), zac (⟨zj_74, zpar_0, rfl, rfl, zw_187, Or.inl zw_186⟩) trivial⟩
theorem zf_0_37_q : zall (zFok "<init>" "ManagedBus" 37 true) [(0, 4)] := zac (⟨zR_0, zTT_0, 6, zTY_0, "ManagedBus", zk_0, by decide, zw_345, Or.inl rfl, fun _ => Or.inr ⟨rfl, rfl, rfl⟩⟩) trivial
theorem zf_0_11_g (nm : String) : zall (zFok nm "ManagedBus" 11 false) [(0, 0)] := zac (⟨zR_0, zTT_0, 6, zTY_0, "ManagedBus", zk_0, by decide, zw_341, Or.inl rfl, fun h => nomatch h⟩) trivial
theorem zn_0_9 : zall (zNok "ManagedBus" 9) [(5, 7)] := zac (⟨zR_5, zTT_5, 7, zTY_5, zk_5, rfl, zw_25, zw_238, zw_8⟩) trivial
theorem zi_0_41 : ([(76, 1)] = [] → zOb "ManagedBus" 41) ∧ zall (zIok "ManagedBus" 41 1) [(76, 1)] := ⟨(fun h => nomatch h), zac (⟨zj_76, zpar_1, rfl, rfl, zw_240, Or.inl zw_239⟩) trivial⟩
theorem zf_0_17_g (nm : String) : zall (zFok nm "ManagedBus" 17 false) [(0, 1)] := zac (⟨zR_0, zTT_0, 6, zTY_0, "ManagedBus", zk_0, by decide, zw_342, Or.inl rfl, fun h => nomatch h⟩) trivial
theorem zf_0_30_g (nm : String) : zall (zFok nm "ManagedBus" 30 false) [(0, 3)] := zac (⟨zR_0, zTT_0, 6, zTY_0, "ManagedBus", zk_0, by decide, zw_344, Or.inl rfl, fun h => nomatch h⟩) trivial
theorem zf_0_37_g (nm : String) : zall (zFok nm "ManagedBus" 37 false) [(0, 4)] := zac (⟨zR_0, zTT_0, 6, zTY_0, "ManagedBus", zk_0, by decide, zw_345, Or.inl rfl, fun h => nomatch h⟩) trivial
theorem zf_0_23_g (nm : String) : zall (zFok nm "ManagedBus" 23 false) [(0, 2)] := zac (⟨zR_0, zTT_0, 6, zTY_0, "ManagedBus", zk_0, by decide, zw_343, Or.inl rfl, fun h => nomatch h⟩) trivial
theorem zn_0_21 : zall (zNok "ManagedBus" 21) [(8, 12)] := zac (⟨zR_8, zTT_8, 12, zTY_8, zk_8, rfl, zw_29, zw_326, zw_6⟩) trivial
theorem zi_0_44 : ([(146, 1)] = [] → zOb "ManagedBus" 44) ∧ zall (zIok "ManagedBus" 44 1) [(146, 1)] := ⟨(fun h => nomatch h), zac (⟨zj_146, zpar_1, rfl, rfl, zw_190, Or.inl zw_327⟩) trivial⟩
theorem zf_0_45_g (nm : String) : zall (zFok nm "ManagedBus" 45 false) [(5, 1)] := zac (⟨zR_5, zTT_5, 7, zTY_5, "ManagedBus$Bus", zk_5, by decide, zw_300, Or.inl rfl, fun h => nomatch h⟩) trivial
theorem zf_0_49_g (nm : String) : zall (zFok nm "ManagedBus" 49 false) [(1, 8)] := zac (⟨zR_1, zTT_1, 11, zTY_1, "ManagedBus$Manager", zk_1, by decide, zw_149, Or.inr zw_148, fun h => nomatch h⟩) trivial
theorem zf_0_53_g (nm : String) : zall (zFok nm "ManagedBus" 53 false) [(4, 10)] := zac (⟨zR_4, zTT_4, 13, zTY_4, "ManagedBus$Bridge", zk_4, by decide, zw_150, Or.inr zw_145, fun h => nomatch h⟩) trivial
theorem zf_0_54_g (nm : String) : zall (zFok nm "ManagedBus" 54 false) [(4, 0)] := zac (⟨zR_4, zTT_4, 13, zTY_4, "ManagedBus$Bridge", zk_4, by decide, zw_196, Or.inl rfl, fun h => nomatch h⟩) trivial
theorem zs_0_57 : zall (zSok "ManagedBus" 57 1) [(18, 1)] := zac (Or.inr (Or.inr ⟨rfl, zj_18, zpar_2, zw_365, Or.inl zw_364⟩)) trivial
theorem zf_0_61_g (nm : String) : zall (zFok nm "ManagedBus" 61 false) [(1, 9), (4, 11), (8, 10)] := zac (⟨zR_1, zTT_1, 11, zTY_1, "ManagedBus$Node", zk_1, by decide, zw_158, Or.inl rfl, fun h => nomatch h⟩) (zac (⟨zR_4, zTT_4, 13, zTY_4, "ManagedBus$Node", zk_4, by decide, zw_158, Or.inl rfl, fun h => nomatch h⟩) (zac (⟨zR_8, zTT_8, 12, zTY_8, "ManagedBus$Node", zk_8, by decide, zw_158, Or.inl rfl, fun h => nomatch h⟩) trivial))
theorem zs_0_65 : zall (zSok "ManagedBus" 65 1) [(17, 1)] := zac (Or.inr (Or.inr ⟨rfl, zj_17, zpar_2, zw_368, Or.inl zw_367⟩)) trivial
theorem zv_0_69 : ((2 : Int) = (-1 : Int) → zClw "ManagedBus" 69) ∧ zall (zVok "ManagedBus" 69 2) [(4, 147), (8, 147)] := ⟨(fun h => absurd h (by decide)), zac (⟨zR_4, zTT_4, 13, rfl, by decide, zj_147, zw_372, Or.inl ⟨zpar_3, zw_371, zw_375⟩⟩) (zac (⟨zR_8, zTT_8, 12, rfl, by decide, zj_147, zw_372, Or.inl ⟨zpar_3, zw_371, zw_373⟩⟩) trivial)⟩
theorem zf_0_73_g (nm : String) : zall (zFok nm "ManagedBus" 73 false) [(4, 10), (8, 9)] := zac (⟨zR_4, zTT_4, 13, zTY_4, "ManagedBus$SensingNode", zk_4, by decide, zw_153, Or.inr zw_152, fun h => nomatch h⟩) (zac (⟨zR_8, zTT_8, 12, zTY_8, "ManagedBus$SensingNode", zk_8, by decide, zw_153, Or.inr zw_152, fun h => nomatch h⟩) trivial)
theorem zf_0_61_p (nm : String) : zall (zFok nm "ManagedBus" 61 true) [(1, 9), (4, 11), (8, 10)] := zac (⟨zR_1, zTT_1, 11, zTY_1, "ManagedBus$Node", zk_1, by decide, zw_158, Or.inl rfl, fun _ => Or.inl rfl⟩) (zac (⟨zR_4, zTT_4, 13, zTY_4, "ManagedBus$Node", zk_4, by decide, zw_158, Or.inl rfl, fun _ => Or.inl rfl⟩) (zac (⟨zR_8, zTT_8, 12, zTY_8, "ManagedBus$Node", zk_8, by decide, zw_158, Or.inl rfl, fun _ => Or.inl rfl⟩) trivial))
theorem zf_0_74_g (nm : String) : zall (zFok nm "ManagedBus" 74 false) [(5, 2)] := zac (⟨zR_5, zTT_5, 7, zTY_5, "ManagedBus$Bus", zk_5, by decide, zw_302, Or.inl rfl, fun h => nomatch h⟩) trivial
theorem zv_0_78 : ((0 : Int) = (-1 : Int) → zClw "ManagedBus" 78) ∧ zall (zVok "ManagedBus" 78 0) [(6, 88)] := ⟨(fun h => absurd h (by decide)), zac (⟨zR_6, zTT_6, 8, rfl, by decide, zj_88, zw_400, Or.inl ⟨zpar_4, zw_399, zw_401⟩⟩) trivial⟩
theorem zv_0_84 : ((0 : Int) = (-1 : Int) → zClw "ManagedBus" 84) ∧ zall (zVok "ManagedBus" 84 0) [(6, 89)] := ⟨(fun h => absurd h (by decide)), zac (⟨zR_6, zTT_6, 8, rfl, by decide, zj_89, zw_404, Or.inl ⟨zpar_0, zw_403, zw_405⟩⟩) trivial⟩
theorem zf_0_87_p (nm : String) : zall (zFok nm "ManagedBus" 87 true) [(5, 4)] := zac (⟨zR_5, zTT_5, 7, zTY_5, "ManagedBus$Bus", zk_5, by decide, zw_307, Or.inl rfl, fun _ => Or.inl rfl⟩) trivial
theorem zf_0_90_p (nm : String) : zall (zFok nm "ManagedBus" 90 true) [(5, 5)] := zac (⟨zR_5, zTT_5, 7, zTY_5, "ManagedBus$Bus", zk_5, by decide, zw_309, Or.inl rfl, fun _ => Or.inl rfl⟩) trivial
theorem zf_0_93_g (nm : String) : zall (zFok nm "ManagedBus" 93 false) [(0, 5)] := zac (⟨zR_0, zTT_0, 6, zTY_0, "ManagedBus", zk_0, by decide, zw_346, Or.inl rfl, fun h => nomatch h⟩) trivial
theorem zf_0_93_p (nm : String) : zall (zFok nm "ManagedBus" 93 true) [(0, 5)] := zac (⟨zR_0, zTT_0, 6, zTY_0, "ManagedBus", zk_0, by decide, zw_346, Or.inl rfl, fun _ => Or.inl rfl⟩) trivial
theorem zv_0_96 : ((1 : Int) = (-1 : Int) → zClw "ManagedBus" 96) ∧ zall (zVok "ManagedBus" 96 1) [(0, 20)] := ⟨(fun h => absurd h (by decide)), zac (⟨zR_0, zTT_0, 6, rfl, by decide, zj_20, zw_421, Or.inl ⟨zpar_5, zw_419, zsel_1⟩⟩) trivial⟩
theorem zv_0_100 : ((0 : Int) = (-1 : Int) → zClw "ManagedBus" 100) ∧ zall (zVok "ManagedBus" 100 0) [(1, 105)] := ⟨(fun h => absurd h (by decide)), zac (⟨zR_1, zTT_1, 11, rfl, by decide, zj_105, zw_733, Or.inl ⟨zpar_0, zw_732, zw_734⟩⟩) trivial⟩
theorem zf_0_103_g (nm : String) : zall (zFok nm "ManagedBus" 103 false) [(1, 0)] := zac (⟨zR_1, zTT_1, 11, zTY_1, "ManagedBus$Manager", zk_1, by decide, zw_132, Or.inl rfl, fun h => nomatch h⟩) trivial
theorem zv_0_107 : ((2 : Int) = (-1 : Int) → zClw "ManagedBus" 107) ∧ zall (zVok "ManagedBus" 107 2) [(1, 104)] := ⟨(fun h => absurd h (by decide)), zac (⟨zR_1, zTT_1, 11, rfl, by decide, zj_104, zw_756, Or.inl ⟨zpar_6, zw_755, zw_757⟩⟩) trivial⟩
theorem zv_0_111 : ((1 : Int) = (-1 : Int) → zClw "ManagedBus" 111) ∧ zall (zVok "ManagedBus" 111 1) [(0, 19)] := ⟨(fun h => absurd h (by decide)), zac (⟨zR_0, zTT_0, 6, rfl, by decide, zj_19, zw_816, Or.inl ⟨zpar_7, zw_814, zsel_23⟩⟩) trivial⟩
theorem zf_0_115_p (nm : String) : zall (zFok nm "ManagedBus" 115 true) [(4, 1), (8, 0)] := zac (⟨zR_4, zTT_4, 13, zTY_4, "ManagedBus$SensingNode", zk_4, by decide, zw_198, Or.inl rfl, fun _ => Or.inl rfl⟩) (zac (⟨zR_8, zTT_8, 12, zTY_8, "ManagedBus$SensingNode", zk_8, by decide, zw_198, Or.inl rfl, fun _ => Or.inl rfl⟩) trivial)
theorem zv_0_118 : ((0 : Int) = (-1 : Int) → zClw "ManagedBus" 118) ∧ zall (zVok "ManagedBus" 118 0) [(4, 148), (8, 148)] := ⟨(fun h => absurd h (by decide)), zac (⟨zR_4, zTT_4, 13, rfl, by decide, zj_148, zw_672, Or.inl ⟨zpar_0, zw_818, zw_675⟩⟩) (zac (⟨zR_8, zTT_8, 12, rfl, by decide, zj_148, zw_672, Or.inl ⟨zpar_0, zw_818, zw_673⟩⟩) trivial)⟩
theorem zf_0_121_g (nm : String) : zall (zFok nm "ManagedBus" 121 false) [(6, 0)] := zac (⟨zR_6, zTT_6, 8, zTY_6, "ManagedBus$Enumeration", zk_6, by decide, zw_252, Or.inl rfl, fun h => nomatch h⟩) trivial
theorem zf_0_124_g (nm : String) : zall (zFok nm "ManagedBus" 124 false) [(6, 1)] := zac (⟨zR_6, zTT_6, 8, zTY_6, "ManagedBus$Enumeration", zk_6, by decide, zw_254, Or.inl rfl, fun h => nomatch h⟩) trivial
theorem zf_0_127_g (nm : String) : zall (zFok nm "ManagedBus" 127 false) [(6, 2)] := zac (⟨zR_6, zTT_6, 8, zTY_6, "ManagedBus$Enumeration", zk_6, by decide, zw_255, Or.inl rfl, fun h => nomatch h⟩) trivial
theorem zf_0_130_g (nm : String) : zall (zFok nm "ManagedBus" 130 false) [(1, 8), (4, 10), (8, 9)] := zac (⟨zR_1, zTT_1, 11, zTY_1, "ManagedBus$Node", zk_1, by decide, zw_154, Or.inl rfl, fun h => nomatch h⟩) (zac (⟨zR_4, zTT_4, 13, zTY_4, "ManagedBus$Node", zk_4, by decide, zw_154, Or.inl rfl, fun h => nomatch h⟩) (zac (⟨zR_8, zTT_8, 12, zTY_8, "ManagedBus$Node", zk_8, by decide, zw_154, Or.inl rfl, fun h => nomatch h⟩) trivial))
theorem zf_0_131_g (nm : String) : zall (zFok nm "ManagedBus" 131 false) [(2, 1)] := zac (⟨zR_2, zTT_2, 9, zTY_2, "ManagedBus$Port", zk_2, by decide, zw_91, Or.inl rfl, fun h => nomatch h⟩) trivial
theorem zf_0_136_g (nm : String) : zall (zFok nm "ManagedBus" 136 false) [(2, 2)] := zac (⟨zR_2, zTT_2, 9, zTY_2, "ManagedBus$Port", zk_2, by decide, zw_94, Or.inl rfl, fun h => nomatch h⟩) trivial
theorem zf_0_139_g (nm : String) : zall (zFok nm "ManagedBus" 139 false) [(2, 3)] := zac (⟨zR_2, zTT_2, 9, zTY_2, "ManagedBus$Port", zk_2, by decide, zw_97, Or.inl rfl, fun h => nomatch h⟩) trivial
theorem zf_0_143_g (nm : String) : zall (zFok nm "ManagedBus" 143 false) [(2, 4)] := zac (⟨zR_2, zTT_2, 9, zTY_2, "ManagedBus$Port", zk_2, by decide, zw_102, Or.inl rfl, fun h => nomatch h⟩) trivial
theorem zf_0_146_g (nm : String) : zall (zFok nm "ManagedBus" 146 false) [(2, 6)] := zac (⟨zR_2, zTT_2, 9, zTY_2, "ManagedBus$Port", zk_2, by decide, zw_107, Or.inl rfl, fun h => nomatch h⟩) trivial
theorem zf_0_149_g (nm : String) : zall (zFok nm "ManagedBus" 149 false) [(2, 5)] := zac (⟨zR_2, zTT_2, 9, zTY_2, "ManagedBus$Port", zk_2, by decide, zw_104, Or.inl rfl, fun h => nomatch h⟩) trivial
theorem zf_0_115_g (nm : String) : zall (zFok nm "ManagedBus" 115 false) [(4, 1), (8, 0)] := zac (⟨zR_4, zTT_4, 13, zTY_4, "ManagedBus$SensingNode", zk_4, by decide, zw_198, Or.inl rfl, fun h => nomatch h⟩) (zac (⟨zR_8, zTT_8, 12, zTY_8, "ManagedBus$SensingNode", zk_8, by decide, zw_198, Or.inl rfl, fun h => nomatch h⟩) trivial)
theorem zf_0_150_g (nm : String) : zall (zFok nm "ManagedBus" 150 false) [(4, 2), (8, 1)] := zac (⟨zR_4, zTT_4, 13, zTY_4, "ManagedBus$SensingNode", zk_4, by decide, zw_200, Or.inl rfl, fun h => nomatch h⟩) (zac (⟨zR_8, zTT_8, 12, zTY_8, "ManagedBus$SensingNode", zk_8, by decide, zw_200, Or.inl rfl, fun h => nomatch h⟩) trivial)
theorem zf_0_151_g (nm : String) : zall (zFok nm "ManagedBus" 151 false) [(4, 3), (8, 2)] := zac (⟨zR_4, zTT_4, 13, zTY_4, "ManagedBus$SensingNode", zk_4, by decide, zw_202, Or.inl rfl, fun h => nomatch h⟩) (zac (⟨zR_8, zTT_8, 12, zTY_8, "ManagedBus$SensingNode", zk_8, by decide, zw_202, Or.inl rfl, fun h => nomatch h⟩) trivial)
theorem zf_0_154_g (nm : String) : zall (zFok nm "ManagedBus" 154 false) [(4, 4), (8, 3)] := zac (⟨zR_4, zTT_4, 13, zTY_4, "ManagedBus$SensingNode", zk_4, by decide, zw_204, Or.inl rfl, fun h => nomatch h⟩) (zac (⟨zR_8, zTT_8, 12, zTY_8, "ManagedBus$SensingNode", zk_8, by decide, zw_204, Or.inl rfl, fun h => nomatch h⟩) trivial)
theorem zf_0_157_g (nm : String) : zall (zFok nm "ManagedBus" 157 false) [(4, 5), (8, 4)] := zac (⟨zR_4, zTT_4, 13, zTY_4, "ManagedBus$SensingNode", zk_4, by decide, zw_206, Or.inl rfl, fun h => nomatch h⟩) (zac (⟨zR_8, zTT_8, 12, zTY_8, "ManagedBus$SensingNode", zk_8, by decide, zw_206, Or.inl rfl, fun h => nomatch h⟩) trivial)
theorem zf_0_160_g (nm : String) : zall (zFok nm "ManagedBus" 160 false) [(4, 7), (8, 6)] := zac (⟨zR_4, zTT_4, 13, zTY_4, "ManagedBus$SensingNode", zk_4, by decide, zw_210, Or.inl rfl, fun h => nomatch h⟩) (zac (⟨zR_8, zTT_8, 12, zTY_8, "ManagedBus$SensingNode", zk_8, by decide, zw_210, Or.inl rfl, fun h => nomatch h⟩) trivial)
theorem zf_0_163_g (nm : String) : zall (zFok nm "ManagedBus" 163 false) [(4, 8), (8, 7)] := zac (⟨zR_4, zTT_4, 13, zTY_4, "ManagedBus$SensingNode", zk_4, by decide, zw_212, Or.inl rfl, fun h => nomatch h⟩) (zac (⟨zR_8, zTT_8, 12, zTY_8, "ManagedBus$SensingNode", zk_8, by decide, zw_212, Or.inl rfl, fun h => nomatch h⟩) trivial)
theorem zf_0_166_g (nm : String) : zall (zFok nm "ManagedBus" 166 false) [(4, 6), (8, 5)] := zac (⟨zR_4, zTT_4, 13, zTY_4, "ManagedBus$SensingNode", zk_4, by decide, zw_208, Or.inl rfl, fun h => nomatch h⟩) (zac (⟨zR_8, zTT_8, 12, zTY_8, "ManagedBus$SensingNode", zk_8, by decide, zw_208, Or.inl rfl, fun h => nomatch h⟩) trivial)
theorem zv_0_169 : ((1 : Int) = (-1 : Int) → zClw "ManagedBus" 169) ∧ zall (zVok "ManagedBus" 169 1) [(1, 103)] := ⟨(fun h => absurd h (by decide)), zac (⟨zR_1, zTT_1, 11, rfl, by decide, zj_103, zw_840, Or.inl ⟨zpar_8, zw_839, zw_841⟩⟩) trivial⟩
theorem zf_0_173_g (nm : String) : zall (zFok nm "ManagedBus" 173 false) [(10, 5)] := zac (⟨zR_10, zTT_10, 8, zTY_10, "ManagedBus$Request", zk_10, by decide, zw_788, Or.inl rfl, fun h => nomatch h⟩) trivial
theorem zf_0_176_g (nm : String) : zall (zFok nm "ManagedBus" 176 false) [(10, 0)] := zac (⟨zR_10, zTT_10, 8, zTY_10, "ManagedBus$Request", zk_10, by decide, zw_778, Or.inl rfl, fun h => nomatch h⟩) trivial
theorem zf_0_177_g (nm : String) : zall (zFok nm "ManagedBus" 177 false) [(10, 6)] := zac (⟨zR_10, zTT_10, 8, zTY_10, "ManagedBus$Request", zk_10, by decide, zw_790, Or.inl rfl, fun h => nomatch h⟩) trivial
theorem zf_0_180_g (nm : String) : zall (zFok nm "ManagedBus" 180 false) [(10, 7)] := zac (⟨zR_10, zTT_10, 8, zTY_10, "ManagedBus$Request", zk_10, by decide, zw_792, Or.inl rfl, fun h => nomatch h⟩) trivial
theorem zf_0_183_g (nm : String) : zall (zFok nm "ManagedBus" 183 false) [(10, 4)] := zac (⟨zR_10, zTT_10, 8, zTY_10, "ManagedBus$Request", zk_10, by decide, zw_786, Or.inl rfl, fun h => nomatch h⟩) trivial
theorem zf_0_186_g (nm : String) : zall (zFok nm "ManagedBus" 186 false) [(10, 3)] := zac (⟨zR_10, zTT_10, 8, zTY_10, "ManagedBus$Request", zk_10, by decide, zw_784, Or.inl rfl, fun h => nomatch h⟩) trivial
theorem zf_0_189_g (nm : String) : zall (zFok nm "ManagedBus" 189 false) [(1, 4)] := zac (⟨zR_1, zTT_1, 11, zTY_1, "ManagedBus$Manager", zk_1, by decide, zw_140, Or.inl rfl, fun h => nomatch h⟩) trivial
theorem zv_0_193 : ((1 : Int) = (-1 : Int) → zClw "ManagedBus" 193) ∧ zall (zVok "ManagedBus" 193 1) [(1, 109)] := ⟨(fun h => absurd h (by decide)), zac (⟨zR_1, zTT_1, 11, rfl, by decide, zj_109, zw_853, Or.inl ⟨zpar_9, zw_852, zw_854⟩⟩) trivial⟩
theorem zf_0_197_g (nm : String) : zall (zFok nm "ManagedBus" 197 false) [(1, 1)] := zac (⟨zR_1, zTT_1, 11, zTY_1, "ManagedBus$Manager", zk_1, by decide, zw_134, Or.inl rfl, fun h => nomatch h⟩) trivial
theorem zf_0_200_g (nm : String) : zall (zFok nm "ManagedBus" 200 false) [(1, 2)] := zac (⟨zR_1, zTT_1, 11, zTY_1, "ManagedBus$Manager", zk_1, by decide, zw_136, Or.inl rfl, fun h => nomatch h⟩) trivial
theorem zf_0_203_g (nm : String) : zall (zFok nm "ManagedBus" 203 false) [(1, 3)] := zac (⟨zR_1, zTT_1, 11, zTY_1, "ManagedBus$Manager", zk_1, by decide, zw_138, Or.inl rfl, fun h => nomatch h⟩) trivial
theorem zf_0_206_g (nm : String) : zall (zFok nm "ManagedBus" 206 false) [(5, 3)] := zac (⟨zR_5, zTT_5, 7, zTY_5, "ManagedBus$Bus", zk_5, by decide, zw_305, Or.inl rfl, fun h => nomatch h⟩) trivial
theorem zf_0_210_g (nm : String) : zall (zFok nm "ManagedBus" 210 false) [(7, 1)] := zac (⟨zR_7, zTT_7, 2, zTY_7, "ManagedBus$Row", zk_7, by decide, zw_291, Or.inl rfl, fun h => nomatch h⟩) trivial
theorem zf_0_215_g (nm : String) : zall (zFok nm "ManagedBus" 215 false) [(7, 0)] := zac (⟨zR_7, zTT_7, 2, zTY_7, "ManagedBus$Row", zk_7, by decide, zw_288, Or.inl rfl, fun h => nomatch h⟩) trivial
theorem zf_0_218_g (nm : String) : zall (zFok nm "ManagedBus" 218 false) [(4, 11), (8, 10)] := zac (⟨zR_4, zTT_4, 13, zTY_4, "ManagedBus$SensingNode", zk_4, by decide, zw_159, Or.inr zw_157, fun h => nomatch h⟩) (zac (⟨zR_8, zTT_8, 12, zTY_8, "ManagedBus$SensingNode", zk_8, by decide, zw_159, Or.inr zw_157, fun h => nomatch h⟩) trivial)
theorem zv_0_219 : ((1 : Int) = (-1 : Int) → zClw "ManagedBus" 219) ∧ zall (zVok "ManagedBus" 219 1) [(6, 90)] := ⟨(fun h => absurd h (by decide)), zac (⟨zR_6, zTT_6, 8, rfl, by decide, zj_90, zw_424, Or.inl ⟨zpar_5, zw_423, zw_425⟩⟩) trivial⟩
theorem zv_0_222 : ((0 : Int) = (-1 : Int) → zClw "ManagedBus" 222) ∧ zall (zVok "ManagedBus" 222 0) [(5, 78)] := ⟨(fun h => absurd h (by decide)), zac (⟨zR_5, zTT_5, 7, rfl, by decide, zj_78, zw_514, Or.inl ⟨zpar_10, zw_513, zw_515⟩⟩) trivial⟩
theorem zv_0_226 : ((0 : Int) = (-1 : Int) → zClw "ManagedBus" 226) ∧ zall (zVok "ManagedBus" 226 0) [(5, 77)] := ⟨(fun h => absurd h (by decide)), zac (⟨zR_5, zTT_5, 7, rfl, by decide, zj_77, zw_482, Or.inl ⟨zpar_4, zw_550, zw_483⟩⟩) trivial⟩
theorem zv_0_229 : ((2 : Int) = (-1 : Int) → zClw "ManagedBus" 229) ∧ zall (zVok "ManagedBus" 229 2) [(0, 21)] := ⟨(fun h => absurd h (by decide)), zac (⟨zR_0, zTT_0, 6, rfl, by decide, zj_21, zw_553, Or.inl ⟨zpar_11, zw_551, zsel_16⟩⟩) trivial⟩
theorem zv_0_233 : ((0 : Int) = (-1 : Int) → zClw "ManagedBus" 233) ∧ zall (zVok "ManagedBus" 233 0) [(2, 132)] := ⟨(fun h => absurd h (by decide)), zac (⟨zR_2, zTT_2, 9, rfl, by decide, zj_132, zw_724, Or.inl ⟨zpar_0, zw_723, zw_725⟩⟩) trivial⟩
theorem zv_0_236 : ((0 : Int) = (-1 : Int) → zClw "ManagedBus" 236) ∧ zall (zVok "ManagedBus" 236 0) [(2, 133)] := ⟨(fun h => absurd h (by decide)), zac (⟨zR_2, zTT_2, 9, rfl, by decide, zj_133, zw_728, Or.inl ⟨zpar_0, zw_727, zw_729⟩⟩) trivial⟩
theorem zv_0_239 : ((0 : Int) = (-1 : Int) → zClw "ManagedBus" 239) ∧ zall (zVok "ManagedBus" 239 0) [(2, 130)] := ⟨(fun h => absurd h (by decide)), zac (⟨zR_2, zTT_2, 9, rfl, by decide, zj_130, zw_526, Or.inl ⟨zpar_12, zw_555, zw_527⟩⟩) trivial⟩
theorem zf_0_243_g (nm : String) : zall (zFok nm "ManagedBus" 243 false) [(5, 0)] := zac (⟨zR_5, zTT_5, 7, zTY_5, "ManagedBus$Bus", zk_5, by decide, zw_298, Or.inl rfl, fun h => nomatch h⟩) trivial
theorem zv_0_246 : ((2 : Int) = (-1 : Int) → zClw "ManagedBus" 246) ∧ zall (zVok "ManagedBus" 246 2) [(1, 113), (4, 113), (8, 113)] := ⟨(fun h => absurd h (by decide)), zac (⟨zR_1, zTT_1, 11, rfl, by decide, zj_113, zw_557, Or.inl ⟨zpar_13, zw_556, zw_560⟩⟩) (zac (⟨zR_4, zTT_4, 13, rfl, by decide, zj_113, zw_557, Or.inl ⟨zpar_13, zw_556, zw_559⟩⟩) (zac (⟨zR_8, zTT_8, 12, rfl, by decide, zj_113, zw_557, Or.inl ⟨zpar_13, zw_556, zw_561⟩⟩) trivial))⟩
theorem zv_0_250 : ((1 : Int) = (-1 : Int) → zClw "ManagedBus" 250) ∧ zall (zVok "ManagedBus" 250 1) [(1, 107), (4, 150), (8, 150)] := ⟨(fun h => absurd h (by decide)), zac (⟨zR_1, zTT_1, 11, rfl, by decide, zj_107, zw_699, Or.inr (Or.inr (Or.inr ⟨"ManagedBus$Node", ⟨"ManagedBus$Node", "receive", "(LManagedBus$Part;)V"⟩, zpar_14, ⟨by decide +kernel, by decide +kernel⟩, zw_644, zw_646, zw_698, Or.inr (Or.inr (List.mem_cons_of_mem _ (List.mem_cons_self)))⟩))⟩) (zac (⟨zR_4, zTT_4, 13, rfl, by decide, zj_150, zw_648, Or.inr (Or.inr (Or.inr ⟨"ManagedBus$Node", ⟨"ManagedBus$Node", "receive", "(LManagedBus$Part;)V"⟩, zpar_14, ⟨by decide +kernel, by decide +kernel⟩, zw_644, zw_646, zw_647, Or.inr (Or.inr (List.mem_cons_of_mem _ (List.mem_cons_self)))⟩))⟩) (zac (⟨zR_8, zTT_8, 12, rfl, by decide, zj_150, zw_648, Or.inr (Or.inr (Or.inr ⟨"ManagedBus$Node", ⟨"ManagedBus$Node", "receive", "(LManagedBus$Part;)V"⟩, zpar_14, ⟨by decide +kernel, by decide +kernel⟩, zw_644, zw_646, zw_722, Or.inr (Or.inr (List.mem_cons_of_mem _ (List.mem_cons_self)))⟩))⟩) trivial))⟩
theorem zo_1_1 : (([] : List (Nat × Nat)) = [] → zOb "ManagedBusModel" 1) ∧ zall (zIok "ManagedBusModel" 1 0) [] := ⟨fun _ => ⟨zw_865, zw_23, zw_24⟩, trivial⟩
theorem zf_1_7_q : zall (zFok "<init>" "ManagedBusModel" 7 true) [(11, 1)] := zac (⟨zR_11, zTT_11, 52, zTY_11, "ManagedBusModel", zk_11, by decide, zw_867, Or.inl rfl, fun _ => Or.inr ⟨rfl, rfl, rfl⟩⟩) trivial
theorem zf_1_13_q : zall (zFok "<init>" "ManagedBusModel" 13 true) [(11, 2)] := zac (⟨zR_11, zTT_11, 52, zTY_11, "ManagedBusModel", zk_11, by decide, zw_868, Or.inl rfl, fun _ => Or.inr ⟨rfl, rfl, rfl⟩⟩) trivial
theorem zf_1_16_q : zall (zFok "<init>" "ManagedBusModel" 16 true) [(11, 3)] := zac (⟨zR_11, zTT_11, 52, zTY_11, "ManagedBusModel", zk_11, by decide, zw_869, Or.inl rfl, fun _ => Or.inr ⟨rfl, rfl, rfl⟩⟩) trivial
theorem zf_1_19_q : zall (zFok "<init>" "ManagedBusModel" 19 true) [(11, 4)] := zac (⟨zR_11, zTT_11, 52, zTY_11, "ManagedBusModel", zk_11, by decide, zw_870, Or.inl rfl, fun _ => Or.inr ⟨rfl, rfl, rfl⟩⟩) trivial
theorem zf_1_23_q : zall (zFok "<init>" "ManagedBusModel" 23 true) [(11, 5)] := zac (⟨zR_11, zTT_11, 52, zTY_11, "ManagedBusModel", zk_11, by decide, zw_871, Or.inl rfl, fun _ => Or.inr ⟨rfl, rfl, rfl⟩⟩) trivial
theorem zf_1_26_q : zall (zFok "<init>" "ManagedBusModel" 26 true) [(11, 6)] := zac (⟨zR_11, zTT_11, 52, zTY_11, "ManagedBusModel", zk_11, by decide, zw_872, Or.inl rfl, fun _ => Or.inr ⟨rfl, rfl, rfl⟩⟩) trivial
theorem zf_1_29_q : zall (zFok "<init>" "ManagedBusModel" 29 true) [(11, 7)] := zac (⟨zR_11, zTT_11, 52, zTY_11, "ManagedBusModel", zk_11, by decide, zw_873, Or.inl rfl, fun _ => Or.inr ⟨rfl, rfl, rfl⟩⟩) trivial
theorem zf_1_32_q : zall (zFok "<init>" "ManagedBusModel" 32 true) [(11, 8)] := zac (⟨zR_11, zTT_11, 52, zTY_11, "ManagedBusModel", zk_11, by decide, zw_874, Or.inl rfl, fun _ => Or.inr ⟨rfl, rfl, rfl⟩⟩) trivial
theorem zf_1_35_q : zall (zFok "<init>" "ManagedBusModel" 35 true) [(11, 9)] := zac (⟨zR_11, zTT_11, 52, zTY_11, "ManagedBusModel", zk_11, by decide, zw_875, Or.inl rfl, fun _ => Or.inr ⟨rfl, rfl, rfl⟩⟩) trivial
theorem zf_1_38_q : zall (zFok "<init>" "ManagedBusModel" 38 true) [(11, 10)] := zac (⟨zR_11, zTT_11, 52, zTY_11, "ManagedBusModel", zk_11, by decide, zw_876, Or.inl rfl, fun _ => Or.inr ⟨rfl, rfl, rfl⟩⟩) trivial
theorem zf_1_41_q : zall (zFok "<init>" "ManagedBusModel" 41 true) [(11, 11)] := zac (⟨zR_11, zTT_11, 52, zTY_11, "ManagedBusModel", zk_11, by decide, zw_877, Or.inl rfl, fun _ => Or.inr ⟨rfl, rfl, rfl⟩⟩) trivial
theorem zf_1_44_q : zall (zFok "<init>" "ManagedBusModel" 44 true) [(11, 12)] := zac (⟨zR_11, zTT_11, 52, zTY_11, "ManagedBusModel", zk_11, by decide, zw_878, Or.inl rfl, fun _ => Or.inr ⟨rfl, rfl, rfl⟩⟩) trivial
theorem zf_1_47_q : zall (zFok "<init>" "ManagedBusModel" 47 true) [(11, 13)] := zac (⟨zR_11, zTT_11, 52, zTY_11, "ManagedBusModel", zk_11, by decide, zw_879, Or.inl rfl, fun _ => Or.inr ⟨rfl, rfl, rfl⟩⟩) trivial
theorem zf_1_50_q : zall (zFok "<init>" "ManagedBusModel" 50 true) [(11, 14)] := zac (⟨zR_11, zTT_11, 52, zTY_11, "ManagedBusModel", zk_11, by decide, zw_880, Or.inl rfl, fun _ => Or.inr ⟨rfl, rfl, rfl⟩⟩) trivial
theorem zf_1_53_q : zall (zFok "<init>" "ManagedBusModel" 53 true) [(11, 15)] := zac (⟨zR_11, zTT_11, 52, zTY_11, "ManagedBusModel", zk_11, by decide, zw_881, Or.inl rfl, fun _ => Or.inr ⟨rfl, rfl, rfl⟩⟩) trivial
theorem zf_1_56_q : zall (zFok "<init>" "ManagedBusModel" 56 true) [(11, 16)] := zac (⟨zR_11, zTT_11, 52, zTY_11, "ManagedBusModel", zk_11, by decide, zw_882, Or.inl rfl, fun _ => Or.inr ⟨rfl, rfl, rfl⟩⟩) trivial
theorem zf_1_59_q : zall (zFok "<init>" "ManagedBusModel" 59 true) [(11, 17)] := zac (⟨zR_11, zTT_11, 52, zTY_11, "ManagedBusModel", zk_11, by decide, zw_883, Or.inl rfl, fun _ => Or.inr ⟨rfl, rfl, rfl⟩⟩) trivial
theorem zf_1_62_q : zall (zFok "<init>" "ManagedBusModel" 62 true) [(11, 18)] := zac (⟨zR_11, zTT_11, 52, zTY_11, "ManagedBusModel", zk_11, by decide, zw_884, Or.inl rfl, fun _ => Or.inr ⟨rfl, rfl, rfl⟩⟩) trivial
theorem zf_1_65_q : zall (zFok "<init>" "ManagedBusModel" 65 true) [(11, 19)] := zac (⟨zR_11, zTT_11, 52, zTY_11, "ManagedBusModel", zk_11, by decide, zw_885, Or.inl rfl, fun _ => Or.inr ⟨rfl, rfl, rfl⟩⟩) trivial
theorem zf_1_68_q : zall (zFok "<init>" "ManagedBusModel" 68 true) [(11, 20)] := zac (⟨zR_11, zTT_11, 52, zTY_11, "ManagedBusModel", zk_11, by decide, zw_886, Or.inl rfl, fun _ => Or.inr ⟨rfl, rfl, rfl⟩⟩) trivial
theorem zf_1_71_q : zall (zFok "<init>" "ManagedBusModel" 71 true) [(11, 21)] := zac (⟨zR_11, zTT_11, 52, zTY_11, "ManagedBusModel", zk_11, by decide, zw_887, Or.inl rfl, fun _ => Or.inr ⟨rfl, rfl, rfl⟩⟩) trivial
theorem zf_1_74_q : zall (zFok "<init>" "ManagedBusModel" 74 true) [(11, 22)] := zac (⟨zR_11, zTT_11, 52, zTY_11, "ManagedBusModel", zk_11, by decide, zw_888, Or.inl rfl, fun _ => Or.inr ⟨rfl, rfl, rfl⟩⟩) trivial
theorem zf_1_77_q : zall (zFok "<init>" "ManagedBusModel" 77 true) [(11, 23)] := zac (⟨zR_11, zTT_11, 52, zTY_11, "ManagedBusModel", zk_11, by decide, zw_889, Or.inl rfl, fun _ => Or.inr ⟨rfl, rfl, rfl⟩⟩) trivial
theorem zf_1_80_q : zall (zFok "<init>" "ManagedBusModel" 80 true) [(11, 24)] := zac (⟨zR_11, zTT_11, 52, zTY_11, "ManagedBusModel", zk_11, by decide, zw_890, Or.inl rfl, fun _ => Or.inr ⟨rfl, rfl, rfl⟩⟩) trivial
theorem zf_1_83_q : zall (zFok "<init>" "ManagedBusModel" 83 true) [(11, 25)] := zac (⟨zR_11, zTT_11, 52, zTY_11, "ManagedBusModel", zk_11, by decide, zw_891, Or.inl rfl, fun _ => Or.inr ⟨rfl, rfl, rfl⟩⟩) trivial
theorem zf_1_86_q : zall (zFok "<init>" "ManagedBusModel" 86 true) [(11, 26)] := zac (⟨zR_11, zTT_11, 52, zTY_11, "ManagedBusModel", zk_11, by decide, zw_892, Or.inl rfl, fun _ => Or.inr ⟨rfl, rfl, rfl⟩⟩) trivial
theorem zf_1_89_q : zall (zFok "<init>" "ManagedBusModel" 89 true) [(11, 27)] := zac (⟨zR_11, zTT_11, 52, zTY_11, "ManagedBusModel", zk_11, by decide, zw_893, Or.inl rfl, fun _ => Or.inr ⟨rfl, rfl, rfl⟩⟩) trivial
theorem zf_1_92_q : zall (zFok "<init>" "ManagedBusModel" 92 true) [(11, 29)] := zac (⟨zR_11, zTT_11, 52, zTY_11, "ManagedBusModel", zk_11, by decide, zw_895, Or.inl rfl, fun _ => Or.inr ⟨rfl, rfl, rfl⟩⟩) trivial
theorem zf_1_95_q : zall (zFok "<init>" "ManagedBusModel" 95 true) [(11, 30)] := zac (⟨zR_11, zTT_11, 52, zTY_11, "ManagedBusModel", zk_11, by decide, zw_896, Or.inl rfl, fun _ => Or.inr ⟨rfl, rfl, rfl⟩⟩) trivial
theorem zf_1_98_q : zall (zFok "<init>" "ManagedBusModel" 98 true) [(11, 31)] := zac (⟨zR_11, zTT_11, 52, zTY_11, "ManagedBusModel", zk_11, by decide, zw_897, Or.inl rfl, fun _ => Or.inr ⟨rfl, rfl, rfl⟩⟩) trivial
theorem zf_1_101_q : zall (zFok "<init>" "ManagedBusModel" 101 true) [(11, 33)] := zac (⟨zR_11, zTT_11, 52, zTY_11, "ManagedBusModel", zk_11, by decide, zw_899, Or.inl rfl, fun _ => Or.inr ⟨rfl, rfl, rfl⟩⟩) trivial
theorem zf_1_104_q : zall (zFok "<init>" "ManagedBusModel" 104 true) [(11, 35)] := zac (⟨zR_11, zTT_11, 52, zTY_11, "ManagedBusModel", zk_11, by decide, zw_901, Or.inl rfl, fun _ => Or.inr ⟨rfl, rfl, rfl⟩⟩) trivial
theorem zf_1_107_q : zall (zFok "<init>" "ManagedBusModel" 107 true) [(11, 36)] := zac (⟨zR_11, zTT_11, 52, zTY_11, "ManagedBusModel", zk_11, by decide, zw_902, Or.inl rfl, fun _ => Or.inr ⟨rfl, rfl, rfl⟩⟩) trivial
theorem zf_1_110_q : zall (zFok "<init>" "ManagedBusModel" 110 true) [(11, 37)] := zac (⟨zR_11, zTT_11, 52, zTY_11, "ManagedBusModel", zk_11, by decide, zw_903, Or.inl rfl, fun _ => Or.inr ⟨rfl, rfl, rfl⟩⟩) trivial
theorem zf_1_113_q : zall (zFok "<init>" "ManagedBusModel" 113 true) [(11, 38)] := zac (⟨zR_11, zTT_11, 52, zTY_11, "ManagedBusModel", zk_11, by decide, zw_904, Or.inl rfl, fun _ => Or.inr ⟨rfl, rfl, rfl⟩⟩) trivial
theorem zf_1_116_q : zall (zFok "<init>" "ManagedBusModel" 116 true) [(11, 40)] := zac (⟨zR_11, zTT_11, 52, zTY_11, "ManagedBusModel", zk_11, by decide, zw_906, Or.inl rfl, fun _ => Or.inr ⟨rfl, rfl, rfl⟩⟩) trivial
theorem zf_1_119_q : zall (zFok "<init>" "ManagedBusModel" 119 true) [(11, 42)] := zac (⟨zR_11, zTT_11, 52, zTY_11, "ManagedBusModel", zk_11, by decide, zw_908, Or.inl rfl, fun _ => Or.inr ⟨rfl, rfl, rfl⟩⟩) trivial
theorem zf_1_122_q : zall (zFok "<init>" "ManagedBusModel" 122 true) [(11, 43)] := zac (⟨zR_11, zTT_11, 52, zTY_11, "ManagedBusModel", zk_11, by decide, zw_909, Or.inl rfl, fun _ => Or.inr ⟨rfl, rfl, rfl⟩⟩) trivial
theorem zf_1_125_q : zall (zFok "<init>" "ManagedBusModel" 125 true) [(11, 44)] := zac (⟨zR_11, zTT_11, 52, zTY_11, "ManagedBusModel", zk_11, by decide, zw_910, Or.inl rfl, fun _ => Or.inr ⟨rfl, rfl, rfl⟩⟩) trivial
theorem zf_1_128_q : zall (zFok "<init>" "ManagedBusModel" 128 true) [(11, 45)] := zac (⟨zR_11, zTT_11, 52, zTY_11, "ManagedBusModel", zk_11, by decide, zw_911, Or.inl rfl, fun _ => Or.inr ⟨rfl, rfl, rfl⟩⟩) trivial
theorem zf_1_131_q : zall (zFok "<init>" "ManagedBusModel" 131 true) [(11, 46)] := zac (⟨zR_11, zTT_11, 52, zTY_11, "ManagedBusModel", zk_11, by decide, zw_912, Or.inl rfl, fun _ => Or.inr ⟨rfl, rfl, rfl⟩⟩) trivial
theorem zf_1_134_q : zall (zFok "<init>" "ManagedBusModel" 134 true) [(11, 47)] := zac (⟨zR_11, zTT_11, 52, zTY_11, "ManagedBusModel", zk_11, by decide, zw_913, Or.inl rfl, fun _ => Or.inr ⟨rfl, rfl, rfl⟩⟩) trivial
theorem zf_1_137_q : zall (zFok "<init>" "ManagedBusModel" 137 true) [(11, 48)] := zac (⟨zR_11, zTT_11, 52, zTY_11, "ManagedBusModel", zk_11, by decide, zw_914, Or.inl rfl, fun _ => Or.inr ⟨rfl, rfl, rfl⟩⟩) trivial
theorem zf_1_140_q : zall (zFok "<init>" "ManagedBusModel" 140 true) [(11, 49)] := zac (⟨zR_11, zTT_11, 52, zTY_11, "ManagedBusModel", zk_11, by decide, zw_915, Or.inl rfl, fun _ => Or.inr ⟨rfl, rfl, rfl⟩⟩) trivial
theorem zf_1_143_q : zall (zFok "<init>" "ManagedBusModel" 143 true) [(11, 51)] := zac (⟨zR_11, zTT_11, 52, zTY_11, "ManagedBusModel", zk_11, by decide, zw_917, Or.inl rfl, fun _ => Or.inr ⟨rfl, rfl, rfl⟩⟩) trivial
theorem zf_1_7_g (nm : String) : zall (zFok nm "ManagedBusModel" 7 false) [(11, 1)] := zac (⟨zR_11, zTT_11, 52, zTY_11, "ManagedBusModel", zk_11, by decide, zw_867, Or.inl rfl, fun h => nomatch h⟩) trivial
theorem zf_1_16_g (nm : String) : zall (zFok nm "ManagedBusModel" 16 false) [(11, 3)] := zac (⟨zR_11, zTT_11, 52, zTY_11, "ManagedBusModel", zk_11, by decide, zw_869, Or.inl rfl, fun h => nomatch h⟩) trivial
theorem zf_1_13_g (nm : String) : zall (zFok nm "ManagedBusModel" 13 false) [(11, 2)] := zac (⟨zR_11, zTT_11, 52, zTY_11, "ManagedBusModel", zk_11, by decide, zw_868, Or.inl rfl, fun h => nomatch h⟩) trivial
theorem zf_1_32_g (nm : String) : zall (zFok nm "ManagedBusModel" 32 false) [(11, 8)] := zac (⟨zR_11, zTT_11, 52, zTY_11, "ManagedBusModel", zk_11, by decide, zw_874, Or.inl rfl, fun h => nomatch h⟩) trivial
theorem zf_1_50_g (nm : String) : zall (zFok nm "ManagedBusModel" 50 false) [(11, 14)] := zac (⟨zR_11, zTT_11, 52, zTY_11, "ManagedBusModel", zk_11, by decide, zw_880, Or.inl rfl, fun h => nomatch h⟩) trivial
theorem zf_1_53_g (nm : String) : zall (zFok nm "ManagedBusModel" 53 false) [(11, 15)] := zac (⟨zR_11, zTT_11, 52, zTY_11, "ManagedBusModel", zk_11, by decide, zw_881, Or.inl rfl, fun h => nomatch h⟩) trivial
theorem zs_1_146 : zall (zSok "ManagedBusModel" 146 1) [(27, 1)] := zac (Or.inr (Or.inr ⟨rfl, zj_27, zpar_2, zw_1029, Or.inl zw_1028⟩)) trivial
theorem zs_1_150 : zall (zSok "ManagedBusModel" 150 3) [(24, 1)] := zac (Or.inr (Or.inr ⟨rfl, zj_24, zpar_15, zw_1032, Or.inl zw_1031⟩)) trivial
theorem zf_1_19_g (nm : String) : zall (zFok nm "ManagedBusModel" 19 false) [(11, 4)] := zac (⟨zR_11, zTT_11, 52, zTY_11, "ManagedBusModel", zk_11, by decide, zw_870, Or.inl rfl, fun h => nomatch h⟩) trivial
theorem zf_1_23_g (nm : String) : zall (zFok nm "ManagedBusModel" 23 false) [(11, 5)] := zac (⟨zR_11, zTT_11, 52, zTY_11, "ManagedBusModel", zk_11, by decide, zw_871, Or.inl rfl, fun h => nomatch h⟩) trivial
theorem zf_1_26_g (nm : String) : zall (zFok nm "ManagedBusModel" 26 false) [(11, 6)] := zac (⟨zR_11, zTT_11, 52, zTY_11, "ManagedBusModel", zk_11, by decide, zw_872, Or.inl rfl, fun h => nomatch h⟩) trivial
theorem zf_1_35_g (nm : String) : zall (zFok nm "ManagedBusModel" 35 false) [(11, 9)] := zac (⟨zR_11, zTT_11, 52, zTY_11, "ManagedBusModel", zk_11, by decide, zw_875, Or.inl rfl, fun h => nomatch h⟩) trivial
theorem zf_1_47_g (nm : String) : zall (zFok nm "ManagedBusModel" 47 false) [(11, 13)] := zac (⟨zR_11, zTT_11, 52, zTY_11, "ManagedBusModel", zk_11, by decide, zw_879, Or.inl rfl, fun h => nomatch h⟩) trivial
theorem zf_1_56_g (nm : String) : zall (zFok nm "ManagedBusModel" 56 false) [(11, 16)] := zac (⟨zR_11, zTT_11, 52, zTY_11, "ManagedBusModel", zk_11, by decide, zw_882, Or.inl rfl, fun h => nomatch h⟩) trivial
theorem zf_1_59_g (nm : String) : zall (zFok nm "ManagedBusModel" 59 false) [(11, 17)] := zac (⟨zR_11, zTT_11, 52, zTY_11, "ManagedBusModel", zk_11, by decide, zw_883, Or.inl rfl, fun h => nomatch h⟩) trivial
theorem zf_1_62_g (nm : String) : zall (zFok nm "ManagedBusModel" 62 false) [(11, 18)] := zac (⟨zR_11, zTT_11, 52, zTY_11, "ManagedBusModel", zk_11, by decide, zw_884, Or.inl rfl, fun h => nomatch h⟩) trivial
theorem zf_1_65_g (nm : String) : zall (zFok nm "ManagedBusModel" 65 false) [(11, 19)] := zac (⟨zR_11, zTT_11, 52, zTY_11, "ManagedBusModel", zk_11, by decide, zw_885, Or.inl rfl, fun h => nomatch h⟩) trivial
theorem zf_1_68_g (nm : String) : zall (zFok nm "ManagedBusModel" 68 false) [(11, 20)] := zac (⟨zR_11, zTT_11, 52, zTY_11, "ManagedBusModel", zk_11, by decide, zw_886, Or.inl rfl, fun h => nomatch h⟩) trivial
theorem zf_1_71_g (nm : String) : zall (zFok nm "ManagedBusModel" 71 false) [(11, 21)] := zac (⟨zR_11, zTT_11, 52, zTY_11, "ManagedBusModel", zk_11, by decide, zw_887, Or.inl rfl, fun h => nomatch h⟩) trivial
theorem zf_1_74_g (nm : String) : zall (zFok nm "ManagedBusModel" 74 false) [(11, 22)] := zac (⟨zR_11, zTT_11, 52, zTY_11, "ManagedBusModel", zk_11, by decide, zw_888, Or.inl rfl, fun h => nomatch h⟩) trivial
theorem zf_1_80_g (nm : String) : zall (zFok nm "ManagedBusModel" 80 false) [(11, 24)] := zac (⟨zR_11, zTT_11, 52, zTY_11, "ManagedBusModel", zk_11, by decide, zw_890, Or.inl rfl, fun h => nomatch h⟩) trivial
theorem zf_1_92_g (nm : String) : zall (zFok nm "ManagedBusModel" 92 false) [(11, 29)] := zac (⟨zR_11, zTT_11, 52, zTY_11, "ManagedBusModel", zk_11, by decide, zw_895, Or.inl rfl, fun h => nomatch h⟩) trivial
theorem zf_1_95_g (nm : String) : zall (zFok nm "ManagedBusModel" 95 false) [(11, 30)] := zac (⟨zR_11, zTT_11, 52, zTY_11, "ManagedBusModel", zk_11, by decide, zw_896, Or.inl rfl, fun h => nomatch h⟩) trivial
theorem zf_1_116_g (nm : String) : zall (zFok nm "ManagedBusModel" 116 false) [(11, 40)] := zac (⟨zR_11, zTT_11, 52, zTY_11, "ManagedBusModel", zk_11, by decide, zw_906, Or.inl rfl, fun h => nomatch h⟩) trivial
theorem zf_1_155_g (nm : String) : zall (zFok nm "ManagedBusModel" 155 false) [(11, 41)] := zac (⟨zR_11, zTT_11, 52, zTY_11, "ManagedBusModel", zk_11, by decide, zw_907, Or.inl rfl, fun h => nomatch h⟩) trivial
theorem zf_1_155_p (nm : String) : zall (zFok nm "ManagedBusModel" 155 true) [(11, 41)] := zac (⟨zR_11, zTT_11, 52, zTY_11, "ManagedBusModel", zk_11, by decide, zw_907, Or.inl rfl, fun _ => Or.inl rfl⟩) trivial
theorem zf_1_119_g (nm : String) : zall (zFok nm "ManagedBusModel" 119 false) [(11, 42)] := zac (⟨zR_11, zTT_11, 52, zTY_11, "ManagedBusModel", zk_11, by decide, zw_908, Or.inl rfl, fun h => nomatch h⟩) trivial
theorem zf_1_122_g (nm : String) : zall (zFok nm "ManagedBusModel" 122 false) [(11, 43)] := zac (⟨zR_11, zTT_11, 52, zTY_11, "ManagedBusModel", zk_11, by decide, zw_909, Or.inl rfl, fun h => nomatch h⟩) trivial
theorem zf_1_125_g (nm : String) : zall (zFok nm "ManagedBusModel" 125 false) [(11, 44)] := zac (⟨zR_11, zTT_11, 52, zTY_11, "ManagedBusModel", zk_11, by decide, zw_910, Or.inl rfl, fun h => nomatch h⟩) trivial
theorem zf_1_128_g (nm : String) : zall (zFok nm "ManagedBusModel" 128 false) [(11, 45)] := zac (⟨zR_11, zTT_11, 52, zTY_11, "ManagedBusModel", zk_11, by decide, zw_911, Or.inl rfl, fun h => nomatch h⟩) trivial
theorem zf_1_131_g (nm : String) : zall (zFok nm "ManagedBusModel" 131 false) [(11, 46)] := zac (⟨zR_11, zTT_11, 52, zTY_11, "ManagedBusModel", zk_11, by decide, zw_912, Or.inl rfl, fun h => nomatch h⟩) trivial
theorem zf_1_134_g (nm : String) : zall (zFok nm "ManagedBusModel" 134 false) [(11, 47)] := zac (⟨zR_11, zTT_11, 52, zTY_11, "ManagedBusModel", zk_11, by decide, zw_913, Or.inl rfl, fun h => nomatch h⟩) trivial
theorem zv_1_159 : ((1 : Int) = (-1 : Int) → zClw "ManagedBusModel" 159) ∧ zall (zVok "ManagedBusModel" 159 1) [(11, 35)] := ⟨(fun h => absurd h (by decide)), zac (⟨zR_11, zTT_11, 52, rfl, by decide, zj_35, zw_1057, Or.inl ⟨zpar_1, zw_1055, zsel_24⟩⟩) trivial⟩
theorem zf_1_163_p (nm : String) : zall (zFok nm "ManagedBusModel" 163 true) [(11, 39)] := zac (⟨zR_11, zTT_11, 52, zTY_11, "ManagedBusModel", zk_11, by decide, zw_905, Or.inl rfl, fun _ => Or.inl rfl⟩) trivial
theorem zf_1_163_g (nm : String) : zall (zFok nm "ManagedBusModel" 163 false) [(11, 39)] := zac (⟨zR_11, zTT_11, 52, zTY_11, "ManagedBusModel", zk_11, by decide, zw_905, Or.inl rfl, fun h => nomatch h⟩) trivial
theorem zf_1_113_g (nm : String) : zall (zFok nm "ManagedBusModel" 113 false) [(11, 38)] := zac (⟨zR_11, zTT_11, 52, zTY_11, "ManagedBusModel", zk_11, by decide, zw_904, Or.inl rfl, fun h => nomatch h⟩) trivial
theorem zv_1_166 : ((3 : Int) = (-1 : Int) → zClw "ManagedBusModel" 166) ∧ zall (zVok "ManagedBusModel" 166 3) [(11, 37)] := ⟨(fun h => absurd h (by decide)), zac (⟨zR_11, zTT_11, 52, rfl, by decide, zj_37, zw_1061, Or.inl ⟨zpar_16, zw_1059, zsel_25⟩⟩) trivial⟩
theorem zv_1_170 : ((1 : Int) = (-1 : Int) → zClw "ManagedBusModel" 170) ∧ zall (zVok "ManagedBusModel" 170 1) [(11, 28)] := ⟨(fun h => absurd h (by decide)), zac (⟨zR_11, zTT_11, 52, rfl, by decide, zj_28, zw_1069, Or.inl ⟨zpar_2, zw_1067, zsel_26⟩⟩) trivial⟩
theorem zv_1_173 : ((1 : Int) = (-1 : Int) → zClw "ManagedBusModel" 173) ∧ zall (zVok "ManagedBusModel" 173 1) [(11, 38)] := ⟨(fun h => absurd h (by decide)), zac (⟨zR_11, zTT_11, 52, rfl, by decide, zj_38, zw_1073, Or.inl ⟨zpar_1, zw_1071, zsel_27⟩⟩) trivial⟩
theorem zf_1_29_g (nm : String) : zall (zFok nm "ManagedBusModel" 29 false) [(11, 7)] := zac (⟨zR_11, zTT_11, 52, zTY_11, "ManagedBusModel", zk_11, by decide, zw_873, Or.inl rfl, fun h => nomatch h⟩) trivial
theorem zv_1_177 : ((1 : Int) = (-1 : Int) → zClw "ManagedBusModel" 177) ∧ zall (zVok "ManagedBusModel" 177 1) [(11, 39)] := ⟨(fun h => absurd h (by decide)), zac (⟨zR_11, zTT_11, 52, rfl, by decide, zj_39, zw_1175, Or.inl ⟨zpar_9, zw_1173, zsel_49⟩⟩) trivial⟩
theorem zv_1_181 : ((3 : Int) = (-1 : Int) → zClw "ManagedBusModel" 181) ∧ zall (zVok "ManagedBusModel" 181 3) [(11, 40)] := ⟨(fun h => absurd h (by decide)), zac (⟨zR_11, zTT_11, 52, rfl, by decide, zj_40, zw_1171, Or.inl ⟨zpar_16, zw_1169, zsel_48⟩⟩) trivial⟩
theorem zv_1_183 : ((1 : Int) = (-1 : Int) → zClw "ManagedBusModel" 183) ∧ zall (zVok "ManagedBusModel" 183 1) [(11, 42)] := ⟨(fun h => absurd h (by decide)), zac (⟨zR_11, zTT_11, 52, rfl, by decide, zj_42, zw_1179, Or.inl ⟨zpar_1, zw_1177, zsel_50⟩⟩) trivial⟩
theorem zv_1_186 : ((2 : Int) = (-1 : Int) → zClw "ManagedBusModel" 186) ∧ zall (zVok "ManagedBusModel" 186 2) [(11, 43)] := ⟨(fun h => absurd h (by decide)), zac (⟨zR_11, zTT_11, 52, rfl, by decide, zj_43, zw_1183, Or.inl ⟨zpar_3, zw_1181, zsel_51⟩⟩) trivial⟩
theorem zf_1_190_g (nm : String) : zall (zFok nm "ManagedBusModel" 190 false) [(11, 50)] := zac (⟨zR_11, zTT_11, 52, zTY_11, "ManagedBusModel", zk_11, by decide, zw_916, Or.inl rfl, fun h => nomatch h⟩) trivial
theorem zf_1_143_g (nm : String) : zall (zFok nm "ManagedBusModel" 143 false) [(11, 51)] := zac (⟨zR_11, zTT_11, 52, zTY_11, "ManagedBusModel", zk_11, by decide, zw_917, Or.inl rfl, fun h => nomatch h⟩) trivial
theorem zf_1_190_p (nm : String) : zall (zFok nm "ManagedBusModel" 190 true) [(11, 50)] := zac (⟨zR_11, zTT_11, 52, zTY_11, "ManagedBusModel", zk_11, by decide, zw_916, Or.inl rfl, fun _ => Or.inl rfl⟩) trivial
theorem zf_1_137_g (nm : String) : zall (zFok nm "ManagedBusModel" 137 false) [(11, 48)] := zac (⟨zR_11, zTT_11, 52, zTY_11, "ManagedBusModel", zk_11, by decide, zw_914, Or.inl rfl, fun h => nomatch h⟩) trivial
theorem zf_1_140_g (nm : String) : zall (zFok nm "ManagedBusModel" 140 false) [(11, 49)] := zac (⟨zR_11, zTT_11, 52, zTY_11, "ManagedBusModel", zk_11, by decide, zw_915, Or.inl rfl, fun h => nomatch h⟩) trivial
theorem zf_1_110_g (nm : String) : zall (zFok nm "ManagedBusModel" 110 false) [(11, 37)] := zac (⟨zR_11, zTT_11, 52, zTY_11, "ManagedBusModel", zk_11, by decide, zw_903, Or.inl rfl, fun h => nomatch h⟩) trivial
theorem zf_1_38_g (nm : String) : zall (zFok nm "ManagedBusModel" 38 false) [(11, 10)] := zac (⟨zR_11, zTT_11, 52, zTY_11, "ManagedBusModel", zk_11, by decide, zw_876, Or.inl rfl, fun h => nomatch h⟩) trivial
theorem zf_1_41_g (nm : String) : zall (zFok nm "ManagedBusModel" 41 false) [(11, 11)] := zac (⟨zR_11, zTT_11, 52, zTY_11, "ManagedBusModel", zk_11, by decide, zw_877, Or.inl rfl, fun h => nomatch h⟩) trivial
theorem zf_1_44_g (nm : String) : zall (zFok nm "ManagedBusModel" 44 false) [(11, 12)] := zac (⟨zR_11, zTT_11, 52, zTY_11, "ManagedBusModel", zk_11, by decide, zw_878, Or.inl rfl, fun h => nomatch h⟩) trivial
theorem zv_1_193 : ((3 : Int) = (-1 : Int) → zClw "ManagedBusModel" 193) ∧ zall (zVok "ManagedBusModel" 193 3) [(11, 41)] := ⟨(fun h => absurd h (by decide)), zac (⟨zR_11, zTT_11, 52, rfl, by decide, zj_41, zw_1167, Or.inl ⟨zpar_16, zw_1165, zsel_47⟩⟩) trivial⟩
theorem zs_1_196 : zall (zSok "ManagedBusModel" 196 1) [(25, 1)] := zac (Or.inr (Or.inr ⟨rfl, zj_25, zpar_9, zw_1131, Or.inl zw_1130⟩)) trivial
theorem zv_1_199 : ((1 : Int) = (-1 : Int) → zClw "ManagedBusModel" 199) ∧ zall (zVok "ManagedBusModel" 199 1) [(11, 44)] := ⟨(fun h => absurd h (by decide)), zac (⟨zR_11, zTT_11, 52, rfl, by decide, zj_44, zw_1163, Or.inl ⟨zpar_1, zw_1161, zsel_46⟩⟩) trivial⟩
theorem zf_1_202_g (nm : String) : zall (zFok nm "ManagedBusModel" 202 false) [(11, 28)] := zac (⟨zR_11, zTT_11, 52, zTY_11, "ManagedBusModel", zk_11, by decide, zw_894, Or.inl rfl, fun h => nomatch h⟩) trivial
theorem zf_1_98_g (nm : String) : zall (zFok nm "ManagedBusModel" 98 false) [(11, 31)] := zac (⟨zR_11, zTT_11, 52, zTY_11, "ManagedBusModel", zk_11, by decide, zw_897, Or.inl rfl, fun h => nomatch h⟩) trivial
theorem zf_1_205_g (nm : String) : zall (zFok nm "ManagedBusModel" 205 false) [(11, 32)] := zac (⟨zR_11, zTT_11, 52, zTY_11, "ManagedBusModel", zk_11, by decide, zw_898, Or.inl rfl, fun h => nomatch h⟩) trivial
theorem zf_1_205_p (nm : String) : zall (zFok nm "ManagedBusModel" 205 true) [(11, 32)] := zac (⟨zR_11, zTT_11, 52, zTY_11, "ManagedBusModel", zk_11, by decide, zw_898, Or.inl rfl, fun _ => Or.inl rfl⟩) trivial
theorem zs_1_208 : zall (zSok "ManagedBusModel" 208 1) [(48, 1)] := zac (Or.inr (Or.inr ⟨rfl, zj_48, zpar_9, zw_1120, Or.inl zw_1119⟩)) trivial
theorem zv_1_211 : ((1 : Int) = (-1 : Int) → zClw "ManagedBusModel" 211) ∧ zall (zVok "ManagedBusModel" 211 1) [(11, 49)] := ⟨(fun h => absurd h (by decide)), zac (⟨zR_11, zTT_11, 52, rfl, by decide, zj_49, zw_1117, Or.inl ⟨zpar_9, zw_1115, zsel_36⟩⟩) trivial⟩
theorem zv_1_214 : ((1 : Int) = (-1 : Int) → zClw "ManagedBusModel" 214) ∧ zall (zVok "ManagedBusModel" 214 1) [(11, 47)] := ⟨(fun h => absurd h (by decide)), zac (⟨zR_11, zTT_11, 52, rfl, by decide, zj_47, zw_1109, Or.inl ⟨zpar_1, zw_1107, zsel_34⟩⟩) trivial⟩
theorem zf_1_107_g (nm : String) : zall (zFok nm "ManagedBusModel" 107 false) [(11, 36)] := zac (⟨zR_11, zTT_11, 52, zTY_11, "ManagedBusModel", zk_11, by decide, zw_902, Or.inl rfl, fun h => nomatch h⟩) trivial
theorem zf_1_104_g (nm : String) : zall (zFok nm "ManagedBusModel" 104 false) [(11, 35)] := zac (⟨zR_11, zTT_11, 52, zTY_11, "ManagedBusModel", zk_11, by decide, zw_901, Or.inl rfl, fun h => nomatch h⟩) trivial
theorem zv_1_217 : ((1 : Int) = (-1 : Int) → zClw "ManagedBusModel" 217) ∧ zall (zVok "ManagedBusModel" 217 1) [(11, 46)] := ⟨(fun h => absurd h (by decide)), zac (⟨zR_11, zTT_11, 52, rfl, by decide, zj_46, zw_1143, Or.inl ⟨zpar_9, zw_1141, zsel_41⟩⟩) trivial⟩
theorem zv_1_220 : ((0 : Int) = (-1 : Int) → zClw "ManagedBusModel" 220) ∧ zall (zVok "ManagedBusModel" 220 0) [(11, 50)] := ⟨(fun h => absurd h (by decide)), zac (⟨zR_11, zTT_11, 52, rfl, by decide, zj_50, zw_1113, Or.inl ⟨zpar_0, zw_1111, zsel_35⟩⟩) trivial⟩
theorem zf_1_223_g (nm : String) : zall (zFok nm "ManagedBusModel" 223 false) [(11, 34)] := zac (⟨zR_11, zTT_11, 52, zTY_11, "ManagedBusModel", zk_11, by decide, zw_900, Or.inl rfl, fun h => nomatch h⟩) trivial
theorem zf_1_101_g (nm : String) : zall (zFok nm "ManagedBusModel" 101 false) [(11, 33)] := zac (⟨zR_11, zTT_11, 52, zTY_11, "ManagedBusModel", zk_11, by decide, zw_899, Or.inl rfl, fun h => nomatch h⟩) trivial
theorem zv_1_226 : ((1 : Int) = (-1 : Int) → zClw "ManagedBusModel" 226) ∧ zall (zVok "ManagedBusModel" 226 1) [(11, 52)] := ⟨(fun h => absurd h (by decide)), zac (⟨zR_11, zTT_11, 52, rfl, by decide, zj_52, zw_1147, Or.inl ⟨zpar_1, zw_1145, zsel_42⟩⟩) trivial⟩
theorem zv_1_229 : ((0 : Int) = (-1 : Int) → zClw "ManagedBusModel" 229) ∧ zall (zVok "ManagedBusModel" 229 0) [(11, 53)] := ⟨(fun h => absurd h (by decide)), zac (⟨zR_11, zTT_11, 52, rfl, by decide, zj_53, zw_1151, Or.inl ⟨zpar_4, zw_1149, zsel_43⟩⟩) trivial⟩
theorem zf_1_223_p (nm : String) : zall (zFok nm "ManagedBusModel" 223 true) [(11, 34)] := zac (⟨zR_11, zTT_11, 52, zTY_11, "ManagedBusModel", zk_11, by decide, zw_900, Or.inl rfl, fun _ => Or.inl rfl⟩) trivial
theorem zv_1_233 : ((1 : Int) = (-1 : Int) → zClw "ManagedBusModel" 233) ∧ zall (zVok "ManagedBusModel" 233 1) [(11, 51)] := ⟨(fun h => absurd h (by decide)), zac (⟨zR_11, zTT_11, 52, rfl, by decide, zj_51, zw_1128, Or.inl ⟨zpar_2, zw_1126, zsel_38⟩⟩) trivial⟩
theorem zv_1_236 : ((1 : Int) = (-1 : Int) → zClw "ManagedBusModel" 236) ∧ zall (zVok "ManagedBusModel" 236 1) [(11, 55)] := ⟨(fun h => absurd h (by decide)), zac (⟨zR_11, zTT_11, 52, rfl, by decide, zj_55, zw_1155, Or.inl ⟨zpar_1, zw_1153, zsel_44⟩⟩) trivial⟩
theorem zv_1_239 : ((1 : Int) = (-1 : Int) → zClw "ManagedBusModel" 239) ∧ zall (zVok "ManagedBusModel" 239 1) [(11, 45)] := ⟨(fun h => absurd h (by decide)), zac (⟨zR_11, zTT_11, 52, rfl, by decide, zj_45, zw_1159, Or.inl ⟨zpar_1, zw_1157, zsel_45⟩⟩) trivial⟩
theorem zs_1_242 : zall (zSok "ManagedBusModel" 242 1) [(26, 1)] := zac (Or.inr (Or.inr ⟨rfl, zj_26, zpar_9, zw_1088, Or.inl zw_1087⟩)) trivial
theorem zf_1_202_p (nm : String) : zall (zFok nm "ManagedBusModel" 202 true) [(11, 28)] := zac (⟨zR_11, zTT_11, 52, zTY_11, "ManagedBusModel", zk_11, by decide, zw_894, Or.inl rfl, fun _ => Or.inl rfl⟩) trivial
theorem zf_1_83_g (nm : String) : zall (zFok nm "ManagedBusModel" 83 false) [(11, 25)] := zac (⟨zR_11, zTT_11, 52, zTY_11, "ManagedBusModel", zk_11, by decide, zw_891, Or.inl rfl, fun h => nomatch h⟩) trivial
theorem zf_1_86_g (nm : String) : zall (zFok nm "ManagedBusModel" 86 false) [(11, 26)] := zac (⟨zR_11, zTT_11, 52, zTY_11, "ManagedBusModel", zk_11, by decide, zw_892, Or.inl rfl, fun h => nomatch h⟩) trivial
theorem zv_1_245 : ((2 : Int) = (-1 : Int) → zClw "ManagedBusModel" 245) ∧ zall (zVok "ManagedBusModel" 245 2) [(11, 57)] := ⟨(fun h => absurd h (by decide)), zac (⟨zR_11, zTT_11, 52, rfl, by decide, zj_57, zw_1101, Or.inl ⟨zpar_3, zw_1099, zsel_32⟩⟩) trivial⟩
theorem zv_1_248 : ((2 : Int) = (-1 : Int) → zClw "ManagedBusModel" 248) ∧ zall (zVok "ManagedBusModel" 248 2) [(11, 56)] := ⟨(fun h => absurd h (by decide)), zac (⟨zR_11, zTT_11, 52, rfl, by decide, zj_56, zw_1085, Or.inl ⟨zpar_17, zw_1083, zsel_29⟩⟩) trivial⟩
theorem zv_1_252 : ((2 : Int) = (-1 : Int) → zClw "ManagedBusModel" 252) ∧ zall (zVok "ManagedBusModel" 252 2) [(11, 58)] := ⟨(fun h => absurd h (by decide)), zac (⟨zR_11, zTT_11, 52, rfl, by decide, zj_58, zw_1092, Or.inl ⟨zpar_3, zw_1090, zsel_30⟩⟩) trivial⟩
theorem zv_1_255 : ((1 : Int) = (-1 : Int) → zClw "ManagedBusModel" 255) ∧ zall (zVok "ManagedBusModel" 255 1) [(11, 61)] := ⟨(fun h => absurd h (by decide)), zac (⟨zR_11, zTT_11, 52, rfl, by decide, zj_61, zw_1096, Or.inl ⟨zpar_1, zw_1094, zsel_31⟩⟩) trivial⟩
theorem zv_1_258 : ((1 : Int) = (-1 : Int) → zClw "ManagedBusModel" 258) ∧ zall (zVok "ManagedBusModel" 258 1) [(11, 62)] := ⟨(fun h => absurd h (by decide)), zac (⟨zR_11, zTT_11, 52, rfl, by decide, zj_62, zw_1135, Or.inl ⟨zpar_1, zw_1133, zsel_39⟩⟩) trivial⟩
theorem zv_1_261 : ((1 : Int) = (-1 : Int) → zClw "ManagedBusModel" 261) ∧ zall (zVok "ManagedBusModel" 261 1) [(11, 63)] := ⟨(fun h => absurd h (by decide)), zac (⟨zR_11, zTT_11, 52, rfl, by decide, zj_63, zw_1105, Or.inl ⟨zpar_1, zw_1103, zsel_33⟩⟩) trivial⟩
theorem zf_1_77_g (nm : String) : zall (zFok nm "ManagedBusModel" 77 false) [(11, 23)] := zac (⟨zR_11, zTT_11, 52, zTY_11, "ManagedBusModel", zk_11, by decide, zw_889, Or.inl rfl, fun h => nomatch h⟩) trivial
theorem zv_1_264 : ((1 : Int) = (-1 : Int) → zClw "ManagedBusModel" 264) ∧ zall (zVok "ManagedBusModel" 264 1) [(11, 59)] := ⟨(fun h => absurd h (by decide)), zac (⟨zR_11, zTT_11, 52, rfl, by decide, zj_59, zw_1124, Or.inl ⟨zpar_2, zw_1122, zsel_37⟩⟩) trivial⟩
theorem zf_1_89_g (nm : String) : zall (zFok nm "ManagedBusModel" 89 false) [(11, 27)] := zac (⟨zR_11, zTT_11, 52, zTY_11, "ManagedBusModel", zk_11, by decide, zw_893, Or.inl rfl, fun h => nomatch h⟩) trivial
theorem zf_1_267_g (nm : String) : zall (zFok nm "ManagedBusModel" 267 false) [(11, 0)] := zac (⟨zR_11, zTT_11, 52, zTY_11, "ManagedBusModel", zk_11, by decide, zw_866, Or.inl rfl, fun h => nomatch h⟩) trivial
theorem zf_1_267_p (nm : String) : zall (zFok nm "ManagedBusModel" 267 true) [(11, 0)] := zac (⟨zR_11, zTT_11, 52, zTY_11, "ManagedBusModel", zk_11, by decide, zw_866, Or.inl rfl, fun _ => Or.inl rfl⟩) trivial
theorem zv_1_270 : ((1 : Int) = (-1 : Int) → zClw "ManagedBusModel" 270) ∧ zall (zVok "ManagedBusModel" 270 1) [(11, 60)] := ⟨(fun h => absurd h (by decide)), zac (⟨zR_11, zTT_11, 52, rfl, by decide, zj_60, zw_1081, Or.inl ⟨zpar_1, zw_1079, zsel_28⟩⟩) trivial⟩
theorem zv_1_273 : ((1 : Int) = (-1 : Int) → zClw "ManagedBusModel" 273) ∧ zall (zVok "ManagedBusModel" 273 1) [(11, 54)] := ⟨(fun h => absurd h (by decide)), zac (⟨zR_11, zTT_11, 52, rfl, by decide, zj_54, zw_1139, Or.inl ⟨zpar_1, zw_1137, zsel_40⟩⟩) trivial⟩
theorem zv_1_276 : ((0 : Int) = (-1 : Int) → zClw "ManagedBusModel" 276) ∧ zall (zVok "ManagedBusModel" 276 0) [(11, 64)] := ⟨(fun h => absurd h (by decide)), zac (⟨zR_11, zTT_11, 52, rfl, by decide, zj_64, zw_1187, Or.inl ⟨zpar_0, zw_1185, zsel_52⟩⟩) trivial⟩
theorem zi_2_3 : ([(146, 1)] = [] → zOb "ManagedBus$Bridge" 3) ∧ zall (zIok "ManagedBus$Bridge" 3 1) [(146, 1)] := ⟨(fun h => nomatch h), zac (⟨zj_146, zpar_1, rfl, rfl, zw_190, Or.inl zw_189⟩) trivial⟩
theorem zn_2_9 : zall (zNok "ManagedBus$Bridge" 9) [(2, 9)] := zac (⟨zR_2, zTT_2, 9, zTY_2, zk_2, rfl, zw_193, zw_43, zw_4⟩) trivial
theorem zi_2_11 : ([(127, 1)] = [] → zOb "ManagedBus$Bridge" 11) ∧ zall (zIok "ManagedBus$Bridge" 11 1) [(127, 1)] := ⟨(fun h => nomatch h), zac (⟨zj_127, zpar_18, rfl, rfl, zw_45, Or.inl zw_194⟩) trivial⟩
theorem zf_2_14_q : zall (zFok "<init>" "ManagedBus$Bridge" 14 true) [(4, 0)] := zac (⟨zR_4, zTT_4, 13, zTY_4, "ManagedBus$Bridge", zk_4, by decide, zw_195, Or.inl rfl, fun _ => Or.inr ⟨rfl, rfl, rfl⟩⟩) trivial
theorem zf_2_20_g (nm : String) : zall (zFok nm "ManagedBus$Bridge" 20 false) [(4, 10)] := zac (⟨zR_4, zTT_4, 13, zTY_4, "ManagedBus$Bridge", zk_4, by decide, zw_144, Or.inr zw_145, fun h => nomatch h⟩) trivial
theorem zf_2_23_p (nm : String) : zall (zFok nm "ManagedBus$Bridge" 23 true) [(2, 1)] := zac (⟨zR_2, zTT_2, 9, zTY_2, "ManagedBus$Port", zk_2, by decide, zw_88, Or.inl rfl, fun _ => Or.inl rfl⟩) trivial
theorem zf_2_27_g (nm : String) : zall (zFok nm "ManagedBus$Bridge" 27 false) [(3, 0)] := zac (⟨zR_3, zTT_3, 5, zTY_3, "ManagedBus$Packet", zk_3, by decide, zw_55, Or.inl rfl, fun h => nomatch h⟩) trivial
theorem zf_2_14_g (nm : String) : zall (zFok nm "ManagedBus$Bridge" 14 false) [(4, 0)] := zac (⟨zR_4, zTT_4, 13, zTY_4, "ManagedBus$Bridge", zk_4, by decide, zw_195, Or.inl rfl, fun h => nomatch h⟩) trivial
theorem zv_2_32 : ((1 : Int) = (-1 : Int) → zClw "ManagedBus$Bridge" 32) ∧ zall (zVok "ManagedBus$Bridge" 32 1) [(2, 129)] := ⟨(fun h => absurd h (by decide)), zac (⟨zR_2, zTT_2, 9, rfl, by decide, zj_129, zw_570, Or.inl ⟨zpar_2, zw_569, zw_571⟩⟩) trivial⟩
theorem zv_2_36 : ((0 : Int) = (-1 : Int) → zClw "ManagedBus$Bridge" 36) ∧ zall (zVok "ManagedBus$Bridge" 36 0) [(2, 131)] := ⟨(fun h => absurd h (by decide)), zac (⟨zR_2, zTT_2, 9, rfl, by decide, zj_131, zw_574, Or.inl ⟨zpar_12, zw_573, zw_575⟩⟩) trivial⟩
theorem zf_2_40_g (nm : String) : zall (zFok nm "ManagedBus$Bridge" 40 false) [(3, 1)] := zac (⟨zR_3, zTT_3, 5, zTY_3, "ManagedBus$Packet", zk_3, by decide, zw_60, Or.inl rfl, fun h => nomatch h⟩) trivial
theorem zf_2_43_g (nm : String) : zall (zFok nm "ManagedBus$Bridge" 43 false) [(3, 2)] := zac (⟨zR_3, zTT_3, 5, zTY_3, "ManagedBus$Packet", zk_3, by decide, zw_64, Or.inl rfl, fun h => nomatch h⟩) trivial
theorem zv_2_46 : ((3 : Int) = (-1 : Int) → zClw "ManagedBus$Bridge" 46) ∧ zall (zVok "ManagedBus$Bridge" 46 3) [(3, 117)] := ⟨(fun h => absurd h (by decide)), zac (⟨zR_3, zTT_3, 5, rfl, by decide, zj_117, zw_578, Or.inl ⟨zpar_16, zw_577, zw_579⟩⟩) trivial⟩
theorem zf_2_50_g (nm : String) : zall (zFok nm "ManagedBus$Bridge" 50 false) [(3, 4)] := zac (⟨zR_3, zTT_3, 5, zTY_3, "ManagedBus$Packet", zk_3, by decide, zw_71, Or.inl rfl, fun h => nomatch h⟩) trivial
theorem zf_2_54_g (nm : String) : zall (zFok nm "ManagedBus$Bridge" 54 false) [(3, 3)] := zac (⟨zR_3, zTT_3, 5, zTY_3, "ManagedBus$Packet", zk_3, by decide, zw_66, Or.inl rfl, fun h => nomatch h⟩) trivial
theorem zv_2_57 : ((3 : Int) = (-1 : Int) → zClw "ManagedBus$Bridge" 57) ∧ zall (zVok "ManagedBus$Bridge" 57 3) [(3, 118)] := ⟨(fun h => absurd h (by decide)), zac (⟨zR_3, zTT_3, 5, rfl, by decide, zj_118, zw_582, Or.inl ⟨zpar_19, zw_581, zw_583⟩⟩) trivial⟩
theorem zo_3_3 : (([] : List (Nat × Nat)) = [] → zOb "ManagedBus$Bus" 3) ∧ zall (zIok "ManagedBus$Bus" 3 0) [] := ⟨fun _ => ⟨zw_242, zw_23, zw_24⟩, trivial⟩
theorem za_3_9 : zall (zAok "ManagedBus$Bus" 9) [(21, 0)] := zac (⟨"ManagedBus$Port", by decide, by decide, rfl, zw_243, List.mem_cons_of_mem _ (List.mem_cons_of_mem _ (List.mem_cons_of_mem _ (List.mem_cons_of_mem _ (List.mem_cons_of_mem _ (List.mem_cons_of_mem _ (List.mem_cons_self))))))⟩) trivial
theorem zf_3_11_q : zall (zFok "<init>" "ManagedBus$Bus" 11 true) [(5, 1)] := zac (⟨zR_5, zTT_5, 7, zTY_5, "ManagedBus$Bus", zk_5, by decide, zw_299, Or.inl rfl, fun _ => Or.inr ⟨rfl, rfl, rfl⟩⟩) trivial
theorem zn_3_17 : zall (zNok "ManagedBus$Bus" 17) [(6, 8)] := zac (⟨zR_6, zTT_6, 8, zTY_6, zk_6, rfl, zw_245, zw_246, zw_9⟩) trivial
theorem zi_3_19 : ([(87, 1)] = [] → zOb "ManagedBus$Bus" 19) ∧ zall (zIok "ManagedBus$Bus" 19 0) [(87, 1)] := ⟨(fun h => nomatch h), zac (⟨zj_87, zpar_0, rfl, rfl, zw_248, Or.inr ⟨"ManagedBus", List.mem_cons_of_mem _ (List.mem_cons_self)⟩⟩) trivial⟩
theorem zf_3_20_q : zall (zFok "<init>" "ManagedBus$Bus" 20 true) [(5, 2)] := zac (⟨zR_5, zTT_5, 7, zTY_5, "ManagedBus$Bus", zk_5, by decide, zw_301, Or.inl rfl, fun _ => Or.inr ⟨rfl, rfl, rfl⟩⟩) trivial
theorem zn_3_24 : zall (zNok "ManagedBus$Bus" 24) [(7, 2)] := zac (⟨zR_7, zTT_7, 2, zTY_7, zk_7, rfl, zw_280, zw_281, zw_10⟩) trivial
theorem zi_3_26 : ([(138, 1)] = [] → zOb "ManagedBus$Bus" 26) ∧ zall (zIok "ManagedBus$Bus" 26 0) [(138, 1)] := ⟨(fun h => nomatch h), zac (⟨zj_138, zpar_0, rfl, rfl, zw_283, Or.inr ⟨"ManagedBus", List.mem_cons_of_mem _ (List.mem_cons_of_mem _ (List.mem_cons_self))⟩⟩) trivial⟩
theorem zf_3_27_q : zall (zFok "<init>" "ManagedBus$Bus" 27 true) [(5, 3)] := zac (⟨zR_5, zTT_5, 7, zTY_5, "ManagedBus$Bus", zk_5, by decide, zw_303, Or.inl rfl, fun _ => Or.inr ⟨rfl, rfl, rfl⟩⟩) trivial
theorem zf_3_31_p (nm : String) : zall (zFok nm "ManagedBus$Bus" 31 true) [(5, 4)] := zac (⟨zR_5, zTT_5, 7, zTY_5, "ManagedBus$Bus", zk_5, by decide, zw_306, Or.inl rfl, fun _ => Or.inl rfl⟩) trivial
theorem zf_3_35_q : zall (zFok "<init>" "ManagedBus$Bus" 35 true) [(5, 6)] := zac (⟨zR_5, zTT_5, 7, zTY_5, "ManagedBus$Bus", zk_5, by decide, zw_310, Or.inl rfl, fun _ => Or.inr ⟨rfl, rfl, rfl⟩⟩) trivial
theorem zf_3_38_q : zall (zFok "<init>" "ManagedBus$Bus" 38 true) [(5, 0)] := zac (⟨zR_5, zTT_5, 7, zTY_5, "ManagedBus$Bus", zk_5, by decide, zw_297, Or.inl rfl, fun _ => Or.inr ⟨rfl, rfl, rfl⟩⟩) trivial
theorem zf_3_31_g (nm : String) : zall (zFok nm "ManagedBus$Bus" 31 false) [(5, 4)] := zac (⟨zR_5, zTT_5, 7, zTY_5, "ManagedBus$Bus", zk_5, by decide, zw_306, Or.inl rfl, fun h => nomatch h⟩) trivial
theorem zf_3_27_g (nm : String) : zall (zFok nm "ManagedBus$Bus" 27 false) [(5, 3)] := zac (⟨zR_5, zTT_5, 7, zTY_5, "ManagedBus$Bus", zk_5, by decide, zw_303, Or.inl rfl, fun h => nomatch h⟩) trivial
theorem zf_3_41_g (nm : String) : zall (zFok nm "ManagedBus$Bus" 41 false) [(7, 1)] := zac (⟨zR_7, zTT_7, 2, zTY_7, "ManagedBus$Row", zk_7, by decide, zw_290, Or.inl rfl, fun h => nomatch h⟩) trivial
theorem zf_3_44_g (nm : String) : zall (zFok nm "ManagedBus$Bus" 44 false) [(7, 0)] := zac (⟨zR_7, zTT_7, 2, zTY_7, "ManagedBus$Row", zk_7, by decide, zw_287, Or.inl rfl, fun h => nomatch h⟩) trivial
theorem zf_3_48_g (nm : String) : zall (zFok nm "ManagedBus$Bus" 48 false) [(5, 5)] := zac (⟨zR_5, zTT_5, 7, zTY_5, "ManagedBus$Bus", zk_5, by decide, zw_308, Or.inl rfl, fun h => nomatch h⟩) trivial
theorem zv_3_51 : ((0 : Int) = (-1 : Int) → zClw "ManagedBus$Bus" 51) ∧ zall (zVok "ManagedBus$Bus" 51 0) [(7, 142)] := ⟨(fun h => absurd h (by decide)), zac (⟨zR_7, zTT_7, 2, rfl, by decide, zj_142, zw_486, Or.inl ⟨zpar_4, zw_485, zw_487⟩⟩) trivial⟩
theorem zf_3_11_g (nm : String) : zall (zFok nm "ManagedBus$Bus" 11 false) [(5, 1)] := zac (⟨zR_5, zTT_5, 7, zTY_5, "ManagedBus$Bus", zk_5, by decide, zw_299, Or.inl rfl, fun h => nomatch h⟩) trivial
theorem zv_3_55 : ((1 : Int) = (-1 : Int) → zClw "ManagedBus$Bus" 55) ∧ zall (zVok "ManagedBus$Bus" 55 1) [(5, 79)] := ⟨(fun h => absurd h (by decide)), zac (⟨zR_5, zTT_5, 7, rfl, by decide, zj_79, zw_519, Or.inl ⟨zpar_20, zw_517, zsel_13⟩⟩) trivial⟩
theorem zv_3_59 : ((1 : Int) = (-1 : Int) → zClw "ManagedBus$Bus" 59) ∧ zall (zVok "ManagedBus$Bus" 59 1) [(5, 81)] := ⟨(fun h => absurd h (by decide)), zac (⟨zR_5, zTT_5, 7, rfl, by decide, zj_81, zw_531, Or.inl ⟨zpar_21, zw_529, zsel_15⟩⟩) trivial⟩
theorem zf_3_35_g (nm : String) : zall (zFok nm "ManagedBus$Bus" 35 false) [(5, 6)] := zac (⟨zR_5, zTT_5, 7, zTY_5, "ManagedBus$Bus", zk_5, by decide, zw_310, Or.inl rfl, fun h => nomatch h⟩) trivial
theorem zv_3_63 : ((1 : Int) = (-1 : Int) → zClw "ManagedBus$Bus" 63) ∧ zall (zVok "ManagedBus$Bus" 63 1) [(7, 143)] := ⟨(fun h => absurd h (by decide)), zac (⟨zR_7, zTT_7, 2, rfl, by decide, zj_143, zw_537, Or.inl ⟨zpar_22, zw_536, zw_538⟩⟩) trivial⟩
theorem zv_3_67 : ((1 : Int) = (-1 : Int) → zClw "ManagedBus$Bus" 67) ∧ zall (zVok "ManagedBus$Bus" 67 1) [(7, 144)] := ⟨(fun h => absurd h (by decide)), zac (⟨zR_7, zTT_7, 2, rfl, by decide, zj_144, zw_544, Or.inl ⟨zpar_23, zw_543, zw_545⟩⟩) trivial⟩
theorem zf_3_71_g (nm : String) : zall (zFok nm "ManagedBus$Bus" 71 false) [(2, 6)] := zac (⟨zR_2, zTT_2, 9, zTY_2, "ManagedBus$Port", zk_2, by decide, zw_106, Or.inl rfl, fun h => nomatch h⟩) trivial
theorem zf_3_74_g (nm : String) : zall (zFok nm "ManagedBus$Bus" 74 false) [(2, 2)] := zac (⟨zR_2, zTT_2, 9, zTY_2, "ManagedBus$Port", zk_2, by decide, zw_93, Or.inl rfl, fun h => nomatch h⟩) trivial
theorem zv_3_77 : ((1 : Int) = (-1 : Int) → zClw "ManagedBus$Bus" 77) ∧ zall (zVok "ManagedBus$Bus" 77 1) [(5, 80)] := ⟨(fun h => absurd h (by decide)), zac (⟨zR_5, zTT_5, 7, rfl, by decide, zj_80, zw_523, Or.inl ⟨zpar_24, zw_521, zsel_14⟩⟩) trivial⟩
theorem zf_3_81_g (nm : String) : zall (zFok nm "ManagedBus$Bus" 81 false) [(2, 0)] := zac (⟨zR_2, zTT_2, 9, zTY_2, "ManagedBus$Port", zk_2, by decide, zw_87, Or.inl rfl, fun h => nomatch h⟩) trivial
theorem zv_3_85 : ((0 : Int) = (-1 : Int) → zClw "ManagedBus$Bus" 85) ∧ zall (zVok "ManagedBus$Bus" 85 0) [(2, 130)] := ⟨(fun h => absurd h (by decide)), zac (⟨zR_2, zTT_2, 9, rfl, by decide, zj_130, zw_526, Or.inl ⟨zpar_12, zw_525, zw_527⟩⟩) trivial⟩
theorem zf_3_89_g (nm : String) : zall (zFok nm "ManagedBus$Bus" 89 false) [(3, 0)] := zac (⟨zR_3, zTT_3, 5, zTY_3, "ManagedBus$Packet", zk_3, by decide, zw_58, Or.inl rfl, fun h => nomatch h⟩) trivial
theorem zf_3_38_g (nm : String) : zall (zFok nm "ManagedBus$Bus" 38 false) [(5, 0)] := zac (⟨zR_5, zTT_5, 7, zTY_5, "ManagedBus$Bus", zk_5, by decide, zw_297, Or.inl rfl, fun h => nomatch h⟩) trivial
theorem zf_3_20_g (nm : String) : zall (zFok nm "ManagedBus$Bus" 20 false) [(5, 2)] := zac (⟨zR_5, zTT_5, 7, zTY_5, "ManagedBus$Bus", zk_5, by decide, zw_301, Or.inl rfl, fun h => nomatch h⟩) trivial
theorem zf_3_94_g (nm : String) : zall (zFok nm "ManagedBus$Bus" 94 false) [(6, 3)] := zac (⟨zR_6, zTT_6, 8, zTY_6, "ManagedBus$Enumeration", zk_6, by decide, zw_257, Or.inl rfl, fun h => nomatch h⟩) trivial
theorem zv_3_97 : ((0 : Int) = (-1 : Int) → zClw "ManagedBus$Bus" 97) ∧ zall (zVok "ManagedBus$Bus" 97 0) [(7, 139)] := ⟨(fun h => absurd h (by decide)), zac (⟨zR_7, zTT_7, 2, rfl, by decide, zj_139, zw_461, Or.inl ⟨zpar_0, zw_533, zw_462⟩⟩) trivial⟩
theorem zv_3_100 : ((1 : Int) = (-1 : Int) → zClw "ManagedBus$Bus" 100) ∧ zall (zVok "ManagedBus$Bus" 100 1) [(7, 140)] := ⟨(fun h => absurd h (by decide)), zac (⟨zR_7, zTT_7, 2, rfl, by decide, zj_140, zw_465, Or.inl ⟨zpar_1, zw_534, zw_466⟩⟩) trivial⟩
theorem zf_3_104_g (nm : String) : zall (zFok nm "ManagedBus$Bus" 104 false) [(3, 1)] := zac (⟨zR_3, zTT_3, 5, zTY_3, "ManagedBus$Packet", zk_3, by decide, zw_62, Or.inl rfl, fun h => nomatch h⟩) trivial
theorem zf_3_107_g (nm : String) : zall (zFok nm "ManagedBus$Bus" 107 false) [(3, 2)] := zac (⟨zR_3, zTT_3, 5, zTY_3, "ManagedBus$Packet", zk_3, by decide, zw_65, Or.inl rfl, fun h => nomatch h⟩) trivial
theorem zf_3_110_g (nm : String) : zall (zFok nm "ManagedBus$Bus" 110 false) [(3, 3)] := zac (⟨zR_3, zTT_3, 5, zTY_3, "ManagedBus$Packet", zk_3, by decide, zw_69, Or.inl rfl, fun h => nomatch h⟩) trivial
theorem zf_3_111_g (nm : String) : zall (zFok nm "ManagedBus$Bus" 111 false) [(3, 4)] := zac (⟨zR_3, zTT_3, 5, zTY_3, "ManagedBus$Packet", zk_3, by decide, zw_73, Or.inl rfl, fun h => nomatch h⟩) trivial
theorem zv_3_112 : ((0 : Int) = (-1 : Int) → zClw "ManagedBus$Bus" 112) ∧ zall (zVok "ManagedBus$Bus" 112 0) [(7, 141)] := ⟨(fun h => absurd h (by decide)), zac (⟨zR_7, zTT_7, 2, rfl, by decide, zj_141, zw_473, Or.inl ⟨zpar_0, zw_535, zw_474⟩⟩) trivial⟩
theorem zf_3_115_g (nm : String) : zall (zFok nm "ManagedBus$Bus" 115 false) [(2, 3)] := zac (⟨zR_2, zTT_2, 9, zTY_2, "ManagedBus$Port", zk_2, by decide, zw_96, Or.inl rfl, fun h => nomatch h⟩) trivial
theorem zf_3_118_g (nm : String) : zall (zFok nm "ManagedBus$Bus" 118 false) [(2, 1)] := zac (⟨zR_2, zTT_2, 9, zTY_2, "ManagedBus$Port", zk_2, by decide, zw_90, Or.inl rfl, fun h => nomatch h⟩) trivial
theorem zf_3_115_p (nm : String) : zall (zFok nm "ManagedBus$Bus" 115 true) [(2, 3)] := zac (⟨zR_2, zTT_2, 9, zTY_2, "ManagedBus$Port", zk_2, by decide, zw_96, Or.inl rfl, fun _ => Or.inl rfl⟩) trivial
theorem zf_3_74_p (nm : String) : zall (zFok nm "ManagedBus$Bus" 74 true) [(2, 2)] := zac (⟨zR_2, zTT_2, 9, zTY_2, "ManagedBus$Port", zk_2, by decide, zw_93, Or.inl rfl, fun _ => Or.inl rfl⟩) trivial
theorem zf_3_121_p (nm : String) : zall (zFok nm "ManagedBus$Bus" 121 true) [(2, 4)] := zac (⟨zR_2, zTT_2, 9, zTY_2, "ManagedBus$Port", zk_2, by decide, zw_101, Or.inl rfl, fun _ => Or.inl rfl⟩) trivial
theorem zo_4_3 : (([] : List (Nat × Nat)) = [] → zOb "ManagedBus$Enumeration" 3) ∧ zall (zIok "ManagedBus$Enumeration" 3 0) [] := ⟨fun _ => ⟨zw_250, zw_23, zw_24⟩, trivial⟩
theorem zf_4_9_g (nm : String) : zall (zFok nm "ManagedBus$Enumeration" 9 false) [(6, 0)] := zac (⟨zR_6, zTT_6, 8, zTY_6, "ManagedBus$Enumeration", zk_6, by decide, zw_251, Or.inl rfl, fun h => nomatch h⟩) trivial
theorem zf_4_9_p (nm : String) : zall (zFok nm "ManagedBus$Enumeration" 9 true) [(6, 0)] := zac (⟨zR_6, zTT_6, 8, zTY_6, "ManagedBus$Enumeration", zk_6, by decide, zw_251, Or.inl rfl, fun _ => Or.inl rfl⟩) trivial
theorem zv_4_15 : ((1 : Int) = (-1 : Int) → zClw "ManagedBus$Enumeration" 15) ∧ zall (zVok "ManagedBus$Enumeration" 15 1) [(6, 98)] := ⟨(fun h => absurd h (by decide)), zac (⟨zR_6, zTT_6, 8, rfl, by decide, zj_98, zw_409, Or.inl ⟨zpar_1, zw_407, zsel_0⟩⟩) trivial⟩
theorem zf_4_19_g (nm : String) : zall (zFok nm "ManagedBus$Enumeration" 19 false) [(6, 4)] := zac (⟨zR_6, zTT_6, 8, zTY_6, "ManagedBus$Enumeration", zk_6, by decide, zw_259, Or.inl rfl, fun h => nomatch h⟩) trivial
theorem zv_4_22 : ((1 : Int) = (-1 : Int) → zClw "ManagedBus$Enumeration" 22) ∧ zall (zVok "ManagedBus$Enumeration" 22 1) [(6, 91)] := ⟨(fun h => absurd h (by decide)), zac (⟨zR_6, zTT_6, 8, rfl, by decide, zj_91, zw_429, Or.inl ⟨zpar_5, zw_427, zsel_2⟩⟩) trivial⟩
theorem zv_4_26 : ((1 : Int) = (-1 : Int) → zClw "ManagedBus$Enumeration" 26) ∧ zall (zVok "ManagedBus$Enumeration" 26 1) [(6, 92)] := ⟨(fun h => absurd h (by decide)), zac (⟨zR_6, zTT_6, 8, rfl, by decide, zj_92, zw_437, Or.inl ⟨zpar_5, zw_435, zsel_3⟩⟩) trivial⟩
theorem zv_4_29 : ((0 : Int) = (-1 : Int) → zClw "ManagedBus$Enumeration" 29) ∧ zall (zVok "ManagedBus$Enumeration" 29 0) [(6, 88)] := ⟨(fun h => absurd h (by decide)), zac (⟨zR_6, zTT_6, 8, rfl, by decide, zj_88, zw_400, Or.inl ⟨zpar_4, zw_455, zw_401⟩⟩) trivial⟩
theorem zv_4_33 : ((1 : Int) = (-1 : Int) → zClw "ManagedBus$Enumeration" 33) ∧ zall (zVok "ManagedBus$Enumeration" 33 1) [(6, 94)] := ⟨(fun h => absurd h (by decide)), zac (⟨zR_6, zTT_6, 8, rfl, by decide, zj_94, zw_458, Or.inl ⟨zpar_5, zw_456, zsel_7⟩⟩) trivial⟩
theorem zv_4_36 : ((0 : Int) = (-1 : Int) → zClw "ManagedBus$Enumeration" 36) ∧ zall (zVok "ManagedBus$Enumeration" 36 0) [(5, 77)] := ⟨(fun h => absurd h (by decide)), zac (⟨zR_5, zTT_5, 7, rfl, by decide, zj_77, zw_482, Or.inl ⟨zpar_4, zw_481, zw_483⟩⟩) trivial⟩
theorem zv_4_41 : ((1 : Int) = (-1 : Int) → zClw "ManagedBus$Enumeration" 41) ∧ zall (zVok "ManagedBus$Enumeration" 41 1) [(6, 95)] := ⟨(fun h => absurd h (by decide)), zac (⟨zR_6, zTT_6, 8, rfl, by decide, zj_95, zw_491, Or.inl ⟨zpar_5, zw_489, zsel_9⟩⟩) trivial⟩
theorem zv_4_44 : ((0 : Int) = (-1 : Int) → zClw "ManagedBus$Enumeration" 44) ∧ zall (zVok "ManagedBus$Enumeration" 44 0) [(6, 99)] := ⟨(fun h => absurd h (by decide)), zac (⟨zR_6, zTT_6, 8, rfl, by decide, zj_99, zw_511, Or.inl ⟨zpar_0, zw_509, zsel_12⟩⟩) trivial⟩
theorem zv_4_47 : ((0 : Int) = (-1 : Int) → zClw "ManagedBus$Enumeration" 47) ∧ zall (zVok "ManagedBus$Enumeration" 47 0) [(5, 84)] := ⟨(fun h => absurd h (by decide)), zac (⟨zR_5, zTT_5, 7, rfl, by decide, zj_84, zw_432, Or.inl ⟨zpar_0, zw_431, zw_433⟩⟩) trivial⟩
theorem zf_4_50_p (nm : String) : zall (zFok nm "ManagedBus$Enumeration" 50 true) [(6, 1)] := zac (⟨zR_6, zTT_6, 8, zTY_6, "ManagedBus$Enumeration", zk_6, by decide, zw_253, Or.inl rfl, fun _ => Or.inl rfl⟩) trivial
theorem zf_4_53_p (nm : String) : zall (zFok nm "ManagedBus$Enumeration" 53 true) [(6, 7)] := zac (⟨zR_6, zTT_6, 8, zTY_6, "ManagedBus$Enumeration", zk_6, by decide, zw_262, Or.inl rfl, fun _ => Or.inl rfl⟩) trivial
theorem zv_4_56 : ((0 : Int) = (-1 : Int) → zClw "ManagedBus$Enumeration" 56) ∧ zall (zVok "ManagedBus$Enumeration" 56 0) [(5, 83)] := ⟨(fun h => absurd h (by decide)), zac (⟨zR_5, zTT_5, 7, rfl, by decide, zj_83, zw_440, Or.inl ⟨zpar_25, zw_439, zw_441⟩⟩) trivial⟩
theorem zf_4_60_p (nm : String) : zall (zFok nm "ManagedBus$Enumeration" 60 true) [(6, 5)] := zac (⟨zR_6, zTT_6, 8, zTY_6, "ManagedBus$Enumeration", zk_6, by decide, zw_260, Or.inl rfl, fun _ => Or.inl rfl⟩) trivial
theorem zf_4_60_g (nm : String) : zall (zFok nm "ManagedBus$Enumeration" 60 false) [(6, 5)] := zac (⟨zR_6, zTT_6, 8, zTY_6, "ManagedBus$Enumeration", zk_6, by decide, zw_260, Or.inl rfl, fun h => nomatch h⟩) trivial
theorem zv_4_63 : ((0 : Int) = (-1 : Int) → zClw "ManagedBus$Enumeration" 63) ∧ zall (zVok "ManagedBus$Enumeration" 63 0) [(6, 93)] := ⟨(fun h => absurd h (by decide)), zac (⟨zR_6, zTT_6, 8, rfl, by decide, zj_93, zw_445, Or.inl ⟨zpar_0, zw_443, zsel_4⟩⟩) trivial⟩
theorem zf_4_50_g (nm : String) : zall (zFok nm "ManagedBus$Enumeration" 50 false) [(6, 1)] := zac (⟨zR_6, zTT_6, 8, zTY_6, "ManagedBus$Enumeration", zk_6, by decide, zw_253, Or.inl rfl, fun h => nomatch h⟩) trivial
theorem zv_4_66 : ((1 : Int) = (-1 : Int) → zClw "ManagedBus$Enumeration" 66) ∧ zall (zVok "ManagedBus$Enumeration" 66 1) [(6, 101)] := ⟨(fun h => absurd h (by decide)), zac (⟨zR_6, zTT_6, 8, rfl, by decide, zj_101, zw_453, Or.inl ⟨zpar_1, zw_451, zsel_6⟩⟩) trivial⟩
theorem zv_4_69 : ((0 : Int) = (-1 : Int) → zClw "ManagedBus$Enumeration" 69) ∧ zall (zVok "ManagedBus$Enumeration" 69 0) [(6, 100)] := ⟨(fun h => absurd h (by decide)), zac (⟨zR_6, zTT_6, 8, rfl, by decide, zj_100, zw_449, Or.inl ⟨zpar_0, zw_447, zsel_5⟩⟩) trivial⟩
theorem zf_4_72_p (nm : String) : zall (zFok nm "ManagedBus$Enumeration" 72 true) [(6, 6)] := zac (⟨zR_6, zTT_6, 8, zTY_6, "ManagedBus$Enumeration", zk_6, by decide, zw_261, Or.inl rfl, fun _ => Or.inl rfl⟩) trivial
theorem zf_4_75_g (nm : String) : zall (zFok nm "ManagedBus$Enumeration" 75 false) [(5, 3)] := zac (⟨zR_5, zTT_5, 7, zTY_5, "ManagedBus$Bus", zk_5, by decide, zw_304, Or.inl rfl, fun h => nomatch h⟩) trivial
theorem zv_4_79 : ((0 : Int) = (-1 : Int) → zClw "ManagedBus$Enumeration" 79) ∧ zall (zVok "ManagedBus$Enumeration" 79 0) [(7, 139)] := ⟨(fun h => absurd h (by decide)), zac (⟨zR_7, zTT_7, 2, rfl, by decide, zj_139, zw_461, Or.inl ⟨zpar_0, zw_460, zw_462⟩⟩) trivial⟩
theorem zf_4_72_g (nm : String) : zall (zFok nm "ManagedBus$Enumeration" 72 false) [(6, 6)] := zac (⟨zR_6, zTT_6, 8, zTY_6, "ManagedBus$Enumeration", zk_6, by decide, zw_261, Or.inl rfl, fun h => nomatch h⟩) trivial
theorem zv_4_84 : ((1 : Int) = (-1 : Int) → zClw "ManagedBus$Enumeration" 84) ∧ zall (zVok "ManagedBus$Enumeration" 84 1) [(7, 140)] := ⟨(fun h => absurd h (by decide)), zac (⟨zR_7, zTT_7, 2, rfl, by decide, zj_140, zw_465, Or.inl ⟨zpar_1, zw_464, zw_466⟩⟩) trivial⟩
theorem zv_4_87 : ((0 : Int) = (-1 : Int) → zClw "ManagedBus$Enumeration" 87) ∧ zall (zVok "ManagedBus$Enumeration" 87 0) [(5, 82)] := ⟨(fun h => absurd h (by decide)), zac (⟨zR_5, zTT_5, 7, rfl, by decide, zj_82, zw_469, Or.inl ⟨zpar_25, zw_468, zw_470⟩⟩) trivial⟩
theorem zv_4_90 : ((0 : Int) = (-1 : Int) → zClw "ManagedBus$Enumeration" 90) ∧ zall (zVok "ManagedBus$Enumeration" 90 0) [(7, 141)] := ⟨(fun h => absurd h (by decide)), zac (⟨zR_7, zTT_7, 2, rfl, by decide, zj_141, zw_473, Or.inl ⟨zpar_0, zw_472, zw_474⟩⟩) trivial⟩
theorem zv_4_93 : ((1 : Int) = (-1 : Int) → zClw "ManagedBus$Enumeration" 93) ∧ zall (zVok "ManagedBus$Enumeration" 93 1) [(6, 96)] := ⟨(fun h => absurd h (by decide)), zac (⟨zR_6, zTT_6, 8, rfl, by decide, zj_96, zw_495, Or.inl ⟨zpar_5, zw_493, zsel_10⟩⟩) trivial⟩
theorem zv_4_96 : ((1 : Int) = (-1 : Int) → zClw "ManagedBus$Enumeration" 96) ∧ zall (zVok "ManagedBus$Enumeration" 96 1) [(6, 97)] := ⟨(fun h => absurd h (by decide)), zac (⟨zR_6, zTT_6, 8, rfl, by decide, zj_97, zw_503, Or.inl ⟨zpar_5, zw_501, zsel_11⟩⟩) trivial⟩
theorem zv_4_99 : ((2 : Int) = (-1 : Int) → zClw "ManagedBus$Enumeration" 99) ∧ zall (zVok "ManagedBus$Enumeration" 99 2) [(5, 85)] := ⟨(fun h => absurd h (by decide)), zac (⟨zR_5, zTT_5, 7, rfl, by decide, zj_85, zw_498, Or.inl ⟨zpar_3, zw_497, zw_499⟩⟩) trivial⟩
theorem zv_4_103 : ((2 : Int) = (-1 : Int) → zClw "ManagedBus$Enumeration" 103) ∧ zall (zVok "ManagedBus$Enumeration" 103 2) [(5, 86)] := ⟨(fun h => absurd h (by decide)), zac (⟨zR_5, zTT_5, 7, rfl, by decide, zj_86, zw_506, Or.inl ⟨zpar_3, zw_505, zw_507⟩⟩) trivial⟩
theorem zf_4_19_p (nm : String) : zall (zFok nm "ManagedBus$Enumeration" 19 true) [(6, 4)] := zac (⟨zR_6, zTT_6, 8, zTY_6, "ManagedBus$Enumeration", zk_6, by decide, zw_259, Or.inl rfl, fun _ => Or.inl rfl⟩) trivial
theorem zf_4_106_p (nm : String) : zall (zFok nm "ManagedBus$Enumeration" 106 true) [(6, 2)] := zac (⟨zR_6, zTT_6, 8, zTY_6, "ManagedBus$Enumeration", zk_6, by decide, zw_256, Or.inl rfl, fun _ => Or.inl rfl⟩) trivial
theorem zf_4_106_g (nm : String) : zall (zFok nm "ManagedBus$Enumeration" 106 false) [(6, 2)] := zac (⟨zR_6, zTT_6, 8, zTY_6, "ManagedBus$Enumeration", zk_6, by decide, zw_256, Or.inl rfl, fun h => nomatch h⟩) trivial
theorem zf_4_53_g (nm : String) : zall (zFok nm "ManagedBus$Enumeration" 53 false) [(6, 7)] := zac (⟨zR_6, zTT_6, 8, zTY_6, "ManagedBus$Enumeration", zk_6, by decide, zw_262, Or.inl rfl, fun h => nomatch h⟩) trivial
theorem zf_4_109_p (nm : String) : zall (zFok nm "ManagedBus$Enumeration" 109 true) [(6, 3)] := zac (⟨zR_6, zTT_6, 8, zTY_6, "ManagedBus$Enumeration", zk_6, by decide, zw_258, Or.inl rfl, fun _ => Or.inl rfl⟩) trivial
theorem zi_5_3 : ([(111, 1)] = [] → zOb "ManagedBus$Manager" 3) ∧ zall (zIok "ManagedBus$Manager" 3 2) [(111, 1)] := ⟨(fun h => nomatch h), zac (⟨zj_111, zpar_26, rfl, rfl, zw_37, Or.inl zw_36⟩) trivial⟩
theorem zf_5_9_q : zall (zFok "<init>" "ManagedBus$Manager" 9 true) [(1, 0)] := zac (⟨zR_1, zTT_1, 11, zTY_1, "ManagedBus$Manager", zk_1, by decide, zw_131, Or.inl rfl, fun _ => Or.inr ⟨rfl, rfl, rfl⟩⟩) trivial
theorem zf_5_15_q : zall (zFok "<init>" "ManagedBus$Manager" 15 true) [(1, 1)] := zac (⟨zR_1, zTT_1, 11, zTY_1, "ManagedBus$Manager", zk_1, by decide, zw_133, Or.inl rfl, fun _ => Or.inr ⟨rfl, rfl, rfl⟩⟩) trivial
theorem zf_5_18_q : zall (zFok "<init>" "ManagedBus$Manager" 18 true) [(1, 2)] := zac (⟨zR_1, zTT_1, 11, zTY_1, "ManagedBus$Manager", zk_1, by decide, zw_135, Or.inl rfl, fun _ => Or.inr ⟨rfl, rfl, rfl⟩⟩) trivial
theorem zf_5_21_q : zall (zFok "<init>" "ManagedBus$Manager" 21 true) [(1, 3)] := zac (⟨zR_1, zTT_1, 11, zTY_1, "ManagedBus$Manager", zk_1, by decide, zw_137, Or.inl rfl, fun _ => Or.inr ⟨rfl, rfl, rfl⟩⟩) trivial
theorem za_5_24 : zall (zAok "ManagedBus$Manager" 24) [(20, 0)] := zac (⟨"ManagedBus$Request", by decide, by decide, rfl, zw_129, List.mem_cons_of_mem _ (List.mem_cons_of_mem _ (List.mem_cons_of_mem _ (List.mem_cons_of_mem _ (List.mem_cons_of_mem _ (List.mem_cons_self)))))⟩) trivial
theorem zf_5_26_q : zall (zFok "<init>" "ManagedBus$Manager" 26 true) [(1, 6)] := zac (⟨zR_1, zTT_1, 11, zTY_1, "ManagedBus$Manager", zk_1, by decide, zw_142, Or.inl rfl, fun _ => Or.inr ⟨rfl, rfl, rfl⟩⟩) trivial
theorem zf_5_30_g (nm : String) : zall (zFok nm "ManagedBus$Manager" 30 false) [(1, 8)] := zac (⟨zR_1, zTT_1, 11, zTY_1, "ManagedBus$Manager", zk_1, by decide, zw_147, Or.inr zw_148, fun h => nomatch h⟩) trivial
theorem zf_5_34_p (nm : String) : zall (zFok nm "ManagedBus$Manager" 34 true) [(2, 4)] := zac (⟨zR_2, zTT_2, 9, zTY_2, "ManagedBus$Port", zk_2, by decide, zw_98, Or.inl rfl, fun _ => Or.inl rfl⟩) trivial
theorem zf_5_40_g (nm : String) : zall (zFok nm "ManagedBus$Manager" 40 false) [(1, 7)] := zac (⟨zR_1, zTT_1, 11, zTY_1, "ManagedBus$Manager", zk_1, by decide, zw_143, Or.inl rfl, fun h => nomatch h⟩) trivial
theorem zf_5_26_g (nm : String) : zall (zFok nm "ManagedBus$Manager" 26 false) [(1, 6)] := zac (⟨zR_1, zTT_1, 11, zTY_1, "ManagedBus$Manager", zk_1, by decide, zw_142, Or.inl rfl, fun h => nomatch h⟩) trivial
theorem zf_5_9_g (nm : String) : zall (zFok nm "ManagedBus$Manager" 9 false) [(1, 0)] := zac (⟨zR_1, zTT_1, 11, zTY_1, "ManagedBus$Manager", zk_1, by decide, zw_131, Or.inl rfl, fun h => nomatch h⟩) trivial
theorem zs_5_43 : zall (zSok "ManagedBus$Manager" 43 2) [(156, 1)] := zac (Or.inr (Or.inr ⟨rfl, zj_156, zpar_27, zw_760, Or.inl zw_759⟩)) trivial
theorem zn_5_24 : zall (zNok "ManagedBus$Manager" 24) [(10, 8)] := zac (⟨zR_10, zTT_10, 8, zTY_10, zk_10, rfl, zw_129, zw_771, zw_16⟩) trivial
theorem zi_5_49 : ([(134, 1)] = [] → zOb "ManagedBus$Manager" 49) ∧ zall (zIok "ManagedBus$Manager" 49 3) [(134, 1)] := ⟨(fun h => nomatch h), zac (⟨zj_134, zpar_28, rfl, rfl, zw_773, Or.inl zw_772⟩) trivial⟩
theorem zf_5_40_p (nm : String) : zall (zFok nm "ManagedBus$Manager" 40 true) [(1, 7)] := zac (⟨zR_1, zTT_1, 11, zTY_1, "ManagedBus$Manager", zk_1, by decide, zw_143, Or.inl rfl, fun _ => Or.inl rfl⟩) trivial
theorem zv_5_52 : ((1 : Int) = (-1 : Int) → zClw "ManagedBus$Manager" 52) ∧ zall (zVok "ManagedBus$Manager" 52 1) [(1, 106)] := ⟨(fun h => absurd h (by decide)), zac (⟨zR_1, zTT_1, 11, rfl, by decide, zj_106, zw_742, Or.inl ⟨zpar_29, zw_740, zsel_22⟩⟩) trivial⟩
theorem zv_5_56 : ((0 : Int) = (-1 : Int) → zClw "ManagedBus$Manager" 56) ∧ zall (zVok "ManagedBus$Manager" 56 0) [(10, 135)] := ⟨(fun h => absurd h (by decide)), zac (⟨zR_10, zTT_10, 8, rfl, by decide, zj_135, zw_737, Or.inl ⟨zpar_4, zw_736, zw_738⟩⟩) trivial⟩
theorem zf_5_60_g (nm : String) : zall (zFok nm "ManagedBus$Manager" 60 false) [(10, 0)] := zac (⟨zR_10, zTT_10, 8, zTY_10, "ManagedBus$Request", zk_10, by decide, zw_777, Or.inl rfl, fun h => nomatch h⟩) trivial
theorem zf_5_61_g (nm : String) : zall (zFok nm "ManagedBus$Manager" 61 false) [(10, 1)] := zac (⟨zR_10, zTT_10, 8, zTY_10, "ManagedBus$Request", zk_10, by decide, zw_780, Or.inl rfl, fun h => nomatch h⟩) trivial
theorem zf_5_64_g (nm : String) : zall (zFok nm "ManagedBus$Manager" 64 false) [(10, 2)] := zac (⟨zR_10, zTT_10, 8, zTY_10, "ManagedBus$Request", zk_10, by decide, zw_782, Or.inl rfl, fun h => nomatch h⟩) trivial
theorem zv_5_67 : ((4 : Int) = (-1 : Int) → zClw "ManagedBus$Manager" 67) ∧ zall (zVok "ManagedBus$Manager" 67 4) [(1, 114)] := ⟨(fun h => absurd h (by decide)), zac (⟨zR_1, zTT_1, 11, rfl, by decide, zj_114, zw_686, Or.inr (Or.inr (Or.inr ⟨"ManagedBus$Node", ⟨"ManagedBus$Manager", "send", "(II[II)V"⟩, zpar_30, ⟨by decide +kernel, by decide +kernel⟩, zw_744, zw_745, zw_746, Or.inl rfl⟩))⟩) trivial⟩
theorem zv_5_71 : ((0 : Int) = (-1 : Int) → zClw "ManagedBus$Manager" 71) ∧ zall (zVok "ManagedBus$Manager" 71 0) [(9, 124)] := ⟨(fun h => absurd h (by decide)), zac (⟨zR_9, zTT_9, 6, rfl, by decide, zj_124, zw_651, Or.inl ⟨zpar_4, zw_701, zw_652⟩⟩) trivial⟩
theorem zv_5_76 : ((1 : Int) = (-1 : Int) → zClw "ManagedBus$Manager" 76) ∧ zall (zVok "ManagedBus$Manager" 76 1) [(1, 110)] := ⟨(fun h => absurd h (by decide)), zac (⟨zR_1, zTT_1, 11, rfl, by decide, zj_110, zw_704, Or.inl ⟨zpar_14, zw_702, zsel_20⟩⟩) trivial⟩
theorem zf_5_80_g (nm : String) : zall (zFok nm "ManagedBus$Manager" 80 false) [(9, 2)] := zac (⟨zR_9, zTT_9, 6, zTY_9, "ManagedBus$Part", zk_9, by decide, zw_602, Or.inl rfl, fun h => nomatch h⟩) trivial
theorem zf_5_83_g (nm : String) : zall (zFok nm "ManagedBus$Manager" 83 false) [(9, 3)] := zac (⟨zR_9, zTT_9, 6, zTY_9, "ManagedBus$Part", zk_9, by decide, zw_606, Or.inl rfl, fun h => nomatch h⟩) trivial
theorem zv_5_84 : ((1 : Int) = (-1 : Int) → zClw "ManagedBus$Manager" 84) ∧ zall (zVok "ManagedBus$Manager" 84 1) [(1, 108)] := ⟨(fun h => absurd h (by decide)), zac (⟨zR_1, zTT_1, 11, rfl, by decide, zj_108, zw_718, Or.inl ⟨zpar_14, zw_716, zsel_21⟩⟩) trivial⟩
theorem zf_5_15_g (nm : String) : zall (zFok nm "ManagedBus$Manager" 15 false) [(1, 1)] := zac (⟨zR_1, zTT_1, 11, zTY_1, "ManagedBus$Manager", zk_1, by decide, zw_133, Or.inl rfl, fun h => nomatch h⟩) trivial
theorem zf_5_87_g (nm : String) : zall (zFok nm "ManagedBus$Manager" 87 false) [(1, 5)] := zac (⟨zR_1, zTT_1, 11, zTY_1, "ManagedBus$Manager", zk_1, by decide, zw_141, Or.inl rfl, fun h => nomatch h⟩) trivial
theorem zf_5_90_g (nm : String) : zall (zFok nm "ManagedBus$Manager" 90 false) [(9, 0)] := zac (⟨zR_9, zTT_9, 6, zTY_9, "ManagedBus$Part", zk_9, by decide, zw_597, Or.inl rfl, fun h => nomatch h⟩) trivial
theorem zf_5_18_g (nm : String) : zall (zFok nm "ManagedBus$Manager" 18 false) [(1, 2)] := zac (⟨zR_1, zTT_1, 11, zTY_1, "ManagedBus$Manager", zk_1, by decide, zw_135, Or.inl rfl, fun h => nomatch h⟩) trivial
theorem zf_5_21_g (nm : String) : zall (zFok nm "ManagedBus$Manager" 21 false) [(1, 3)] := zac (⟨zR_1, zTT_1, 11, zTY_1, "ManagedBus$Manager", zk_1, by decide, zw_137, Or.inl rfl, fun h => nomatch h⟩) trivial
theorem zs_5_93 : zall (zSok "ManagedBus$Manager" 93 2) [(22, 1)] := zac (Or.inr (Or.inr ⟨rfl, zj_22, zpar_6, zw_669, Or.inr ⟨"ManagedBus", List.mem_cons_of_mem _ (List.mem_cons_of_mem _ (List.mem_cons_of_mem _ (List.mem_cons_of_mem _ (List.mem_cons_self))))⟩⟩)) trivial
theorem zf_5_87_p (nm : String) : zall (zFok nm "ManagedBus$Manager" 87 true) [(1, 5)] := zac (⟨zR_1, zTT_1, 11, zTY_1, "ManagedBus$Manager", zk_1, by decide, zw_141, Or.inl rfl, fun _ => Or.inl rfl⟩) trivial
theorem zf_5_97_g (nm : String) : zall (zFok nm "ManagedBus$Manager" 97 false) [(1, 4)] := zac (⟨zR_1, zTT_1, 11, zTY_1, "ManagedBus$Manager", zk_1, by decide, zw_139, Or.inl rfl, fun h => nomatch h⟩) trivial
theorem zs_5_100 : zall (zSok "ManagedBus$Manager" 100 2) [(1, 0)] := zac (Or.inr (Or.inl ⟨rfl, zw_721, zw_541, zw_13, zw_542⟩)) trivial
theorem zf_5_97_p (nm : String) : zall (zFok nm "ManagedBus$Manager" 97 true) [(1, 4)] := zac (⟨zR_1, zTT_1, 11, zTY_1, "ManagedBus$Manager", zk_1, by decide, zw_139, Or.inl rfl, fun _ => Or.inl rfl⟩) trivial
theorem zv_5_105 : ((1 : Int) = (-1 : Int) → zClw "ManagedBus$Manager" 105) ∧ zall (zVok "ManagedBus$Manager" 105 1) [(10, 136)] := ⟨(fun h => absurd h (by decide)), zac (⟨zR_10, zTT_10, 8, rfl, by decide, zj_136, zw_707, Or.inl ⟨zpar_31, zw_706, zw_708⟩⟩) trivial⟩
theorem zv_5_109 : ((1 : Int) = (-1 : Int) → zClw "ManagedBus$Manager" 109) ∧ zall (zVok "ManagedBus$Manager" 109 1) [(10, 137)] := ⟨(fun h => absurd h (by decide)), zac (⟨zR_10, zTT_10, 8, rfl, by decide, zj_137, zw_712, Or.inl ⟨zpar_14, zw_711, zw_713⟩⟩) trivial⟩
theorem zo_6_3 : (([] : List (Nat × Nat)) = [] → zOb "ManagedBus$Node" 3) ∧ zall (zIok "ManagedBus$Node" 3 0) [] := ⟨fun _ => ⟨zw_39, zw_23, zw_24⟩, trivial⟩
theorem za_6_9 : zall (zAok "ManagedBus$Node" 9) [(18, 0)] := zac (⟨"ManagedBus$Part", by decide, by decide, rfl, zw_40, List.mem_cons_of_mem _ (List.mem_cons_of_mem _ (List.mem_cons_of_mem _ (List.mem_cons_self)))⟩) trivial
theorem zf_6_11_q : zall (zFok "<init>" "ManagedBus$Node" 11 true) [(1, 10), (4, 12), (8, 11)] := zac (⟨zR_1, zTT_1, 11, zTY_1, "ManagedBus$Node", zk_1, by decide, zw_160, Or.inl rfl, fun _ => Or.inr ⟨rfl, rfl, rfl⟩⟩) (zac (⟨zR_4, zTT_4, 13, zTY_4, "ManagedBus$Node", zk_4, by decide, zw_160, Or.inl rfl, fun _ => Or.inr ⟨rfl, rfl, rfl⟩⟩) (zac (⟨zR_8, zTT_8, 12, zTY_8, "ManagedBus$Node", zk_8, by decide, zw_160, Or.inl rfl, fun _ => Or.inr ⟨rfl, rfl, rfl⟩⟩) trivial))
theorem zn_6_17 : zall (zNok "ManagedBus$Node" 17) [(2, 9)] := zac (⟨zR_2, zTT_2, 9, zTY_2, zk_2, rfl, zw_42, zw_43, zw_4⟩) trivial
theorem zi_6_19 : ([(127, 1)] = [] → zOb "ManagedBus$Node" 19) ∧ zall (zIok "ManagedBus$Node" 19 1) [(127, 1)] := ⟨(fun h => nomatch h), zac (⟨zj_127, zpar_18, rfl, rfl, zw_45, Or.inl zw_44⟩) trivial⟩
theorem zf_6_22_q : zall (zFok "<init>" "ManagedBus$Node" 22 true) [(1, 8), (4, 10), (8, 9)] := zac (⟨zR_1, zTT_1, 11, zTY_1, "ManagedBus$Node", zk_1, by decide, zw_146, Or.inl rfl, fun _ => Or.inr ⟨rfl, rfl, rfl⟩⟩) (zac (⟨zR_4, zTT_4, 13, zTY_4, "ManagedBus$Node", zk_4, by decide, zw_146, Or.inl rfl, fun _ => Or.inr ⟨rfl, rfl, rfl⟩⟩) (zac (⟨zR_8, zTT_8, 12, zTY_8, "ManagedBus$Node", zk_8, by decide, zw_146, Or.inl rfl, fun _ => Or.inr ⟨rfl, rfl, rfl⟩⟩) trivial))
theorem zf_6_26_p (nm : String) : zall (zFok nm "ManagedBus$Node" 26 true) [(1, 9), (4, 11), (8, 10)] := zac (⟨zR_1, zTT_1, 11, zTY_1, "ManagedBus$Node", zk_1, by decide, zw_155, Or.inl rfl, fun _ => Or.inl rfl⟩) (zac (⟨zR_4, zTT_4, 13, zTY_4, "ManagedBus$Node", zk_4, by decide, zw_155, Or.inl rfl, fun _ => Or.inl rfl⟩) (zac (⟨zR_8, zTT_8, 12, zTY_8, "ManagedBus$Node", zk_8, by decide, zw_155, Or.inl rfl, fun _ => Or.inl rfl⟩) trivial))
theorem zf_6_30_g (nm : String) : zall (zFok nm "ManagedBus$Node" 30 false) [(3, 0)] := zac (⟨zR_3, zTT_3, 5, zTY_3, "ManagedBus$Packet", zk_3, by decide, zw_57, Or.inl rfl, fun h => nomatch h⟩) trivial
theorem zf_6_22_g (nm : String) : zall (zFok nm "ManagedBus$Node" 22 false) [(1, 8), (4, 10), (8, 9)] := zac (⟨zR_1, zTT_1, 11, zTY_1, "ManagedBus$Node", zk_1, by decide, zw_146, Or.inl rfl, fun h => nomatch h⟩) (zac (⟨zR_4, zTT_4, 13, zTY_4, "ManagedBus$Node", zk_4, by decide, zw_146, Or.inl rfl, fun h => nomatch h⟩) (zac (⟨zR_8, zTT_8, 12, zTY_8, "ManagedBus$Node", zk_8, by decide, zw_146, Or.inl rfl, fun h => nomatch h⟩) trivial))
theorem zf_6_35_g (nm : String) : zall (zFok nm "ManagedBus$Node" 35 false) [(2, 4)] := zac (⟨zR_2, zTT_2, 9, zTY_2, "ManagedBus$Port", zk_2, by decide, zw_100, Or.inl rfl, fun h => nomatch h⟩) trivial
theorem zv_6_38 : ((2 : Int) = (-1 : Int) → zClw "ManagedBus$Node" 38) ∧ zall (zVok "ManagedBus$Node" 38 2) [(1, 112), (4, 75), (8, 112)] := ⟨(fun h => absurd h (by decide)), zac (⟨zR_1, zTT_1, 11, rfl, by decide, zj_112, zw_564, Or.inl ⟨zpar_32, zw_563, zw_586⟩⟩) (zac (⟨zR_4, zTT_4, 13, rfl, by decide, zj_75, zw_567, Or.inr (Or.inr (Or.inr ⟨"ManagedBus$Node", (zY 112), zpar_32, ⟨by decide +kernel, by decide +kernel⟩, zw_563, zw_565, zw_566, Or.inr (Or.inl ⟨zw_564, _, _, _, zw_588⟩)⟩))⟩) (zac (⟨zR_8, zTT_8, 12, rfl, by decide, zj_112, zw_564, Or.inl ⟨zpar_32, zw_563, zw_587⟩⟩) trivial))⟩
theorem zf_6_42_g (nm : String) : zall (zFok nm "ManagedBus$Node" 42 false) [(3, 1)] := zac (⟨zR_3, zTT_3, 5, zTY_3, "ManagedBus$Packet", zk_3, by decide, zw_61, Or.inl rfl, fun h => nomatch h⟩) trivial
theorem zf_6_11_g (nm : String) : zall (zFok nm "ManagedBus$Node" 11 false) [(1, 10), (4, 12), (8, 11)] := zac (⟨zR_1, zTT_1, 11, zTY_1, "ManagedBus$Node", zk_1, by decide, zw_160, Or.inl rfl, fun h => nomatch h⟩) (zac (⟨zR_4, zTT_4, 13, zTY_4, "ManagedBus$Node", zk_4, by decide, zw_160, Or.inl rfl, fun h => nomatch h⟩) (zac (⟨zR_8, zTT_8, 12, zTY_8, "ManagedBus$Node", zk_8, by decide, zw_160, Or.inl rfl, fun h => nomatch h⟩) trivial))
theorem zn_6_9 : zall (zNok "ManagedBus$Node" 9) [(9, 6)] := zac (⟨zR_9, zTT_9, 6, zTY_9, zk_9, rfl, zw_40, zw_589, zw_15⟩) trivial
theorem zi_6_45 : ([(123, 1)] = [] → zOb "ManagedBus$Node" 45) ∧ zall (zIok "ManagedBus$Node" 45 1) [(123, 1)] := ⟨(fun h => nomatch h), zac (⟨zj_123, zpar_1, rfl, rfl, zw_591, Or.inl zw_590⟩) trivial⟩
theorem zv_6_48 : ((1 : Int) = (-1 : Int) → zClw "ManagedBus$Node" 48) ∧ zall (zVok "ManagedBus$Node" 48 1) [(9, 126)] := ⟨(fun h => absurd h (by decide)), zac (⟨zR_9, zTT_9, 6, rfl, by decide, zj_126, zw_624, Or.inl ⟨zpar_33, zw_623, zw_625⟩⟩) trivial⟩
theorem zv_6_52 : ((1 : Int) = (-1 : Int) → zClw "ManagedBus$Node" 52) ∧ zall (zVok "ManagedBus$Node" 52 1) [(2, 129)] := ⟨(fun h => absurd h (by decide)), zac (⟨zR_2, zTT_2, 9, rfl, by decide, zj_129, zw_570, Or.inl ⟨zpar_2, zw_688, zw_571⟩⟩) trivial⟩
theorem zv_6_56 : ((0 : Int) = (-1 : Int) → zClw "ManagedBus$Node" 56) ∧ zall (zVok "ManagedBus$Node" 56 0) [(2, 131)] := ⟨(fun h => absurd h (by decide)), zac (⟨zR_2, zTT_2, 9, rfl, by decide, zj_131, zw_574, Or.inl ⟨zpar_12, zw_689, zw_575⟩⟩) trivial⟩
theorem zv_6_60 : ((3 : Int) = (-1 : Int) → zClw "ManagedBus$Node" 60) ∧ zall (zVok "ManagedBus$Node" 60 3) [(3, 117)] := ⟨(fun h => absurd h (by decide)), zac (⟨zR_3, zTT_3, 5, rfl, by decide, zj_117, zw_578, Or.inl ⟨zpar_16, zw_690, zw_579⟩⟩) trivial⟩
theorem zs_6_64 : zall (zSok "ManagedBus$Node" 64 2) [(1, 0)] := zac (Or.inr (Or.inl ⟨rfl, zw_691, zw_541, zw_13, zw_542⟩)) trivial
theorem zv_6_70 : ((3 : Int) = (-1 : Int) → zClw "ManagedBus$Node" 70) ∧ zall (zVok "ManagedBus$Node" 70 3) [(3, 118)] := ⟨(fun h => absurd h (by decide)), zac (⟨zR_3, zTT_3, 5, rfl, by decide, zj_118, zw_582, Or.inl ⟨zpar_19, zw_692, zw_583⟩⟩) trivial⟩
theorem zf_6_74_p (nm : String) : zall (zFok nm "ManagedBus$Node" 74 true) [(9, 4)] := zac (⟨zR_9, zTT_9, 6, zTY_9, "ManagedBus$Part", zk_9, by decide, zw_608, Or.inl rfl, fun _ => Or.inl rfl⟩) trivial
theorem zo_7_3 : (([] : List (Nat × Nat)) = [] → zOb "ManagedBus$Packet" 3) ∧ zall (zIok "ManagedBus$Packet" 3 0) [] := ⟨fun _ => ⟨zw_54, zw_23, zw_24⟩, trivial⟩
theorem zf_7_9_q : zall (zFok "<init>" "ManagedBus$Packet" 9 true) [(3, 4)] := zac (⟨zR_3, zTT_3, 5, zTY_3, "ManagedBus$Packet", zk_3, by decide, zw_70, Or.inl rfl, fun _ => Or.inr ⟨rfl, rfl, rfl⟩⟩) trivial
theorem zf_7_15_p (nm : String) : zall (zFok nm "ManagedBus$Packet" 15 true) [(3, 0)] := zac (⟨zR_3, zTT_3, 5, zTY_3, "ManagedBus$Packet", zk_3, by decide, zw_56, Or.inl rfl, fun _ => Or.inl rfl⟩) trivial
theorem zf_7_19_p (nm : String) : zall (zFok nm "ManagedBus$Packet" 19 true) [(3, 1)] := zac (⟨zR_3, zTT_3, 5, zTY_3, "ManagedBus$Packet", zk_3, by decide, zw_59, Or.inl rfl, fun _ => Or.inl rfl⟩) trivial
theorem zf_7_22_p (nm : String) : zall (zFok nm "ManagedBus$Packet" 22 true) [(3, 2)] := zac (⟨zR_3, zTT_3, 5, zTY_3, "ManagedBus$Packet", zk_3, by decide, zw_63, Or.inl rfl, fun _ => Or.inl rfl⟩) trivial
theorem zf_7_25_p (nm : String) : zall (zFok nm "ManagedBus$Packet" 25 true) [(3, 3)] := zac (⟨zR_3, zTT_3, 5, zTY_3, "ManagedBus$Packet", zk_3, by decide, zw_67, Or.inl rfl, fun _ => Or.inl rfl⟩) trivial
theorem zf_7_9_g (nm : String) : zall (zFok nm "ManagedBus$Packet" 9 false) [(3, 4)] := zac (⟨zR_3, zTT_3, 5, zTY_3, "ManagedBus$Packet", zk_3, by decide, zw_70, Or.inl rfl, fun h => nomatch h⟩) trivial
theorem zs_7_28 : zall (zSok "ManagedBus$Packet" 28 5) [(0, 0)] := zac (Or.inl ⟨rfl, zw_585, zw_549, zw_548, zw_14⟩) trivial
theorem zf_7_22_g (nm : String) : zall (zFok nm "ManagedBus$Packet" 22 false) [(3, 2)] := zac (⟨zR_3, zTT_3, 5, zTY_3, "ManagedBus$Packet", zk_3, by decide, zw_63, Or.inl rfl, fun h => nomatch h⟩) trivial
theorem zo_8_3 : (([] : List (Nat × Nat)) = [] → zOb "ManagedBus$Part" 3) ∧ zall (zIok "ManagedBus$Part" 3 0) [] := ⟨fun _ => ⟨zw_593, zw_23, zw_24⟩, trivial⟩
theorem zf_8_9_q : zall (zFok "<init>" "ManagedBus$Part" 9 true) [(9, 3)] := zac (⟨zR_9, zTT_9, 6, zTY_9, "ManagedBus$Part", zk_9, by decide, zw_603, Or.inl rfl, fun _ => Or.inr ⟨rfl, rfl, rfl⟩⟩) trivial
theorem zf_8_15_q : zall (zFok "<init>" "ManagedBus$Part" 15 true) [(9, 0)] := zac (⟨zR_9, zTT_9, 6, zTY_9, "ManagedBus$Part", zk_9, by decide, zw_594, Or.inl rfl, fun _ => Or.inr ⟨rfl, rfl, rfl⟩⟩) trivial
theorem zf_8_19_g (nm : String) : zall (zFok nm "ManagedBus$Part" 19 false) [(9, 1)] := zac (⟨zR_9, zTT_9, 6, zTY_9, "ManagedBus$Part", zk_9, by decide, zw_598, Or.inl rfl, fun h => nomatch h⟩) trivial
theorem zv_8_22 : ((0 : Int) = (-1 : Int) → zClw "ManagedBus$Part" 22) ∧ zall (zVok "ManagedBus$Part" 22 0) [(3, 119)] := ⟨(fun h => absurd h (by decide)), zac (⟨zR_3, zTT_3, 5, rfl, by decide, zj_119, zw_628, Or.inl ⟨zpar_4, zw_627, zw_629⟩⟩) trivial⟩
theorem zv_8_28 : ((0 : Int) = (-1 : Int) → zClw "ManagedBus$Part" 28) ∧ zall (zVok "ManagedBus$Part" 28 0) [(3, 122)] := ⟨(fun h => absurd h (by decide)), zac (⟨zR_3, zTT_3, 5, rfl, by decide, zj_122, zw_632, Or.inl ⟨zpar_25, zw_631, zw_633⟩⟩) trivial⟩
theorem zf_8_19_p (nm : String) : zall (zFok nm "ManagedBus$Part" 19 true) [(9, 1)] := zac (⟨zR_9, zTT_9, 6, zTY_9, "ManagedBus$Part", zk_9, by decide, zw_598, Or.inl rfl, fun _ => Or.inl rfl⟩) trivial
theorem zf_8_31_p (nm : String) : zall (zFok nm "ManagedBus$Part" 31 true) [(9, 2)] := zac (⟨zR_9, zTT_9, 6, zTY_9, "ManagedBus$Part", zk_9, by decide, zw_600, Or.inl rfl, fun _ => Or.inl rfl⟩) trivial
theorem zf_8_34_p (nm : String) : zall (zFok nm "ManagedBus$Part" 34 true) [(9, 4)] := zac (⟨zR_9, zTT_9, 6, zTY_9, "ManagedBus$Part", zk_9, by decide, zw_607, Or.inl rfl, fun _ => Or.inl rfl⟩) trivial
theorem zv_8_38 : ((0 : Int) = (-1 : Int) → zClw "ManagedBus$Part" 38) ∧ zall (zVok "ManagedBus$Part" 38 0) [(3, 121)] := ⟨(fun h => absurd h (by decide)), zac (⟨zR_3, zTT_3, 5, rfl, by decide, zj_121, zw_636, Or.inl ⟨zpar_25, zw_635, zw_637⟩⟩) trivial⟩
theorem zf_8_41_g (nm : String) : zall (zFok nm "ManagedBus$Part" 41 false) [(9, 5)] := zac (⟨zR_9, zTT_9, 6, zTY_9, "ManagedBus$Part", zk_9, by decide, zw_609, Or.inl rfl, fun h => nomatch h⟩) trivial
theorem zf_8_31_g (nm : String) : zall (zFok nm "ManagedBus$Part" 31 false) [(9, 2)] := zac (⟨zR_9, zTT_9, 6, zTY_9, "ManagedBus$Part", zk_9, by decide, zw_600, Or.inl rfl, fun h => nomatch h⟩) trivial
theorem zf_8_44_g (nm : String) : zall (zFok nm "ManagedBus$Part" 44 false) [(3, 3)] := zac (⟨zR_3, zTT_3, 5, zTY_3, "ManagedBus$Packet", zk_3, by decide, zw_68, Or.inl rfl, fun h => nomatch h⟩) trivial
theorem zf_8_34_g (nm : String) : zall (zFok nm "ManagedBus$Part" 34 false) [(9, 4)] := zac (⟨zR_9, zTT_9, 6, zTY_9, "ManagedBus$Part", zk_9, by decide, zw_607, Or.inl rfl, fun h => nomatch h⟩) trivial
theorem zf_8_45_g (nm : String) : zall (zFok nm "ManagedBus$Part" 45 false) [(3, 4)] := zac (⟨zR_3, zTT_3, 5, zTY_3, "ManagedBus$Packet", zk_3, by decide, zw_72, Or.inl rfl, fun h => nomatch h⟩) trivial
theorem zf_8_9_g (nm : String) : zall (zFok nm "ManagedBus$Part" 9 false) [(9, 3)] := zac (⟨zR_9, zTT_9, 6, zTY_9, "ManagedBus$Part", zk_9, by decide, zw_603, Or.inl rfl, fun h => nomatch h⟩) trivial
theorem zs_8_46 : zall (zSok "ManagedBus$Part" 46 5) [(0, 0)] := zac (Or.inl ⟨rfl, zw_639, zw_549, zw_548, zw_14⟩) trivial
theorem zf_8_41_p (nm : String) : zall (zFok nm "ManagedBus$Part" 41 true) [(9, 5)] := zac (⟨zR_9, zTT_9, 6, zTY_9, "ManagedBus$Part", zk_9, by decide, zw_609, Or.inl rfl, fun _ => Or.inl rfl⟩) trivial
theorem zv_8_52 : ((0 : Int) = (-1 : Int) → zClw "ManagedBus$Part" 52) ∧ zall (zVok "ManagedBus$Part" 52 0) [(3, 120)] := ⟨(fun h => absurd h (by decide)), zac (⟨zR_3, zTT_3, 5, rfl, by decide, zj_120, zw_641, Or.inl ⟨zpar_4, zw_640, zw_642⟩⟩) trivial⟩
theorem zo_9_3 : (([] : List (Nat × Nat)) = [] → zOb "ManagedBus$Port" 3) ∧ zall (zIok "ManagedBus$Port" 3 0) [] := ⟨fun _ => ⟨zw_47, zw_23, zw_24⟩, trivial⟩
theorem za_9_9 : zall (zAok "ManagedBus$Port" 9) [(19, 0)] := zac (⟨"ManagedBus$Packet", by decide, by decide, rfl, zw_48, List.mem_cons_of_mem _ (List.mem_cons_of_mem _ (List.mem_cons_of_mem _ (List.mem_cons_of_mem _ (List.mem_cons_self))))⟩) trivial
theorem zf_9_11_q : zall (zFok "<init>" "ManagedBus$Port" 11 true) [(2, 7)] := zac (⟨zR_2, zTT_2, 9, zTY_2, "ManagedBus$Port", zk_2, by decide, zw_108, Or.inl rfl, fun _ => Or.inr ⟨rfl, rfl, rfl⟩⟩) trivial
theorem zf_9_17_q : zall (zFok "<init>" "ManagedBus$Port" 17 true) [(2, 0)] := zac (⟨zR_2, zTT_2, 9, zTY_2, "ManagedBus$Port", zk_2, by decide, zw_86, Or.inl rfl, fun _ => Or.inr ⟨rfl, rfl, rfl⟩⟩) trivial
theorem zf_9_21_p (nm : String) : zall (zFok nm "ManagedBus$Port" 21 true) [(2, 2)] := zac (⟨zR_2, zTT_2, 9, zTY_2, "ManagedBus$Port", zk_2, by decide, zw_92, Or.inl rfl, fun _ => Or.inl rfl⟩) trivial
theorem zf_9_25_p (nm : String) : zall (zFok nm "ManagedBus$Port" 25 true) [(2, 3)] := zac (⟨zR_2, zTT_2, 9, zTY_2, "ManagedBus$Port", zk_2, by decide, zw_95, Or.inl rfl, fun _ => Or.inl rfl⟩) trivial
theorem zf_9_11_g (nm : String) : zall (zFok nm "ManagedBus$Port" 11 false) [(2, 7)] := zac (⟨zR_2, zTT_2, 9, zTY_2, "ManagedBus$Port", zk_2, by decide, zw_108, Or.inl rfl, fun h => nomatch h⟩) trivial
theorem zn_9_9 : zall (zNok "ManagedBus$Port" 9) [(3, 5)] := zac (⟨zR_3, zTT_3, 5, zTY_3, zk_3, rfl, zw_48, zw_50, zw_5⟩) trivial
theorem zi_9_28 : ([(116, 1)] = [] → zOb "ManagedBus$Port" 28) ∧ zall (zIok "ManagedBus$Port" 28 0) [(116, 1)] := ⟨(fun h => nomatch h), zac (⟨zj_116, zpar_0, rfl, rfl, zw_52, Or.inr ⟨"ManagedBus", List.mem_cons_self⟩⟩) trivial⟩
theorem zf_9_29_p (nm : String) : zall (zFok nm "ManagedBus$Port" 29 true) [(2, 1)] := zac (⟨zR_2, zTT_2, 9, zTY_2, "ManagedBus$Port", zk_2, by decide, zw_89, Or.inl rfl, fun _ => Or.inl rfl⟩) trivial
theorem zf_9_32_p (nm : String) : zall (zFok nm "ManagedBus$Port" 32 true) [(2, 4)] := zac (⟨zR_2, zTT_2, 9, zTY_2, "ManagedBus$Port", zk_2, by decide, zw_99, Or.inl rfl, fun _ => Or.inl rfl⟩) trivial
theorem zf_9_35_p (nm : String) : zall (zFok nm "ManagedBus$Port" 35 true) [(2, 5)] := zac (⟨zR_2, zTT_2, 9, zTY_2, "ManagedBus$Port", zk_2, by decide, zw_103, Or.inl rfl, fun _ => Or.inl rfl⟩) trivial
theorem zf_9_38_p (nm : String) : zall (zFok nm "ManagedBus$Port" 38 true) [(2, 6)] := zac (⟨zR_2, zTT_2, 9, zTY_2, "ManagedBus$Port", zk_2, by decide, zw_105, Or.inl rfl, fun _ => Or.inl rfl⟩) trivial
theorem zf_9_38_g (nm : String) : zall (zFok nm "ManagedBus$Port" 38 false) [(2, 6)] := zac (⟨zR_2, zTT_2, 9, zTY_2, "ManagedBus$Port", zk_2, by decide, zw_105, Or.inl rfl, fun h => nomatch h⟩) trivial
theorem zf_9_41_g (nm : String) : zall (zFok nm "ManagedBus$Port" 41 false) [(2, 8)] := zac (⟨zR_2, zTT_2, 9, zTY_2, "ManagedBus$Port", zk_2, by decide, zw_109, Or.inl rfl, fun h => nomatch h⟩) trivial
theorem zf_9_41_p (nm : String) : zall (zFok nm "ManagedBus$Port" 41 true) [(2, 8)] := zac (⟨zR_2, zTT_2, 9, zTY_2, "ManagedBus$Port", zk_2, by decide, zw_109, Or.inl rfl, fun _ => Or.inl rfl⟩) trivial
theorem zf_9_35_g (nm : String) : zall (zFok nm "ManagedBus$Port" 35 false) [(2, 5)] := zac (⟨zR_2, zTT_2, 9, zTY_2, "ManagedBus$Port", zk_2, by decide, zw_103, Or.inl rfl, fun h => nomatch h⟩) trivial
theorem zv_9_44 : ((0 : Int) = (-1 : Int) → zClw "ManagedBus$Port" 44) ∧ zall (zVok "ManagedBus$Port" 44 0) [(2, 132)] := ⟨(fun h => absurd h (by decide)), zac (⟨zR_2, zTT_2, 9, rfl, by decide, zj_132, zw_724, Or.inl ⟨zpar_0, zw_731, zw_725⟩⟩) trivial⟩
theorem zo_10_3 : (([] : List (Nat × Nat)) = [] → zOb "ManagedBus$Request" 3) ∧ zall (zIok "ManagedBus$Request" 3 0) [] := ⟨fun _ => ⟨zw_775, zw_23, zw_24⟩, trivial⟩
theorem zf_10_9_q : zall (zFok "<init>" "ManagedBus$Request" 9 true) [(10, 3)] := zac (⟨zR_10, zTT_10, 8, zTY_10, "ManagedBus$Request", zk_10, by decide, zw_783, Or.inl rfl, fun _ => Or.inr ⟨rfl, rfl, rfl⟩⟩) trivial
theorem zf_10_15_p (nm : String) : zall (zFok nm "ManagedBus$Request" 15 true) [(10, 5)] := zac (⟨zR_10, zTT_10, 8, zTY_10, "ManagedBus$Request", zk_10, by decide, zw_787, Or.inl rfl, fun _ => Or.inl rfl⟩) trivial
theorem zf_10_19_p (nm : String) : zall (zFok nm "ManagedBus$Request" 19 true) [(10, 6)] := zac (⟨zR_10, zTT_10, 8, zTY_10, "ManagedBus$Request", zk_10, by decide, zw_789, Or.inl rfl, fun _ => Or.inl rfl⟩) trivial
theorem zf_10_22_p (nm : String) : zall (zFok nm "ManagedBus$Request" 22 true) [(10, 7)] := zac (⟨zR_10, zTT_10, 8, zTY_10, "ManagedBus$Request", zk_10, by decide, zw_791, Or.inl rfl, fun _ => Or.inl rfl⟩) trivial
theorem zf_10_25_q : zall (zFok "<init>" "ManagedBus$Request" 25 true) [(10, 0)] := zac (⟨zR_10, zTT_10, 8, zTY_10, "ManagedBus$Request", zk_10, by decide, zw_776, Or.inl rfl, fun _ => Or.inr ⟨rfl, rfl, rfl⟩⟩) trivial
theorem zf_10_28_q : zall (zFok "<init>" "ManagedBus$Request" 28 true) [(10, 1)] := zac (⟨zR_10, zTT_10, 8, zTY_10, "ManagedBus$Request", zk_10, by decide, zw_779, Or.inl rfl, fun _ => Or.inr ⟨rfl, rfl, rfl⟩⟩) trivial
theorem zf_10_31_q : zall (zFok "<init>" "ManagedBus$Request" 31 true) [(10, 2)] := zac (⟨zR_10, zTT_10, 8, zTY_10, "ManagedBus$Request", zk_10, by decide, zw_781, Or.inl rfl, fun _ => Or.inr ⟨rfl, rfl, rfl⟩⟩) trivial
theorem zf_10_15_g (nm : String) : zall (zFok nm "ManagedBus$Request" 15 false) [(10, 5)] := zac (⟨zR_10, zTT_10, 8, zTY_10, "ManagedBus$Request", zk_10, by decide, zw_787, Or.inl rfl, fun h => nomatch h⟩) trivial
theorem zf_10_19_g (nm : String) : zall (zFok nm "ManagedBus$Request" 19 false) [(10, 6)] := zac (⟨zR_10, zTT_10, 8, zTY_10, "ManagedBus$Request", zk_10, by decide, zw_789, Or.inl rfl, fun h => nomatch h⟩) trivial
theorem zf_10_22_g (nm : String) : zall (zFok nm "ManagedBus$Request" 22 false) [(10, 7)] := zac (⟨zR_10, zTT_10, 8, zTY_10, "ManagedBus$Request", zk_10, by decide, zw_791, Or.inl rfl, fun h => nomatch h⟩) trivial
theorem zf_10_25_g (nm : String) : zall (zFok nm "ManagedBus$Request" 25 false) [(10, 0)] := zac (⟨zR_10, zTT_10, 8, zTY_10, "ManagedBus$Request", zk_10, by decide, zw_776, Or.inl rfl, fun h => nomatch h⟩) trivial
theorem zf_10_34_g (nm : String) : zall (zFok nm "ManagedBus$Request" 34 false) [(9, 0)] := zac (⟨zR_9, zTT_9, 6, zTY_9, "ManagedBus$Part", zk_9, by decide, zw_595, Or.inl rfl, fun h => nomatch h⟩) trivial
theorem zf_10_28_g (nm : String) : zall (zFok nm "ManagedBus$Request" 28 false) [(10, 1)] := zac (⟨zR_10, zTT_10, 8, zTY_10, "ManagedBus$Request", zk_10, by decide, zw_779, Or.inl rfl, fun h => nomatch h⟩) trivial
theorem zv_10_39 : ((0 : Int) = (-1 : Int) → zClw "ManagedBus$Request" 39) ∧ zall (zVok "ManagedBus$Request" 39 0) [(9, 125)] := ⟨(fun h => absurd h (by decide)), zac (⟨zR_9, zTT_9, 6, rfl, by decide, zj_125, zw_695, Or.inl ⟨zpar_25, zw_710, zw_696⟩⟩) trivial⟩
theorem zf_10_42_g (nm : String) : zall (zFok nm "ManagedBus$Request" 42 false) [(9, 2)] := zac (⟨zR_9, zTT_9, 6, zTY_9, "ManagedBus$Part", zk_9, by decide, zw_599, Or.inl rfl, fun h => nomatch h⟩) trivial
theorem zf_10_45_p (nm : String) : zall (zFok nm "ManagedBus$Request" 45 true) [(10, 4)] := zac (⟨zR_10, zTT_10, 8, zTY_10, "ManagedBus$Request", zk_10, by decide, zw_785, Or.inl rfl, fun _ => Or.inl rfl⟩) trivial
theorem zf_10_48_g (nm : String) : zall (zFok nm "ManagedBus$Request" 48 false) [(9, 3)] := zac (⟨zR_9, zTT_9, 6, zTY_9, "ManagedBus$Part", zk_9, by decide, zw_604, Or.inl rfl, fun h => nomatch h⟩) trivial
theorem zf_10_9_g (nm : String) : zall (zFok nm "ManagedBus$Request" 9 false) [(10, 3)] := zac (⟨zR_10, zTT_10, 8, zTY_10, "ManagedBus$Request", zk_10, by decide, zw_783, Or.inl rfl, fun h => nomatch h⟩) trivial
theorem zf_10_45_g (nm : String) : zall (zFok nm "ManagedBus$Request" 45 false) [(10, 4)] := zac (⟨zR_10, zTT_10, 8, zTY_10, "ManagedBus$Request", zk_10, by decide, zw_785, Or.inl rfl, fun h => nomatch h⟩) trivial
theorem zs_10_49 : zall (zSok "ManagedBus$Request" 49 5) [(0, 0)] := zac (Or.inl ⟨rfl, zw_715, zw_549, zw_548, zw_14⟩) trivial
theorem zo_11_3 : (([] : List (Nat × Nat)) = [] → zOb "ManagedBus$Row" 3) ∧ zall (zIok "ManagedBus$Row" 3 0) [] := ⟨fun _ => ⟨zw_285, zw_23, zw_24⟩, trivial⟩
theorem zf_11_9_q : zall (zFok "<init>" "ManagedBus$Row" 9 true) [(7, 0)] := zac (⟨zR_7, zTT_7, 2, zTY_7, "ManagedBus$Row", zk_7, by decide, zw_286, Or.inl rfl, fun _ => Or.inr ⟨rfl, rfl, rfl⟩⟩) trivial
theorem zf_11_15_p (nm : String) : zall (zFok nm "ManagedBus$Row" 15 true) [(7, 1)] := zac (⟨zR_7, zTT_7, 2, zTY_7, "ManagedBus$Row", zk_7, by decide, zw_289, Or.inl rfl, fun _ => Or.inl rfl⟩) trivial
theorem zf_11_15_g (nm : String) : zall (zFok nm "ManagedBus$Row" 15 false) [(7, 1)] := zac (⟨zR_7, zTT_7, 2, zTY_7, "ManagedBus$Row", zk_7, by decide, zw_289, Or.inl rfl, fun h => nomatch h⟩) trivial
theorem zf_11_9_g (nm : String) : zall (zFok nm "ManagedBus$Row" 9 false) [(7, 0)] := zac (⟨zR_7, zTT_7, 2, zTY_7, "ManagedBus$Row", zk_7, by decide, zw_286, Or.inl rfl, fun h => nomatch h⟩) trivial
theorem zv_11_19 : ((1 : Int) = (-1 : Int) → zClw "ManagedBus$Row" 19) ∧ zall (zVok "ManagedBus$Row" 19 1) [(7, 145)] := ⟨(fun h => absurd h (by decide)), zac (⟨zR_7, zTT_7, 2, rfl, by decide, zj_145, zw_478, Or.inl ⟨zpar_9, zw_476, zsel_8⟩⟩) trivial⟩
theorem zv_11_23 : ((1 : Int) = (-1 : Int) → zClw "ManagedBus$Row" 23) ∧ zall (zVok "ManagedBus$Row" 23 1) [(7, 140)] := ⟨(fun h => absurd h (by decide)), zac (⟨zR_7, zTT_7, 2, rfl, by decide, zj_140, zw_465, Or.inl ⟨zpar_1, zw_480, zw_466⟩⟩) trivial⟩
theorem zs_11_27 : zall (zSok "ManagedBus$Row" 27 2) [(1, 0)] := zac (Or.inr (Or.inl ⟨rfl, zw_540, zw_541, zw_13, zw_542⟩)) trivial
theorem zs_11_33 : zall (zSok "ManagedBus$Row" 33 5) [(0, 0)] := zac (Or.inl ⟨rfl, zw_547, zw_549, zw_548, zw_14⟩) trivial
theorem zi_12_3 : ([(111, 1)] = [] → zOb "ManagedBus$SensingNode" 3) ∧ zall (zIok "ManagedBus$SensingNode" 3 2) [(111, 1)] := ⟨(fun h => nomatch h), zac (⟨zj_111, zpar_26, rfl, rfl, zw_37, Or.inl zw_192⟩) trivial⟩
theorem zf_12_11_p (nm : String) : zall (zFok nm "ManagedBus$SensingNode" 11 true) [(4, 2), (8, 1)] := zac (⟨zR_4, zTT_4, 13, zTY_4, "ManagedBus$SensingNode", zk_4, by decide, zw_199, Or.inl rfl, fun _ => Or.inl rfl⟩) (zac (⟨zR_8, zTT_8, 12, zTY_8, "ManagedBus$SensingNode", zk_8, by decide, zw_199, Or.inl rfl, fun _ => Or.inl rfl⟩) trivial)
theorem zf_12_15_p (nm : String) : zall (zFok nm "ManagedBus$SensingNode" 15 true) [(4, 3), (8, 2)] := zac (⟨zR_4, zTT_4, 13, zTY_4, "ManagedBus$SensingNode", zk_4, by decide, zw_201, Or.inl rfl, fun _ => Or.inl rfl⟩) (zac (⟨zR_8, zTT_8, 12, zTY_8, "ManagedBus$SensingNode", zk_8, by decide, zw_201, Or.inl rfl, fun _ => Or.inl rfl⟩) trivial)
theorem zf_12_18_p (nm : String) : zall (zFok nm "ManagedBus$SensingNode" 18 true) [(4, 4), (8, 3)] := zac (⟨zR_4, zTT_4, 13, zTY_4, "ManagedBus$SensingNode", zk_4, by decide, zw_203, Or.inl rfl, fun _ => Or.inl rfl⟩) (zac (⟨zR_8, zTT_8, 12, zTY_8, "ManagedBus$SensingNode", zk_8, by decide, zw_203, Or.inl rfl, fun _ => Or.inl rfl⟩) trivial)
theorem zf_12_21_q : zall (zFok "<init>" "ManagedBus$SensingNode" 21 true) [(4, 6), (8, 5)] := zac (⟨zR_4, zTT_4, 13, zTY_4, "ManagedBus$SensingNode", zk_4, by decide, zw_207, Or.inl rfl, fun _ => Or.inr ⟨rfl, rfl, rfl⟩⟩) (zac (⟨zR_8, zTT_8, 12, zTY_8, "ManagedBus$SensingNode", zk_8, by decide, zw_207, Or.inl rfl, fun _ => Or.inr ⟨rfl, rfl, rfl⟩⟩) trivial)
theorem zf_12_25_q : zall (zFok "<init>" "ManagedBus$SensingNode" 25 true) [(4, 9), (8, 8)] := zac (⟨zR_4, zTT_4, 13, zTY_4, "ManagedBus$SensingNode", zk_4, by decide, zw_213, Or.inl rfl, fun _ => Or.inr ⟨rfl, rfl, rfl⟩⟩) (zac (⟨zR_8, zTT_8, 12, zTY_8, "ManagedBus$SensingNode", zk_8, by decide, zw_213, Or.inl rfl, fun _ => Or.inr ⟨rfl, rfl, rfl⟩⟩) trivial)
theorem zf_12_28_p (nm : String) : zall (zFok nm "ManagedBus$SensingNode" 28 true) [(4, 11), (8, 10)] := zac (⟨zR_4, zTT_4, 13, zTY_4, "ManagedBus$SensingNode", zk_4, by decide, zw_156, Or.inr zw_157, fun _ => Or.inl rfl⟩) (zac (⟨zR_8, zTT_8, 12, zTY_8, "ManagedBus$SensingNode", zk_8, by decide, zw_156, Or.inr zw_157, fun _ => Or.inl rfl⟩) trivial)
theorem zf_12_31_g (nm : String) : zall (zFok nm "ManagedBus$SensingNode" 31 false) [(4, 10), (8, 9)] := zac (⟨zR_4, zTT_4, 13, zTY_4, "ManagedBus$SensingNode", zk_4, by decide, zw_151, Or.inr zw_152, fun h => nomatch h⟩) (zac (⟨zR_8, zTT_8, 12, zTY_8, "ManagedBus$SensingNode", zk_8, by decide, zw_151, Or.inr zw_152, fun h => nomatch h⟩) trivial)
theorem zv_12_35 : ((1 : Int) = (-1 : Int) → zClw "ManagedBus$SensingNode" 35) ∧ zall (zVok "ManagedBus$SensingNode" 35 1) [(2, 128)] := ⟨(fun h => absurd h (by decide)), zac (⟨zR_2, zTT_2, 9, rfl, by decide, zj_128, zw_378, Or.inl ⟨zpar_1, zw_377, zw_379⟩⟩) trivial⟩
theorem zv_12_41 : ((0 : Int) = (-1 : Int) → zClw "ManagedBus$SensingNode" 41) ∧ zall (zVok "ManagedBus$SensingNode" 41 0) [(4, 115), (8, 115)] := ⟨(fun h => absurd h (by decide)), zac (⟨zR_4, zTT_4, 13, rfl, by decide, zj_115, zw_386, Or.inr (Or.inr (Or.inr ⟨"ManagedBus$Node", ⟨"ManagedBus$SensingNode", "forgetParts", "()V"⟩, zpar_0, ⟨by decide +kernel, by decide +kernel⟩, zw_381, zw_382, zw_384, Or.inl rfl⟩))⟩) (zac (⟨zR_8, zTT_8, 12, rfl, by decide, zj_115, zw_386, Or.inr (Or.inr (Or.inr ⟨"ManagedBus$Node", ⟨"ManagedBus$SensingNode", "forgetParts", "()V"⟩, zpar_0, ⟨by decide +kernel, by decide +kernel⟩, zw_381, zw_382, zw_385, Or.inl rfl⟩))⟩) trivial)⟩
theorem zf_12_45_p (nm : String) : zall (zFok nm "ManagedBus$SensingNode" 45 true) [(4, 1), (8, 0)] := zac (⟨zR_4, zTT_4, 13, zTY_4, "ManagedBus$SensingNode", zk_4, by decide, zw_197, Or.inl rfl, fun _ => Or.inl rfl⟩) (zac (⟨zR_8, zTT_8, 12, zTY_8, "ManagedBus$SensingNode", zk_8, by decide, zw_197, Or.inl rfl, fun _ => Or.inl rfl⟩) trivial)
theorem zf_12_48_p (nm : String) : zall (zFok nm "ManagedBus$SensingNode" 48 true) [(4, 5), (8, 4)] := zac (⟨zR_4, zTT_4, 13, zTY_4, "ManagedBus$SensingNode", zk_4, by decide, zw_205, Or.inl rfl, fun _ => Or.inl rfl⟩) (zac (⟨zR_8, zTT_8, 12, zTY_8, "ManagedBus$SensingNode", zk_8, by decide, zw_205, Or.inl rfl, fun _ => Or.inl rfl⟩) trivial)
theorem zf_12_51_p (nm : String) : zall (zFok nm "ManagedBus$SensingNode" 51 true) [(4, 7), (8, 6)] := zac (⟨zR_4, zTT_4, 13, zTY_4, "ManagedBus$SensingNode", zk_4, by decide, zw_209, Or.inl rfl, fun _ => Or.inl rfl⟩) (zac (⟨zR_8, zTT_8, 12, zTY_8, "ManagedBus$SensingNode", zk_8, by decide, zw_209, Or.inl rfl, fun _ => Or.inl rfl⟩) trivial)
theorem zf_12_54_p (nm : String) : zall (zFok nm "ManagedBus$SensingNode" 54 true) [(4, 8), (8, 7)] := zac (⟨zR_4, zTT_4, 13, zTY_4, "ManagedBus$SensingNode", zk_4, by decide, zw_211, Or.inl rfl, fun _ => Or.inl rfl⟩) (zac (⟨zR_8, zTT_8, 12, zTY_8, "ManagedBus$SensingNode", zk_8, by decide, zw_211, Or.inl rfl, fun _ => Or.inl rfl⟩) trivial)
theorem zf_12_21_g (nm : String) : zall (zFok nm "ManagedBus$SensingNode" 21 false) [(4, 6), (8, 5)] := zac (⟨zR_4, zTT_4, 13, zTY_4, "ManagedBus$SensingNode", zk_4, by decide, zw_207, Or.inl rfl, fun h => nomatch h⟩) (zac (⟨zR_8, zTT_8, 12, zTY_8, "ManagedBus$SensingNode", zk_8, by decide, zw_207, Or.inl rfl, fun h => nomatch h⟩) trivial)
theorem zs_12_57 : zall (zSok "ManagedBus$SensingNode" 57 2) [(157, 1)] := zac (Or.inr (Or.inr ⟨rfl, zj_157, zpar_34, zw_389, Or.inl zw_388⟩)) trivial
theorem zf_12_11_g (nm : String) : zall (zFok nm "ManagedBus$SensingNode" 11 false) [(4, 2), (8, 1)] := zac (⟨zR_4, zTT_4, 13, zTY_4, "ManagedBus$SensingNode", zk_4, by decide, zw_199, Or.inl rfl, fun h => nomatch h⟩) (zac (⟨zR_8, zTT_8, 12, zTY_8, "ManagedBus$SensingNode", zk_8, by decide, zw_199, Or.inl rfl, fun h => nomatch h⟩) trivial)
theorem zv_12_63 : ((1 : Int) = (-1 : Int) → zClw "ManagedBus$SensingNode" 63) ∧ zall (zVok "ManagedBus$SensingNode" 63 1) [(4, 149), (8, 149)] := ⟨(fun h => absurd h (by decide)), zac (⟨zR_4, zTT_4, 13, rfl, by decide, zj_149, zw_679, Or.inr (Or.inl ⟨zpar_9, zw_677, List.mem_cons_of_mem _ (List.mem_cons_of_mem _ (List.mem_cons_self)), _, _, zw_185, zw_326⟩)⟩) (zac (⟨zR_8, zTT_8, 12, rfl, by decide, zj_149, zw_679, Or.inl ⟨zpar_9, zw_677, zsel_19⟩⟩) trivial)⟩
theorem zf_12_51_g (nm : String) : zall (zFok nm "ManagedBus$SensingNode" 51 false) [(4, 7), (8, 6)] := zac (⟨zR_4, zTT_4, 13, zTY_4, "ManagedBus$SensingNode", zk_4, by decide, zw_209, Or.inl rfl, fun h => nomatch h⟩) (zac (⟨zR_8, zTT_8, 12, zTY_8, "ManagedBus$SensingNode", zk_8, by decide, zw_209, Or.inl rfl, fun h => nomatch h⟩) trivial)
theorem zf_12_25_g (nm : String) : zall (zFok nm "ManagedBus$SensingNode" 25 false) [(4, 9), (8, 8)] := zac (⟨zR_4, zTT_4, 13, zTY_4, "ManagedBus$SensingNode", zk_4, by decide, zw_213, Or.inl rfl, fun h => nomatch h⟩) (zac (⟨zR_8, zTT_8, 12, zTY_8, "ManagedBus$SensingNode", zk_8, by decide, zw_213, Or.inl rfl, fun h => nomatch h⟩) trivial)
theorem zv_12_67 : ((0 : Int) = (-1 : Int) → zClw "ManagedBus$SensingNode" 67) ∧ zall (zVok "ManagedBus$SensingNode" 67 0) [(4, 154), (8, 154)] := ⟨(fun h => absurd h (by decide)), zac (⟨zR_4, zTT_4, 13, rfl, by decide, zj_154, zw_662, Or.inr (Or.inl ⟨zpar_25, zw_660, List.mem_cons_self, _, _, zw_185, zw_326⟩)⟩) (zac (⟨zR_8, zTT_8, 12, rfl, by decide, zj_154, zw_662, Or.inl ⟨zpar_25, zw_660, zsel_17⟩⟩) trivial)⟩
theorem zf_12_54_g (nm : String) : zall (zFok nm "ManagedBus$SensingNode" 54 false) [(4, 8), (8, 7)] := zac (⟨zR_4, zTT_4, 13, zTY_4, "ManagedBus$SensingNode", zk_4, by decide, zw_211, Or.inl rfl, fun h => nomatch h⟩) (zac (⟨zR_8, zTT_8, 12, zTY_8, "ManagedBus$SensingNode", zk_8, by decide, zw_211, Or.inl rfl, fun h => nomatch h⟩) trivial)
theorem zv_12_71 : ((4 : Int) = (-1 : Int) → zClw "ManagedBus$SensingNode" 71) ∧ zall (zVok "ManagedBus$SensingNode" 71 4) [(4, 114), (8, 114)] := ⟨(fun h => absurd h (by decide)), zac (⟨zR_4, zTT_4, 13, rfl, by decide, zj_114, zw_686, Or.inr (Or.inr (Or.inr ⟨"ManagedBus$Node", ⟨"ManagedBus$SensingNode", "send", "(II[II)V"⟩, zpar_30, ⟨by decide +kernel, by decide +kernel⟩, zw_681, zw_682, zw_684, Or.inl rfl⟩))⟩) (zac (⟨zR_8, zTT_8, 12, rfl, by decide, zj_114, zw_686, Or.inr (Or.inr (Or.inr ⟨"ManagedBus$Node", ⟨"ManagedBus$SensingNode", "send", "(II[II)V"⟩, zpar_30, ⟨by decide +kernel, by decide +kernel⟩, zw_681, zw_682, zw_685, Or.inl rfl⟩))⟩) trivial)⟩
theorem zf_12_45_g (nm : String) : zall (zFok nm "ManagedBus$SensingNode" 45 false) [(4, 1), (8, 0)] := zac (⟨zR_4, zTT_4, 13, zTY_4, "ManagedBus$SensingNode", zk_4, by decide, zw_197, Or.inl rfl, fun h => nomatch h⟩) (zac (⟨zR_8, zTT_8, 12, zTY_8, "ManagedBus$SensingNode", zk_8, by decide, zw_197, Or.inl rfl, fun h => nomatch h⟩) trivial)
theorem zf_12_18_g (nm : String) : zall (zFok nm "ManagedBus$SensingNode" 18 false) [(4, 4), (8, 3)] := zac (⟨zR_4, zTT_4, 13, zTY_4, "ManagedBus$SensingNode", zk_4, by decide, zw_203, Or.inl rfl, fun h => nomatch h⟩) (zac (⟨zR_8, zTT_8, 12, zTY_8, "ManagedBus$SensingNode", zk_8, by decide, zw_203, Or.inl rfl, fun h => nomatch h⟩) trivial)
theorem zf_12_48_g (nm : String) : zall (zFok nm "ManagedBus$SensingNode" 48 false) [(4, 5), (8, 4)] := zac (⟨zR_4, zTT_4, 13, zTY_4, "ManagedBus$SensingNode", zk_4, by decide, zw_205, Or.inl rfl, fun h => nomatch h⟩) (zac (⟨zR_8, zTT_8, 12, zTY_8, "ManagedBus$SensingNode", zk_8, by decide, zw_205, Or.inl rfl, fun h => nomatch h⟩) trivial)
theorem zf_12_15_g (nm : String) : zall (zFok nm "ManagedBus$SensingNode" 15 false) [(4, 3), (8, 2)] := zac (⟨zR_4, zTT_4, 13, zTY_4, "ManagedBus$SensingNode", zk_4, by decide, zw_201, Or.inl rfl, fun h => nomatch h⟩) (zac (⟨zR_8, zTT_8, 12, zTY_8, "ManagedBus$SensingNode", zk_8, by decide, zw_201, Or.inl rfl, fun h => nomatch h⟩) trivial)
theorem zv_12_75 : ((0 : Int) = (-1 : Int) → zClw "ManagedBus$SensingNode" 75) ∧ zall (zVok "ManagedBus$SensingNode" 75 0) [(9, 124)] := ⟨(fun h => absurd h (by decide)), zac (⟨zR_9, zTT_9, 6, rfl, by decide, zj_124, zw_651, Or.inl ⟨zpar_4, zw_650, zw_652⟩⟩) trivial⟩
theorem zs_12_81 : zall (zSok "ManagedBus$SensingNode" 81 1) [(151, 1)] := zac (Or.inr (Or.inr ⟨rfl, zj_151, zpar_35, zw_655, Or.inl zw_654⟩)) trivial
theorem zf_12_85_g (nm : String) : zall (zFok nm "ManagedBus$SensingNode" 85 false) [(9, 3)] := zac (⟨zR_9, zTT_9, 6, zTY_9, "ManagedBus$Part", zk_9, by decide, zw_605, Or.inl rfl, fun h => nomatch h⟩) trivial
theorem zv_12_88 : ((1 : Int) = (-1 : Int) → zClw "ManagedBus$SensingNode" 88) ∧ zall (zVok "ManagedBus$SensingNode" 88 1) [(4, 153), (8, 153)] := ⟨(fun h => absurd h (by decide)), zac (⟨zR_4, zTT_4, 13, rfl, by decide, zj_153, zw_666, Or.inr (Or.inl ⟨zpar_36, zw_664, List.mem_cons_of_mem _ (List.mem_cons_self), _, _, zw_185, zw_326⟩)⟩) (zac (⟨zR_8, zTT_8, 12, rfl, by decide, zj_153, zw_666, Or.inl ⟨zpar_36, zw_664, zsel_18⟩⟩) trivial)⟩
theorem zv_12_92 : ((0 : Int) = (-1 : Int) → zClw "ManagedBus$SensingNode" 92) ∧ zall (zVok "ManagedBus$SensingNode" 92 0) [(4, 148), (8, 148)] := ⟨(fun h => absurd h (by decide)), zac (⟨zR_4, zTT_4, 13, rfl, by decide, zj_148, zw_672, Or.inl ⟨zpar_0, zw_671, zw_675⟩⟩) (zac (⟨zR_8, zTT_8, 12, rfl, by decide, zj_148, zw_672, Or.inl ⟨zpar_0, zw_671, zw_673⟩⟩) trivial)⟩
theorem zs_12_95 : zall (zSok "ManagedBus$SensingNode" 95 5) [(0, 0)] := zac (Or.inl ⟨rfl, zw_693, zw_549, zw_548, zw_14⟩) trivial
theorem zf_12_101_g (nm : String) : zall (zFok nm "ManagedBus$SensingNode" 101 false) [(9, 2)] := zac (⟨zR_9, zTT_9, 6, zTY_9, "ManagedBus$Part", zk_9, by decide, zw_601, Or.inl rfl, fun h => nomatch h⟩) trivial
theorem zf_12_104_g (nm : String) : zall (zFok nm "ManagedBus$SensingNode" 104 false) [(9, 0)] := zac (⟨zR_9, zTT_9, 6, zTY_9, "ManagedBus$Part", zk_9, by decide, zw_596, Or.inl rfl, fun h => nomatch h⟩) trivial
theorem zv_12_107 : ((0 : Int) = (-1 : Int) → zClw "ManagedBus$SensingNode" 107) ∧ zall (zVok "ManagedBus$SensingNode" 107 0) [(9, 125)] := ⟨(fun h => absurd h (by decide)), zac (⟨zR_9, zTT_9, 6, rfl, by decide, zj_125, zw_695, Or.inl ⟨zpar_25, zw_694, zw_696⟩⟩) trivial⟩
theorem zs_12_110 : zall (zSok "ManagedBus$SensingNode" 110 2) [(152, 1)] := zac (Or.inr (Or.inr ⟨rfl, zj_152, zpar_17, zw_658, Or.inl zw_657⟩)) trivial
theorem zs_12_114 : zall (zSok "ManagedBus$SensingNode" 114 2) [(22, 1)] := zac (Or.inr (Or.inr ⟨rfl, zj_22, zpar_6, zw_669, Or.inr ⟨"ManagedBus", List.mem_cons_of_mem _ (List.mem_cons_of_mem _ (List.mem_cons_of_mem _ (List.mem_cons_self)))⟩⟩)) trivial
theorem zn_13_7 : zall (zNok "ManagedBusLaw" 7) [(0, 6)] := zac (⟨zR_0, zTT_0, 6, zTY_0, zk_0, rfl, zw_17, zw_18, zw_1⟩) trivial
theorem zi_13_9 : ([(0, 1)] = [] → zOb "ManagedBusLaw" 9) ∧ zall (zIok "ManagedBusLaw" 9 0) [(0, 1)] := ⟨(fun h => nomatch h), zac (⟨zj_0, zpar_0, rfl, rfl, zw_20, Or.inl zw_19⟩) trivial⟩
theorem zn_13_10 : zall (zNok "ManagedBusLaw" 10) [(11, 52)] := zac (⟨zR_11, zTT_11, 52, zTY_11, zk_11, rfl, zw_860, zw_861, zw_11⟩) trivial
theorem zi_13_12 : ([(23, 1)] = [] → zOb "ManagedBusLaw" 12) ∧ zall (zIok "ManagedBusLaw" 12 0) [(23, 1)] := ⟨(fun h => nomatch h), zac (⟨zj_23, zpar_0, rfl, rfl, zw_863, Or.inl zw_862⟩) trivial⟩
theorem zv_13_13 : ((3 : Int) = (-1 : Int) → zClw "ManagedBusLaw" 13) ∧ zall (zVok "ManagedBusLaw" 13 3) [(0, 1)] := ⟨(fun h => absurd h (by decide)), zac (⟨zR_0, zTT_0, 6, rfl, by decide, zj_1, zw_361, Or.inl ⟨zpar_15, zw_360, zw_362⟩⟩) trivial⟩
theorem zv_13_17 : ((3 : Int) = (-1 : Int) → zClw "ManagedBusLaw" 17) ∧ zall (zVok "ManagedBusLaw" 17 3) [(11, 29)] := ⟨(fun h => absurd h (by decide)), zac (⟨zR_11, zTT_11, 52, rfl, by decide, zj_29, zw_1025, Or.inl ⟨zpar_15, zw_1024, zw_1026⟩⟩) trivial⟩
theorem zv_13_18 : ((1 : Int) = (-1 : Int) → zClw "ManagedBusLaw" 18) ∧ zall (zVok "ManagedBusLaw" 18 1) [(0, 2)] := ⟨(fun h => absurd h (by decide)), zac (⟨zR_0, zTT_0, 6, rfl, by decide, zj_2, zw_392, Or.inl ⟨zpar_2, zw_391, zw_393⟩⟩) trivial⟩
theorem zv_13_22 : ((1 : Int) = (-1 : Int) → zClw "ManagedBusLaw" 22) ∧ zall (zVok "ManagedBusLaw" 22 1) [(11, 30)] := ⟨(fun h => absurd h (by decide)), zac (⟨zR_11, zTT_11, 52, rfl, by decide, zj_30, zw_1036, Or.inl ⟨zpar_2, zw_1035, zw_1037⟩⟩) trivial⟩
theorem zv_13_23 : ((1 : Int) = (-1 : Int) → zClw "ManagedBusLaw" 23) ∧ zall (zVok "ManagedBusLaw" 23 1) [(0, 3)] := ⟨(fun h => absurd h (by decide)), zac (⟨zR_0, zTT_0, 6, rfl, by decide, zj_3, zw_396, Or.inl ⟨zpar_2, zw_395, zw_397⟩⟩) trivial⟩
theorem zv_13_26 : ((1 : Int) = (-1 : Int) → zClw "ManagedBusLaw" 26) ∧ zall (zVok "ManagedBusLaw" 26 1) [(11, 31)] := ⟨(fun h => absurd h (by decide)), zac (⟨zR_11, zTT_11, 52, rfl, by decide, zj_31, zw_1040, Or.inl ⟨zpar_2, zw_1039, zw_1041⟩⟩) trivial⟩
theorem zv_13_27 : ((3 : Int) = (-1 : Int) → zClw "ManagedBusLaw" 27) ∧ zall (zVok "ManagedBusLaw" 27 3) [(0, 4)] := ⟨(fun h => absurd h (by decide)), zac (⟨zR_0, zTT_0, 6, rfl, by decide, zj_4, zw_412, Or.inl ⟨zpar_15, zw_411, zw_413⟩⟩) trivial⟩
theorem zv_13_30 : ((3 : Int) = (-1 : Int) → zClw "ManagedBusLaw" 30) ∧ zall (zVok "ManagedBusLaw" 30 3) [(11, 32)] := ⟨(fun h => absurd h (by decide)), zac (⟨zR_11, zTT_11, 52, rfl, by decide, zj_32, zw_1044, Or.inl ⟨zpar_15, zw_1043, zw_1045⟩⟩) trivial⟩
theorem zv_13_31 : ((1 : Int) = (-1 : Int) → zClw "ManagedBusLaw" 31) ∧ zall (zVok "ManagedBusLaw" 31 1) [(0, 5)] := ⟨(fun h => absurd h (by decide)), zac (⟨zR_0, zTT_0, 6, rfl, by decide, zj_5, zw_416, Or.inl ⟨zpar_9, zw_415, zw_417⟩⟩) trivial⟩
theorem zv_13_35 : ((1 : Int) = (-1 : Int) → zClw "ManagedBusLaw" 35) ∧ zall (zVok "ManagedBusLaw" 35 1) [(11, 65)] := ⟨(fun h => absurd h (by decide)), zac (⟨zR_11, zTT_11, 52, rfl, by decide, zj_65, zw_1076, Or.inl ⟨zpar_9, zw_1075, zw_1077⟩⟩) trivial⟩
theorem zv_13_36 : ((2 : Int) = (-1 : Int) → zClw "ManagedBusLaw" 36) ∧ zall (zVok "ManagedBusLaw" 36 2) [(0, 6)] := ⟨(fun h => absurd h (by decide)), zac (⟨zR_0, zTT_0, 6, rfl, by decide, zj_6, zw_748, Or.inl ⟨zpar_17, zw_747, zw_749⟩⟩) trivial⟩
theorem zv_13_40 : ((2 : Int) = (-1 : Int) → zClw "ManagedBusLaw" 40) ∧ zall (zVok "ManagedBusLaw" 40 2) [(11, 33)] := ⟨(fun h => absurd h (by decide)), zac (⟨zR_11, zTT_11, 52, rfl, by decide, zj_33, zw_1048, Or.inl ⟨zpar_17, zw_1047, zw_1049⟩⟩) trivial⟩
theorem zv_13_41 : ((2 : Int) = (-1 : Int) → zClw "ManagedBusLaw" 41) ∧ zall (zVok "ManagedBusLaw" 41 2) [(0, 7)] := ⟨(fun h => absurd h (by decide)), zac (⟨zR_0, zTT_0, 6, rfl, by decide, zj_7, zw_752, Or.inl ⟨zpar_6, zw_751, zw_753⟩⟩) trivial⟩
theorem zv_13_45 : ((2 : Int) = (-1 : Int) → zClw "ManagedBusLaw" 45) ∧ zall (zVok "ManagedBusLaw" 45 2) [(11, 34)] := ⟨(fun h => absurd h (by decide)), zac (⟨zR_11, zTT_11, 52, rfl, by decide, zj_34, zw_1052, Or.inl ⟨zpar_6, zw_1051, zw_1053⟩⟩) trivial⟩
theorem zv_13_46 : ((2 : Int) = (-1 : Int) → zClw "ManagedBusLaw" 46) ∧ zall (zVok "ManagedBusLaw" 46 2) [(0, 8)] := ⟨(fun h => absurd h (by decide)), zac (⟨zR_0, zTT_0, 6, rfl, by decide, zj_8, zw_811, Or.inl ⟨zpar_17, zw_810, zw_812⟩⟩) trivial⟩
theorem zv_13_49 : ((2 : Int) = (-1 : Int) → zClw "ManagedBusLaw" 49) ∧ zall (zVok "ManagedBusLaw" 49 2) [(11, 36)] := ⟨(fun h => absurd h (by decide)), zac (⟨zR_11, zTT_11, 52, rfl, by decide, zj_36, zw_1064, Or.inl ⟨zpar_17, zw_1063, zw_1065⟩⟩) trivial⟩
theorem zv_13_50 : ((2 : Int) = (-1 : Int) → zClw "ManagedBusLaw" 50) ∧ zall (zVok "ManagedBusLaw" 50 2) [(0, 9)] := ⟨(fun h => absurd h (by decide)), zac (⟨zR_0, zTT_0, 6, rfl, by decide, zj_9, zw_820, Or.inl ⟨zpar_6, zw_819, zw_821⟩⟩) trivial⟩
theorem zv_13_53 : ((2 : Int) = (-1 : Int) → zClw "ManagedBusLaw" 53) ∧ zall (zVok "ManagedBusLaw" 53 2) [(11, 66)] := ⟨(fun h => absurd h (by decide)), zac (⟨zR_11, zTT_11, 52, rfl, by decide, zj_66, zw_1190, Or.inl ⟨zpar_6, zw_1189, zw_1191⟩⟩) trivial⟩
theorem zv_13_54 : ((2 : Int) = (-1 : Int) → zClw "ManagedBusLaw" 54) ∧ zall (zVok "ManagedBusLaw" 54 2) [(0, 10)] := ⟨(fun h => absurd h (by decide)), zac (⟨zR_0, zTT_0, 6, rfl, by decide, zj_10, zw_824, Or.inl ⟨zpar_6, zw_823, zw_825⟩⟩) trivial⟩
theorem zv_13_57 : ((2 : Int) = (-1 : Int) → zClw "ManagedBusLaw" 57) ∧ zall (zVok "ManagedBusLaw" 57 2) [(11, 67)] := ⟨(fun h => absurd h (by decide)), zac (⟨zR_11, zTT_11, 52, rfl, by decide, zj_67, zw_1194, Or.inl ⟨zpar_6, zw_1193, zw_1195⟩⟩) trivial⟩
theorem zv_13_58 : ((2 : Int) = (-1 : Int) → zClw "ManagedBusLaw" 58) ∧ zall (zVok "ManagedBusLaw" 58 2) [(0, 11)] := ⟨(fun h => absurd h (by decide)), zac (⟨zR_0, zTT_0, 6, rfl, by decide, zj_11, zw_828, Or.inl ⟨zpar_6, zw_827, zw_829⟩⟩) trivial⟩
theorem zv_13_61 : ((2 : Int) = (-1 : Int) → zClw "ManagedBusLaw" 61) ∧ zall (zVok "ManagedBusLaw" 61 2) [(11, 68)] := ⟨(fun h => absurd h (by decide)), zac (⟨zR_11, zTT_11, 52, rfl, by decide, zj_68, zw_1198, Or.inl ⟨zpar_6, zw_1197, zw_1199⟩⟩) trivial⟩
theorem zv_13_62 : ((2 : Int) = (-1 : Int) → zClw "ManagedBusLaw" 62) ∧ zall (zVok "ManagedBusLaw" 62 2) [(0, 12)] := ⟨(fun h => absurd h (by decide)), zac (⟨zR_0, zTT_0, 6, rfl, by decide, zj_12, zw_832, Or.inl ⟨zpar_6, zw_831, zw_833⟩⟩) trivial⟩
theorem zv_13_65 : ((2 : Int) = (-1 : Int) → zClw "ManagedBusLaw" 65) ∧ zall (zVok "ManagedBusLaw" 65 2) [(11, 69)] := ⟨(fun h => absurd h (by decide)), zac (⟨zR_11, zTT_11, 52, rfl, by decide, zj_69, zw_1202, Or.inl ⟨zpar_6, zw_1201, zw_1203⟩⟩) trivial⟩
theorem zv_13_66 : ((2 : Int) = (-1 : Int) → zClw "ManagedBusLaw" 66) ∧ zall (zVok "ManagedBusLaw" 66 2) [(0, 13)] := ⟨(fun h => absurd h (by decide)), zac (⟨zR_0, zTT_0, 6, rfl, by decide, zj_13, zw_836, Or.inl ⟨zpar_6, zw_835, zw_837⟩⟩) trivial⟩
theorem zv_13_69 : ((2 : Int) = (-1 : Int) → zClw "ManagedBusLaw" 69) ∧ zall (zVok "ManagedBusLaw" 69 2) [(11, 70)] := ⟨(fun h => absurd h (by decide)), zac (⟨zR_11, zTT_11, 52, rfl, by decide, zj_70, zw_1206, Or.inl ⟨zpar_6, zw_1205, zw_1207⟩⟩) trivial⟩
theorem zv_13_70 : ((2 : Int) = (-1 : Int) → zClw "ManagedBusLaw" 70) ∧ zall (zVok "ManagedBusLaw" 70 2) [(0, 14)] := ⟨(fun h => absurd h (by decide)), zac (⟨zR_0, zTT_0, 6, rfl, by decide, zj_14, zw_844, Or.inl ⟨zpar_6, zw_843, zw_845⟩⟩) trivial⟩
theorem zv_13_73 : ((2 : Int) = (-1 : Int) → zClw "ManagedBusLaw" 73) ∧ zall (zVok "ManagedBusLaw" 73 2) [(11, 71)] := ⟨(fun h => absurd h (by decide)), zac (⟨zR_11, zTT_11, 52, rfl, by decide, zj_71, zw_1210, Or.inl ⟨zpar_6, zw_1209, zw_1211⟩⟩) trivial⟩
theorem zv_13_74 : ((2 : Int) = (-1 : Int) → zClw "ManagedBusLaw" 74) ∧ zall (zVok "ManagedBusLaw" 74 2) [(0, 15)] := ⟨(fun h => absurd h (by decide)), zac (⟨zR_0, zTT_0, 6, rfl, by decide, zj_15, zw_848, Or.inl ⟨zpar_6, zw_847, zw_849⟩⟩) trivial⟩
theorem zv_13_77 : ((2 : Int) = (-1 : Int) → zClw "ManagedBusLaw" 77) ∧ zall (zVok "ManagedBusLaw" 77 2) [(11, 72)] := ⟨(fun h => absurd h (by decide)), zac (⟨zR_11, zTT_11, 52, rfl, by decide, zj_72, zw_1214, Or.inl ⟨zpar_6, zw_1213, zw_1215⟩⟩) trivial⟩
theorem zv_13_78 : ((2 : Int) = (-1 : Int) → zClw "ManagedBusLaw" 78) ∧ zall (zVok "ManagedBusLaw" 78 2) [(0, 16)] := ⟨(fun h => absurd h (by decide)), zac (⟨zR_0, zTT_0, 6, rfl, by decide, zj_16, zw_857, Or.inl ⟨zpar_6, zw_856, zw_858⟩⟩) trivial⟩
theorem zv_13_81 : ((2 : Int) = (-1 : Int) → zClw "ManagedBusLaw" 81) ∧ zall (zVok "ManagedBusLaw" 81 2) [(11, 73)] := ⟨(fun h => absurd h (by decide)), zac (⟨zR_11, zTT_11, 52, rfl, by decide, zj_73, zw_1219, Or.inl ⟨zpar_6, zw_1218, zw_1220⟩⟩) trivial⟩
theorem zs_14_304 : zall (zSok "java/util/Arrays" 304 2) [(1, 0)] := zac (Or.inr (Or.inl ⟨rfl, zw_769, zw_541, zw_13, zw_542⟩)) trivial
theorem zs_14_150 : zall (zSok "java/util/Arrays" 150 5) [(0, 0)] := zac (Or.inl ⟨rfl, zw_770, zw_549, zw_548, zw_14⟩) trivial
def zASchk (q : Nat × Nat) : Bool := match zCl[q.2]?, zty q.1 with
  | some r, .object E => decide (q.2 < zNC) && (decide (r.1 = E) || zCs.contains (r.1, E))
  | _, _ => false
theorem zASl : ∀ q ∈ zASs, zASchk q = true := by decide +kernel
theorem zASok {k c : Nat} (h : zAS k c = true) : ∃ (r : vw_C) (E : String), zCl[c]? = some r ∧ c < zNC ∧ zty k = .object E ∧ (r.1 = E ∨ (r.1, E) ∈ zCs) := by
  have h1 := zASl (k, c) (List.contains_iff_mem.mp h)
  unfold zASchk at h1
  split at h1
  · rename_i r E hr hE
    simp only [Bool.and_eq_true, Bool.or_eq_true, decide_eq_true_eq, List.contains_iff_mem] at h1
    exact ⟨r, E, hr, h1.1, hE, h1.2⟩
  · cases h1
