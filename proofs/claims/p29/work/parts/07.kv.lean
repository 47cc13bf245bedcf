theorem kv_X6_init : KI yX6_init cX6_init 1 0 := ⟨fun U a h => ⟨zk_X6_init h, zn_X6 h, zi_X6_init h⟩, by decide +kernel, by decide +kernel, rfl⟩
theorem kv_Jx4a65c_init_da8c8 : KI yJx4a65c_init_da8c8 cJx4a65c_init_da8c8 1 0 := ⟨fun U a h => ⟨zk_Jx4a65c_init_da8c8 h, zn_Jx4a65c h, zi_Jx4a65c_init_da8c8 h⟩, by decide +kernel, by decide +kernel, rfl⟩
theorem kv_Jxc12de_init_da8c8 : KI yJxc12de_init_da8c8 cJxc12de_init_da8c8 1 0 := ⟨fun U a h => ⟨zk_Jxc12de_init_da8c8 h, zn_Jxc12de h, zi_Jxc12de_init_da8c8 h⟩, by decide +kernel, by decide +kernel, rfl⟩
theorem kv_Jxa1e45_init_da8c8 : KI yJxa1e45_init_da8c8 cJxa1e45_init_da8c8 1 0 := ⟨fun U a h => ⟨zk_Jxa1e45_init_da8c8 h, zn_Jxa1e45 h, zi_Jxa1e45_init_da8c8 h⟩, by decide +kernel, by decide +kernel, rfl⟩
theorem kv_X4_init : KI yX4_init cX4_init 3 2 := ⟨fun U a h => ⟨zk_X4_init h, zn_X4 h, zi_X4_init h⟩, by decide +kernel, by decide +kernel, rfl⟩
theorem kv_J9_max_7cf53 : KS yJ9_max_7cf53 cJ9_max_7cf53 2 (some .int) 2 := ⟨fun U a h => ⟨zk_J9_max_7cf53 h, zn_J9 h, zt_J9_max_7cf53 h⟩, by decide +kernel, by decide +kernel⟩
theorem kv_X6_person : KV RX6 yX6_person cX6_person 4 (some .int) 1 := ⟨fun U a h => ⟨zk_X6_person h, zn_X6 h, zi_X6_person h, zs_X6_X6_person h⟩, by decide +kernel, by decide +kernel⟩
theorem kv_X6_personAt : KV RX6 yX6_personAt cX6_personAt 2 (some (.object "ApprovalGrid$Person")) 1 := ⟨fun U a h => ⟨zk_X6_personAt h, zn_X6 h, zi_X6_personAt h, zs_X6_X6_personAt h⟩, by decide +kernel, by decide +kernel⟩
theorem kv_Jx4a65c_size_8abf5 : KV RJx4a65c yJx4a65c_size_8abf5 cJx4a65c_size_8abf5 1 (some .int) 0 := ⟨fun U a h => ⟨zk_Jx4a65c_size_8abf5 h, zn_Jx4a65c h, zi_Jx4a65c_size_8abf5 h, zs_Jx4a65c_Jx4a65c_size_8abf5 h⟩, by decide +kernel, by decide +kernel⟩
theorem kv_Jx4a65c_get_915e3 : KV RJx4a65c yJx4a65c_get_915e3 cJx4a65c_get_915e3 2 (some (.object "java/lang/Object")) 1 := ⟨fun U a h => ⟨zk_Jx4a65c_get_915e3 h, zn_Jx4a65c h, zi_Jx4a65c_get_915e3 h, zs_Jx4a65c_Jx4a65c_get_915e3 h⟩, by decide +kernel, by decide +kernel⟩
theorem kv_J15_checkIndex_7cf53 : KS yJ15_checkIndex_7cf53 cJ15_checkIndex_7cf53 2 (some .int) 2 := ⟨fun U a h => ⟨zk_J15_checkIndex_7cf53 h, zn_J15 h, zt_J15_checkIndex_7cf53 h⟩, by decide +kernel, by decide +kernel⟩
theorem kv_J3_checkIndex_8e157 : KS yJ3_checkIndex_8e157 cJ3_checkIndex_8e157 3 (some .int) 3 := ⟨fun U a h => ⟨zk_J3_checkIndex_8e157 h, zn_J3 h, zt_J3_checkIndex_8e157 h⟩, by decide +kernel, by decide +kernel⟩
theorem kv_Jx4a65c_elementData_915e3 : KV RJx4a65c yJx4a65c_elementData_915e3 cJx4a65c_elementData_915e3 2 (some (.object "java/lang/Object")) 1 := ⟨fun U a h => ⟨zk_Jx4a65c_elementData_915e3 h, zn_Jx4a65c h, zi_Jx4a65c_elementData_915e3 h, zs_Jx4a65c_Jx4a65c_elementData_915e3 h⟩, by decide +kernel, by decide +kernel⟩
theorem kv_X2_init : KI yX2_init cX2_init 3 2 := ⟨fun U a h => ⟨zk_X2_init h, zn_X2 h, zi_X2_init h⟩, by decide +kernel, by decide +kernel, rfl⟩
theorem kv_X1_init : KI yX1_init cX1_init 2 1 := ⟨fun U a h => ⟨zk_X1_init h, zn_X1 h, zi_X1_init h⟩, by decide +kernel, by decide +kernel, rfl⟩
theorem kv_Jx4a65c_add_9ea2d : KV RJx4a65c yJx4a65c_add_9ea2d cJx4a65c_add_9ea2d 2 (some .boolean) 1 := ⟨fun U a h => ⟨zk_Jx4a65c_add_9ea2d h, zn_Jx4a65c h, zi_Jx4a65c_add_9ea2d h, zs_Jx4a65c_Jx4a65c_add_9ea2d h⟩, by decide +kernel, by decide +kernel⟩
theorem kv_Jx4a65c_add_72be8 : KV RJx4a65c yJx4a65c_add_72be8 cJx4a65c_add_72be8 4 (none) 3 := ⟨fun U a h => ⟨zk_Jx4a65c_add_72be8 h, zn_Jx4a65c h, zi_Jx4a65c_add_72be8 h, zs_Jx4a65c_Jx4a65c_add_72be8 h⟩, by decide +kernel, by decide +kernel⟩
theorem kv_Jx4a65c_grow_d5877 : KV RJx4a65c yJx4a65c_grow_d5877 cJx4a65c_grow_d5877 1 (some (.array (.object "java/lang/Object"))) 0 := ⟨fun U a h => ⟨zk_Jx4a65c_grow_d5877 h, zn_Jx4a65c h, zi_Jx4a65c_grow_d5877 h, zs_Jx4a65c_Jx4a65c_grow_d5877 h⟩, by decide +kernel, by decide +kernel⟩
theorem kv_Jx4a65c_grow_92f84 : KV RJx4a65c yJx4a65c_grow_92f84 cJx4a65c_grow_92f84 4 (some (.array (.object "java/lang/Object"))) 1 := ⟨fun U a h => ⟨zk_Jx4a65c_grow_92f84 h, zn_Jx4a65c h, zi_Jx4a65c_grow_92f84 h, zs_Jx4a65c_Jx4a65c_grow_92f84 h⟩, by decide +kernel, by decide +kernel⟩
theorem kv_J8_newLength_cabcc : KS yJ8_newLength_cabcc cJ8_newLength_cabcc 4 (some .int) 3 := ⟨fun U a h => ⟨zk_J8_newLength_cabcc h, zn_J8 h, zt_J8_newLength_cabcc h⟩, by decide +kernel, by decide +kernel⟩
theorem kv_J8_hugeLength_7cf53 : KS yJ8_hugeLength_7cf53 cJ8_hugeLength_7cf53 3 (some .int) 2 := ⟨fun U a h => ⟨zk_J8_hugeLength_7cf53 h, zn_J8 h, zt_J8_hugeLength_7cf53 h⟩, by decide +kernel, by decide +kernel⟩
theorem kv_J7_copyOf_1904c : KS yJ7_copyOf_1904c cJ7_copyOf_1904c 2 (some (.array (.object "java/lang/Object"))) 2 := ⟨fun U a h => ⟨zk_J7_copyOf_1904c h, zn_J7 h, zt_J7_copyOf_1904c h⟩, by decide +kernel, by decide +kernel⟩
theorem kv_J7_copyOf_6403c : KS yJ7_copyOf_6403c cJ7_copyOf_6403c 4 (some (.array (.object "java/lang/Object"))) 3 := ⟨fun U a h => ⟨zk_J7_copyOf_6403c h, zn_J7 h, zt_J7_copyOf_6403c h⟩, by decide +kernel, by decide +kernel⟩
theorem kv_J9_min_7cf53 : KS yJ9_min_7cf53 cJ9_min_7cf53 2 (some .int) 2 := ⟨fun U a h => ⟨zk_J9_min_7cf53 h, zn_J9 h, zt_J9_min_7cf53 h⟩, by decide +kernel, by decide +kernel⟩
theorem kv_X6_limit : KV RX6 yX6_limit cX6_limit 5 (some .int) 3 := ⟨fun U a h => ⟨zk_X6_limit h, zn_X6 h, zi_X6_limit h, zs_X6_X6_limit h⟩, by decide +kernel, by decide +kernel⟩
theorem kv_X6_checkKind : KS yX6_checkKind cX6_checkKind 1 (none) 1 := ⟨fun U a h => ⟨zk_X6_checkKind h, zn_X6 h, zt_X6_checkKind h⟩, by decide +kernel, by decide +kernel⟩
theorem kv_X6_checkRange : KS yX6_checkRange cX6_checkRange 3 (none) 3 := ⟨fun U a h => ⟨zk_X6_checkRange h, zn_X6 h, zt_X6_checkRange h⟩, by decide +kernel, by decide +kernel⟩
theorem kv_X4_replace : KV RX4 yX4_replace cX4_replace 5 (some .int) 3 := ⟨fun U a h => ⟨zk_X4_replace h, zn_X4 h, zi_X4_replace h, zs_X4_X4_replace h⟩, by decide +kernel, by decide +kernel⟩
theorem kv_X4_at : KV RX4 yX4_at cX4_at 4 (some .int) 2 := ⟨fun U a h => ⟨zk_X4_at h, zn_X4 h, zi_X4_at h, zs_X4_X4_at h⟩, by decide +kernel, by decide +kernel⟩
theorem kv_X6_away : KV RX6 yX6_away cX6_away 7 (some .boolean) 3 := ⟨fun U a h => ⟨zk_X6_away h, zn_X6 h, zi_X6_away h, zs_X6_X6_away h⟩, by decide +kernel, by decide +kernel⟩
theorem kv_X2_isAwayOn : KV RX2 yX2_isAwayOn cX2_isAwayOn 2 (some .boolean) 1 := ⟨fun U a h => ⟨zk_X2_isAwayOn h, zn_X2 h, zi_X2_isAwayOn h, zs_X2_X2_isAwayOn h⟩, by decide +kernel, by decide +kernel⟩
theorem kv_X6_passSteps : KV RX6 yX6_passSteps cX6_passSteps 3 (none) 0 := ⟨fun U a h => ⟨zk_X6_passSteps h, zn_X6 h, zi_X6_passSteps h, zs_X6_X6_passSteps h⟩, by decide +kernel, by decide +kernel⟩
theorem kv_X6_passStepsOf : KV RX6 yX6_passStepsOf cX6_passStepsOf 3 (none) 1 := ⟨fun U a h => ⟨zk_X6_passStepsOf h, zn_X6 h, zi_X6_passStepsOf h, zs_X6_X6_passStepsOf h⟩, by decide +kernel, by decide +kernel⟩
theorem kv_X0_stepsNeeded : KV RX0 yX0_stepsNeeded cX0_stepsNeeded 4 (some .int) 0 := ⟨fun U a h => ⟨zk_X0_stepsNeeded h, zn_X0 h, zi_X0_stepsNeeded h, zs_X0_X0_stepsNeeded h⟩, by decide +kernel, by decide +kernel⟩
theorem kv_X6_nextApproverOf : KV RX6 yX6_nextApproverOf cX6_nextApproverOf 4 (some (.object "ApprovalGrid$Person")) 1 := ⟨fun U a h => ⟨zk_X6_nextApproverOf h, zn_X6 h, zi_X6_nextApproverOf h, zs_X6_X6_nextApproverOf h⟩, by decide +kernel, by decide +kernel⟩
theorem kv_X0_bossOfNextStep : KV RX0 yX0_bossOfNextStep cX0_bossOfNextStep 3 (some (.object "ApprovalGrid$Person")) 0 := ⟨fun U a h => ⟨zk_X0_bossOfNextStep h, zn_X0 h, zi_X0_bossOfNextStep h, zs_X0_X0_bossOfNextStep h⟩, by decide +kernel, by decide +kernel⟩
theorem kv_X6_ofPerson : KV RX6 yX6_ofPerson cX6_ofPerson 4 (some .int) 2 := ⟨fun U a h => ⟨zk_X6_ofPerson h, zn_X6 h, zi_X6_ofPerson h, zs_X6_X6_ofPerson h⟩, by decide +kernel, by decide +kernel⟩
theorem kv_X6_numberOf : KS yX6_numberOf cX6_numberOf 1 (some .int) 1 := ⟨fun U a h => ⟨zk_X6_numberOf h, zn_X6 h, zt_X6_numberOf h⟩, by decide +kernel, by decide +kernel⟩
theorem kv_X6_countOpenOf : KV RX6 yX6_countOpenOf cX6_countOpenOf 5 (some .int) 1 := ⟨fun U a h => ⟨zk_X6_countOpenOf h, zn_X6 h, zi_X6_countOpenOf h, zs_X6_X6_countOpenOf h⟩, by decide +kernel, by decide +kernel⟩
theorem kv_X6_repaidAmountOf : KV RX6 yX6_repaidAmountOf cX6_repaidAmountOf 5 (some .int) 1 := ⟨fun U a h => ⟨zk_X6_repaidAmountOf h, zn_X6 h, zi_X6_repaidAmountOf h, zs_X6_X6_repaidAmountOf h⟩, by decide +kernel, by decide +kernel⟩
theorem kv_X6_countToApproveBy : KV RX6 yX6_countToApproveBy cX6_countToApproveBy 4 (some .int) 1 := ⟨fun U a h => ⟨zk_X6_countToApproveBy h, zn_X6 h, zi_X6_countToApproveBy h, zs_X6_X6_countToApproveBy h⟩, by decide +kernel, by decide +kernel⟩
theorem kv_X6_maySpend : KV RX6 yX6_maySpend cX6_maySpend 5 (some .int) 3 := ⟨fun U a h => ⟨zk_X6_maySpend h, zn_X6 h, zi_X6_maySpend h, zs_X6_X6_maySpend h⟩, by decide +kernel, by decide +kernel⟩
theorem kv_X6_checkLand : KS yX6_checkLand cX6_checkLand 1 (none) 1 := ⟨fun U a h => ⟨zk_X6_checkLand h, zn_X6 h, zt_X6_checkLand h⟩, by decide +kernel, by decide +kernel⟩
theorem kv_X6_spendableBy : KV RX6 yX6_spendableBy cX6_spendableBy 6 (some .int) 3 := ⟨fun U a h => ⟨zk_X6_spendableBy h, zn_X6 h, zi_X6_spendableBy h, zs_X6_X6_spendableBy h⟩, by decide +kernel, by decide +kernel⟩
theorem kv_X6_tripToday : KV RX6 yX6_tripToday cX6_tripToday 5 (some (.object "ApprovalGrid$Trip")) 2 := ⟨fun U a h => ⟨zk_X6_tripToday h, zn_X6 h, zi_X6_tripToday h, zs_X6_X6_tripToday h⟩, by decide +kernel, by decide +kernel⟩
theorem kv_X6_spentOnTrip : KV RX6 yX6_spentOnTrip cX6_spentOnTrip 5 (some .int) 1 := ⟨fun U a h => ⟨zk_X6_spentOnTrip h, zn_X6 h, zi_X6_spentOnTrip h, zs_X6_X6_spentOnTrip h⟩, by decide +kernel, by decide +kernel⟩
theorem kv_X6_spentOffTrips : KV RX6 yX6_spentOffTrips cX6_spentOffTrips 7 (some .int) 2 := ⟨fun U a h => ⟨zk_X6_spentOffTrips h, zn_X6 h, zi_X6_spentOffTrips h, zs_X6_X6_spentOffTrips h⟩, by decide +kernel, by decide +kernel⟩
theorem kv_X6_plan : KV RX6 yX6_plan cX6_plan 4 (some .int) 3 := ⟨fun U a h => ⟨zk_X6_plan h, zn_X6 h, zi_X6_plan h, zs_X6_X6_plan h⟩, by decide +kernel, by decide +kernel⟩
theorem kv_X6_checkPeriod : KS yX6_checkPeriod cX6_checkPeriod 1 (none) 1 := ⟨fun U a h => ⟨zk_X6_checkPeriod h, zn_X6 h, zt_X6_checkPeriod h⟩, by decide +kernel, by decide +kernel⟩
theorem kv_X6_carry : KV RX6 yX6_carry cX6_carry 3 (some .int) 2 := ⟨fun U a h => ⟨zk_X6_carry h, zn_X6 h, zi_X6_carry h, zs_X6_X6_carry h⟩, by decide +kernel, by decide +kernel⟩
theorem kv_X6_rate : KV RX6 yX6_rate cX6_rate 4 (some .int) 3 := ⟨fun U a h => ⟨zk_X6_rate h, zn_X6 h, zi_X6_rate h, zs_X6_X6_rate h⟩, by decide +kernel, by decide +kernel⟩
theorem kv_X6_left : KV RX6 yX6_left cX6_left 3 (some .int) 2 := ⟨fun U a h => ⟨zk_X6_left h, zn_X6 h, zi_X6_left h, zs_X6_X6_left h⟩, by decide +kernel, by decide +kernel⟩
theorem kv_X6_leftOf : KV RX6 yX6_leftOf cX6_leftOf 7 (some .int) 3 := ⟨fun U a h => ⟨zk_X6_leftOf h, zn_X6 h, zi_X6_leftOf h, zs_X6_X6_leftOf h⟩, by decide +kernel, by decide +kernel⟩
theorem kv_X6_costIn : KV RX6 yX6_costIn cX6_costIn 7 (some .int) 3 := ⟨fun U a h => ⟨zk_X6_costIn h, zn_X6 h, zi_X6_costIn h, zs_X6_X6_costIn h⟩, by decide +kernel, by decide +kernel⟩
theorem kv_X6_costOf : KV RX6 yX6_costOf cX6_costOf 3 (some .int) 2 := ⟨fun U a h => ⟨zk_X6_costOf h, zn_X6 h, zi_X6_costOf h, zs_X6_X6_costOf h⟩, by decide +kernel, by decide +kernel⟩
theorem kv_X6_taxOf : KV RX6 yX6_taxOf cX6_taxOf 4 (some .int) 1 := ⟨fun U a h => ⟨zk_X6_taxOf h, zn_X6 h, zi_X6_taxOf h, zs_X6_X6_taxOf h⟩, by decide +kernel, by decide +kernel⟩
theorem kv_X6_charge : KV RX6 yX6_charge cX6_charge 8 (some .int) 5 := ⟨fun U a h => ⟨zk_X6_charge h, zn_X6 h, zi_X6_charge h, zs_X6_X6_charge h⟩, by decide +kernel, by decide +kernel⟩
theorem kv_X0_init : KI yX0_init cX0_init 8 7 := ⟨fun U a h => ⟨zk_X0_init h, zn_X0 h, zi_X0_init h⟩, by decide +kernel, by decide +kernel, rfl⟩
theorem kv_X6_matchPairs : KV RX6 yX6_matchPairs cX6_matchPairs 3 (none) 0 := ⟨fun U a h => ⟨zk_X6_matchPairs h, zn_X6 h, zi_X6_matchPairs h, zs_X6_X6_matchPairs h⟩, by decide +kernel, by decide +kernel⟩
theorem kv_X6_matchBestPair : KV RX6 yX6_matchBestPair cX6_matchBestPair 7 (some .boolean) 0 := ⟨fun U a h => ⟨zk_X6_matchBestPair h, zn_X6 h, zi_X6_matchBestPair h, zs_X6_X6_matchBestPair h⟩, by decide +kernel, by decide +kernel⟩
theorem kv_X6_bestReceiptFor : KV RX6 yX6_bestReceiptFor cX6_bestReceiptFor 6 (some (.object "ApprovalGrid$Receipt")) 1 := ⟨fun U a h => ⟨zk_X6_bestReceiptFor h, zn_X6 h, zi_X6_bestReceiptFor h, zs_X6_X6_bestReceiptFor h⟩, by decide +kernel, by decide +kernel⟩
theorem kv_X6_goTogether : KS yX6_goTogether cX6_goTogether 2 (some .boolean) 2 := ⟨fun U a h => ⟨zk_X6_goTogether h, zn_X6 h, zt_X6_goTogether h⟩, by decide +kernel, by decide +kernel⟩
theorem kv_X0_wasSplitFrom : KV RX0 yX0_wasSplitFrom cX0_wasSplitFrom 2 (some .boolean) 1 := ⟨fun U a h => ⟨zk_X0_wasSplitFrom h, zn_X0 h, zi_X0_wasSplitFrom h, zs_X0_X0_wasSplitFrom h⟩, by decide +kernel, by decide +kernel⟩
theorem kv_X6_scoreOf : KS yX6_scoreOf cX6_scoreOf 5 (some .int) 2 := ⟨fun U a h => ⟨zk_X6_scoreOf h, zn_X6 h, zt_X6_scoreOf h⟩, by decide +kernel, by decide +kernel⟩
theorem kv_J9_abs_0f7a4 : KS yJ9_abs_0f7a4 cJ9_abs_0f7a4 1 (some .int) 1 := ⟨fun U a h => ⟨zk_J9_abs_0f7a4 h, zn_J9 h, zt_J9_abs_0f7a4 h⟩, by decide +kernel, by decide +kernel⟩
theorem kv_X6_match : KV RX6 yX6_match cX6_match 3 (none) 2 := ⟨fun U a h => ⟨zk_X6_match h, zn_X6 h, zi_X6_match h, zs_X6_X6_match h⟩, by decide +kernel, by decide +kernel⟩
theorem kv_X2_gainPoint : KV RX2 yX2_gainPoint cX2_gainPoint 1 (none) 0 := ⟨fun U a h => ⟨zk_X2_gainPoint h, zn_X2 h, zi_X2_gainPoint h, zs_X2_X2_gainPoint h⟩, by decide +kernel, by decide +kernel⟩
theorem kv_X6_receipt : KV RX6 yX6_receipt cX6_receipt 5 (some .int) 3 := ⟨fun U a h => ⟨zk_X6_receipt h, zn_X6 h, zi_X6_receipt h, zs_X6_X6_receipt h⟩, by decide +kernel, by decide +kernel⟩
theorem kv_X6_checkReceipt : KS yX6_checkReceipt cX6_checkReceipt 3 (none) 3 := ⟨fun U a h => ⟨zk_X6_checkReceipt h, zn_X6 h, zt_X6_checkReceipt h⟩, by decide +kernel, by decide +kernel⟩
theorem kv_X3_init : KI yX3_init cX3_init 5 4 := ⟨fun U a h => ⟨zk_X3_init h, zn_X3 h, zi_X3_init h⟩, by decide +kernel, by decide +kernel, rfl⟩
theorem kv_X6_approve : KV RX6 yX6_approve cX6_approve 5 (some .int) 2 := ⟨fun U a h => ⟨zk_X6_approve h, zn_X6 h, zi_X6_approve h, zs_X6_X6_approve h⟩, by decide +kernel, by decide +kernel⟩
theorem kv_X6_chargeAt : KV RX6 yX6_chargeAt cX6_chargeAt 2 (some (.object "ApprovalGrid$Charge")) 1 := ⟨fun U a h => ⟨zk_X6_chargeAt h, zn_X6 h, zi_X6_chargeAt h, zs_X6_X6_chargeAt h⟩, by decide +kernel, by decide +kernel⟩
theorem kv_X6_checkNextApprover : KV RX6 yX6_checkNextApprover cX6_checkNextApprover 3 (none) 2 := ⟨fun U a h => ⟨zk_X6_checkNextApprover h, zn_X6 h, zi_X6_checkNextApprover h, zs_X6_X6_checkNextApprover h⟩, by decide +kernel, by decide +kernel⟩
theorem kv_X6_refuse : KV RX6 yX6_refuse cX6_refuse 5 (some .int) 2 := ⟨fun U a h => ⟨zk_X6_refuse h, zn_X6 h, zi_X6_refuse h, zs_X6_X6_refuse h⟩, by decide +kernel, by decide +kernel⟩
theorem kv_X6_countInState : KV RX6 yX6_countInState cX6_countInState 4 (some .int) 1 := ⟨fun U a h => ⟨zk_X6_countInState h, zn_X6 h, zi_X6_countInState h, zs_X6_X6_countInState h⟩, by decide +kernel, by decide +kernel⟩
theorem kv_X6_settle : KV RX6 yX6_settle cX6_settle 4 (some .int) 2 := ⟨fun U a h => ⟨zk_X6_settle h, zn_X6 h, zi_X6_settle h, zs_X6_X6_settle h⟩, by decide +kernel, by decide +kernel⟩
theorem kv_X6_checkState : KS yX6_checkState cX6_checkState 2 (none) 2 := ⟨fun U a h => ⟨zk_X6_checkState h, zn_X6 h, zt_X6_checkState h⟩, by decide +kernel, by decide +kernel⟩
theorem kv_X6_ofCharge : KV RX6 yX6_ofCharge cX6_ofCharge 4 (some .int) 2 := ⟨fun U a h => ⟨zk_X6_ofCharge h, zn_X6 h, zi_X6_ofCharge h, zs_X6_X6_ofCharge h⟩, by decide +kernel, by decide +kernel⟩
theorem kv_X6_ofReceipt : KV RX6 yX6_ofReceipt cX6_ofReceipt 2 (some .int) 1 := ⟨fun U a h => ⟨zk_X6_ofReceipt h, zn_X6 h, zi_X6_ofReceipt h, zs_X6_X6_ofReceipt h⟩, by decide +kernel, by decide +kernel⟩
theorem kv_X6_receiptAt : KV RX6 yX6_receiptAt cX6_receiptAt 2 (some (.object "ApprovalGrid$Receipt")) 1 := ⟨fun U a h => ⟨zk_X6_receiptAt h, zn_X6 h, zi_X6_receiptAt h, zs_X6_X6_receiptAt h⟩, by decide +kernel, by decide +kernel⟩
theorem kv_X6_score : KV RX6 yX6_score cX6_score 3 (some .int) 2 := ⟨fun U a h => ⟨zk_X6_score h, zn_X6 h, zi_X6_score h, zs_X6_X6_score h⟩, by decide +kernel, by decide +kernel⟩
theorem kv_X6_day : KV RX6 yX6_day cX6_day 4 (some .int) 0 := ⟨fun U a h => ⟨zk_X6_day h, zn_X6 h, zi_X6_day h, zs_X6_X6_day h⟩, by decide +kernel, by decide +kernel⟩
theorem kv_X6_isOverdue : KV RX6 yX6_isOverdue cX6_isOverdue 3 (some .boolean) 1 := ⟨fun U a h => ⟨zk_X6_isOverdue h, zn_X6 h, zi_X6_isOverdue h, zs_X6_X6_isOverdue h⟩, by decide +kernel, by decide +kernel⟩
theorem kv_X6_bearDelay : KV RX6 yX6_bearDelay cX6_bearDelay 2 (none) 1 := ⟨fun U a h => ⟨zk_X6_bearDelay h, zn_X6 h, zi_X6_bearDelay h, zs_X6_X6_bearDelay h⟩, by decide +kernel, by decide +kernel⟩
theorem kv_X2_loseTrust : KV RX2 yX2_loseTrust cX2_loseTrust 1 (none) 0 := ⟨fun U a h => ⟨zk_X2_loseTrust h, zn_X2 h, zi_X2_loseTrust h, zs_X2_X2_loseTrust h⟩, by decide +kernel, by decide +kernel⟩
theorem kv_X6_many : KV RX6 yX6_many cX6_many 2 (some .int) 1 := ⟨fun U a h => ⟨zk_X6_many h, zn_X6 h, zi_X6_many h, zs_X6_X6_many h⟩, by decide +kernel, by decide +kernel⟩
theorem kv_X6_countFreeReceipts : KV RX6 yX6_countFreeReceipts cX6_countFreeReceipts 3 (some .int) 0 := ⟨fun U a h => ⟨zk_X6_countFreeReceipts h, zn_X6 h, zi_X6_countFreeReceipts h, zs_X6_X6_countFreeReceipts h⟩, by decide +kernel, by decide +kernel⟩
theorem kv_X6_amountNotRepaid : KV RX6 yX6_amountNotRepaid cX6_amountNotRepaid 4 (some .int) 0 := ⟨fun U a h => ⟨zk_X6_amountNotRepaid h, zn_X6 h, zi_X6_amountNotRepaid h, zs_X6_X6_amountNotRepaid h⟩, by decide +kernel, by decide +kernel⟩
theorem kv_X6_costOfAll : KV RX6 yX6_costOfAll cX6_costOfAll 3 (some .int) 0 := ⟨fun U a h => ⟨zk_X6_costOfAll h, zn_X6 h, zi_X6_costOfAll h, zs_X6_X6_costOfAll h⟩, by decide +kernel, by decide +kernel⟩
theorem kv_X6_wouldMatch : KV RX6 yX6_wouldMatch cX6_wouldMatch 9 (some .int) 3 := ⟨fun U a h => ⟨zk_X6_wouldMatch h, zn_X6 h, zi_X6_wouldMatch h, zs_X6_X6_wouldMatch h⟩, by decide +kernel, by decide +kernel⟩
theorem kv_X6_trustBehind : KV RX6 yX6_trustBehind cX6_trustBehind 8 (some .int) 2 := ⟨fun U a h => ⟨zk_X6_trustBehind h, zn_X6 h, zi_X6_trustBehind h, zs_X6_X6_trustBehind h⟩, by decide +kernel, by decide +kernel⟩
theorem kv_X6_trustLostBy : KV RX6 yX6_trustLostBy cX6_trustLostBy 6 (some .int) 2 := ⟨fun U a h => ⟨zk_X6_trustLostBy h, zn_X6 h, zi_X6_trustLostBy h, zs_X6_X6_trustLostBy h⟩, by decide +kernel, by decide +kernel⟩
theorem kv_X6_leftWith : KV RX6 yX6_leftWith cX6_leftWith 3 (some .int) 2 := ⟨fun U a h => ⟨zk_X6_leftWith h, zn_X6 h, zi_X6_leftWith h, zs_X6_X6_leftWith h⟩, by decide +kernel, by decide +kernel⟩
theorem kv_X6_digest : KV RX6 yX6_digest cX6_digest 4 (some .long) 0 := ⟨fun U a h => ⟨zk_X6_digest h, zn_X6 h, zi_X6_digest h, zs_X6_X6_digest h⟩, by decide +kernel, by decide +kernel⟩
theorem kv_X6_mixed : KS yX6_mixed cX6_mixed 3 (some .long) 2 := ⟨fun U a h => ⟨zk_X6_mixed h, zn_X6 h, zt_X6_mixed h⟩, by decide +kernel, by decide +kernel⟩
theorem kv_X6_withPeople : KV RX6 yX6_withPeople cX6_withPeople 7 (some .long) 1 := ⟨fun U a h => ⟨zk_X6_withPeople h, zn_X6 h, zi_X6_withPeople h, zs_X6_X6_withPeople h⟩, by decide +kernel, by decide +kernel⟩
theorem kv_X6_withBudgets : KV RX6 yX6_withBudgets cX6_withBudgets 7 (some .long) 1 := ⟨fun U a h => ⟨zk_X6_withBudgets h, zn_X6 h, zi_X6_withBudgets h, zs_X6_X6_withBudgets h⟩, by decide +kernel, by decide +kernel⟩
theorem kv_X6_withCharges : KV RX6 yX6_withCharges cX6_withCharges 7 (some .long) 1 := ⟨fun U a h => ⟨zk_X6_withCharges h, zn_X6 h, zi_X6_withCharges h, zs_X6_X6_withCharges h⟩, by decide +kernel, by decide +kernel⟩
theorem kv_L_below : KS yL_below cL_below 2 (some .int) 2 := ⟨fun U a h => ⟨zk_L_below h, zn_L h, zt_L_below h⟩, by decide +kernel, by decide +kernel⟩
theorem kv_L_cell : KS yL_cell cL_cell 2 (some .int) 2 := ⟨fun U a h => ⟨zk_L_cell h, zn_L h, zt_L_cell h⟩, by decide +kernel, by decide +kernel⟩
theorem kv_L_isFair : KS yL_isFair cL_isFair 12 (some .boolean) 3 := ⟨fun U a h => ⟨zk_L_isFair h, zn_L h, zt_L_isFair h⟩, by decide +kernel, by decide +kernel⟩
theorem zkm_max {U : State} {a : Array Value} (h : TB U) : (Cond.code Lib.Math.max.name Lib.Math.max.code 2 (some .int)).before a U = true := tb_of h 100 (by decide +kernel) rfl
theorem ztm_max {U : State} {a : Array Value} (h : TB U) : (Cond.static Lib.Math.max.name).before a U = true := tb_of h 99 (by decide +kernel) rfl
theorem zkm_min {U : State} {a : Array Value} (h : TB U) : (Cond.code Lib.Math.min.name Lib.Math.min.code 2 (some .int)).before a U = true := tb_of h 339 (by decide +kernel) rfl
theorem ztm_min {U : State} {a : Array Value} (h : TB U) : (Cond.static Lib.Math.min.name).before a U = true := tb_of h 338 (by decide +kernel) rfl
theorem zkm_abs {U : State} {a : Array Value} (h : TB U) : (Cond.code Lib.Math.abs.name Lib.Math.abs.code 1 (some .int)).before a U = true := tb_of h 579 (by decide +kernel) rfl
theorem ztm_abs {U : State} {a : Array Value} (h : TB U) : (Cond.static Lib.Math.abs.name).before a U = true := tb_of h 578 (by decide +kernel) rfl
theorem znm {U : State} {a : Array Value} (h : TB U) : (Cond.initialized "java/lang/Math").before a U = true := zn_J9 h
