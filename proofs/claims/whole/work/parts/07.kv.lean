theorem kv_X6_init : KI yX6_init cX6_init 1 0 := ⟨fun U a h => ⟨zk_X6_init h, zn_X6 h, zi_X6_init h⟩, by decide +kernel, by decide +kernel, rfl⟩
theorem kv_Jx4a65c_init_da8c8 : KI yJx4a65c_init_da8c8 cJx4a65c_init_da8c8 1 0 := ⟨fun U a h => ⟨zk_Jx4a65c_init_da8c8 h, zn_Jx4a65c h, zi_Jx4a65c_init_da8c8 h⟩, by decide +kernel, by decide +kernel, rfl⟩
theorem kv_Jxc12de_init_da8c8 : KI yJxc12de_init_da8c8 cJxc12de_init_da8c8 1 0 := ⟨fun U a h => ⟨zk_Jxc12de_init_da8c8 h, zn_Jxc12de h, zi_Jxc12de_init_da8c8 h⟩, by decide +kernel, by decide +kernel, rfl⟩
theorem kv_Jxa1e45_init_da8c8 : KI yJxa1e45_init_da8c8 cJxa1e45_init_da8c8 1 0 := ⟨fun U a h => ⟨zk_Jxa1e45_init_da8c8 h, zn_Jxa1e45 h, zi_Jxa1e45_init_da8c8 h⟩, by decide +kernel, by decide +kernel, rfl⟩
theorem kv_X4_init : KI yX4_init cX4_init 3 2 := ⟨fun U a h => ⟨zk_X4_init h, zn_X4 h, zi_X4_init h⟩, by decide +kernel, by decide +kernel, rfl⟩
theorem kv_J9_max_7cf53 : KS yJ9_max_7cf53 cJ9_max_7cf53 2 (some .int) 2 := ⟨fun U a h => ⟨zk_J9_max_7cf53 h, zn_J9 h, zt_J9_max_7cf53 h⟩, by decide +kernel, by decide +kernel⟩
theorem kv_X6_meanTrust : KV RX6 yX6_meanTrust cX6_meanTrust 3 (some .double) 0 := ⟨fun U a h => ⟨zk_X6_meanTrust h, zn_X6 h, zi_X6_meanTrust h, zs_X6_X6_meanTrust h⟩, by decide +kernel, by decide +kernel⟩
theorem kv_Jx4a65c_size_8abf5 : KV RJx4a65c yJx4a65c_size_8abf5 cJx4a65c_size_8abf5 1 (some .int) 0 := ⟨fun U a h => ⟨zk_Jx4a65c_size_8abf5 h, zn_Jx4a65c h, zi_Jx4a65c_size_8abf5 h, zs_Jx4a65c_Jx4a65c_size_8abf5 h⟩, by decide +kernel, by decide +kernel⟩
theorem kv_Jx4a65c_get_915e3 : KV RJx4a65c yJx4a65c_get_915e3 cJx4a65c_get_915e3 2 (some (.object "java/lang/Object")) 1 := ⟨fun U a h => ⟨zk_Jx4a65c_get_915e3 h, zn_Jx4a65c h, zi_Jx4a65c_get_915e3 h, zs_Jx4a65c_Jx4a65c_get_915e3 h⟩, by decide +kernel, by decide +kernel⟩
theorem kv_J15_checkIndex_7cf53 : KS yJ15_checkIndex_7cf53 cJ15_checkIndex_7cf53 2 (some .int) 2 := ⟨fun U a h => ⟨zk_J15_checkIndex_7cf53 h, zn_J15 h, zt_J15_checkIndex_7cf53 h⟩, by decide +kernel, by decide +kernel⟩
theorem kv_J3_checkIndex_8e157 : KS yJ3_checkIndex_8e157 cJ3_checkIndex_8e157 3 (some .int) 3 := ⟨fun U a h => ⟨zk_J3_checkIndex_8e157 h, zn_J3 h, zt_J3_checkIndex_8e157 h⟩, by decide +kernel, by decide +kernel⟩
theorem kv_Jx4a65c_elementData_915e3 : KV RJx4a65c yJx4a65c_elementData_915e3 cJx4a65c_elementData_915e3 2 (some (.object "java/lang/Object")) 1 := ⟨fun U a h => ⟨zk_Jx4a65c_elementData_915e3 h, zn_Jx4a65c h, zi_Jx4a65c_elementData_915e3 h, zs_Jx4a65c_Jx4a65c_elementData_915e3 h⟩, by decide +kernel, by decide +kernel⟩
theorem kv_Jx4a65c_isEmpty_aae02 : KV RJx4a65c yJx4a65c_isEmpty_aae02 cJx4a65c_isEmpty_aae02 1 (some .boolean) 0 := ⟨fun U a h => ⟨zk_Jx4a65c_isEmpty_aae02 h, zn_Jx4a65c h, zi_Jx4a65c_isEmpty_aae02 h, zs_Jx4a65c_Jx4a65c_isEmpty_aae02 h⟩, by decide +kernel, by decide +kernel⟩
theorem kv_X6_digest : KV RX6 yX6_digest cX6_digest 4 (some .long) 0 := ⟨fun U a h => ⟨zk_X6_digest h, zn_X6 h, zi_X6_digest h, zs_X6_X6_digest h⟩, by decide +kernel, by decide +kernel⟩
theorem kv_X6_many : KV RX6 yX6_many cX6_many 2 (some .int) 1 := ⟨fun U a h => ⟨zk_X6_many h, zn_X6 h, zi_X6_many h, zs_X6_X6_many h⟩, by decide +kernel, by decide +kernel⟩
theorem kv_X6_checkRange : KS yX6_checkRange cX6_checkRange 3 (none) 3 := ⟨fun U a h => ⟨zk_X6_checkRange h, zn_X6 h, zt_X6_checkRange h⟩, by decide +kernel, by decide +kernel⟩
theorem kv_X6_countFreeReceipts : KV RX6 yX6_countFreeReceipts cX6_countFreeReceipts 3 (some .int) 0 := ⟨fun U a h => ⟨zk_X6_countFreeReceipts h, zn_X6 h, zi_X6_countFreeReceipts h, zs_X6_X6_countFreeReceipts h⟩, by decide +kernel, by decide +kernel⟩
theorem kv_X6_amountNotRepaid : KV RX6 yX6_amountNotRepaid cX6_amountNotRepaid 4 (some .int) 0 := ⟨fun U a h => ⟨zk_X6_amountNotRepaid h, zn_X6 h, zi_X6_amountNotRepaid h, zs_X6_X6_amountNotRepaid h⟩, by decide +kernel, by decide +kernel⟩
theorem kv_X6_costOfAll : KV RX6 yX6_costOfAll cX6_costOfAll 3 (some .int) 0 := ⟨fun U a h => ⟨zk_X6_costOfAll h, zn_X6 h, zi_X6_costOfAll h, zs_X6_X6_costOfAll h⟩, by decide +kernel, by decide +kernel⟩
theorem kv_X6_costOf : KV RX6 yX6_costOf cX6_costOf 3 (some .int) 2 := ⟨fun U a h => ⟨zk_X6_costOf h, zn_X6 h, zi_X6_costOf h, zs_X6_X6_costOf h⟩, by decide +kernel, by decide +kernel⟩
theorem kv_X6_taxOf : KV RX6 yX6_taxOf cX6_taxOf 4 (some .int) 1 := ⟨fun U a h => ⟨zk_X6_taxOf h, zn_X6 h, zi_X6_taxOf h, zs_X6_X6_taxOf h⟩, by decide +kernel, by decide +kernel⟩
theorem kv_X4_at : KV RX4 yX4_at cX4_at 4 (some .int) 2 := ⟨fun U a h => ⟨zk_X4_at h, zn_X4 h, zi_X4_at h, zs_X4_X4_at h⟩, by decide +kernel, by decide +kernel⟩
theorem kv_X6_countInState : KV RX6 yX6_countInState cX6_countInState 4 (some .int) 1 := ⟨fun U a h => ⟨zk_X6_countInState h, zn_X6 h, zi_X6_countInState h, zs_X6_X6_countInState h⟩, by decide +kernel, by decide +kernel⟩
theorem kv_X6_mixed : KS yX6_mixed cX6_mixed 3 (some .long) 2 := ⟨fun U a h => ⟨zk_X6_mixed h, zn_X6 h, zt_X6_mixed h⟩, by decide +kernel, by decide +kernel⟩
theorem kv_X6_withPeople : KV RX6 yX6_withPeople cX6_withPeople 7 (some .long) 1 := ⟨fun U a h => ⟨zk_X6_withPeople h, zn_X6 h, zi_X6_withPeople h, zs_X6_X6_withPeople h⟩, by decide +kernel, by decide +kernel⟩
theorem kv_X6_ofPerson : KV RX6 yX6_ofPerson cX6_ofPerson 4 (some .int) 2 := ⟨fun U a h => ⟨zk_X6_ofPerson h, zn_X6 h, zi_X6_ofPerson h, zs_X6_X6_ofPerson h⟩, by decide +kernel, by decide +kernel⟩
theorem kv_X6_personAt : KV RX6 yX6_personAt cX6_personAt 2 (some (.object "ApprovalGrid$Person")) 1 := ⟨fun U a h => ⟨zk_X6_personAt h, zn_X6 h, zi_X6_personAt h, zs_X6_X6_personAt h⟩, by decide +kernel, by decide +kernel⟩
theorem kv_X6_numberOf : KS yX6_numberOf cX6_numberOf 1 (some .int) 1 := ⟨fun U a h => ⟨zk_X6_numberOf h, zn_X6 h, zt_X6_numberOf h⟩, by decide +kernel, by decide +kernel⟩
theorem kv_X2_isAwayOn : KV RX2 yX2_isAwayOn cX2_isAwayOn 2 (some .boolean) 1 := ⟨fun U a h => ⟨zk_X2_isAwayOn h, zn_X2 h, zi_X2_isAwayOn h, zs_X2_X2_isAwayOn h⟩, by decide +kernel, by decide +kernel⟩
theorem kv_X6_countOpenOf : KV RX6 yX6_countOpenOf cX6_countOpenOf 5 (some .int) 1 := ⟨fun U a h => ⟨zk_X6_countOpenOf h, zn_X6 h, zi_X6_countOpenOf h, zs_X6_X6_countOpenOf h⟩, by decide +kernel, by decide +kernel⟩
theorem kv_X6_repaidAmountOf : KV RX6 yX6_repaidAmountOf cX6_repaidAmountOf 5 (some .int) 1 := ⟨fun U a h => ⟨zk_X6_repaidAmountOf h, zn_X6 h, zi_X6_repaidAmountOf h, zs_X6_X6_repaidAmountOf h⟩, by decide +kernel, by decide +kernel⟩
theorem kv_X6_countToApproveBy : KV RX6 yX6_countToApproveBy cX6_countToApproveBy 4 (some .int) 1 := ⟨fun U a h => ⟨zk_X6_countToApproveBy h, zn_X6 h, zi_X6_countToApproveBy h, zs_X6_X6_countToApproveBy h⟩, by decide +kernel, by decide +kernel⟩
theorem kv_X6_nextApproverOf : KV RX6 yX6_nextApproverOf cX6_nextApproverOf 4 (some (.object "ApprovalGrid$Person")) 1 := ⟨fun U a h => ⟨zk_X6_nextApproverOf h, zn_X6 h, zi_X6_nextApproverOf h, zs_X6_X6_nextApproverOf h⟩, by decide +kernel, by decide +kernel⟩
theorem kv_X0_bossOfNextStep : KV RX0 yX0_bossOfNextStep cX0_bossOfNextStep 3 (some (.object "ApprovalGrid$Person")) 0 := ⟨fun U a h => ⟨zk_X0_bossOfNextStep h, zn_X0 h, zi_X0_bossOfNextStep h, zs_X0_X0_bossOfNextStep h⟩, by decide +kernel, by decide +kernel⟩
theorem kv_X0_stepsNeeded : KV RX0 yX0_stepsNeeded cX0_stepsNeeded 4 (some .int) 0 := ⟨fun U a h => ⟨zk_X0_stepsNeeded h, zn_X0 h, zi_X0_stepsNeeded h, zs_X0_X0_stepsNeeded h⟩, by decide +kernel, by decide +kernel⟩
theorem kv_X6_maySpend : KV RX6 yX6_maySpend cX6_maySpend 5 (some .int) 3 := ⟨fun U a h => ⟨zk_X6_maySpend h, zn_X6 h, zi_X6_maySpend h, zs_X6_X6_maySpend h⟩, by decide +kernel, by decide +kernel⟩
theorem kv_X6_checkKind : KS yX6_checkKind cX6_checkKind 1 (none) 1 := ⟨fun U a h => ⟨zk_X6_checkKind h, zn_X6 h, zt_X6_checkKind h⟩, by decide +kernel, by decide +kernel⟩
theorem kv_X6_checkLand : KS yX6_checkLand cX6_checkLand 1 (none) 1 := ⟨fun U a h => ⟨zk_X6_checkLand h, zn_X6 h, zt_X6_checkLand h⟩, by decide +kernel, by decide +kernel⟩
theorem kv_X6_spendableBy : KV RX6 yX6_spendableBy cX6_spendableBy 6 (some .int) 3 := ⟨fun U a h => ⟨zk_X6_spendableBy h, zn_X6 h, zi_X6_spendableBy h, zs_X6_X6_spendableBy h⟩, by decide +kernel, by decide +kernel⟩
theorem kv_X6_tripToday : KV RX6 yX6_tripToday cX6_tripToday 5 (some (.object "ApprovalGrid$Trip")) 2 := ⟨fun U a h => ⟨zk_X6_tripToday h, zn_X6 h, zi_X6_tripToday h, zs_X6_X6_tripToday h⟩, by decide +kernel, by decide +kernel⟩
theorem kv_X6_spentOnTrip : KV RX6 yX6_spentOnTrip cX6_spentOnTrip 5 (some .int) 1 := ⟨fun U a h => ⟨zk_X6_spentOnTrip h, zn_X6 h, zi_X6_spentOnTrip h, zs_X6_X6_spentOnTrip h⟩, by decide +kernel, by decide +kernel⟩
theorem kv_X6_spentOffTrips : KV RX6 yX6_spentOffTrips cX6_spentOffTrips 7 (some .int) 2 := ⟨fun U a h => ⟨zk_X6_spentOffTrips h, zn_X6 h, zi_X6_spentOffTrips h, zs_X6_X6_spentOffTrips h⟩, by decide +kernel, by decide +kernel⟩
theorem kv_X6_withBudgets : KV RX6 yX6_withBudgets cX6_withBudgets 7 (some .long) 1 := ⟨fun U a h => ⟨zk_X6_withBudgets h, zn_X6 h, zi_X6_withBudgets h, zs_X6_X6_withBudgets h⟩, by decide +kernel, by decide +kernel⟩
theorem kv_X6_leftOf : KV RX6 yX6_leftOf cX6_leftOf 7 (some .int) 3 := ⟨fun U a h => ⟨zk_X6_leftOf h, zn_X6 h, zi_X6_leftOf h, zs_X6_X6_leftOf h⟩, by decide +kernel, by decide +kernel⟩
theorem kv_X6_costIn : KV RX6 yX6_costIn cX6_costIn 7 (some .int) 3 := ⟨fun U a h => ⟨zk_X6_costIn h, zn_X6 h, zi_X6_costIn h, zs_X6_X6_costIn h⟩, by decide +kernel, by decide +kernel⟩
theorem kv_X6_withCharges : KV RX6 yX6_withCharges cX6_withCharges 7 (some .long) 1 := ⟨fun U a h => ⟨zk_X6_withCharges h, zn_X6 h, zi_X6_withCharges h, zs_X6_X6_withCharges h⟩, by decide +kernel, by decide +kernel⟩
theorem kv_X6_ofCharge : KV RX6 yX6_ofCharge cX6_ofCharge 4 (some .int) 2 := ⟨fun U a h => ⟨zk_X6_ofCharge h, zn_X6 h, zi_X6_ofCharge h, zs_X6_X6_ofCharge h⟩, by decide +kernel, by decide +kernel⟩
theorem kv_X6_chargeAt : KV RX6 yX6_chargeAt cX6_chargeAt 2 (some (.object "ApprovalGrid$Charge")) 1 := ⟨fun U a h => ⟨zk_X6_chargeAt h, zn_X6 h, zi_X6_chargeAt h, zs_X6_X6_chargeAt h⟩, by decide +kernel, by decide +kernel⟩
theorem kv_X6_ofReceipt : KV RX6 yX6_ofReceipt cX6_ofReceipt 2 (some .int) 1 := ⟨fun U a h => ⟨zk_X6_ofReceipt h, zn_X6 h, zi_X6_ofReceipt h, zs_X6_X6_ofReceipt h⟩, by decide +kernel, by decide +kernel⟩
theorem kv_X6_receiptAt : KV RX6 yX6_receiptAt cX6_receiptAt 2 (some (.object "ApprovalGrid$Receipt")) 1 := ⟨fun U a h => ⟨zk_X6_receiptAt h, zn_X6 h, zi_X6_receiptAt h, zs_X6_X6_receiptAt h⟩, by decide +kernel, by decide +kernel⟩
theorem kv_X6_trustBehind : KV RX6 yX6_trustBehind cX6_trustBehind 8 (some .int) 2 := ⟨fun U a h => ⟨zk_X6_trustBehind h, zn_X6 h, zi_X6_trustBehind h, zs_X6_X6_trustBehind h⟩, by decide +kernel, by decide +kernel⟩
theorem kv_J9_min_7cf53 : KS yJ9_min_7cf53 cJ9_min_7cf53 2 (some .int) 2 := ⟨fun U a h => ⟨zk_J9_min_7cf53 h, zn_J9 h, zt_J9_min_7cf53 h⟩, by decide +kernel, by decide +kernel⟩
theorem kv_X6_trustLostBy : KV RX6 yX6_trustLostBy cX6_trustLostBy 6 (some .int) 2 := ⟨fun U a h => ⟨zk_X6_trustLostBy h, zn_X6 h, zi_X6_trustLostBy h, zs_X6_X6_trustLostBy h⟩, by decide +kernel, by decide +kernel⟩
theorem kv_X6_person : KV RX6 yX6_person cX6_person 4 (some .int) 1 := ⟨fun U a h => ⟨zk_X6_person h, zn_X6 h, zi_X6_person h, zs_X6_X6_person h⟩, by decide +kernel, by decide +kernel⟩
theorem kv_X2_init : KI yX2_init cX2_init 3 2 := ⟨fun U a h => ⟨zk_X2_init h, zn_X2 h, zi_X2_init h⟩, by decide +kernel, by decide +kernel, rfl⟩
theorem kv_X1_init : KI yX1_init cX1_init 2 1 := ⟨fun U a h => ⟨zk_X1_init h, zn_X1 h, zi_X1_init h⟩, by decide +kernel, by decide +kernel, rfl⟩
theorem kv_Jx4a65c_add_9ea2d : KV RJx4a65c yJx4a65c_add_9ea2d cJx4a65c_add_9ea2d 2 (some .boolean) 1 := ⟨fun U a h => ⟨zk_Jx4a65c_add_9ea2d h, zn_Jx4a65c h, zi_Jx4a65c_add_9ea2d h, zs_Jx4a65c_Jx4a65c_add_9ea2d h⟩, by decide +kernel, by decide +kernel⟩
theorem kv_Jx4a65c_add_72be8 : KV RJx4a65c yJx4a65c_add_72be8 cJx4a65c_add_72be8 4 (none) 3 := ⟨fun U a h => ⟨zk_Jx4a65c_add_72be8 h, zn_Jx4a65c h, zi_Jx4a65c_add_72be8 h, zs_Jx4a65c_Jx4a65c_add_72be8 h⟩, by decide +kernel, by decide +kernel⟩
theorem kv_Jx4a65c_grow_d5877 : KV RJx4a65c yJx4a65c_grow_d5877 cJx4a65c_grow_d5877 1 (some (.array (.object "java/lang/Object"))) 0 := ⟨fun U a h => ⟨zk_Jx4a65c_grow_d5877 h, zn_Jx4a65c h, zi_Jx4a65c_grow_d5877 h, zs_Jx4a65c_Jx4a65c_grow_d5877 h⟩, by decide +kernel, by decide +kernel⟩
theorem kv_Jx4a65c_grow_92f84 : KV RJx4a65c yJx4a65c_grow_92f84 cJx4a65c_grow_92f84 4 (some (.array (.object "java/lang/Object"))) 1 := ⟨fun U a h => ⟨zk_Jx4a65c_grow_92f84 h, zn_Jx4a65c h, zi_Jx4a65c_grow_92f84 h, zs_Jx4a65c_Jx4a65c_grow_92f84 h⟩, by decide +kernel, by decide +kernel⟩
theorem kv_J8_newLength_cabcc : KS yJ8_newLength_cabcc cJ8_newLength_cabcc 4 (some .int) 3 := ⟨fun U a h => ⟨zk_J8_newLength_cabcc h, zn_J8 h, zt_J8_newLength_cabcc h⟩, by decide +kernel, by decide +kernel⟩
theorem kv_J8_hugeLength_7cf53 : KS yJ8_hugeLength_7cf53 cJ8_hugeLength_7cf53 3 (some .int) 2 := ⟨fun U a h => ⟨zk_J8_hugeLength_7cf53 h, zn_J8 h, zt_J8_hugeLength_7cf53 h⟩, by decide +kernel, by decide +kernel⟩
theorem kv_J7_copyOf_1904c : KS yJ7_copyOf_1904c cJ7_copyOf_1904c 2 (some (.array (.object "java/lang/Object"))) 2 := ⟨fun U a h => ⟨zk_J7_copyOf_1904c h, zn_J7 h, zt_J7_copyOf_1904c h⟩, by decide +kernel, by decide +kernel⟩
theorem kv_J7_copyOf_6403c : KS yJ7_copyOf_6403c cJ7_copyOf_6403c 4 (some (.array (.object "java/lang/Object"))) 3 := ⟨fun U a h => ⟨zk_J7_copyOf_6403c h, zn_J7 h, zt_J7_copyOf_6403c h⟩, by decide +kernel, by decide +kernel⟩
theorem kv_X6_limit : KV RX6 yX6_limit cX6_limit 5 (some .int) 3 := ⟨fun U a h => ⟨zk_X6_limit h, zn_X6 h, zi_X6_limit h, zs_X6_X6_limit h⟩, by decide +kernel, by decide +kernel⟩
theorem kv_X4_replace : KV RX4 yX4_replace cX4_replace 5 (some .int) 3 := ⟨fun U a h => ⟨zk_X4_replace h, zn_X4 h, zi_X4_replace h, zs_X4_X4_replace h⟩, by decide +kernel, by decide +kernel⟩
theorem kv_X6_away : KV RX6 yX6_away cX6_away 7 (some .boolean) 3 := ⟨fun U a h => ⟨zk_X6_away h, zn_X6 h, zi_X6_away h, zs_X6_X6_away h⟩, by decide +kernel, by decide +kernel⟩
theorem kv_X6_passSteps : KV RX6 yX6_passSteps cX6_passSteps 3 (none) 0 := ⟨fun U a h => ⟨zk_X6_passSteps h, zn_X6 h, zi_X6_passSteps h, zs_X6_X6_passSteps h⟩, by decide +kernel, by decide +kernel⟩
theorem kv_X6_passStepsOf : KV RX6 yX6_passStepsOf cX6_passStepsOf 3 (none) 1 := ⟨fun U a h => ⟨zk_X6_passStepsOf h, zn_X6 h, zi_X6_passStepsOf h, zs_X6_X6_passStepsOf h⟩, by decide +kernel, by decide +kernel⟩
theorem kv_X6_trip : KV RX6 yX6_trip cX6_trip 8 (some .int) 5 := ⟨fun U a h => ⟨zk_X6_trip h, zn_X6 h, zi_X6_trip h, zs_X6_X6_trip h⟩, by decide +kernel, by decide +kernel⟩
theorem kv_X5_init : KI yX5_init cX5_init 7 6 := ⟨fun U a h => ⟨zk_X5_init h, zn_X5 h, zi_X5_init h⟩, by decide +kernel, by decide +kernel, rfl⟩
theorem kv_X6_plan : KV RX6 yX6_plan cX6_plan 4 (some .int) 3 := ⟨fun U a h => ⟨zk_X6_plan h, zn_X6 h, zi_X6_plan h, zs_X6_X6_plan h⟩, by decide +kernel, by decide +kernel⟩
theorem kv_X6_checkPeriod : KS yX6_checkPeriod cX6_checkPeriod 1 (none) 1 := ⟨fun U a h => ⟨zk_X6_checkPeriod h, zn_X6 h, zt_X6_checkPeriod h⟩, by decide +kernel, by decide +kernel⟩
theorem kv_X6_carry : KV RX6 yX6_carry cX6_carry 3 (some .int) 2 := ⟨fun U a h => ⟨zk_X6_carry h, zn_X6 h, zi_X6_carry h, zs_X6_X6_carry h⟩, by decide +kernel, by decide +kernel⟩
theorem kv_X6_rate : KV RX6 yX6_rate cX6_rate 4 (some .int) 3 := ⟨fun U a h => ⟨zk_X6_rate h, zn_X6 h, zi_X6_rate h, zs_X6_X6_rate h⟩, by decide +kernel, by decide +kernel⟩
theorem kv_X6_left : KV RX6 yX6_left cX6_left 3 (some .int) 2 := ⟨fun U a h => ⟨zk_X6_left h, zn_X6 h, zi_X6_left h, zs_X6_X6_left h⟩, by decide +kernel, by decide +kernel⟩
theorem kv_X6_charge : KV RX6 yX6_charge cX6_charge 8 (some .int) 5 := ⟨fun U a h => ⟨zk_X6_charge h, zn_X6 h, zi_X6_charge h, zs_X6_X6_charge h⟩, by decide +kernel, by decide +kernel⟩
theorem kv_X0_init : KI yX0_init cX0_init 8 7 := ⟨fun U a h => ⟨zk_X0_init h, zn_X0 h, zi_X0_init h⟩, by decide +kernel, by decide +kernel, rfl⟩
theorem kv_X6_matchPairs : KV RX6 yX6_matchPairs cX6_matchPairs 3 (none) 0 := ⟨fun U a h => ⟨zk_X6_matchPairs h, zn_X6 h, zi_X6_matchPairs h, zs_X6_X6_matchPairs h⟩, by decide +kernel, by decide +kernel⟩
theorem kv_X6_matchBestPair : KV RX6 yX6_matchBestPair cX6_matchBestPair 7 (some .boolean) 0 := ⟨fun U a h => ⟨zk_X6_matchBestPair h, zn_X6 h, zi_X6_matchBestPair h, zs_X6_X6_matchBestPair h⟩, by decide +kernel, by decide +kernel⟩
theorem kv_X6_bestReceiptFor : KV RX6 yX6_bestReceiptFor cX6_bestReceiptFor 6 (some (.object "ApprovalGrid$Receipt")) 1 := ⟨fun U a h => ⟨zk_X6_bestReceiptFor h, zn_X6 h, zi_X6_bestReceiptFor h, zs_X6_X6_bestReceiptFor h⟩, by decide +kernel, by decide +kernel⟩
theorem kv_X6_goTogether : KS yX6_goTogether cX6_goTogether 2 (some .boolean) 2 := ⟨fun U a h => ⟨zk_X6_goTogether h, zn_X6 h, zt_X6_goTogether h⟩, by decide +kernel, by decide +kernel⟩
theorem kv_X0_wasSplitFrom : KV RX0 yX0_wasSplitFrom cX0_wasSplitFrom 2 (some .boolean) 1 := ⟨fun U a h => ⟨zk_X0_wasSplitFrom h, zn_X0 h, zi_X0_wasSplitFrom h, zs_X0_X0_wasSplitFrom h⟩, by decide +kernel, by decide +kernel⟩
theorem kv_X6_scoreOf : KS yX6_scoreOf cX6_scoreOf 5 (some .int) 2 := ⟨fun U a h => ⟨zk_X6_scoreOf h, zn_X6 h, zt_X6_scoreOf h⟩, by decide +kernel, by decide +kernel⟩
theorem kv_J9_abs_0f7a4 : KS yJ9_abs_0f7a4 cJ9_abs_0f7a4 1 (some .int) 1 := ⟨fun U a h => ⟨zk_J9_abs_0f7a4 h, zn_J9 h, zt_J9_abs_0f7a4 h⟩, by decide +kernel, by decide +kernel⟩
theorem kv_X6_match : KV RX6 yX6_match cX6_match 3 (none) 2 := ⟨fun U a h => ⟨zk_X6_match h, zn_X6 h, zi_X6_match h, zs_X6_X6_match h⟩, by decide +kernel, by decide +kernel⟩
theorem kv_X2_gainPoint : KV RX2 yX2_gainPoint cX2_gainPoint 1 (none) 0 := ⟨fun U a h => ⟨zk_X2_gainPoint h, zn_X2 h, zi_X2_gainPoint h, zs_X2_X2_gainPoint h⟩, by decide +kernel, by decide +kernel⟩
theorem kv_X6_receipt : KV RX6 yX6_receipt cX6_receipt 5 (some .int) 3 := ⟨fun U a h => ⟨zk_X6_receipt h, zn_X6 h, zi_X6_receipt h, zs_X6_X6_receipt h⟩, by decide +kernel, by decide +kernel⟩
theorem kv_X6_checkReceipt : KS yX6_checkReceipt cX6_checkReceipt 3 (none) 3 := ⟨fun U a h => ⟨zk_X6_checkReceipt h, zn_X6 h, zt_X6_checkReceipt h⟩, by decide +kernel, by decide +kernel⟩
theorem kv_X3_init : KI yX3_init cX3_init 5 4 := ⟨fun U a h => ⟨zk_X3_init h, zn_X3 h, zi_X3_init h⟩, by decide +kernel, by decide +kernel, rfl⟩
theorem kv_X6_split : KV RX6 yX6_split cX6_split 3 (some .int) 1 := ⟨fun U a h => ⟨zk_X6_split h, zn_X6 h, zi_X6_split h, zs_X6_X6_split h⟩, by decide +kernel, by decide +kernel⟩
theorem kv_X6_checkState : KS yX6_checkState cX6_checkState 2 (none) 2 := ⟨fun U a h => ⟨zk_X6_checkState h, zn_X6 h, zt_X6_checkState h⟩, by decide +kernel, by decide +kernel⟩
theorem kv_X0_partFromReceipt : KV RX0 yX0_partFromReceipt cX0_partFromReceipt 1 (none) 0 := ⟨fun U a h => ⟨zk_X0_partFromReceipt h, zn_X0 h, zi_X0_partFromReceipt h, zs_X0_X0_partFromReceipt h⟩, by decide +kernel, by decide +kernel⟩
theorem kv_X6_approve : KV RX6 yX6_approve cX6_approve 5 (some .int) 2 := ⟨fun U a h => ⟨zk_X6_approve h, zn_X6 h, zi_X6_approve h, zs_X6_X6_approve h⟩, by decide +kernel, by decide +kernel⟩
theorem kv_X6_checkNextApprover : KV RX6 yX6_checkNextApprover cX6_checkNextApprover 3 (none) 2 := ⟨fun U a h => ⟨zk_X6_checkNextApprover h, zn_X6 h, zi_X6_checkNextApprover h, zs_X6_X6_checkNextApprover h⟩, by decide +kernel, by decide +kernel⟩
theorem kv_X6_refuse : KV RX6 yX6_refuse cX6_refuse 5 (some .int) 2 := ⟨fun U a h => ⟨zk_X6_refuse h, zn_X6 h, zi_X6_refuse h, zs_X6_X6_refuse h⟩, by decide +kernel, by decide +kernel⟩
theorem kv_X6_settle : KV RX6 yX6_settle cX6_settle 4 (some .int) 2 := ⟨fun U a h => ⟨zk_X6_settle h, zn_X6 h, zi_X6_settle h, zs_X6_X6_settle h⟩, by decide +kernel, by decide +kernel⟩
theorem kv_X6_score : KV RX6 yX6_score cX6_score 3 (some .int) 2 := ⟨fun U a h => ⟨zk_X6_score h, zn_X6 h, zi_X6_score h, zs_X6_X6_score h⟩, by decide +kernel, by decide +kernel⟩
theorem kv_X6_day : KV RX6 yX6_day cX6_day 4 (some .int) 0 := ⟨fun U a h => ⟨zk_X6_day h, zn_X6 h, zi_X6_day h, zs_X6_X6_day h⟩, by decide +kernel, by decide +kernel⟩
theorem kv_X6_isOverdue : KV RX6 yX6_isOverdue cX6_isOverdue 3 (some .boolean) 1 := ⟨fun U a h => ⟨zk_X6_isOverdue h, zn_X6 h, zi_X6_isOverdue h, zs_X6_X6_isOverdue h⟩, by decide +kernel, by decide +kernel⟩
theorem kv_X6_bearDelay : KV RX6 yX6_bearDelay cX6_bearDelay 2 (none) 1 := ⟨fun U a h => ⟨zk_X6_bearDelay h, zn_X6 h, zi_X6_bearDelay h, zs_X6_X6_bearDelay h⟩, by decide +kernel, by decide +kernel⟩
theorem kv_X2_loseTrust : KV RX2 yX2_loseTrust cX2_loseTrust 1 (none) 0 := ⟨fun U a h => ⟨zk_X2_loseTrust h, zn_X2 h, zi_X2_loseTrust h, zs_X2_X2_loseTrust h⟩, by decide +kernel, by decide +kernel⟩
theorem kv_X6_wouldMatch : KV RX6 yX6_wouldMatch cX6_wouldMatch 9 (some .int) 3 := ⟨fun U a h => ⟨zk_X6_wouldMatch h, zn_X6 h, zi_X6_wouldMatch h, zs_X6_X6_wouldMatch h⟩, by decide +kernel, by decide +kernel⟩
theorem kv_X6_leftWith : KV RX6 yX6_leftWith cX6_leftWith 3 (some .int) 2 := ⟨fun U a h => ⟨zk_X6_leftWith h, zn_X6 h, zi_X6_leftWith h, zs_X6_X6_leftWith h⟩, by decide +kernel, by decide +kernel⟩
theorem kv_X12_init : KI yX12_init cX12_init 1 0 := ⟨fun U a h => ⟨zk_X12_init h, zn_X12 h, zi_X12_init h⟩, by decide +kernel, by decide +kernel, rfl⟩
theorem kv_X8_init : KI yX8_init cX8_init 1 0 := ⟨fun U a h => ⟨zk_X8_init h, zn_X8 h, zi_X8_init h⟩, by decide +kernel, by decide +kernel, rfl⟩
theorem kv_X12_thrown : KV RX12 yX12_thrown cX12_thrown 1 (some .int) 0 := ⟨fun U a h => ⟨zk_X12_thrown h, zn_X12 h, zi_X12_thrown h, zs_X12_X12_thrown h⟩, by decide +kernel, by decide +kernel⟩
theorem kv_X12_person : KV RX12 yX12_person cX12_person 2 (some .int) 1 := ⟨fun U a h => ⟨zk_X12_person h, zn_X12 h, zi_X12_person h, zs_X12_X12_person h⟩, by decide +kernel, by decide +kernel⟩
theorem kv_X12_isNo : KV RX12 yX12_isNo cX12_isNo 2 (some .boolean) 1 := ⟨fun U a h => ⟨zk_X12_isNo h, zn_X12 h, zi_X12_isNo h, zs_X12_X12_isNo h⟩, by decide +kernel, by decide +kernel⟩
theorem kv_X12_isIn : KS yX12_isIn cX12_isIn 3 (some .boolean) 3 := ⟨fun U a h => ⟨zk_X12_isIn h, zn_X12 h, zt_X12_isIn h⟩, by decide +kernel, by decide +kernel⟩
theorem kv_X12_start : KV RX12 yX12_start cX12_start 3 (some .boolean) 2 := ⟨fun U a h => ⟨zk_X12_start h, zn_X12 h, zi_X12_start h, zs_X12_X12_start h⟩, by decide +kernel, by decide +kernel⟩
theorem kv_X12_refuse : KV RX12 yX12_refuse cX12_refuse 3 (some .boolean) 2 := ⟨fun U a h => ⟨zk_X12_refuse h, zn_X12 h, zi_X12_refuse h, zs_X12_X12_refuse h⟩, by decide +kernel, by decide +kernel⟩
theorem kv_X12_of : KV RX12 yX12_of cX12_of 2 (some (.object "ApprovalGridModel$Person")) 1 := ⟨fun U a h => ⟨zk_X12_of h, zn_X12 h, zi_X12_of h, zs_X12_X12_of h⟩, by decide +kernel, by decide +kernel⟩
theorem kv_X9_init : KI yX9_init cX9_init 3 2 := ⟨fun U a h => ⟨zk_X9_init h, zn_X9 h, zi_X9_init h⟩, by decide +kernel, by decide +kernel, rfl⟩
theorem kv_X12_limit : KV RX12 yX12_limit cX12_limit 5 (some .int) 3 := ⟨fun U a h => ⟨zk_X12_limit h, zn_X12 h, zi_X12_limit h, zs_X12_X12_limit h⟩, by decide +kernel, by decide +kernel⟩
theorem kv_X12_isNoKind : KS yX12_isNoKind cX12_isNoKind 1 (some .boolean) 1 := ⟨fun U a h => ⟨zk_X12_isNoKind h, zn_X12 h, zt_X12_isNoKind h⟩, by decide +kernel, by decide +kernel⟩
theorem kv_X12_away : KV RX12 yX12_away cX12_away 5 (some .boolean) 3 := ⟨fun U a h => ⟨zk_X12_away h, zn_X12 h, zi_X12_away h, zs_X12_X12_away h⟩, by decide +kernel, by decide +kernel⟩
theorem kv_X12_isNoDay : KS yX12_isNoDay cX12_isNoDay 1 (some .boolean) 1 := ⟨fun U a h => ⟨zk_X12_isNoDay h, zn_X12 h, zt_X12_isNoDay h⟩, by decide +kernel, by decide +kernel⟩
theorem kv_X8_isAway : KV RX8 yX8_isAway cX8_isAway 2 (some .boolean) 1 := ⟨fun U a h => ⟨zk_X8_isAway h, zn_X8 h, zi_X8_isAway h, zs_X8_X8_isAway h⟩, by decide +kernel, by decide +kernel⟩
theorem kv_X8_goOn : KV RX8 yX8_goOn cX8_goOn 3 (none) 0 := ⟨fun U a h => ⟨zk_X8_goOn h, zn_X8 h, zi_X8_goOn h, zs_X8_X8_goOn h⟩, by decide +kernel, by decide +kernel⟩
theorem kv_X8_bossOf : KV RX8 yX8_bossOf cX8_bossOf 5 (some (.object "ApprovalGridModel$Person")) 2 := ⟨fun U a h => ⟨zk_X8_bossOf h, zn_X8 h, zi_X8_bossOf h, zs_X8_X8_bossOf h⟩, by decide +kernel, by decide +kernel⟩
theorem kv_X7_needs : KV RX7 yX7_needs cX7_needs 1 (some .int) 0 := ⟨fun U a h => ⟨zk_X7_needs h, zn_X7 h, zi_X7_needs h, zs_X7_X7_needs h⟩, by decide +kernel, by decide +kernel⟩
theorem kv_X8_approver : KV RX8 yX8_approver cX8_approver 3 (some .int) 1 := ⟨fun U a h => ⟨zk_X8_approver h, zn_X8 h, zi_X8_approver h, zs_X8_X8_approver h⟩, by decide +kernel, by decide +kernel⟩
theorem kv_X12_trip : KV RX12 yX12_trip cX12_trip 6 (some .int) 5 := ⟨fun U a h => ⟨zk_X12_trip h, zn_X12 h, zi_X12_trip h, zs_X12_X12_trip h⟩, by decide +kernel, by decide +kernel⟩
theorem kv_X12_isNoLand : KS yX12_isNoLand cX12_isNoLand 1 (some .boolean) 1 := ⟨fun U a h => ⟨zk_X12_isNoLand h, zn_X12 h, zt_X12_isNoLand h⟩, by decide +kernel, by decide +kernel⟩
theorem kv_X11_init : KI yX11_init cX11_init 6 5 := ⟨fun U a h => ⟨zk_X11_init h, zn_X11 h, zi_X11_init h⟩, by decide +kernel, by decide +kernel, rfl⟩
theorem kv_X12_ofPerson : KV RX12 yX12_ofPerson cX12_ofPerson 3 (some .int) 2 := ⟨fun U a h => ⟨zk_X12_ofPerson h, zn_X12 h, zi_X12_ofPerson h, zs_X12_X12_ofPerson h⟩, by decide +kernel, by decide +kernel⟩
theorem kv_X12_ofPersonNow : KV RX12 yX12_ofPersonNow cX12_ofPersonNow 5 (some .int) 2 := ⟨fun U a h => ⟨zk_X12_ofPersonNow h, zn_X12 h, zi_X12_ofPersonNow h, zs_X12_X12_ofPersonNow h⟩, by decide +kernel, by decide +kernel⟩
theorem kv_X12_openOf : KV RX12 yX12_openOf cX12_openOf 4 (some .int) 1 := ⟨fun U a h => ⟨zk_X12_openOf h, zn_X12 h, zi_X12_openOf h, zs_X12_X12_openOf h⟩, by decide +kernel, by decide +kernel⟩
theorem kv_X12_repaidOf : KV RX12 yX12_repaidOf cX12_repaidOf 4 (some .int) 1 := ⟨fun U a h => ⟨zk_X12_repaidOf h, zn_X12 h, zi_X12_repaidOf h, zs_X12_X12_repaidOf h⟩, by decide +kernel, by decide +kernel⟩
theorem kv_X7_isRepaid : KV RX7 yX7_isRepaid cX7_isRepaid 1 (some .boolean) 0 := ⟨fun U a h => ⟨zk_X7_isRepaid h, zn_X7 h, zi_X7_isRepaid h, zs_X7_X7_isRepaid h⟩, by decide +kernel, by decide +kernel⟩
theorem kv_X12_waitingFor : KV RX12 yX12_waitingFor cX12_waitingFor 4 (some .int) 1 := ⟨fun U a h => ⟨zk_X12_waitingFor h, zn_X12 h, zi_X12_waitingFor h, zs_X12_X12_waitingFor h⟩, by decide +kernel, by decide +kernel⟩
theorem kv_X12_maySpend : KV RX12 yX12_maySpend cX12_maySpend 4 (some .int) 3 := ⟨fun U a h => ⟨zk_X12_maySpend h, zn_X12 h, zi_X12_maySpend h, zs_X12_X12_maySpend h⟩, by decide +kernel, by decide +kernel⟩
theorem kv_X8_maySpend : KV RX8 yX8_maySpend cX8_maySpend 8 (some .int) 3 := ⟨fun U a h => ⟨zk_X8_maySpend h, zn_X8 h, zi_X8_maySpend h, zs_X8_X8_maySpend h⟩, by decide +kernel, by decide +kernel⟩
theorem kv_X8_tripOf : KV RX8 yX8_tripOf cX8_tripOf 5 (some .int) 2 := ⟨fun U a h => ⟨zk_X8_tripOf h, zn_X8 h, zi_X8_tripOf h, zs_X8_X8_tripOf h⟩, by decide +kernel, by decide +kernel⟩
theorem kv_X12_plan : KV RX12 yX12_plan cX12_plan 5 (some .int) 3 := ⟨fun U a h => ⟨zk_X12_plan h, zn_X12 h, zi_X12_plan h, zs_X12_X12_plan h⟩, by decide +kernel, by decide +kernel⟩
theorem kv_X12_isNoBudget : KV RX12 yX12_isNoBudget cX12_isNoBudget 3 (some .boolean) 2 := ⟨fun U a h => ⟨zk_X12_isNoBudget h, zn_X12 h, zi_X12_isNoBudget h, zs_X12_X12_isNoBudget h⟩, by decide +kernel, by decide +kernel⟩
theorem kv_X12_carry : KV RX12 yX12_carry cX12_carry 4 (some .int) 2 := ⟨fun U a h => ⟨zk_X12_carry h, zn_X12 h, zi_X12_carry h, zs_X12_X12_carry h⟩, by decide +kernel, by decide +kernel⟩
theorem kv_X12_rate : KV RX12 yX12_rate cX12_rate 5 (some .int) 3 := ⟨fun U a h => ⟨zk_X12_rate h, zn_X12 h, zi_X12_rate h, zs_X12_X12_rate h⟩, by decide +kernel, by decide +kernel⟩
theorem kv_X12_left : KV RX12 yX12_left cX12_left 3 (some .int) 2 := ⟨fun U a h => ⟨zk_X12_left h, zn_X12 h, zi_X12_left h, zs_X12_X12_left h⟩, by decide +kernel, by decide +kernel⟩
theorem kv_X8_left : KV RX8 yX8_left cX8_left 6 (some .int) 3 := ⟨fun U a h => ⟨zk_X8_left h, zn_X8 h, zi_X8_left h, zs_X8_X8_left h⟩, by decide +kernel, by decide +kernel⟩
theorem kv_X8_cost : KV RX8 yX8_cost cX8_cost 4 (some .int) 2 := ⟨fun U a h => ⟨zk_X8_cost h, zn_X8 h, zi_X8_cost h, zs_X8_X8_cost h⟩, by decide +kernel, by decide +kernel⟩
theorem kv_X8_tax : KV RX8 yX8_tax cX8_tax 2 (some .int) 1 := ⟨fun U a h => ⟨zk_X8_tax h, zn_X8 h, zi_X8_tax h, zs_X8_X8_tax h⟩, by decide +kernel, by decide +kernel⟩
theorem kv_X12_charge : KV RX12 yX12_charge cX12_charge 6 (some .int) 5 := ⟨fun U a h => ⟨zk_X12_charge h, zn_X12 h, zi_X12_charge h, zs_X12_X12_charge h⟩, by decide +kernel, by decide +kernel⟩
theorem kv_X12_isNoText : KS yX12_isNoText cX12_isNoText 1 (some .boolean) 1 := ⟨fun U a h => ⟨zk_X12_isNoText h, zn_X12 h, zt_X12_isNoText h⟩, by decide +kernel, by decide +kernel⟩
theorem kv_X7_init : KI yX7_init cX7_init 8 7 := ⟨fun U a h => ⟨zk_X7_init h, zn_X7 h, zi_X7_init h⟩, by decide +kernel, by decide +kernel, rfl⟩
theorem kv_X8_matchAll : KV RX8 yX8_matchAll cX8_matchAll 7 (none) 0 := ⟨fun U a h => ⟨zk_X8_matchAll h, zn_X8 h, zi_X8_matchAll h, zs_X8_X8_matchAll h⟩, by decide +kernel, by decide +kernel⟩
theorem kv_X8_goTogether : KV RX8 yX8_goTogether cX8_goTogether 4 (some .boolean) 2 := ⟨fun U a h => ⟨zk_X8_goTogether h, zn_X8 h, zi_X8_goTogether h, zs_X8_X8_goTogether h⟩, by decide +kernel, by decide +kernel⟩
theorem kv_X7_score : KV RX7 yX7_score cX7_score 4 (some .int) 1 := ⟨fun U a h => ⟨zk_X7_score h, zn_X7 h, zi_X7_score h, zs_X7_X7_score h⟩, by decide +kernel, by decide +kernel⟩
theorem kv_X8_match : KV RX8 yX8_match cX8_match 5 (none) 2 := ⟨fun U a h => ⟨zk_X8_match h, zn_X8 h, zi_X8_match h, zs_X8_X8_match h⟩, by decide +kernel, by decide +kernel⟩
theorem kv_X12_receipt : KV RX12 yX12_receipt cX12_receipt 5 (some .int) 3 := ⟨fun U a h => ⟨zk_X12_receipt h, zn_X12 h, zi_X12_receipt h, zs_X12_X12_receipt h⟩, by decide +kernel, by decide +kernel⟩
theorem kv_X12_isNoReceipt : KV RX12 yX12_isNoReceipt cX12_isNoReceipt 4 (some .boolean) 3 := ⟨fun U a h => ⟨zk_X12_isNoReceipt h, zn_X12 h, zi_X12_isNoReceipt h, zs_X12_X12_isNoReceipt h⟩, by decide +kernel, by decide +kernel⟩
theorem kv_X10_init : KI yX10_init cX10_init 4 3 := ⟨fun U a h => ⟨zk_X10_init h, zn_X10 h, zi_X10_init h⟩, by decide +kernel, by decide +kernel, rfl⟩
theorem kv_X12_split : KV RX12 yX12_split cX12_split 3 (some .int) 1 := ⟨fun U a h => ⟨zk_X12_split h, zn_X12 h, zi_X12_split h, zs_X12_X12_split h⟩, by decide +kernel, by decide +kernel⟩
theorem kv_X12_isNoCharge : KV RX12 yX12_isNoCharge cX12_isNoCharge 2 (some .boolean) 1 := ⟨fun U a h => ⟨zk_X12_isNoCharge h, zn_X12 h, zi_X12_isNoCharge h, zs_X12_X12_isNoCharge h⟩, by decide +kernel, by decide +kernel⟩
theorem kv_X12_charge_ : KV RX12 yX12_charge_ cX12_charge_ 2 (some (.object "ApprovalGridModel$Charge")) 1 := ⟨fun U a h => ⟨zk_X12_charge_ h, zn_X12 h, zi_X12_charge_ h, zs_X12_X12_charge_ h⟩, by decide +kernel, by decide +kernel⟩
theorem kv_X12_approve : KV RX12 yX12_approve cX12_approve 3 (some .int) 2 := ⟨fun U a h => ⟨zk_X12_approve h, zn_X12 h, zi_X12_approve h, zs_X12_X12_approve h⟩, by decide +kernel, by decide +kernel⟩
theorem kv_X12_isNotDue : KV RX12 yX12_isNotDue cX12_isNotDue 3 (some .boolean) 2 := ⟨fun U a h => ⟨zk_X12_isNotDue h, zn_X12 h, zi_X12_isNotDue h, zs_X12_X12_isNotDue h⟩, by decide +kernel, by decide +kernel⟩
theorem kv_X12_refuse_ : KV RX12 yX12_refuse_ cX12_refuse_ 3 (some .int) 2 := ⟨fun U a h => ⟨zk_X12_refuse_ h, zn_X12 h, zi_X12_refuse_ h, zs_X12_X12_refuse_ h⟩, by decide +kernel, by decide +kernel⟩
theorem kv_X8_in : KV RX8 yX8_in cX8_in 4 (some .int) 1 := ⟨fun U a h => ⟨zk_X8_in h, zn_X8 h, zi_X8_in h, zs_X8_X8_in h⟩, by decide +kernel, by decide +kernel⟩
theorem kv_X12_settle : KV RX12 yX12_settle cX12_settle 3 (some .int) 2 := ⟨fun U a h => ⟨zk_X12_settle h, zn_X12 h, zi_X12_settle h, zs_X12_X12_settle h⟩, by decide +kernel, by decide +kernel⟩
theorem kv_X12_ofCharge : KV RX12 yX12_ofCharge cX12_ofCharge 3 (some .int) 2 := ⟨fun U a h => ⟨zk_X12_ofCharge h, zn_X12 h, zi_X12_ofCharge h, zs_X12_X12_ofCharge h⟩, by decide +kernel, by decide +kernel⟩
theorem kv_X12_ofChargeNow : KV RX12 yX12_ofChargeNow cX12_ofChargeNow 4 (some .int) 2 := ⟨fun U a h => ⟨zk_X12_ofChargeNow h, zn_X12 h, zi_X12_ofChargeNow h, zs_X12_X12_ofChargeNow h⟩, by decide +kernel, by decide +kernel⟩
theorem kv_X12_ofReceipt : KV RX12 yX12_ofReceipt cX12_ofReceipt 2 (some .int) 1 := ⟨fun U a h => ⟨zk_X12_ofReceipt h, zn_X12 h, zi_X12_ofReceipt h, zs_X12_X12_ofReceipt h⟩, by decide +kernel, by decide +kernel⟩
theorem kv_X12_isNoOne : KV RX12 yX12_isNoOne cX12_isNoOne 2 (some .boolean) 1 := ⟨fun U a h => ⟨zk_X12_isNoOne h, zn_X12 h, zi_X12_isNoOne h, zs_X12_X12_isNoOne h⟩, by decide +kernel, by decide +kernel⟩
theorem kv_X12_score : KV RX12 yX12_score cX12_score 3 (some .int) 2 := ⟨fun U a h => ⟨zk_X12_score h, zn_X12 h, zi_X12_score h, zs_X12_X12_score h⟩, by decide +kernel, by decide +kernel⟩
theorem kv_X12_day : KV RX12 yX12_day cX12_day 1 (some .int) 0 := ⟨fun U a h => ⟨zk_X12_day h, zn_X12 h, zi_X12_day h, zs_X12_X12_day h⟩, by decide +kernel, by decide +kernel⟩
theorem kv_X8_dayOn : KV RX8 yX8_dayOn cX8_dayOn 5 (some .int) 0 := ⟨fun U a h => ⟨zk_X8_dayOn h, zn_X8 h, zi_X8_dayOn h, zs_X8_X8_dayOn h⟩, by decide +kernel, by decide +kernel⟩
theorem kv_X12_many : KV RX12 yX12_many cX12_many 2 (some .int) 1 := ⟨fun U a h => ⟨zk_X12_many h, zn_X12 h, zi_X12_many h, zs_X12_X12_many h⟩, by decide +kernel, by decide +kernel⟩
theorem kv_X12_count : KV RX12 yX12_count cX12_count 2 (some .int) 1 := ⟨fun U a h => ⟨zk_X12_count h, zn_X12 h, zi_X12_count h, zs_X12_X12_count h⟩, by decide +kernel, by decide +kernel⟩
theorem kv_X12_free : KV RX12 yX12_free cX12_free 3 (some .int) 0 := ⟨fun U a h => ⟨zk_X12_free h, zn_X12 h, zi_X12_free h, zs_X12_X12_free h⟩, by decide +kernel, by decide +kernel⟩
theorem kv_X12_sum : KV RX12 yX12_sum cX12_sum 5 (some .int) 1 := ⟨fun U a h => ⟨zk_X12_sum h, zn_X12 h, zi_X12_sum h, zs_X12_X12_sum h⟩, by decide +kernel, by decide +kernel⟩
theorem kv_X12_meanTrust : KV RX12 yX12_meanTrust cX12_meanTrust 3 (some .double) 0 := ⟨fun U a h => ⟨zk_X12_meanTrust h, zn_X12 h, zi_X12_meanTrust h, zs_X12_X12_meanTrust h⟩, by decide +kernel, by decide +kernel⟩
theorem kv_X12_wouldMatch : KV RX12 yX12_wouldMatch cX12_wouldMatch 7 (some .int) 3 := ⟨fun U a h => ⟨zk_X12_wouldMatch h, zn_X12 h, zi_X12_wouldMatch h, zs_X12_X12_wouldMatch h⟩, by decide +kernel, by decide +kernel⟩
theorem kv_X12_trustBehind : KV RX12 yX12_trustBehind cX12_trustBehind 3 (some .int) 2 := ⟨fun U a h => ⟨zk_X12_trustBehind h, zn_X12 h, zi_X12_trustBehind h, zs_X12_X12_trustBehind h⟩, by decide +kernel, by decide +kernel⟩
theorem kv_X8_trustBehind : KV RX8 yX8_trustBehind cX8_trustBehind 9 (some .int) 2 := ⟨fun U a h => ⟨zk_X8_trustBehind h, zn_X8 h, zi_X8_trustBehind h, zs_X8_X8_trustBehind h⟩, by decide +kernel, by decide +kernel⟩
theorem kv_X12_leftWith : KV RX12 yX12_leftWith cX12_leftWith 3 (some .int) 2 := ⟨fun U a h => ⟨zk_X12_leftWith h, zn_X12 h, zi_X12_leftWith h, zs_X12_X12_leftWith h⟩, by decide +kernel, by decide +kernel⟩
theorem kv_X12_digest : KV RX12 yX12_digest cX12_digest 5 (some .long) 0 := ⟨fun U a h => ⟨zk_X12_digest h, zn_X12 h, zi_X12_digest h, zs_X12_X12_digest h⟩, by decide +kernel, by decide +kernel⟩
theorem kv_X12_add : KS yX12_add cX12_add 4 (some .long) 2 := ⟨fun U a h => ⟨zk_X12_add h, zn_X12 h, zt_X12_add h⟩, by decide +kernel, by decide +kernel⟩
theorem zkm_max {U : State} {a : Array Value} (h : TB U) : (Cond.code Lib.Math.max.name Lib.Math.max.code 2 (some .int)).before a U = true := tb_of h 128 (by decide +kernel) rfl
theorem ztm_max {U : State} {a : Array Value} (h : TB U) : (Cond.static Lib.Math.max.name).before a U = true := tb_of h 127 (by decide +kernel) rfl
theorem zkm_min {U : State} {a : Array Value} (h : TB U) : (Cond.code Lib.Math.min.name Lib.Math.min.code 2 (some .int)).before a U = true := tb_of h 438 (by decide +kernel) rfl
theorem ztm_min {U : State} {a : Array Value} (h : TB U) : (Cond.static Lib.Math.min.name).before a U = true := tb_of h 437 (by decide +kernel) rfl
theorem zkm_abs {U : State} {a : Array Value} (h : TB U) : (Cond.code Lib.Math.abs.name Lib.Math.abs.code 1 (some .int)).before a U = true := tb_of h 762 (by decide +kernel) rfl
theorem ztm_abs {U : State} {a : Array Value} (h : TB U) : (Cond.static Lib.Math.abs.name).before a U = true := tb_of h 761 (by decide +kernel) rfl
theorem znm {U : State} {a : Array Value} (h : TB U) : (Cond.initialized "java/lang/Math").before a U = true := zn_J9 h
