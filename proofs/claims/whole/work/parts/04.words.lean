/-- the tables' words (those that any warmed state keeps) -/
def TB (U : State) : Prop := ∀ (a : Array Value) (w : Cond), w ∈ lw_tbl → goodWord w = true → w.before a U = true
theorem TB.moved {s U : State} (hW : s.WarmedH U.vm) (h : TB s) : TB U := fun a w hm hg => word_at hW (good_of_word hg) (h #[] w hm hg)
theorem TB.calling {U : State} {g : JFrame} {mk : MethodId} {a : Array Value} (h : TB U) : TB (U.calling g mk a) := h.moved (State.WarmedH.refl U)
theorem tb_of {U : State} (h : TB U) {w : Cond} {a : Array Value} (i : Nat) (hi : lw_tbl[i]? = some w) (hg : goodWord w = true) : w.before a U = true := h a w (List.mem_of_getElem? hi) hg
theorem tb_ws {U : State} (h : TB U) {ws : List Cond} {a : Array Value} (hm : ws.all (fun w => decide (w ∈ lw_tbl) && goodWord w) = true) : ∀ w ∈ ws, w.before a U = true := by
  intro w hw
  have h1 := List.all_eq_true.mp hm w hw
  simp only [Bool.and_eq_true, decide_eq_true_eq] at h1
  exact h a w h1.1 h1.2
theorem tb_wsr {U : State} (h : TB U) {ws : List Cond} {a : Array Value} (ps : List Nat) (hp : ws = ps.filterMap (fun i => lw_tbl[i]?)) (hg : ws.all goodWord = true) : ∀ w ∈ ws, w.before a U = true := by
  intro w hw
  have h1 := List.all_eq_true.mp hg w hw
  rw [hp] at hw
  obtain ⟨i, -, hi⟩ := List.mem_filterMap.mp hw
  exact tb_of h i hi h1
theorem zs_Throwable_Throwable_fillInStackTrace {U : State} {a : Array Value} (h : TB U) : (Cond.selects "java/lang/Throwable" ⟨"java/lang/Throwable", "fillInStackTrace", "(I)Ljava/lang/Throwable;"⟩ ⟨"java/lang/Throwable", "fillInStackTrace", "(I)Ljava/lang/Throwable;"⟩).before a U = true := tb_of h 0 (by decide +kernel) rfl
theorem zs_X6_X6_countFreeReceipts {U : State} {a : Array Value} (h : TB U) : (Cond.selects RX6 yX6_countFreeReceipts yX6_countFreeReceipts).before a U = true := tb_of h 1 (by decide +kernel) rfl
theorem zs_X6_X6_amountNotRepaid {U : State} {a : Array Value} (h : TB U) : (Cond.selects RX6 yX6_amountNotRepaid yX6_amountNotRepaid).before a U = true := tb_of h 2 (by decide +kernel) rfl
theorem zs_X6_X6_costOfAll {U : State} {a : Array Value} (h : TB U) : (Cond.selects RX6 yX6_costOfAll yX6_costOfAll).before a U = true := tb_of h 3 (by decide +kernel) rfl
theorem zs_X6_X6_costOf {U : State} {a : Array Value} (h : TB U) : (Cond.selects RX6 yX6_costOf yX6_costOf).before a U = true := tb_of h 4 (by decide +kernel) rfl
theorem zs_X6_X6_taxOf {U : State} {a : Array Value} (h : TB U) : (Cond.selects RX6 yX6_taxOf yX6_taxOf).before a U = true := tb_of h 5 (by decide +kernel) rfl
theorem zs_X6_X6_countInState {U : State} {a : Array Value} (h : TB U) : (Cond.selects RX6 yX6_countInState yX6_countInState).before a U = true := tb_of h 6 (by decide +kernel) rfl
theorem zs_X6_X6_withPeople {U : State} {a : Array Value} (h : TB U) : (Cond.selects RX6 yX6_withPeople yX6_withPeople).before a U = true := tb_of h 7 (by decide +kernel) rfl
theorem zs_X6_X6_personAt {U : State} {a : Array Value} (h : TB U) : (Cond.selects RX6 yX6_personAt yX6_personAt).before a U = true := tb_of h 8 (by decide +kernel) rfl
theorem zs_X6_X6_countOpenOf {U : State} {a : Array Value} (h : TB U) : (Cond.selects RX6 yX6_countOpenOf yX6_countOpenOf).before a U = true := tb_of h 9 (by decide +kernel) rfl
theorem zs_X6_X6_repaidAmountOf {U : State} {a : Array Value} (h : TB U) : (Cond.selects RX6 yX6_repaidAmountOf yX6_repaidAmountOf).before a U = true := tb_of h 10 (by decide +kernel) rfl
theorem zs_X6_X6_countToApproveBy {U : State} {a : Array Value} (h : TB U) : (Cond.selects RX6 yX6_countToApproveBy yX6_countToApproveBy).before a U = true := tb_of h 11 (by decide +kernel) rfl
theorem zs_X6_X6_nextApproverOf {U : State} {a : Array Value} (h : TB U) : (Cond.selects RX6 yX6_nextApproverOf yX6_nextApproverOf).before a U = true := tb_of h 12 (by decide +kernel) rfl
theorem zs_X6_X6_spendableBy {U : State} {a : Array Value} (h : TB U) : (Cond.selects RX6 yX6_spendableBy yX6_spendableBy).before a U = true := tb_of h 13 (by decide +kernel) rfl
theorem zs_X6_X6_tripToday {U : State} {a : Array Value} (h : TB U) : (Cond.selects RX6 yX6_tripToday yX6_tripToday).before a U = true := tb_of h 14 (by decide +kernel) rfl
theorem zs_X6_X6_spentOnTrip {U : State} {a : Array Value} (h : TB U) : (Cond.selects RX6 yX6_spentOnTrip yX6_spentOnTrip).before a U = true := tb_of h 15 (by decide +kernel) rfl
theorem zs_X6_X6_spentOffTrips {U : State} {a : Array Value} (h : TB U) : (Cond.selects RX6 yX6_spentOffTrips yX6_spentOffTrips).before a U = true := tb_of h 16 (by decide +kernel) rfl
theorem zs_X6_X6_withBudgets {U : State} {a : Array Value} (h : TB U) : (Cond.selects RX6 yX6_withBudgets yX6_withBudgets).before a U = true := tb_of h 17 (by decide +kernel) rfl
theorem zs_X6_X6_leftOf {U : State} {a : Array Value} (h : TB U) : (Cond.selects RX6 yX6_leftOf yX6_leftOf).before a U = true := tb_of h 18 (by decide +kernel) rfl
theorem zs_X6_X6_costIn {U : State} {a : Array Value} (h : TB U) : (Cond.selects RX6 yX6_costIn yX6_costIn).before a U = true := tb_of h 19 (by decide +kernel) rfl
theorem zs_X6_X6_withCharges {U : State} {a : Array Value} (h : TB U) : (Cond.selects RX6 yX6_withCharges yX6_withCharges).before a U = true := tb_of h 20 (by decide +kernel) rfl
theorem zs_X6_X6_chargeAt {U : State} {a : Array Value} (h : TB U) : (Cond.selects RX6 yX6_chargeAt yX6_chargeAt).before a U = true := tb_of h 21 (by decide +kernel) rfl
theorem zs_X6_X6_receiptAt {U : State} {a : Array Value} (h : TB U) : (Cond.selects RX6 yX6_receiptAt yX6_receiptAt).before a U = true := tb_of h 22 (by decide +kernel) rfl
theorem zs_X6_X6_trustLostBy {U : State} {a : Array Value} (h : TB U) : (Cond.selects RX6 yX6_trustLostBy yX6_trustLostBy).before a U = true := tb_of h 23 (by decide +kernel) rfl
theorem zs_Jx4a65c_Jx4a65c_add_72be8 {U : State} {a : Array Value} (h : TB U) : (Cond.selects RJx4a65c yJx4a65c_add_72be8 yJx4a65c_add_72be8).before a U = true := tb_of h 24 (by decide +kernel) rfl
theorem zs_Jx4a65c_Jx4a65c_grow_d5877 {U : State} {a : Array Value} (h : TB U) : (Cond.selects RJx4a65c yJx4a65c_grow_d5877 yJx4a65c_grow_d5877).before a U = true := tb_of h 25 (by decide +kernel) rfl
theorem zs_Jx4a65c_Jx4a65c_grow_92f84 {U : State} {a : Array Value} (h : TB U) : (Cond.selects RJx4a65c yJx4a65c_grow_92f84 yJx4a65c_grow_92f84).before a U = true := tb_of h 26 (by decide +kernel) rfl
theorem zs_X6_X6_passSteps {U : State} {a : Array Value} (h : TB U) : (Cond.selects RX6 yX6_passSteps yX6_passSteps).before a U = true := tb_of h 27 (by decide +kernel) rfl
theorem zs_X6_X6_passStepsOf {U : State} {a : Array Value} (h : TB U) : (Cond.selects RX6 yX6_passStepsOf yX6_passStepsOf).before a U = true := tb_of h 28 (by decide +kernel) rfl
theorem zs_X6_X6_matchPairs {U : State} {a : Array Value} (h : TB U) : (Cond.selects RX6 yX6_matchPairs yX6_matchPairs).before a U = true := tb_of h 29 (by decide +kernel) rfl
theorem zs_X6_X6_matchBestPair {U : State} {a : Array Value} (h : TB U) : (Cond.selects RX6 yX6_matchBestPair yX6_matchBestPair).before a U = true := tb_of h 30 (by decide +kernel) rfl
theorem zs_X6_X6_bestReceiptFor {U : State} {a : Array Value} (h : TB U) : (Cond.selects RX6 yX6_bestReceiptFor yX6_bestReceiptFor).before a U = true := tb_of h 31 (by decide +kernel) rfl
theorem zs_X6_X6_match {U : State} {a : Array Value} (h : TB U) : (Cond.selects RX6 yX6_match yX6_match).before a U = true := tb_of h 32 (by decide +kernel) rfl
theorem zs_X6_X6_checkNextApprover {U : State} {a : Array Value} (h : TB U) : (Cond.selects RX6 yX6_checkNextApprover yX6_checkNextApprover).before a U = true := tb_of h 33 (by decide +kernel) rfl
theorem zs_X6_X6_isOverdue {U : State} {a : Array Value} (h : TB U) : (Cond.selects RX6 yX6_isOverdue yX6_isOverdue).before a U = true := tb_of h 34 (by decide +kernel) rfl
theorem zs_X6_X6_bearDelay {U : State} {a : Array Value} (h : TB U) : (Cond.selects RX6 yX6_bearDelay yX6_bearDelay).before a U = true := tb_of h 35 (by decide +kernel) rfl
theorem zs_X12_X12_isNo {U : State} {a : Array Value} (h : TB U) : (Cond.selects RX12 yX12_isNo yX12_isNo).before a U = true := tb_of h 36 (by decide +kernel) rfl
theorem zs_X12_X12_start {U : State} {a : Array Value} (h : TB U) : (Cond.selects RX12 yX12_start yX12_start).before a U = true := tb_of h 37 (by decide +kernel) rfl
theorem zs_X12_X12_refuse {U : State} {a : Array Value} (h : TB U) : (Cond.selects RX12 yX12_refuse yX12_refuse).before a U = true := tb_of h 38 (by decide +kernel) rfl
theorem zs_X12_X12_of {U : State} {a : Array Value} (h : TB U) : (Cond.selects RX12 yX12_of yX12_of).before a U = true := tb_of h 39 (by decide +kernel) rfl
theorem zs_X8_X8_bossOf {U : State} {a : Array Value} (h : TB U) : (Cond.selects RX8 yX8_bossOf yX8_bossOf).before a U = true := tb_of h 40 (by decide +kernel) rfl
theorem zs_X12_X12_ofPersonNow {U : State} {a : Array Value} (h : TB U) : (Cond.selects RX12 yX12_ofPersonNow yX12_ofPersonNow).before a U = true := tb_of h 41 (by decide +kernel) rfl
theorem zs_X12_X12_openOf {U : State} {a : Array Value} (h : TB U) : (Cond.selects RX12 yX12_openOf yX12_openOf).before a U = true := tb_of h 42 (by decide +kernel) rfl
theorem zs_X12_X12_repaidOf {U : State} {a : Array Value} (h : TB U) : (Cond.selects RX12 yX12_repaidOf yX12_repaidOf).before a U = true := tb_of h 43 (by decide +kernel) rfl
theorem zs_X12_X12_waitingFor {U : State} {a : Array Value} (h : TB U) : (Cond.selects RX12 yX12_waitingFor yX12_waitingFor).before a U = true := tb_of h 44 (by decide +kernel) rfl
theorem zs_X12_X12_isNoBudget {U : State} {a : Array Value} (h : TB U) : (Cond.selects RX12 yX12_isNoBudget yX12_isNoBudget).before a U = true := tb_of h 45 (by decide +kernel) rfl
theorem zs_X8_X8_goTogether {U : State} {a : Array Value} (h : TB U) : (Cond.selects RX8 yX8_goTogether yX8_goTogether).before a U = true := tb_of h 46 (by decide +kernel) rfl
theorem zs_X8_X8_match {U : State} {a : Array Value} (h : TB U) : (Cond.selects RX8 yX8_match yX8_match).before a U = true := tb_of h 47 (by decide +kernel) rfl
theorem zs_X12_X12_isNoReceipt {U : State} {a : Array Value} (h : TB U) : (Cond.selects RX12 yX12_isNoReceipt yX12_isNoReceipt).before a U = true := tb_of h 48 (by decide +kernel) rfl
theorem zs_X12_X12_isNoCharge {U : State} {a : Array Value} (h : TB U) : (Cond.selects RX12 yX12_isNoCharge yX12_isNoCharge).before a U = true := tb_of h 49 (by decide +kernel) rfl
theorem zs_X12_X12_charge_ {U : State} {a : Array Value} (h : TB U) : (Cond.selects RX12 yX12_charge_ yX12_charge_).before a U = true := tb_of h 50 (by decide +kernel) rfl
theorem zs_X12_X12_isNotDue {U : State} {a : Array Value} (h : TB U) : (Cond.selects RX12 yX12_isNotDue yX12_isNotDue).before a U = true := tb_of h 51 (by decide +kernel) rfl
theorem zs_X12_X12_ofChargeNow {U : State} {a : Array Value} (h : TB U) : (Cond.selects RX12 yX12_ofChargeNow yX12_ofChargeNow).before a U = true := tb_of h 52 (by decide +kernel) rfl
theorem zs_X12_X12_isNoOne {U : State} {a : Array Value} (h : TB U) : (Cond.selects RX12 yX12_isNoOne yX12_isNoOne).before a U = true := tb_of h 53 (by decide +kernel) rfl
theorem zs_X12_X12_count {U : State} {a : Array Value} (h : TB U) : (Cond.selects RX12 yX12_count yX12_count).before a U = true := tb_of h 54 (by decide +kernel) rfl
theorem zs_X12_X12_free {U : State} {a : Array Value} (h : TB U) : (Cond.selects RX12 yX12_free yX12_free).before a U = true := tb_of h 55 (by decide +kernel) rfl
theorem zs_X12_X12_sum {U : State} {a : Array Value} (h : TB U) : (Cond.selects RX12 yX12_sum yX12_sum).before a U = true := tb_of h 56 (by decide +kernel) rfl
theorem zn_L {U : State} {a : Array Value} (h : TB U) : (Cond.initialized RL).before a U = true := tb_of h 57 (by decide +kernel) rfl
theorem zn_X6 {U : State} {a : Array Value} (h : TB U) : (Cond.initialized RX6).before a U = true := tb_of h 58 (by decide +kernel) rfl
theorem zn_Jxa1e45 {U : State} {a : Array Value} (h : TB U) : (Cond.initialized RJxa1e45).before a U = true := tb_of h 59 (by decide +kernel) rfl
theorem zn_Jxc12de {U : State} {a : Array Value} (h : TB U) : (Cond.initialized RJxc12de).before a U = true := tb_of h 60 (by decide +kernel) rfl
theorem zn_Jx4a65c {U : State} {a : Array Value} (h : TB U) : (Cond.initialized RJx4a65c).before a U = true := tb_of h 61 (by decide +kernel) rfl
theorem zn_X4 {U : State} {a : Array Value} (h : TB U) : (Cond.initialized RX4).before a U = true := tb_of h 62 (by decide +kernel) rfl
theorem zn_J9 {U : State} {a : Array Value} (h : TB U) : (Cond.initialized RJ9).before a U = true := tb_of h 63 (by decide +kernel) rfl
theorem zn_X12 {U : State} {a : Array Value} (h : TB U) : (Cond.initialized RX12).before a U = true := tb_of h 64 (by decide +kernel) rfl
theorem zn_X8 {U : State} {a : Array Value} (h : TB U) : (Cond.initialized RX8).before a U = true := tb_of h 65 (by decide +kernel) rfl
theorem zn_Throwable {U : State} {a : Array Value} (h : TB U) : (Cond.initialized "java/lang/Throwable").before a U = true := tb_of h 66 (by decide +kernel) rfl
theorem zn_Exception {U : State} {a : Array Value} (h : TB U) : (Cond.initialized "java/lang/Exception").before a U = true := tb_of h 67 (by decide +kernel) rfl
theorem zn_RuntimeException {U : State} {a : Array Value} (h : TB U) : (Cond.initialized "java/lang/RuntimeException").before a U = true := tb_of h 68 (by decide +kernel) rfl
theorem zn_IndexOutOfBoundsException {U : State} {a : Array Value} (h : TB U) : (Cond.initialized "java/lang/IndexOutOfBoundsException").before a U = true := tb_of h 69 (by decide +kernel) rfl
theorem zn_J15 {U : State} {a : Array Value} (h : TB U) : (Cond.initialized RJ15).before a U = true := tb_of h 70 (by decide +kernel) rfl
theorem zn_J3 {U : State} {a : Array Value} (h : TB U) : (Cond.initialized RJ3).before a U = true := tb_of h 71 (by decide +kernel) rfl
theorem zn_IllegalStateException {U : State} {a : Array Value} (h : TB U) : (Cond.initialized "java/lang/IllegalStateException").before a U = true := tb_of h 72 (by decide +kernel) rfl
theorem zn_X1 {U : State} {a : Array Value} (h : TB U) : (Cond.initialized RX1).before a U = true := tb_of h 73 (by decide +kernel) rfl
theorem zn_X2 {U : State} {a : Array Value} (h : TB U) : (Cond.initialized RX2).before a U = true := tb_of h 74 (by decide +kernel) rfl
theorem zn_J8 {U : State} {a : Array Value} (h : TB U) : (Cond.initialized RJ8).before a U = true := tb_of h 75 (by decide +kernel) rfl
theorem zn_J7 {U : State} {a : Array Value} (h : TB U) : (Cond.initialized RJ7).before a U = true := tb_of h 76 (by decide +kernel) rfl
theorem zn_J10 {U : State} {a : Array Value} (h : TB U) : (Cond.initialized RJ10).before a U = true := tb_of h 77 (by decide +kernel) rfl
theorem zn_X9 {U : State} {a : Array Value} (h : TB U) : (Cond.initialized RX9).before a U = true := tb_of h 78 (by decide +kernel) rfl
theorem zn_IllegalArgumentException {U : State} {a : Array Value} (h : TB U) : (Cond.initialized "java/lang/IllegalArgumentException").before a U = true := tb_of h 79 (by decide +kernel) rfl
theorem zn_X5 {U : State} {a : Array Value} (h : TB U) : (Cond.initialized RX5).before a U = true := tb_of h 80 (by decide +kernel) rfl
theorem zn_X11 {U : State} {a : Array Value} (h : TB U) : (Cond.initialized RX11).before a U = true := tb_of h 81 (by decide +kernel) rfl
theorem zn_X0 {U : State} {a : Array Value} (h : TB U) : (Cond.initialized RX0).before a U = true := tb_of h 82 (by decide +kernel) rfl
theorem zn_X7 {U : State} {a : Array Value} (h : TB U) : (Cond.initialized RX7).before a U = true := tb_of h 83 (by decide +kernel) rfl
theorem zn_X3 {U : State} {a : Array Value} (h : TB U) : (Cond.initialized RX3).before a U = true := tb_of h 84 (by decide +kernel) rfl
theorem zn_X10 {U : State} {a : Array Value} (h : TB U) : (Cond.initialized RX10).before a U = true := tb_of h 85 (by decide +kernel) rfl
theorem zc_L_8 {U : State} {a : Array Value} (h : TB U) : (Cond.classLink RL 8 RX6).before a U = true := tb_of h 86 (by decide +kernel) rfl
theorem zI_X6 {U : State} {a : Array Value} (h : TB U) : (Cond.instantiable RX6 9).before a U = true := tb_of h 87 (by decide +kernel) rfl
theorem zm_L_94 {U : State} {a : Array Value} (h : TB U) : (Cond.methodLink RL 94 yX6_init).before a U = true := tb_of h 88 (by decide +kernel) rfl
theorem zi_X6_init {U : State} {a : Array Value} (h : TB U) : (Cond.instanceMethod yX6_init).before a U = true := tb_of h 89 (by decide +kernel) rfl
theorem zk_X6_init {U : State} {a : Array Value} (h : TB U) : (Cond.code yX6_init cX6_init 1 (none)).before a U = true := tb_of h 90 (by decide +kernel) rfl
theorem zm_X6_1 {U : State} {a : Array Value} (h : TB U) : (Cond.methodLink RX6 1 ⟨"java/lang/Object", "<init>", "()V"⟩).before a U = true := tb_of h 91 (by decide +kernel) rfl
theorem zi_Object_init {U : State} {a : Array Value} (h : TB U) : (Cond.instanceMethod ⟨"java/lang/Object", "<init>", "()V"⟩).before a U = true := tb_of h 92 (by decide +kernel) rfl
theorem zk_Object_init {U : State} {a : Array Value} (h : TB U) : (Cond.code ⟨"java/lang/Object", "<init>", "()V"⟩ object_method_1_code 1 (none)).before a U = true := tb_of h 93 (by decide +kernel) rfl
theorem zc_X6_7 {U : State} {a : Array Value} (h : TB U) : (Cond.classLink RX6 7 RJx4a65c).before a U = true := tb_of h 94 (by decide +kernel) rfl
theorem zI_Jx4a65c {U : State} {a : Array Value} (h : TB U) : (Cond.instantiable RJx4a65c 3).before a U = true := tb_of h 95 (by decide +kernel) rfl
theorem zm_X6_9 {U : State} {a : Array Value} (h : TB U) : (Cond.methodLink RX6 9 yJx4a65c_init_da8c8).before a U = true := tb_of h 96 (by decide +kernel) rfl
theorem zi_Jx4a65c_init_da8c8 {U : State} {a : Array Value} (h : TB U) : (Cond.instanceMethod yJx4a65c_init_da8c8).before a U = true := tb_of h 97 (by decide +kernel) rfl
theorem zk_Jx4a65c_init_da8c8 {U : State} {a : Array Value} (h : TB U) : (Cond.code yJx4a65c_init_da8c8 cJx4a65c_init_da8c8 1 (none)).before a U = true := tb_of h 98 (by decide +kernel) rfl
theorem zm_Jx4a65c_1 {U : State} {a : Array Value} (h : TB U) : (Cond.methodLink RJx4a65c 1 yJxc12de_init_da8c8).before a U = true := tb_of h 99 (by decide +kernel) rfl
theorem zi_Jxc12de_init_da8c8 {U : State} {a : Array Value} (h : TB U) : (Cond.instanceMethod yJxc12de_init_da8c8).before a U = true := tb_of h 100 (by decide +kernel) rfl
theorem zk_Jxc12de_init_da8c8 {U : State} {a : Array Value} (h : TB U) : (Cond.code yJxc12de_init_da8c8 cJxc12de_init_da8c8 1 (none)).before a U = true := tb_of h 101 (by decide +kernel) rfl
theorem zm_Jxc12de_1 {U : State} {a : Array Value} (h : TB U) : (Cond.methodLink RJxc12de 1 yJxa1e45_init_da8c8).before a U = true := tb_of h 102 (by decide +kernel) rfl
theorem zi_Jxa1e45_init_da8c8 {U : State} {a : Array Value} (h : TB U) : (Cond.instanceMethod yJxa1e45_init_da8c8).before a U = true := tb_of h 103 (by decide +kernel) rfl
theorem zk_Jxa1e45_init_da8c8 {U : State} {a : Array Value} (h : TB U) : (Cond.code yJxa1e45_init_da8c8 cJxa1e45_init_da8c8 1 (none)).before a U = true := tb_of h 104 (by decide +kernel) rfl
theorem zm_Jxa1e45_1 {U : State} {a : Array Value} (h : TB U) : (Cond.methodLink RJxa1e45 1 ⟨"java/lang/Object", "<init>", "()V"⟩).before a U = true := tb_of h 105 (by decide +kernel) rfl
theorem zf_Jx4a65c_39 {U : State} {a : Array Value} (h : TB U) : (Cond.fieldLink RJx4a65c 39 "java/util/ArrayList" "DEFAULTCAPACITY_EMPTY_ELEMENTDATA" "[Ljava/lang/Object;").before a U = true := tb_of h 106 (by decide +kernel) rfl
theorem zf_Jx4a65c_9 {U : State} {a : Array Value} (h : TB U) : (Cond.fieldLink RJx4a65c 9 "java/util/ArrayList" "elementData" "[Ljava/lang/Object;").before a U = true := tb_of h 108 (by decide +kernel) rfl
theorem zf_Jx4a65c_48 {U : State} {a : Array Value} (h : TB U) : (Cond.fieldLink RJx4a65c 48 "java/util/ArrayList" "size" "I").before a U = true := tb_of h 109 (by decide +kernel) rfl
theorem zf_Jxc12de_7 {U : State} {a : Array Value} (h : TB U) : (Cond.fieldLink RJxc12de 7 "java/util/AbstractList" "modCount" "I").before a U = true := tb_of h 110 (by decide +kernel) rfl
theorem zf_Jx4a65c_63 {U : State} {a : Array Value} (h : TB U) : (Cond.fieldLink RJx4a65c 63 "java/util/ArrayList" "modCount" "I").before a U = true := tb_of h 111 (by decide +kernel) rfl
theorem zF_Jx4a65c_modCount {U : State} {a : Array Value} (h : TB U) : (Cond.sameField "java/util/ArrayList" "java/util/AbstractList" "modCount" "I").before a U = true := tb_of h 112 (by decide +kernel) rfl
theorem zS_Jx4a65c_Jxc12de {U : State} {a : Array Value} (h : TB U) : (Cond.superclass RJx4a65c RJxc12de).before a U = true := tb_of h 119 (by decide +kernel) rfl
theorem zc_X6_25 {U : State} {a : Array Value} (h : TB U) : (Cond.classLink RX6 25 RX4).before a U = true := tb_of h 120 (by decide +kernel) rfl
theorem zI_X4 {U : State} {a : Array Value} (h : TB U) : (Cond.instantiable RX4 3).before a U = true := tb_of h 121 (by decide +kernel) rfl
theorem zm_X6_27 {U : State} {a : Array Value} (h : TB U) : (Cond.methodLink RX6 27 yX4_init).before a U = true := tb_of h 122 (by decide +kernel) rfl
theorem zi_X4_init {U : State} {a : Array Value} (h : TB U) : (Cond.instanceMethod yX4_init).before a U = true := tb_of h 123 (by decide +kernel) rfl
theorem zk_X4_init {U : State} {a : Array Value} (h : TB U) : (Cond.code yX4_init cX4_init 3 (none)).before a U = true := tb_of h 124 (by decide +kernel) rfl
theorem zm_X4_1 {U : State} {a : Array Value} (h : TB U) : (Cond.methodLink RX4 1 ⟨"java/lang/Object", "<init>", "()V"⟩).before a U = true := tb_of h 125 (by decide +kernel) rfl
theorem zm_X4_7 {U : State} {a : Array Value} (h : TB U) : (Cond.methodLink RX4 7 yJ9_max_7cf53).before a U = true := tb_of h 126 (by decide +kernel) rfl
theorem zt_J9_max_7cf53 {U : State} {a : Array Value} (h : TB U) : (Cond.static yJ9_max_7cf53).before a U = true := tb_of h 127 (by decide +kernel) rfl
theorem zk_J9_max_7cf53 {U : State} {a : Array Value} (h : TB U) : (Cond.code yJ9_max_7cf53 cJ9_max_7cf53 2 (some .int)).before a U = true := tb_of h 128 (by decide +kernel) rfl
theorem zf_X4_13 {U : State} {a : Array Value} (h : TB U) : (Cond.fieldLink RX4 13 "ApprovalGrid$Table" "rows" "I").before a U = true := tb_of h 129 (by decide +kernel) rfl
theorem zf_X4_19 {U : State} {a : Array Value} (h : TB U) : (Cond.fieldLink RX4 19 "ApprovalGrid$Table" "columns" "I").before a U = true := tb_of h 130 (by decide +kernel) rfl
theorem zf_X4_22 {U : State} {a : Array Value} (h : TB U) : (Cond.fieldLink RX4 22 "ApprovalGrid$Table" "cells" "[I").before a U = true := tb_of h 131 (by decide +kernel) rfl
theorem zS_X4_Object {U : State} {a : Array Value} (h : TB U) : (Cond.superclass RX4 "java/lang/Object").before a U = true := tb_of h 138 (by decide +kernel) rfl
theorem zA_82 {U : State} {a : Array Value} (h : TB U) : (Cond.arrayClass .int).before a U = true := tb_of h 139 (by decide +kernel) rfl
theorem zf_X6_10 {U : State} {a : Array Value} (h : TB U) : (Cond.fieldLink RX6 10 "ApprovalGrid" "people" "Ljava/util/ArrayList;").before a U = true := tb_of h 140 (by decide +kernel) rfl
theorem zf_X6_16 {U : State} {a : Array Value} (h : TB U) : (Cond.fieldLink RX6 16 "ApprovalGrid" "trips" "Ljava/util/ArrayList;").before a U = true := tb_of h 141 (by decide +kernel) rfl
theorem zf_X6_19 {U : State} {a : Array Value} (h : TB U) : (Cond.fieldLink RX6 19 "ApprovalGrid" "charges" "Ljava/util/ArrayList;").before a U = true := tb_of h 142 (by decide +kernel) rfl
theorem zf_X6_22 {U : State} {a : Array Value} (h : TB U) : (Cond.fieldLink RX6 22 "ApprovalGrid" "receipts" "Ljava/util/ArrayList;").before a U = true := tb_of h 143 (by decide +kernel) rfl
theorem zf_X6_30 {U : State} {a : Array Value} (h : TB U) : (Cond.fieldLink RX6 30 "ApprovalGrid" "limits" "LApprovalGrid$Table;").before a U = true := tb_of h 144 (by decide +kernel) rfl
theorem zf_X6_34 {U : State} {a : Array Value} (h : TB U) : (Cond.fieldLink RX6 34 "ApprovalGrid" "plans" "LApprovalGrid$Table;").before a U = true := tb_of h 145 (by decide +kernel) rfl
theorem zf_X6_37 {U : State} {a : Array Value} (h : TB U) : (Cond.fieldLink RX6 37 "ApprovalGrid" "carries" "LApprovalGrid$Table;").before a U = true := tb_of h 146 (by decide +kernel) rfl
theorem zf_X6_40 {U : State} {a : Array Value} (h : TB U) : (Cond.fieldLink RX6 40 "ApprovalGrid" "rates" "LApprovalGrid$Table;").before a U = true := tb_of h 147 (by decide +kernel) rfl
theorem zf_X6_43 {U : State} {a : Array Value} (h : TB U) : (Cond.fieldLink RX6 43 "ApprovalGrid" "today" "I").before a U = true := tb_of h 148 (by decide +kernel) rfl
theorem zS_X6_Object {U : State} {a : Array Value} (h : TB U) : (Cond.superclass RX6 "java/lang/Object").before a U = true := tb_of h 167 (by decide +kernel) rfl
theorem zm_L_172 {U : State} {a : Array Value} (h : TB U) : (Cond.methodLink RL 172 yX6_meanTrust).before a U = true := tb_of h 168 (by decide +kernel) rfl
theorem zi_X6_meanTrust {U : State} {a : Array Value} (h : TB U) : (Cond.instanceMethod yX6_meanTrust).before a U = true := tb_of h 169 (by decide +kernel) rfl
theorem zs_X6_X6_meanTrust {U : State} {a : Array Value} (h : TB U) : (Cond.selects RX6 yX6_meanTrust yX6_meanTrust).before a U = true := tb_of h 170 (by decide +kernel) rfl
theorem zk_X6_meanTrust {U : State} {a : Array Value} (h : TB U) : (Cond.code yX6_meanTrust cX6_meanTrust 3 (some .double)).before a U = true := tb_of h 171 (by decide +kernel) rfl
theorem zm_X6_51 {U : State} {a : Array Value} (h : TB U) : (Cond.methodLink RX6 51 yJx4a65c_size_8abf5).before a U = true := tb_of h 172 (by decide +kernel) rfl
theorem zi_Jx4a65c_size_8abf5 {U : State} {a : Array Value} (h : TB U) : (Cond.instanceMethod yJx4a65c_size_8abf5).before a U = true := tb_of h 173 (by decide +kernel) rfl
theorem zs_Jx4a65c_Jx4a65c_size_8abf5 {U : State} {a : Array Value} (h : TB U) : (Cond.selects RJx4a65c yJx4a65c_size_8abf5 yJx4a65c_size_8abf5).before a U = true := tb_of h 174 (by decide +kernel) rfl
theorem zk_Jx4a65c_size_8abf5 {U : State} {a : Array Value} (h : TB U) : (Cond.code yJx4a65c_size_8abf5 cJx4a65c_size_8abf5 1 (some .int)).before a U = true := tb_of h 175 (by decide +kernel) rfl
theorem zm_X6_253 {U : State} {a : Array Value} (h : TB U) : (Cond.methodLink RX6 253 yJx4a65c_get_915e3).before a U = true := tb_of h 176 (by decide +kernel) rfl
theorem zi_Jx4a65c_get_915e3 {U : State} {a : Array Value} (h : TB U) : (Cond.instanceMethod yJx4a65c_get_915e3).before a U = true := tb_of h 177 (by decide +kernel) rfl
theorem zs_Jx4a65c_Jx4a65c_get_915e3 {U : State} {a : Array Value} (h : TB U) : (Cond.selects RJx4a65c yJx4a65c_get_915e3 yJx4a65c_get_915e3).before a U = true := tb_of h 178 (by decide +kernel) rfl
theorem zk_Jx4a65c_get_915e3 {U : State} {a : Array Value} (h : TB U) : (Cond.code yJx4a65c_get_915e3 cJx4a65c_get_915e3 2 (some (.object "java/lang/Object"))).before a U = true := tb_of h 179 (by decide +kernel) rfl
theorem zm_Jx4a65c_118 {U : State} {a : Array Value} (h : TB U) : (Cond.methodLink RJx4a65c 118 yJ15_checkIndex_7cf53).before a U = true := tb_of h 180 (by decide +kernel) rfl
theorem zt_J15_checkIndex_7cf53 {U : State} {a : Array Value} (h : TB U) : (Cond.static yJ15_checkIndex_7cf53).before a U = true := tb_of h 181 (by decide +kernel) rfl
theorem zk_J15_checkIndex_7cf53 {U : State} {a : Array Value} (h : TB U) : (Cond.code yJ15_checkIndex_7cf53 cJ15_checkIndex_7cf53 2 (some .int)).before a U = true := tb_of h 182 (by decide +kernel) rfl
theorem zm_J15_105 {U : State} {a : Array Value} (h : TB U) : (Cond.methodLink RJ15 105 yJ3_checkIndex_8e157).before a U = true := tb_of h 183 (by decide +kernel) rfl
theorem zt_J3_checkIndex_8e157 {U : State} {a : Array Value} (h : TB U) : (Cond.static yJ3_checkIndex_8e157).before a U = true := tb_of h 184 (by decide +kernel) rfl
theorem zk_J3_checkIndex_8e157 {U : State} {a : Array Value} (h : TB U) : (Cond.code yJ3_checkIndex_8e157 cJ3_checkIndex_8e157 3 (some .int)).before a U = true := tb_of h 185 (by decide +kernel) rfl
theorem zm_Jx4a65c_123 {U : State} {a : Array Value} (h : TB U) : (Cond.methodLink RJx4a65c 123 yJx4a65c_elementData_915e3).before a U = true := tb_of h 186 (by decide +kernel) rfl
theorem zi_Jx4a65c_elementData_915e3 {U : State} {a : Array Value} (h : TB U) : (Cond.instanceMethod yJx4a65c_elementData_915e3).before a U = true := tb_of h 187 (by decide +kernel) rfl
theorem zs_Jx4a65c_Jx4a65c_elementData_915e3 {U : State} {a : Array Value} (h : TB U) : (Cond.selects RJx4a65c yJx4a65c_elementData_915e3 yJx4a65c_elementData_915e3).before a U = true := tb_of h 188 (by decide +kernel) rfl
theorem zk_Jx4a65c_elementData_915e3 {U : State} {a : Array Value} (h : TB U) : (Cond.code yJx4a65c_elementData_915e3 cJx4a65c_elementData_915e3 2 (some (.object "java/lang/Object"))).before a U = true := tb_of h 189 (by decide +kernel) rfl
theorem zc_X6_62 {U : State} {a : Array Value} (h : TB U) : (Cond.classLink RX6 62 RX2).before a U = true := tb_of h 190 (by decide +kernel) rfl
theorem zm_X6_274 {U : State} {a : Array Value} (h : TB U) : (Cond.methodLink RX6 274 yJx4a65c_isEmpty_aae02).before a U = true := tb_of h 191 (by decide +kernel) rfl
theorem zi_Jx4a65c_isEmpty_aae02 {U : State} {a : Array Value} (h : TB U) : (Cond.instanceMethod yJx4a65c_isEmpty_aae02).before a U = true := tb_of h 192 (by decide +kernel) rfl
theorem zs_Jx4a65c_Jx4a65c_isEmpty_aae02 {U : State} {a : Array Value} (h : TB U) : (Cond.selects RJx4a65c yJx4a65c_isEmpty_aae02 yJx4a65c_isEmpty_aae02).before a U = true := tb_of h 193 (by decide +kernel) rfl
theorem zk_Jx4a65c_isEmpty_aae02 {U : State} {a : Array Value} (h : TB U) : (Cond.code yJx4a65c_isEmpty_aae02 cJx4a65c_isEmpty_aae02 1 (some .boolean)).before a U = true := tb_of h 194 (by decide +kernel) rfl
theorem zm_L_186 {U : State} {a : Array Value} (h : TB U) : (Cond.methodLink RL 186 yX6_digest).before a U = true := tb_of h 195 (by decide +kernel) rfl
theorem zi_X6_digest {U : State} {a : Array Value} (h : TB U) : (Cond.instanceMethod yX6_digest).before a U = true := tb_of h 196 (by decide +kernel) rfl
theorem zs_X6_X6_digest {U : State} {a : Array Value} (h : TB U) : (Cond.selects RX6 yX6_digest yX6_digest).before a U = true := tb_of h 197 (by decide +kernel) rfl
theorem zk_X6_digest {U : State} {a : Array Value} (h : TB U) : (Cond.code yX6_digest cX6_digest 4 (some .long)).before a U = true := tb_of h 198 (by decide +kernel) rfl
theorem zl_X6_295 {U : State} {a : Array Value} (h : TB U) : (Cond.constantLong RX6 295 (58110)).before a U = true := tb_of h 199 (by decide +kernel) rfl
theorem zm_X6_297 {U : State} {a : Array Value} (h : TB U) : (Cond.methodLink RX6 297 yX6_many).before a U = true := tb_of h 200 (by decide +kernel) rfl
theorem zi_X6_many {U : State} {a : Array Value} (h : TB U) : (Cond.instanceMethod yX6_many).before a U = true := tb_of h 201 (by decide +kernel) rfl
theorem zs_X6_X6_many {U : State} {a : Array Value} (h : TB U) : (Cond.selects RX6 yX6_many yX6_many).before a U = true := tb_of h 202 (by decide +kernel) rfl
theorem zk_X6_many {U : State} {a : Array Value} (h : TB U) : (Cond.code yX6_many cX6_many 2 (some .int)).before a U = true := tb_of h 203 (by decide +kernel) rfl
theorem zm_X6_78 {U : State} {a : Array Value} (h : TB U) : (Cond.methodLink RX6 78 yX6_checkRange).before a U = true := tb_of h 204 (by decide +kernel) rfl
theorem zt_X6_checkRange {U : State} {a : Array Value} (h : TB U) : (Cond.static yX6_checkRange).before a U = true := tb_of h 205 (by decide +kernel) rfl
theorem zk_X6_checkRange {U : State} {a : Array Value} (h : TB U) : (Cond.code yX6_checkRange cX6_checkRange 3 (none)).before a U = true := tb_of h 206 (by decide +kernel) rfl
theorem zc_X6_86 {U : State} {a : Array Value} (h : TB U) : (Cond.classLink RX6 86 "java/lang/IllegalArgumentException").before a U = true := tb_of h 207 (by decide +kernel) rfl
theorem zI_IllegalArgumentException {U : State} {a : Array Value} (h : TB U) : (Cond.instantiable "java/lang/IllegalArgumentException" 6).before a U = true := tb_of h 208 (by decide +kernel) rfl
theorem zs_IllegalArgumentException_Throwable_fillInStackTrace {U : State} {a : Array Value} (h : TB U) : (Cond.selects "java/lang/IllegalArgumentException" ⟨"java/lang/Throwable", "fillInStackTrace", "(I)Ljava/lang/Throwable;"⟩ ⟨"java/lang/Throwable", "fillInStackTrace", "(I)Ljava/lang/Throwable;"⟩).before a U = true := tb_of h 216 (by decide +kernel) rfl
theorem zf_Throwable_198 {U : State} {a : Array Value} (h : TB U) : (Cond.fieldLink "java/lang/Throwable" 198 "java/lang/Throwable" "backtrace" "Ljava/lang/Object;").before a U = true := tb_of h 228 (by decide +kernel) rfl
theorem zS_Throwable_Object {U : State} {a : Array Value} (h : TB U) : (Cond.superclass "java/lang/Throwable" "java/lang/Object").before a U = true := tb_of h 229 (by decide +kernel) rfl
theorem zi_Throwable_init {U : State} {a : Array Value} (h : TB U) : (Cond.instanceMethod ⟨"java/lang/Throwable", "<init>", "()V"⟩).before a U = true := tb_of h 230 (by decide +kernel) rfl
theorem zk_Throwable_init {U : State} {a : Array Value} (h : TB U) : (Cond.code ⟨"java/lang/Throwable", "<init>", "()V"⟩ prog_26_method_1_code 1 (none)).before a U = true := tb_of h 231 (by decide +kernel) rfl
theorem zm_Throwable_1 {U : State} {a : Array Value} (h : TB U) : (Cond.methodLink "java/lang/Throwable" 1 ⟨"java/lang/Object", "<init>", "()V"⟩).before a U = true := tb_of h 232 (by decide +kernel) rfl
theorem zf_Throwable_13 {U : State} {a : Array Value} (h : TB U) : (Cond.fieldLink "java/lang/Throwable" 13 "java/lang/Throwable" "UNASSIGNED_STACK" "[Ljava/lang/StackTraceElement;").before a U = true := tb_of h 233 (by decide +kernel) rfl
theorem zf_Throwable_20 {U : State} {a : Array Value} (h : TB U) : (Cond.fieldLink "java/lang/Throwable" 20 "java/lang/Throwable" "SUPPRESSED_SENTINEL" "Ljava/util/List;").before a U = true := tb_of h 235 (by decide +kernel) rfl
theorem zm_Throwable_27 {U : State} {a : Array Value} (h : TB U) : (Cond.methodLink "java/lang/Throwable" 27 ⟨"java/lang/Throwable", "fillInStackTrace", "()Ljava/lang/Throwable;"⟩).before a U = true := tb_of h 237 (by decide +kernel) rfl
theorem zi_Throwable_fillInStackTrace {U : State} {a : Array Value} (h : TB U) : (Cond.instanceMethod ⟨"java/lang/Throwable", "fillInStackTrace", "()Ljava/lang/Throwable;"⟩).before a U = true := tb_of h 238 (by decide +kernel) rfl
theorem zM_Throwable_fillInStackTrace {U : State} {a : Array Value} (h : TB U) : (Cond.sameMethod "java/lang/Throwable" "java/lang/Throwable" "fillInStackTrace" "()Ljava/lang/Throwable;").before a U = true := tb_of h 239 (by decide +kernel) rfl
theorem zs_IllegalStateException_Throwable_fillInStackTrace {U : State} {a : Array Value} (h : TB U) : (Cond.selects "java/lang/IllegalStateException" ⟨"java/lang/Throwable", "fillInStackTrace", "()Ljava/lang/Throwable;"⟩ ⟨"java/lang/Throwable", "fillInStackTrace", "()Ljava/lang/Throwable;"⟩).before a U = true := tb_of h 240 (by decide +kernel) rfl
theorem zs_IndexOutOfBoundsException_Throwable_fillInStackTrace {U : State} {a : Array Value} (h : TB U) : (Cond.selects "java/lang/IndexOutOfBoundsException" ⟨"java/lang/Throwable", "fillInStackTrace", "()Ljava/lang/Throwable;"⟩ ⟨"java/lang/Throwable", "fillInStackTrace", "()Ljava/lang/Throwable;"⟩).before a U = true := tb_of h 241 (by decide +kernel) rfl
theorem zm_Throwable_202 {U : State} {a : Array Value} (h : TB U) : (Cond.methodLink "java/lang/Throwable" 202 ⟨"java/lang/Throwable", "fillInStackTrace", "(I)Ljava/lang/Throwable;"⟩).before a U = true := tb_of h 243 (by decide +kernel) rfl
theorem zI_Throwable {U : State} {a : Array Value} (h : TB U) : (Cond.instantiable "java/lang/Throwable" 6).before a U = true := tb_of h 246 (by decide +kernel) rfl
theorem zN_Throwable_fillInStackTrace {U : State} {a : Array Value} (h : TB U) : (Cond.native ⟨"java/lang/Throwable", "fillInStackTrace", "(I)Ljava/lang/Throwable;"⟩).before a U = true := tb_of h 247 (by decide +kernel) rfl
theorem zm_X6_90 {U : State} {a : Array Value} (h : TB U) : (Cond.methodLink RX6 90 ⟨"java/lang/IllegalArgumentException", "<init>", "(Ljava/lang/String;)V"⟩).before a U = true := tb_of h 249 (by decide +kernel) rfl
theorem zi_IllegalArgumentException_init {U : State} {a : Array Value} (h : TB U) : (Cond.instanceMethod ⟨"java/lang/IllegalArgumentException", "<init>", "(Ljava/lang/String;)V"⟩).before a U = true := tb_of h 250 (by decide +kernel) rfl
theorem zk_IllegalArgumentException_init {U : State} {a : Array Value} (h : TB U) : (Cond.code ⟨"java/lang/IllegalArgumentException", "<init>", "(Ljava/lang/String;)V"⟩ prog_18_method_2_code 2 (none)).before a U = true := tb_of h 251 (by decide +kernel) rfl
theorem zm_IllegalArgumentException_7 {U : State} {a : Array Value} (h : TB U) : (Cond.methodLink "java/lang/IllegalArgumentException" 7 ⟨"java/lang/RuntimeException", "<init>", "(Ljava/lang/String;)V"⟩).before a U = true := tb_of h 252 (by decide +kernel) rfl
theorem zi_RuntimeException_init {U : State} {a : Array Value} (h : TB U) : (Cond.instanceMethod ⟨"java/lang/RuntimeException", "<init>", "(Ljava/lang/String;)V"⟩).before a U = true := tb_of h 253 (by decide +kernel) rfl
theorem zk_RuntimeException_init {U : State} {a : Array Value} (h : TB U) : (Cond.code ⟨"java/lang/RuntimeException", "<init>", "(Ljava/lang/String;)V"⟩ prog_23_method_2_code 2 (none)).before a U = true := tb_of h 254 (by decide +kernel) rfl
theorem zm_RuntimeException_7 {U : State} {a : Array Value} (h : TB U) : (Cond.methodLink "java/lang/RuntimeException" 7 ⟨"java/lang/Exception", "<init>", "(Ljava/lang/String;)V"⟩).before a U = true := tb_of h 255 (by decide +kernel) rfl
theorem zi_Exception_init {U : State} {a : Array Value} (h : TB U) : (Cond.instanceMethod ⟨"java/lang/Exception", "<init>", "(Ljava/lang/String;)V"⟩).before a U = true := tb_of h 256 (by decide +kernel) rfl
theorem zk_Exception_init {U : State} {a : Array Value} (h : TB U) : (Cond.code ⟨"java/lang/Exception", "<init>", "(Ljava/lang/String;)V"⟩ prog_17_method_2_code 2 (none)).before a U = true := tb_of h 257 (by decide +kernel) rfl
theorem zm_Exception_7 {U : State} {a : Array Value} (h : TB U) : (Cond.methodLink "java/lang/Exception" 7 ⟨"java/lang/Throwable", "<init>", "(Ljava/lang/String;)V"⟩).before a U = true := tb_of h 258 (by decide +kernel) rfl
theorem zf_Throwable_31 {U : State} {a : Array Value} (h : TB U) : (Cond.fieldLink "java/lang/Throwable" 31 "java/lang/Throwable" "detailMessage" "Ljava/lang/String;").before a U = true := tb_of h 262 (by decide +kernel) rfl
theorem zf_Throwable_7 {U : State} {a : Array Value} (h : TB U) : (Cond.fieldLink "java/lang/Throwable" 7 "java/lang/Throwable" "cause" "Ljava/lang/Throwable;").before a U = true := tb_of h 263 (by decide +kernel) rfl
theorem zf_Throwable_17 {U : State} {a : Array Value} (h : TB U) : (Cond.fieldLink "java/lang/Throwable" 17 "java/lang/Throwable" "stackTrace" "[Ljava/lang/StackTraceElement;").before a U = true := tb_of h 264 (by decide +kernel) rfl
theorem zf_Throwable_24 {U : State} {a : Array Value} (h : TB U) : (Cond.fieldLink "java/lang/Throwable" 24 "java/lang/Throwable" "suppressedExceptions" "Ljava/util/List;").before a U = true := tb_of h 265 (by decide +kernel) rfl
theorem zS_IllegalArgumentException_RuntimeException {U : State} {a : Array Value} (h : TB U) : (Cond.superclass "java/lang/IllegalArgumentException" "java/lang/RuntimeException").before a U = true := tb_of h 273 (by decide +kernel) rfl
theorem zA_217 {U : State} {a : Array Value} (h : TB U) : (Cond.arrayClass .byte).before a U = true := tb_of h 274 (by decide +kernel) rfl
theorem zm_X6_265 {U : State} {a : Array Value} (h : TB U) : (Cond.methodLink RX6 265 yX6_countFreeReceipts).before a U = true := tb_of h 275 (by decide +kernel) rfl
theorem zi_X6_countFreeReceipts {U : State} {a : Array Value} (h : TB U) : (Cond.instanceMethod yX6_countFreeReceipts).before a U = true := tb_of h 277 (by decide +kernel) rfl
theorem zk_X6_countFreeReceipts {U : State} {a : Array Value} (h : TB U) : (Cond.code yX6_countFreeReceipts cX6_countFreeReceipts 3 (some .int)).before a U = true := tb_of h 278 (by decide +kernel) rfl
theorem zc_X6_177 {U : State} {a : Array Value} (h : TB U) : (Cond.classLink RX6 177 RX3).before a U = true := tb_of h 279 (by decide +kernel) rfl
theorem zm_X6_268 {U : State} {a : Array Value} (h : TB U) : (Cond.methodLink RX6 268 yX6_amountNotRepaid).before a U = true := tb_of h 280 (by decide +kernel) rfl
theorem zi_X6_amountNotRepaid {U : State} {a : Array Value} (h : TB U) : (Cond.instanceMethod yX6_amountNotRepaid).before a U = true := tb_of h 282 (by decide +kernel) rfl
theorem zk_X6_amountNotRepaid {U : State} {a : Array Value} (h : TB U) : (Cond.code yX6_amountNotRepaid cX6_amountNotRepaid 4 (some .int)).before a U = true := tb_of h 283 (by decide +kernel) rfl
theorem zc_X6_155 {U : State} {a : Array Value} (h : TB U) : (Cond.classLink RX6 155 RX0).before a U = true := tb_of h 284 (by decide +kernel) rfl
theorem zm_X6_271 {U : State} {a : Array Value} (h : TB U) : (Cond.methodLink RX6 271 yX6_costOfAll).before a U = true := tb_of h 285 (by decide +kernel) rfl
theorem zi_X6_costOfAll {U : State} {a : Array Value} (h : TB U) : (Cond.instanceMethod yX6_costOfAll).before a U = true := tb_of h 287 (by decide +kernel) rfl
theorem zk_X6_costOfAll {U : State} {a : Array Value} (h : TB U) : (Cond.code yX6_costOfAll cX6_costOfAll 3 (some .int)).before a U = true := tb_of h 288 (by decide +kernel) rfl
theorem zm_X6_231 {U : State} {a : Array Value} (h : TB U) : (Cond.methodLink RX6 231 yX6_costOf).before a U = true := tb_of h 289 (by decide +kernel) rfl
theorem zi_X6_costOf {U : State} {a : Array Value} (h : TB U) : (Cond.instanceMethod yX6_costOf).before a U = true := tb_of h 291 (by decide +kernel) rfl
theorem zk_X6_costOf {U : State} {a : Array Value} (h : TB U) : (Cond.code yX6_costOf cX6_costOf 3 (some .int)).before a U = true := tb_of h 292 (by decide +kernel) rfl
theorem zm_X6_227 {U : State} {a : Array Value} (h : TB U) : (Cond.methodLink RX6 227 yX6_taxOf).before a U = true := tb_of h 293 (by decide +kernel) rfl
theorem zi_X6_taxOf {U : State} {a : Array Value} (h : TB U) : (Cond.instanceMethod yX6_taxOf).before a U = true := tb_of h 295 (by decide +kernel) rfl
theorem zk_X6_taxOf {U : State} {a : Array Value} (h : TB U) : (Cond.code yX6_taxOf cX6_taxOf 4 (some .int)).before a U = true := tb_of h 296 (by decide +kernel) rfl
theorem zm_X6_361 {U : State} {a : Array Value} (h : TB U) : (Cond.methodLink RX6 361 yX4_at).before a U = true := tb_of h 297 (by decide +kernel) rfl
theorem zi_X4_at {U : State} {a : Array Value} (h : TB U) : (Cond.instanceMethod yX4_at).before a U = true := tb_of h 298 (by decide +kernel) rfl
theorem zs_X4_X4_at {U : State} {a : Array Value} (h : TB U) : (Cond.selects RX4 yX4_at yX4_at).before a U = true := tb_of h 299 (by decide +kernel) rfl
theorem zk_X4_at {U : State} {a : Array Value} (h : TB U) : (Cond.code yX4_at cX4_at 4 (some .int)).before a U = true := tb_of h 300 (by decide +kernel) rfl
theorem zm_X6_207 {U : State} {a : Array Value} (h : TB U) : (Cond.methodLink RX6 207 yX6_countInState).before a U = true := tb_of h 301 (by decide +kernel) rfl
theorem zi_X6_countInState {U : State} {a : Array Value} (h : TB U) : (Cond.instanceMethod yX6_countInState).before a U = true := tb_of h 303 (by decide +kernel) rfl
theorem zk_X6_countInState {U : State} {a : Array Value} (h : TB U) : (Cond.code yX6_countInState cX6_countInState 4 (some .int)).before a U = true := tb_of h 304 (by decide +kernel) rfl
theorem zm_X6_300 {U : State} {a : Array Value} (h : TB U) : (Cond.methodLink RX6 300 yX6_mixed).before a U = true := tb_of h 305 (by decide +kernel) rfl
theorem zt_X6_mixed {U : State} {a : Array Value} (h : TB U) : (Cond.static yX6_mixed).before a U = true := tb_of h 306 (by decide +kernel) rfl
theorem zk_X6_mixed {U : State} {a : Array Value} (h : TB U) : (Cond.code yX6_mixed cX6_mixed 3 (some .long)).before a U = true := tb_of h 307 (by decide +kernel) rfl
theorem zl_X6_412 {U : State} {a : Array Value} (h : TB U) : (Cond.constantLong RX6 412 (31)).before a U = true := tb_of h 308 (by decide +kernel) rfl
theorem zm_X6_304 {U : State} {a : Array Value} (h : TB U) : (Cond.methodLink RX6 304 yX6_withPeople).before a U = true := tb_of h 309 (by decide +kernel) rfl
theorem zi_X6_withPeople {U : State} {a : Array Value} (h : TB U) : (Cond.instanceMethod yX6_withPeople).before a U = true := tb_of h 311 (by decide +kernel) rfl
theorem zk_X6_withPeople {U : State} {a : Array Value} (h : TB U) : (Cond.code yX6_withPeople cX6_withPeople 7 (some .long)).before a U = true := tb_of h 312 (by decide +kernel) rfl
theorem zm_X6_414 {U : State} {a : Array Value} (h : TB U) : (Cond.methodLink RX6 414 yX6_ofPerson).before a U = true := tb_of h 313 (by decide +kernel) rfl
theorem zi_X6_ofPerson {U : State} {a : Array Value} (h : TB U) : (Cond.instanceMethod yX6_ofPerson).before a U = true := tb_of h 314 (by decide +kernel) rfl
theorem zs_X6_X6_ofPerson {U : State} {a : Array Value} (h : TB U) : (Cond.selects RX6 yX6_ofPerson yX6_ofPerson).before a U = true := tb_of h 315 (by decide +kernel) rfl
theorem zk_X6_ofPerson {U : State} {a : Array Value} (h : TB U) : (Cond.code yX6_ofPerson cX6_ofPerson 4 (some .int)).before a U = true := tb_of h 316 (by decide +kernel) rfl
theorem zm_X6_47 {U : State} {a : Array Value} (h : TB U) : (Cond.methodLink RX6 47 yX6_personAt).before a U = true := tb_of h 317 (by decide +kernel) rfl
theorem zi_X6_personAt {U : State} {a : Array Value} (h : TB U) : (Cond.instanceMethod yX6_personAt).before a U = true := tb_of h 319 (by decide +kernel) rfl
theorem zk_X6_personAt {U : State} {a : Array Value} (h : TB U) : (Cond.code yX6_personAt cX6_personAt 2 (some (.object "ApprovalGrid$Person"))).before a U = true := tb_of h 320 (by decide +kernel) rfl
theorem zc_X6_320 {U : State} {a : Array Value} (h : TB U) : (Cond.classLink RX6 320 "java/lang/IndexOutOfBoundsException").before a U = true := tb_of h 321 (by decide +kernel) rfl
theorem zI_IndexOutOfBoundsException {U : State} {a : Array Value} (h : TB U) : (Cond.instantiable "java/lang/IndexOutOfBoundsException" 6).before a U = true := tb_of h 322 (by decide +kernel) rfl
theorem zm_X6_324 {U : State} {a : Array Value} (h : TB U) : (Cond.methodLink RX6 324 ⟨"java/lang/IndexOutOfBoundsException", "<init>", "(Ljava/lang/String;)V"⟩).before a U = true := tb_of h 331 (by decide +kernel) rfl
theorem zi_IndexOutOfBoundsException_init {U : State} {a : Array Value} (h : TB U) : (Cond.instanceMethod ⟨"java/lang/IndexOutOfBoundsException", "<init>", "(Ljava/lang/String;)V"⟩).before a U = true := tb_of h 332 (by decide +kernel) rfl
theorem zk_IndexOutOfBoundsException_init {U : State} {a : Array Value} (h : TB U) : (Cond.code ⟨"java/lang/IndexOutOfBoundsException", "<init>", "(Ljava/lang/String;)V"⟩ prog_20_method_2_code 2 (none)).before a U = true := tb_of h 333 (by decide +kernel) rfl
theorem zm_IndexOutOfBoundsException_7 {U : State} {a : Array Value} (h : TB U) : (Cond.methodLink "java/lang/IndexOutOfBoundsException" 7 ⟨"java/lang/RuntimeException", "<init>", "(Ljava/lang/String;)V"⟩).before a U = true := tb_of h 334 (by decide +kernel) rfl
theorem zS_IndexOutOfBoundsException_RuntimeException {U : State} {a : Array Value} (h : TB U) : (Cond.superclass "java/lang/IndexOutOfBoundsException" "java/lang/RuntimeException").before a U = true := tb_of h 336 (by decide +kernel) rfl
theorem zm_X6_119 {U : State} {a : Array Value} (h : TB U) : (Cond.methodLink RX6 119 yX6_numberOf).before a U = true := tb_of h 337 (by decide +kernel) rfl
theorem zt_X6_numberOf {U : State} {a : Array Value} (h : TB U) : (Cond.static yX6_numberOf).before a U = true := tb_of h 338 (by decide +kernel) rfl
theorem zk_X6_numberOf {U : State} {a : Array Value} (h : TB U) : (Cond.code yX6_numberOf cX6_numberOf 1 (some .int)).before a U = true := tb_of h 339 (by decide +kernel) rfl
theorem zm_X6_91 {U : State} {a : Array Value} (h : TB U) : (Cond.methodLink RX6 91 yX2_isAwayOn).before a U = true := tb_of h 340 (by decide +kernel) rfl
theorem zi_X2_isAwayOn {U : State} {a : Array Value} (h : TB U) : (Cond.instanceMethod yX2_isAwayOn).before a U = true := tb_of h 341 (by decide +kernel) rfl
theorem zs_X2_X2_isAwayOn {U : State} {a : Array Value} (h : TB U) : (Cond.selects RX2 yX2_isAwayOn yX2_isAwayOn).before a U = true := tb_of h 342 (by decide +kernel) rfl
theorem zk_X2_isAwayOn {U : State} {a : Array Value} (h : TB U) : (Cond.code yX2_isAwayOn cX2_isAwayOn 2 (some .boolean)).before a U = true := tb_of h 343 (by decide +kernel) rfl
theorem zm_X6_129 {U : State} {a : Array Value} (h : TB U) : (Cond.methodLink RX6 129 yX6_countOpenOf).before a U = true := tb_of h 344 (by decide +kernel) rfl
theorem zi_X6_countOpenOf {U : State} {a : Array Value} (h : TB U) : (Cond.instanceMethod yX6_countOpenOf).before a U = true := tb_of h 346 (by decide +kernel) rfl
theorem zk_X6_countOpenOf {U : State} {a : Array Value} (h : TB U) : (Cond.code yX6_countOpenOf cX6_countOpenOf 5 (some .int)).before a U = true := tb_of h 347 (by decide +kernel) rfl
theorem zm_X6_133 {U : State} {a : Array Value} (h : TB U) : (Cond.methodLink RX6 133 yX6_repaidAmountOf).before a U = true := tb_of h 348 (by decide +kernel) rfl
theorem zi_X6_repaidAmountOf {U : State} {a : Array Value} (h : TB U) : (Cond.instanceMethod yX6_repaidAmountOf).before a U = true := tb_of h 350 (by decide +kernel) rfl
theorem zk_X6_repaidAmountOf {U : State} {a : Array Value} (h : TB U) : (Cond.code yX6_repaidAmountOf cX6_repaidAmountOf 5 (some .int)).before a U = true := tb_of h 351 (by decide +kernel) rfl
theorem zm_X6_136 {U : State} {a : Array Value} (h : TB U) : (Cond.methodLink RX6 136 yX6_countToApproveBy).before a U = true := tb_of h 352 (by decide +kernel) rfl
theorem zi_X6_countToApproveBy {U : State} {a : Array Value} (h : TB U) : (Cond.instanceMethod yX6_countToApproveBy).before a U = true := tb_of h 354 (by decide +kernel) rfl
theorem zk_X6_countToApproveBy {U : State} {a : Array Value} (h : TB U) : (Cond.code yX6_countToApproveBy cX6_countToApproveBy 4 (some .int)).before a U = true := tb_of h 355 (by decide +kernel) rfl
theorem zm_X6_235 {U : State} {a : Array Value} (h : TB U) : (Cond.methodLink RX6 235 yX6_nextApproverOf).before a U = true := tb_of h 356 (by decide +kernel) rfl
theorem zi_X6_nextApproverOf {U : State} {a : Array Value} (h : TB U) : (Cond.instanceMethod yX6_nextApproverOf).before a U = true := tb_of h 358 (by decide +kernel) rfl
theorem zk_X6_nextApproverOf {U : State} {a : Array Value} (h : TB U) : (Cond.code yX6_nextApproverOf cX6_nextApproverOf 4 (some (.object "ApprovalGrid$Person"))).before a U = true := tb_of h 359 (by decide +kernel) rfl
theorem zm_X6_405 {U : State} {a : Array Value} (h : TB U) : (Cond.methodLink RX6 405 yX0_bossOfNextStep).before a U = true := tb_of h 360 (by decide +kernel) rfl
theorem zi_X0_bossOfNextStep {U : State} {a : Array Value} (h : TB U) : (Cond.instanceMethod yX0_bossOfNextStep).before a U = true := tb_of h 361 (by decide +kernel) rfl
theorem zs_X0_X0_bossOfNextStep {U : State} {a : Array Value} (h : TB U) : (Cond.selects RX0 yX0_bossOfNextStep yX0_bossOfNextStep).before a U = true := tb_of h 362 (by decide +kernel) rfl
theorem zk_X0_bossOfNextStep {U : State} {a : Array Value} (h : TB U) : (Cond.code yX0_bossOfNextStep cX0_bossOfNextStep 3 (some (.object "ApprovalGrid$Person"))).before a U = true := tb_of h 363 (by decide +kernel) rfl
theorem zm_X0_66 {U : State} {a : Array Value} (h : TB U) : (Cond.methodLink RX0 66 yX0_stepsNeeded).before a U = true := tb_of h 364 (by decide +kernel) rfl
theorem zi_X0_stepsNeeded {U : State} {a : Array Value} (h : TB U) : (Cond.instanceMethod yX0_stepsNeeded).before a U = true := tb_of h 365 (by decide +kernel) rfl
theorem zs_X0_X0_stepsNeeded {U : State} {a : Array Value} (h : TB U) : (Cond.selects RX0 yX0_stepsNeeded yX0_stepsNeeded).before a U = true := tb_of h 366 (by decide +kernel) rfl
theorem zk_X0_stepsNeeded {U : State} {a : Array Value} (h : TB U) : (Cond.code yX0_stepsNeeded cX0_stepsNeeded 4 (some .int)).before a U = true := tb_of h 367 (by decide +kernel) rfl
theorem zm_X6_417 {U : State} {a : Array Value} (h : TB U) : (Cond.methodLink RX6 417 yX6_maySpend).before a U = true := tb_of h 368 (by decide +kernel) rfl
theorem zi_X6_maySpend {U : State} {a : Array Value} (h : TB U) : (Cond.instanceMethod yX6_maySpend).before a U = true := tb_of h 369 (by decide +kernel) rfl
theorem zs_X6_X6_maySpend {U : State} {a : Array Value} (h : TB U) : (Cond.selects RX6 yX6_maySpend yX6_maySpend).before a U = true := tb_of h 370 (by decide +kernel) rfl
theorem zk_X6_maySpend {U : State} {a : Array Value} (h : TB U) : (Cond.code yX6_maySpend cX6_maySpend 5 (some .int)).before a U = true := tb_of h 371 (by decide +kernel) rfl
theorem zm_X6_74 {U : State} {a : Array Value} (h : TB U) : (Cond.methodLink RX6 74 yX6_checkKind).before a U = true := tb_of h 372 (by decide +kernel) rfl
theorem zt_X6_checkKind {U : State} {a : Array Value} (h : TB U) : (Cond.static yX6_checkKind).before a U = true := tb_of h 373 (by decide +kernel) rfl
theorem zk_X6_checkKind {U : State} {a : Array Value} (h : TB U) : (Cond.code yX6_checkKind cX6_checkKind 1 (none)).before a U = true := tb_of h 374 (by decide +kernel) rfl
theorem zm_X6_105 {U : State} {a : Array Value} (h : TB U) : (Cond.methodLink RX6 105 yX6_checkLand).before a U = true := tb_of h 376 (by decide +kernel) rfl
theorem zt_X6_checkLand {U : State} {a : Array Value} (h : TB U) : (Cond.static yX6_checkLand).before a U = true := tb_of h 377 (by decide +kernel) rfl
theorem zk_X6_checkLand {U : State} {a : Array Value} (h : TB U) : (Cond.code yX6_checkLand cX6_checkLand 1 (none)).before a U = true := tb_of h 378 (by decide +kernel) rfl
theorem zm_X6_139 {U : State} {a : Array Value} (h : TB U) : (Cond.methodLink RX6 139 yX6_spendableBy).before a U = true := tb_of h 380 (by decide +kernel) rfl
theorem zi_X6_spendableBy {U : State} {a : Array Value} (h : TB U) : (Cond.instanceMethod yX6_spendableBy).before a U = true := tb_of h 382 (by decide +kernel) rfl
theorem zk_X6_spendableBy {U : State} {a : Array Value} (h : TB U) : (Cond.code yX6_spendableBy cX6_spendableBy 6 (some .int)).before a U = true := tb_of h 383 (by decide +kernel) rfl
theorem zm_X6_160 {U : State} {a : Array Value} (h : TB U) : (Cond.methodLink RX6 160 yX6_tripToday).before a U = true := tb_of h 384 (by decide +kernel) rfl
theorem zi_X6_tripToday {U : State} {a : Array Value} (h : TB U) : (Cond.instanceMethod yX6_tripToday).before a U = true := tb_of h 386 (by decide +kernel) rfl
theorem zk_X6_tripToday {U : State} {a : Array Value} (h : TB U) : (Cond.code yX6_tripToday cX6_tripToday 5 (some (.object "ApprovalGrid$Trip"))).before a U = true := tb_of h 387 (by decide +kernel) rfl
theorem zc_X6_110 {U : State} {a : Array Value} (h : TB U) : (Cond.classLink RX6 110 RX5).before a U = true := tb_of h 388 (by decide +kernel) rfl
theorem zm_X6_357 {U : State} {a : Array Value} (h : TB U) : (Cond.methodLink RX6 357 yX6_spentOnTrip).before a U = true := tb_of h 389 (by decide +kernel) rfl
theorem zi_X6_spentOnTrip {U : State} {a : Array Value} (h : TB U) : (Cond.instanceMethod yX6_spentOnTrip).before a U = true := tb_of h 391 (by decide +kernel) rfl
theorem zk_X6_spentOnTrip {U : State} {a : Array Value} (h : TB U) : (Cond.code yX6_spentOnTrip cX6_spentOnTrip 5 (some .int)).before a U = true := tb_of h 392 (by decide +kernel) rfl
theorem zm_X6_364 {U : State} {a : Array Value} (h : TB U) : (Cond.methodLink RX6 364 yX6_spentOffTrips).before a U = true := tb_of h 393 (by decide +kernel) rfl
theorem zi_X6_spentOffTrips {U : State} {a : Array Value} (h : TB U) : (Cond.instanceMethod yX6_spentOffTrips).before a U = true := tb_of h 395 (by decide +kernel) rfl
theorem zk_X6_spentOffTrips {U : State} {a : Array Value} (h : TB U) : (Cond.code yX6_spentOffTrips cX6_spentOffTrips 7 (some .int)).before a U = true := tb_of h 396 (by decide +kernel) rfl
theorem zm_X6_308 {U : State} {a : Array Value} (h : TB U) : (Cond.methodLink RX6 308 yX6_withBudgets).before a U = true := tb_of h 397 (by decide +kernel) rfl
theorem zi_X6_withBudgets {U : State} {a : Array Value} (h : TB U) : (Cond.instanceMethod yX6_withBudgets).before a U = true := tb_of h 399 (by decide +kernel) rfl
theorem zk_X6_withBudgets {U : State} {a : Array Value} (h : TB U) : (Cond.code yX6_withBudgets cX6_withBudgets 7 (some .long)).before a U = true := tb_of h 400 (by decide +kernel) rfl
theorem zm_X6_147 {U : State} {a : Array Value} (h : TB U) : (Cond.methodLink RX6 147 yX6_leftOf).before a U = true := tb_of h 401 (by decide +kernel) rfl
theorem zi_X6_leftOf {U : State} {a : Array Value} (h : TB U) : (Cond.instanceMethod yX6_leftOf).before a U = true := tb_of h 403 (by decide +kernel) rfl
theorem zk_X6_leftOf {U : State} {a : Array Value} (h : TB U) : (Cond.code yX6_leftOf cX6_leftOf 7 (some .int)).before a U = true := tb_of h 404 (by decide +kernel) rfl
theorem zm_X6_292 {U : State} {a : Array Value} (h : TB U) : (Cond.methodLink RX6 292 yJ9_max_7cf53).before a U = true := tb_of h 405 (by decide +kernel) rfl
theorem zm_X6_368 {U : State} {a : Array Value} (h : TB U) : (Cond.methodLink RX6 368 yX6_costIn).before a U = true := tb_of h 406 (by decide +kernel) rfl
theorem zi_X6_costIn {U : State} {a : Array Value} (h : TB U) : (Cond.instanceMethod yX6_costIn).before a U = true := tb_of h 408 (by decide +kernel) rfl
theorem zk_X6_costIn {U : State} {a : Array Value} (h : TB U) : (Cond.code yX6_costIn cX6_costIn 7 (some .int)).before a U = true := tb_of h 409 (by decide +kernel) rfl
theorem zm_X6_311 {U : State} {a : Array Value} (h : TB U) : (Cond.methodLink RX6 311 yX6_withCharges).before a U = true := tb_of h 410 (by decide +kernel) rfl
theorem zi_X6_withCharges {U : State} {a : Array Value} (h : TB U) : (Cond.instanceMethod yX6_withCharges).before a U = true := tb_of h 412 (by decide +kernel) rfl
theorem zk_X6_withCharges {U : State} {a : Array Value} (h : TB U) : (Cond.code yX6_withCharges cX6_withCharges 7 (some .long)).before a U = true := tb_of h 413 (by decide +kernel) rfl
theorem zm_X6_420 {U : State} {a : Array Value} (h : TB U) : (Cond.methodLink RX6 420 yX6_ofCharge).before a U = true := tb_of h 414 (by decide +kernel) rfl
theorem zi_X6_ofCharge {U : State} {a : Array Value} (h : TB U) : (Cond.instanceMethod yX6_ofCharge).before a U = true := tb_of h 415 (by decide +kernel) rfl
theorem zs_X6_X6_ofCharge {U : State} {a : Array Value} (h : TB U) : (Cond.selects RX6 yX6_ofCharge yX6_ofCharge).before a U = true := tb_of h 416 (by decide +kernel) rfl
theorem zk_X6_ofCharge {U : State} {a : Array Value} (h : TB U) : (Cond.code yX6_ofCharge cX6_ofCharge 4 (some .int)).before a U = true := tb_of h 417 (by decide +kernel) rfl
theorem zm_X6_186 {U : State} {a : Array Value} (h : TB U) : (Cond.methodLink RX6 186 yX6_chargeAt).before a U = true := tb_of h 418 (by decide +kernel) rfl
theorem zi_X6_chargeAt {U : State} {a : Array Value} (h : TB U) : (Cond.instanceMethod yX6_chargeAt).before a U = true := tb_of h 420 (by decide +kernel) rfl
theorem zk_X6_chargeAt {U : State} {a : Array Value} (h : TB U) : (Cond.code yX6_chargeAt cX6_chargeAt 2 (some (.object "ApprovalGrid$Charge"))).before a U = true := tb_of h 421 (by decide +kernel) rfl
theorem zm_X6_314 {U : State} {a : Array Value} (h : TB U) : (Cond.methodLink RX6 314 yX6_ofReceipt).before a U = true := tb_of h 423 (by decide +kernel) rfl
theorem zi_X6_ofReceipt {U : State} {a : Array Value} (h : TB U) : (Cond.instanceMethod yX6_ofReceipt).before a U = true := tb_of h 424 (by decide +kernel) rfl
theorem zs_X6_X6_ofReceipt {U : State} {a : Array Value} (h : TB U) : (Cond.selects RX6 yX6_ofReceipt yX6_ofReceipt).before a U = true := tb_of h 425 (by decide +kernel) rfl
theorem zk_X6_ofReceipt {U : State} {a : Array Value} (h : TB U) : (Cond.code yX6_ofReceipt cX6_ofReceipt 2 (some .int)).before a U = true := tb_of h 426 (by decide +kernel) rfl
theorem zm_X6_243 {U : State} {a : Array Value} (h : TB U) : (Cond.methodLink RX6 243 yX6_receiptAt).before a U = true := tb_of h 427 (by decide +kernel) rfl
theorem zi_X6_receiptAt {U : State} {a : Array Value} (h : TB U) : (Cond.instanceMethod yX6_receiptAt).before a U = true := tb_of h 429 (by decide +kernel) rfl
theorem zk_X6_receiptAt {U : State} {a : Array Value} (h : TB U) : (Cond.code yX6_receiptAt cX6_receiptAt 2 (some (.object "ApprovalGrid$Receipt"))).before a U = true := tb_of h 430 (by decide +kernel) rfl
theorem zm_X6_317 {U : State} {a : Array Value} (h : TB U) : (Cond.methodLink RX6 317 yX6_trustBehind).before a U = true := tb_of h 432 (by decide +kernel) rfl
theorem zi_X6_trustBehind {U : State} {a : Array Value} (h : TB U) : (Cond.instanceMethod yX6_trustBehind).before a U = true := tb_of h 433 (by decide +kernel) rfl
theorem zs_X6_X6_trustBehind {U : State} {a : Array Value} (h : TB U) : (Cond.selects RX6 yX6_trustBehind yX6_trustBehind).before a U = true := tb_of h 434 (by decide +kernel) rfl
theorem zk_X6_trustBehind {U : State} {a : Array Value} (h : TB U) : (Cond.code yX6_trustBehind cX6_trustBehind 8 (some .int)).before a U = true := tb_of h 435 (by decide +kernel) rfl
theorem zm_X6_282 {U : State} {a : Array Value} (h : TB U) : (Cond.methodLink RX6 282 yJ9_min_7cf53).before a U = true := tb_of h 436 (by decide +kernel) rfl
theorem zt_J9_min_7cf53 {U : State} {a : Array Value} (h : TB U) : (Cond.static yJ9_min_7cf53).before a U = true := tb_of h 437 (by decide +kernel) rfl
theorem zk_J9_min_7cf53 {U : State} {a : Array Value} (h : TB U) : (Cond.code yJ9_min_7cf53 cJ9_min_7cf53 2 (some .int)).before a U = true := tb_of h 438 (by decide +kernel) rfl
theorem zm_X6_288 {U : State} {a : Array Value} (h : TB U) : (Cond.methodLink RX6 288 yX6_trustLostBy).before a U = true := tb_of h 439 (by decide +kernel) rfl
theorem zi_X6_trustLostBy {U : State} {a : Array Value} (h : TB U) : (Cond.instanceMethod yX6_trustLostBy).before a U = true := tb_of h 441 (by decide +kernel) rfl
theorem zk_X6_trustLostBy {U : State} {a : Array Value} (h : TB U) : (Cond.code yX6_trustLostBy cX6_trustLostBy 6 (some .int)).before a U = true := tb_of h 442 (by decide +kernel) rfl
theorem zm_L_98 {U : State} {a : Array Value} (h : TB U) : (Cond.methodLink RL 98 yL_person).before a U = true := tb_of h 443 (by decide +kernel) rfl
theorem zt_L_person {U : State} {a : Array Value} (h : TB U) : (Cond.static yL_person).before a U = true := tb_of h 444 (by decide +kernel) rfl
theorem zh_L_person {U : State} {a : Array Value} (h : TB U) : (Cond.codeWith yL_person cL_person 4 (some .int) [(0, 9, 12, 13), (0, 9, 15, 15)]).before a U = true := tb_of h 445 (by decide +kernel) rfl
theorem zc_L_13 {U : State} {a : Array Value} (h : TB U) : (Cond.classLink RL 13 "java/lang/IndexOutOfBoundsException").before a U = true := tb_of h 446 (by decide +kernel) rfl
theorem zc_L_15 {U : State} {a : Array Value} (h : TB U) : (Cond.classLink RL 15 "java/lang/IllegalStateException").before a U = true := tb_of h 447 (by decide +kernel) rfl
theorem zm_L_7 {U : State} {a : Array Value} (h : TB U) : (Cond.methodLink RL 7 yX6_person).before a U = true := tb_of h 448 (by decide +kernel) rfl
theorem zi_X6_person {U : State} {a : Array Value} (h : TB U) : (Cond.instanceMethod yX6_person).before a U = true := tb_of h 449 (by decide +kernel) rfl
theorem zs_X6_X6_person {U : State} {a : Array Value} (h : TB U) : (Cond.selects RX6 yX6_person yX6_person).before a U = true := tb_of h 450 (by decide +kernel) rfl
theorem zk_X6_person {U : State} {a : Array Value} (h : TB U) : (Cond.code yX6_person cX6_person 4 (some .int)).before a U = true := tb_of h 451 (by decide +kernel) rfl
theorem zc_X6_55 {U : State} {a : Array Value} (h : TB U) : (Cond.classLink RX6 55 "java/lang/IllegalStateException").before a U = true := tb_of h 452 (by decide +kernel) rfl
theorem zI_IllegalStateException {U : State} {a : Array Value} (h : TB U) : (Cond.instantiable "java/lang/IllegalStateException" 6).before a U = true := tb_of h 453 (by decide +kernel) rfl
theorem zm_X6_59 {U : State} {a : Array Value} (h : TB U) : (Cond.methodLink RX6 59 ⟨"java/lang/IllegalStateException", "<init>", "(Ljava/lang/String;)V"⟩).before a U = true := tb_of h 462 (by decide +kernel) rfl
theorem zi_IllegalStateException_init {U : State} {a : Array Value} (h : TB U) : (Cond.instanceMethod ⟨"java/lang/IllegalStateException", "<init>", "(Ljava/lang/String;)V"⟩).before a U = true := tb_of h 463 (by decide +kernel) rfl
theorem zk_IllegalStateException_init {U : State} {a : Array Value} (h : TB U) : (Cond.code ⟨"java/lang/IllegalStateException", "<init>", "(Ljava/lang/String;)V"⟩ prog_19_method_2_code 2 (none)).before a U = true := tb_of h 464 (by decide +kernel) rfl
theorem zm_IllegalStateException_7 {U : State} {a : Array Value} (h : TB U) : (Cond.methodLink "java/lang/IllegalStateException" 7 ⟨"java/lang/RuntimeException", "<init>", "(Ljava/lang/String;)V"⟩).before a U = true := tb_of h 465 (by decide +kernel) rfl
theorem zS_IllegalStateException_RuntimeException {U : State} {a : Array Value} (h : TB U) : (Cond.superclass "java/lang/IllegalStateException" "java/lang/RuntimeException").before a U = true := tb_of h 467 (by decide +kernel) rfl
theorem zI_X2 {U : State} {a : Array Value} (h : TB U) : (Cond.instantiable RX2 6).before a U = true := tb_of h 468 (by decide +kernel) rfl
theorem zm_X6_64 {U : State} {a : Array Value} (h : TB U) : (Cond.methodLink RX6 64 yX2_init).before a U = true := tb_of h 469 (by decide +kernel) rfl
theorem zi_X2_init {U : State} {a : Array Value} (h : TB U) : (Cond.instanceMethod yX2_init).before a U = true := tb_of h 470 (by decide +kernel) rfl
theorem zk_X2_init {U : State} {a : Array Value} (h : TB U) : (Cond.code yX2_init cX2_init 3 (none)).before a U = true := tb_of h 471 (by decide +kernel) rfl
theorem zm_X2_3 {U : State} {a : Array Value} (h : TB U) : (Cond.methodLink RX2 3 yX1_init).before a U = true := tb_of h 472 (by decide +kernel) rfl
theorem zi_X1_init {U : State} {a : Array Value} (h : TB U) : (Cond.instanceMethod yX1_init).before a U = true := tb_of h 473 (by decide +kernel) rfl
theorem zk_X1_init {U : State} {a : Array Value} (h : TB U) : (Cond.code yX1_init cX1_init 2 (none)).before a U = true := tb_of h 474 (by decide +kernel) rfl
theorem zm_X1_1 {U : State} {a : Array Value} (h : TB U) : (Cond.methodLink RX1 1 ⟨"java/lang/Object", "<init>", "()V"⟩).before a U = true := tb_of h 475 (by decide +kernel) rfl
theorem zf_X2_25 {U : State} {a : Array Value} (h : TB U) : (Cond.fieldLink RX2 25 "ApprovalGrid$Person" "boss" "LApprovalGrid$Person;").before a U = true := tb_of h 476 (by decide +kernel) rfl
theorem zf_X0_61 {U : State} {a : Array Value} (h : TB U) : (Cond.fieldLink RX0 61 "ApprovalGrid$Person" "boss" "LApprovalGrid$Person;").before a U = true := tb_of h 477 (by decide +kernel) rfl
theorem zf_X6_116 {U : State} {a : Array Value} (h : TB U) : (Cond.fieldLink RX6 116 "ApprovalGrid$Person" "boss" "LApprovalGrid$Person;").before a U = true := tb_of h 478 (by decide +kernel) rfl
theorem zf_X2_9 {U : State} {a : Array Value} (h : TB U) : (Cond.fieldLink RX2 9 "ApprovalGrid$Person" "trust" "I").before a U = true := tb_of h 479 (by decide +kernel) rfl
theorem zf_X6_123 {U : State} {a : Array Value} (h : TB U) : (Cond.fieldLink RX6 123 "ApprovalGrid$Person" "trust" "I").before a U = true := tb_of h 480 (by decide +kernel) rfl
theorem zf_X2_15 {U : State} {a : Array Value} (h : TB U) : (Cond.fieldLink RX2 15 "ApprovalGrid$Person" "points" "I").before a U = true := tb_of h 481 (by decide +kernel) rfl
theorem zf_X6_126 {U : State} {a : Array Value} (h : TB U) : (Cond.fieldLink RX6 126 "ApprovalGrid$Person" "points" "I").before a U = true := tb_of h 482 (by decide +kernel) rfl
theorem zf_X2_18 {U : State} {a : Array Value} (h : TB U) : (Cond.fieldLink RX2 18 "ApprovalGrid$Person" "awayUntil" "I").before a U = true := tb_of h 483 (by decide +kernel) rfl
theorem zf_X6_95 {U : State} {a : Array Value} (h : TB U) : (Cond.fieldLink RX6 95 "ApprovalGrid$Person" "awayUntil" "I").before a U = true := tb_of h 484 (by decide +kernel) rfl
theorem zf_X2_21 {U : State} {a : Array Value} (h : TB U) : (Cond.fieldLink RX2 21 "ApprovalGrid$Person" "standIn" "LApprovalGrid$Person;").before a U = true := tb_of h 485 (by decide +kernel) rfl
theorem zf_X6_98 {U : State} {a : Array Value} (h : TB U) : (Cond.fieldLink RX6 98 "ApprovalGrid$Person" "standIn" "LApprovalGrid$Person;").before a U = true := tb_of h 486 (by decide +kernel) rfl
theorem zf_X1_7 {U : State} {a : Array Value} (h : TB U) : (Cond.fieldLink RX1 7 "ApprovalGrid$Numbered" "number" "I").before a U = true := tb_of h 487 (by decide +kernel) rfl
theorem zf_X0_52 {U : State} {a : Array Value} (h : TB U) : (Cond.fieldLink RX0 52 "ApprovalGrid$Receipt" "number" "I").before a U = true := tb_of h 488 (by decide +kernel) rfl
theorem zF_X3_number {U : State} {a : Array Value} (h : TB U) : (Cond.sameField "ApprovalGrid$Receipt" "ApprovalGrid$Numbered" "number" "I").before a U = true := tb_of h 489 (by decide +kernel) rfl
theorem zf_X6_71 {U : State} {a : Array Value} (h : TB U) : (Cond.fieldLink RX6 71 "ApprovalGrid$Person" "number" "I").before a U = true := tb_of h 490 (by decide +kernel) rfl
theorem zF_X2_number {U : State} {a : Array Value} (h : TB U) : (Cond.sameField "ApprovalGrid$Person" "ApprovalGrid$Numbered" "number" "I").before a U = true := tb_of h 491 (by decide +kernel) rfl
theorem zf_X6_115 {U : State} {a : Array Value} (h : TB U) : (Cond.fieldLink RX6 115 "ApprovalGrid$Trip" "number" "I").before a U = true := tb_of h 492 (by decide +kernel) rfl
theorem zF_X5_number {U : State} {a : Array Value} (h : TB U) : (Cond.sameField "ApprovalGrid$Trip" "ApprovalGrid$Numbered" "number" "I").before a U = true := tb_of h 493 (by decide +kernel) rfl
theorem zf_X6_171 {U : State} {a : Array Value} (h : TB U) : (Cond.fieldLink RX6 171 "ApprovalGrid$Charge" "number" "I").before a U = true := tb_of h 494 (by decide +kernel) rfl
theorem zF_X0_number {U : State} {a : Array Value} (h : TB U) : (Cond.sameField "ApprovalGrid$Charge" "ApprovalGrid$Numbered" "number" "I").before a U = true := tb_of h 495 (by decide +kernel) rfl
theorem zf_X6_341 {U : State} {a : Array Value} (h : TB U) : (Cond.fieldLink RX6 341 "ApprovalGrid$Numbered" "number" "I").before a U = true := tb_of h 496 (by decide +kernel) rfl
theorem zS_X2_X1 {U : State} {a : Array Value} (h : TB U) : (Cond.superclass RX2 RX1).before a U = true := tb_of h 509 (by decide +kernel) rfl
theorem zm_X6_67 {U : State} {a : Array Value} (h : TB U) : (Cond.methodLink RX6 67 yJx4a65c_add_9ea2d).before a U = true := tb_of h 510 (by decide +kernel) rfl
theorem zi_Jx4a65c_add_9ea2d {U : State} {a : Array Value} (h : TB U) : (Cond.instanceMethod yJx4a65c_add_9ea2d).before a U = true := tb_of h 511 (by decide +kernel) rfl
theorem zs_Jx4a65c_Jx4a65c_add_9ea2d {U : State} {a : Array Value} (h : TB U) : (Cond.selects RJx4a65c yJx4a65c_add_9ea2d yJx4a65c_add_9ea2d).before a U = true := tb_of h 512 (by decide +kernel) rfl
theorem zk_Jx4a65c_add_9ea2d {U : State} {a : Array Value} (h : TB U) : (Cond.code yJx4a65c_add_9ea2d cJx4a65c_add_9ea2d 2 (some .boolean)).before a U = true := tb_of h 513 (by decide +kernel) rfl
theorem zm_Jx4a65c_131 {U : State} {a : Array Value} (h : TB U) : (Cond.methodLink RJx4a65c 131 yJx4a65c_add_72be8).before a U = true := tb_of h 514 (by decide +kernel) rfl
theorem zi_Jx4a65c_add_72be8 {U : State} {a : Array Value} (h : TB U) : (Cond.instanceMethod yJx4a65c_add_72be8).before a U = true := tb_of h 516 (by decide +kernel) rfl
theorem zk_Jx4a65c_add_72be8 {U : State} {a : Array Value} (h : TB U) : (Cond.code yJx4a65c_add_72be8 cJx4a65c_add_72be8 4 (none)).before a U = true := tb_of h 517 (by decide +kernel) rfl
theorem zm_Jx4a65c_129 {U : State} {a : Array Value} (h : TB U) : (Cond.methodLink RJx4a65c 129 yJx4a65c_grow_d5877).before a U = true := tb_of h 518 (by decide +kernel) rfl
theorem zi_Jx4a65c_grow_d5877 {U : State} {a : Array Value} (h : TB U) : (Cond.instanceMethod yJx4a65c_grow_d5877).before a U = true := tb_of h 520 (by decide +kernel) rfl
theorem zk_Jx4a65c_grow_d5877 {U : State} {a : Array Value} (h : TB U) : (Cond.code yJx4a65c_grow_d5877 cJx4a65c_grow_d5877 1 (some (.array (.object "java/lang/Object")))).before a U = true := tb_of h 521 (by decide +kernel) rfl
theorem zm_Jx4a65c_69 {U : State} {a : Array Value} (h : TB U) : (Cond.methodLink RJx4a65c 69 yJx4a65c_grow_92f84).before a U = true := tb_of h 522 (by decide +kernel) rfl
theorem zi_Jx4a65c_grow_92f84 {U : State} {a : Array Value} (h : TB U) : (Cond.instanceMethod yJx4a65c_grow_92f84).before a U = true := tb_of h 524 (by decide +kernel) rfl
theorem zk_Jx4a65c_grow_92f84 {U : State} {a : Array Value} (h : TB U) : (Cond.code yJx4a65c_grow_92f84 cJx4a65c_grow_92f84 4 (some (.array (.object "java/lang/Object")))).before a U = true := tb_of h 525 (by decide +kernel) rfl
theorem zm_Jx4a65c_73 {U : State} {a : Array Value} (h : TB U) : (Cond.methodLink RJx4a65c 73 yJ8_newLength_cabcc).before a U = true := tb_of h 526 (by decide +kernel) rfl
theorem zt_J8_newLength_cabcc {U : State} {a : Array Value} (h : TB U) : (Cond.static yJ8_newLength_cabcc).before a U = true := tb_of h 527 (by decide +kernel) rfl
theorem zk_J8_newLength_cabcc {U : State} {a : Array Value} (h : TB U) : (Cond.code yJ8_newLength_cabcc cJ8_newLength_cabcc 4 (some .int)).before a U = true := tb_of h 528 (by decide +kernel) rfl
theorem zm_J8_194 {U : State} {a : Array Value} (h : TB U) : (Cond.methodLink RJ8 194 yJ9_max_7cf53).before a U = true := tb_of h 529 (by decide +kernel) rfl
theorem zm_J8_201 {U : State} {a : Array Value} (h : TB U) : (Cond.methodLink RJ8 201 yJ8_hugeLength_7cf53).before a U = true := tb_of h 531 (by decide +kernel) rfl
theorem zt_J8_hugeLength_7cf53 {U : State} {a : Array Value} (h : TB U) : (Cond.static yJ8_hugeLength_7cf53).before a U = true := tb_of h 532 (by decide +kernel) rfl
theorem zk_J8_hugeLength_7cf53 {U : State} {a : Array Value} (h : TB U) : (Cond.code yJ8_hugeLength_7cf53 cJ8_hugeLength_7cf53 3 (some .int)).before a U = true := tb_of h 533 (by decide +kernel) rfl
theorem zm_Jx4a65c_66 {U : State} {a : Array Value} (h : TB U) : (Cond.methodLink RJx4a65c 66 yJ7_copyOf_1904c).before a U = true := tb_of h 534 (by decide +kernel) rfl
theorem zt_J7_copyOf_1904c {U : State} {a : Array Value} (h : TB U) : (Cond.static yJ7_copyOf_1904c).before a U = true := tb_of h 535 (by decide +kernel) rfl
theorem zk_J7_copyOf_1904c {U : State} {a : Array Value} (h : TB U) : (Cond.code yJ7_copyOf_1904c cJ7_copyOf_1904c 2 (some (.array (.object "java/lang/Object")))).before a U = true := tb_of h 536 (by decide +kernel) rfl
theorem zm_J7_86 {U : State} {a : Array Value} (h : TB U) : (Cond.methodLink RJ7 86 ⟨"java/lang/Object", "getClass", "()Ljava/lang/Class;"⟩).before a U = true := tb_of h 537 (by decide +kernel) rfl
theorem zi_Object_getClass {U : State} {a : Array Value} (h : TB U) : (Cond.instanceMethod ⟨"java/lang/Object", "getClass", "()Ljava/lang/Class;"⟩).before a U = true := tb_of h 538 (by decide +kernel) rfl
theorem zM_Object_getClass {U : State} {a : Array Value} (h : TB U) : (Cond.sameMethod "java/lang/Object" "java/lang/Object" "getClass" "()Ljava/lang/Class;").before a U = true := tb_of h 539 (by decide +kernel) rfl
theorem zs_X6_Object_getClass {U : State} {a : Array Value} (h : TB U) : (Cond.selects RX6 ⟨"java/lang/Object", "getClass", "()Ljava/lang/Class;"⟩ ⟨"java/lang/Object", "getClass", "()Ljava/lang/Class;"⟩).before a U = true := tb_of h 540 (by decide +kernel) rfl
theorem zs_X0_Object_getClass {U : State} {a : Array Value} (h : TB U) : (Cond.selects RX0 ⟨"java/lang/Object", "getClass", "()Ljava/lang/Class;"⟩ ⟨"java/lang/Object", "getClass", "()Ljava/lang/Class;"⟩).before a U = true := tb_of h 541 (by decide +kernel) rfl
theorem zs_X2_Object_getClass {U : State} {a : Array Value} (h : TB U) : (Cond.selects RX2 ⟨"java/lang/Object", "getClass", "()Ljava/lang/Class;"⟩ ⟨"java/lang/Object", "getClass", "()Ljava/lang/Class;"⟩).before a U = true := tb_of h 542 (by decide +kernel) rfl
theorem zs_X3_Object_getClass {U : State} {a : Array Value} (h : TB U) : (Cond.selects RX3 ⟨"java/lang/Object", "getClass", "()Ljava/lang/Class;"⟩ ⟨"java/lang/Object", "getClass", "()Ljava/lang/Class;"⟩).before a U = true := tb_of h 543 (by decide +kernel) rfl
theorem zs_X4_Object_getClass {U : State} {a : Array Value} (h : TB U) : (Cond.selects RX4 ⟨"java/lang/Object", "getClass", "()Ljava/lang/Class;"⟩ ⟨"java/lang/Object", "getClass", "()Ljava/lang/Class;"⟩).before a U = true := tb_of h 544 (by decide +kernel) rfl
theorem zs_X5_Object_getClass {U : State} {a : Array Value} (h : TB U) : (Cond.selects RX5 ⟨"java/lang/Object", "getClass", "()Ljava/lang/Class;"⟩ ⟨"java/lang/Object", "getClass", "()Ljava/lang/Class;"⟩).before a U = true := tb_of h 545 (by decide +kernel) rfl
theorem zs_X12_Object_getClass {U : State} {a : Array Value} (h : TB U) : (Cond.selects RX12 ⟨"java/lang/Object", "getClass", "()Ljava/lang/Class;"⟩ ⟨"java/lang/Object", "getClass", "()Ljava/lang/Class;"⟩).before a U = true := tb_of h 546 (by decide +kernel) rfl
theorem zs_X7_Object_getClass {U : State} {a : Array Value} (h : TB U) : (Cond.selects RX7 ⟨"java/lang/Object", "getClass", "()Ljava/lang/Class;"⟩ ⟨"java/lang/Object", "getClass", "()Ljava/lang/Class;"⟩).before a U = true := tb_of h 547 (by decide +kernel) rfl
theorem zs_X8_Object_getClass {U : State} {a : Array Value} (h : TB U) : (Cond.selects RX8 ⟨"java/lang/Object", "getClass", "()Ljava/lang/Class;"⟩ ⟨"java/lang/Object", "getClass", "()Ljava/lang/Class;"⟩).before a U = true := tb_of h 548 (by decide +kernel) rfl
theorem zs_X9_Object_getClass {U : State} {a : Array Value} (h : TB U) : (Cond.selects RX9 ⟨"java/lang/Object", "getClass", "()Ljava/lang/Class;"⟩ ⟨"java/lang/Object", "getClass", "()Ljava/lang/Class;"⟩).before a U = true := tb_of h 549 (by decide +kernel) rfl
theorem zs_X10_Object_getClass {U : State} {a : Array Value} (h : TB U) : (Cond.selects RX10 ⟨"java/lang/Object", "getClass", "()Ljava/lang/Class;"⟩ ⟨"java/lang/Object", "getClass", "()Ljava/lang/Class;"⟩).before a U = true := tb_of h 550 (by decide +kernel) rfl
theorem zs_X11_Object_getClass {U : State} {a : Array Value} (h : TB U) : (Cond.selects RX11 ⟨"java/lang/Object", "getClass", "()Ljava/lang/Class;"⟩ ⟨"java/lang/Object", "getClass", "()Ljava/lang/Class;"⟩).before a U = true := tb_of h 551 (by decide +kernel) rfl
theorem zs_IllegalArgumentException_Object_getClass {U : State} {a : Array Value} (h : TB U) : (Cond.selects "java/lang/IllegalArgumentException" ⟨"java/lang/Object", "getClass", "()Ljava/lang/Class;"⟩ ⟨"java/lang/Object", "getClass", "()Ljava/lang/Class;"⟩).before a U = true := tb_of h 552 (by decide +kernel) rfl
theorem zs_IllegalStateException_Object_getClass {U : State} {a : Array Value} (h : TB U) : (Cond.selects "java/lang/IllegalStateException" ⟨"java/lang/Object", "getClass", "()Ljava/lang/Class;"⟩ ⟨"java/lang/Object", "getClass", "()Ljava/lang/Class;"⟩).before a U = true := tb_of h 553 (by decide +kernel) rfl
theorem zs_IndexOutOfBoundsException_Object_getClass {U : State} {a : Array Value} (h : TB U) : (Cond.selects "java/lang/IndexOutOfBoundsException" ⟨"java/lang/Object", "getClass", "()Ljava/lang/Class;"⟩ ⟨"java/lang/Object", "getClass", "()Ljava/lang/Class;"⟩).before a U = true := tb_of h 554 (by decide +kernel) rfl
theorem zs_Jx4a65c_Object_getClass {U : State} {a : Array Value} (h : TB U) : (Cond.selects RJx4a65c ⟨"java/lang/Object", "getClass", "()Ljava/lang/Class;"⟩ ⟨"java/lang/Object", "getClass", "()Ljava/lang/Class;"⟩).before a U = true := tb_of h 555 (by decide +kernel) rfl
theorem zN_Object_getClass {U : State} {a : Array Value} (h : TB U) : (Cond.native ⟨"java/lang/Object", "getClass", "()Ljava/lang/Class;"⟩).before a U = true := tb_of h 556 (by decide +kernel) rfl
theorem zm_J7_300 {U : State} {a : Array Value} (h : TB U) : (Cond.methodLink RJ7 300 yJ7_copyOf_6403c).before a U = true := tb_of h 557 (by decide +kernel) rfl
theorem zt_J7_copyOf_6403c {U : State} {a : Array Value} (h : TB U) : (Cond.static yJ7_copyOf_6403c).before a U = true := tb_of h 558 (by decide +kernel) rfl
theorem zk_J7_copyOf_6403c {U : State} {a : Array Value} (h : TB U) : (Cond.code yJ7_copyOf_6403c cJ7_copyOf_6403c 4 (some (.array (.object "java/lang/Object")))).before a U = true := tb_of h 559 (by decide +kernel) rfl
theorem zc_J7_110 {U : State} {a : Array Value} (h : TB U) : (Cond.classLink RJ7 110 "[Ljava/lang/Object;").before a U = true := tb_of h 560 (by decide +kernel) rfl
theorem zc_J7_2 {U : State} {a : Array Value} (h : TB U) : (Cond.classLink RJ7 2 "java/lang/Object").before a U = true := tb_of h 562 (by decide +kernel) rfl
theorem zm_J7_304 {U : State} {a : Array Value} (h : TB U) : (Cond.methodLink RJ7 304 yJ9_min_7cf53).before a U = true := tb_of h 563 (by decide +kernel) rfl
theorem zm_J7_150 {U : State} {a : Array Value} (h : TB U) : (Cond.methodLink RJ7 150 ⟨RJ10, "arraycopy", "(Ljava/lang/Object;ILjava/lang/Object;II)V"⟩).before a U = true := tb_of h 564 (by decide +kernel) rfl
theorem zt_J10_arraycopy {U : State} {a : Array Value} (h : TB U) : (Cond.static ⟨RJ10, "arraycopy", "(Ljava/lang/Object;ILjava/lang/Object;II)V"⟩).before a U = true := tb_of h 565 (by decide +kernel) rfl
theorem zN_J10_arraycopy {U : State} {a : Array Value} (h : TB U) : (Cond.native ⟨RJ10, "arraycopy", "(Ljava/lang/Object;ILjava/lang/Object;II)V"⟩).before a U = true := tb_of h 566 (by decide +kernel) rfl
theorem zm_Jx4a65c_79 {U : State} {a : Array Value} (h : TB U) : (Cond.methodLink RJx4a65c 79 yJ9_max_7cf53).before a U = true := tb_of h 567 (by decide +kernel) rfl
theorem zc_Jx4a65c_7 {U : State} {a : Array Value} (h : TB U) : (Cond.classLink RJx4a65c 7 "java/lang/Object").before a U = true := tb_of h 568 (by decide +kernel) rfl
theorem zm_L_107 {U : State} {a : Array Value} (h : TB U) : (Cond.methodLink RL 107 yL_limit).before a U = true := tb_of h 569 (by decide +kernel) rfl
theorem zt_L_limit {U : State} {a : Array Value} (h : TB U) : (Cond.static yL_limit).before a U = true := tb_of h 570 (by decide +kernel) rfl
theorem zh_L_limit {U : State} {a : Array Value} (h : TB U) : (Cond.codeWith yL_limit cL_limit 6 (some .int) [(0, 12, 15, 13), (0, 12, 19, 21)]).before a U = true := tb_of h 571 (by decide +kernel) rfl
theorem zc_L_21 {U : State} {a : Array Value} (h : TB U) : (Cond.classLink RL 21 "java/lang/IllegalArgumentException").before a U = true := tb_of h 572 (by decide +kernel) rfl
theorem zm_L_17 {U : State} {a : Array Value} (h : TB U) : (Cond.methodLink RL 17 yX6_limit).before a U = true := tb_of h 573 (by decide +kernel) rfl
theorem zi_X6_limit {U : State} {a : Array Value} (h : TB U) : (Cond.instanceMethod yX6_limit).before a U = true := tb_of h 574 (by decide +kernel) rfl
theorem zs_X6_X6_limit {U : State} {a : Array Value} (h : TB U) : (Cond.selects RX6 yX6_limit yX6_limit).before a U = true := tb_of h 575 (by decide +kernel) rfl
theorem zk_X6_limit {U : State} {a : Array Value} (h : TB U) : (Cond.code yX6_limit cX6_limit 5 (some .int)).before a U = true := tb_of h 576 (by decide +kernel) rfl
theorem zm_X6_82 {U : State} {a : Array Value} (h : TB U) : (Cond.methodLink RX6 82 yX4_replace).before a U = true := tb_of h 577 (by decide +kernel) rfl
theorem zi_X4_replace {U : State} {a : Array Value} (h : TB U) : (Cond.instanceMethod yX4_replace).before a U = true := tb_of h 578 (by decide +kernel) rfl
theorem zs_X4_X4_replace {U : State} {a : Array Value} (h : TB U) : (Cond.selects RX4 yX4_replace yX4_replace).before a U = true := tb_of h 579 (by decide +kernel) rfl
theorem zk_X4_replace {U : State} {a : Array Value} (h : TB U) : (Cond.code yX4_replace cX4_replace 5 (some .int)).before a U = true := tb_of h 580 (by decide +kernel) rfl
theorem zm_X4_26 {U : State} {a : Array Value} (h : TB U) : (Cond.methodLink RX4 26 yX4_at).before a U = true := tb_of h 581 (by decide +kernel) rfl
theorem zm_L_111 {U : State} {a : Array Value} (h : TB U) : (Cond.methodLink RL 111 yL_away).before a U = true := tb_of h 582 (by decide +kernel) rfl
theorem zt_L_away {U : State} {a : Array Value} (h : TB U) : (Cond.static yL_away).before a U = true := tb_of h 583 (by decide +kernel) rfl
theorem zh_L_away {U : State} {a : Array Value} (h : TB U) : (Cond.codeWith yL_away cL_away 6 (some .int) [(0, 19, 22, 13), (0, 19, 26, 21)]).before a U = true := tb_of h 584 (by decide +kernel) rfl
theorem zm_L_23 {U : State} {a : Array Value} (h : TB U) : (Cond.methodLink RL 23 yX6_away).before a U = true := tb_of h 585 (by decide +kernel) rfl
theorem zi_X6_away {U : State} {a : Array Value} (h : TB U) : (Cond.instanceMethod yX6_away).before a U = true := tb_of h 586 (by decide +kernel) rfl
theorem zs_X6_X6_away {U : State} {a : Array Value} (h : TB U) : (Cond.selects RX6 yX6_away yX6_away).before a U = true := tb_of h 587 (by decide +kernel) rfl
theorem zk_X6_away {U : State} {a : Array Value} (h : TB U) : (Cond.code yX6_away cX6_away 7 (some .boolean)).before a U = true := tb_of h 588 (by decide +kernel) rfl
theorem zm_X6_102 {U : State} {a : Array Value} (h : TB U) : (Cond.methodLink RX6 102 yX6_passSteps).before a U = true := tb_of h 590 (by decide +kernel) rfl
theorem zi_X6_passSteps {U : State} {a : Array Value} (h : TB U) : (Cond.instanceMethod yX6_passSteps).before a U = true := tb_of h 592 (by decide +kernel) rfl
theorem zk_X6_passSteps {U : State} {a : Array Value} (h : TB U) : (Cond.code yX6_passSteps cX6_passSteps 3 (none)).before a U = true := tb_of h 593 (by decide +kernel) rfl
theorem zm_X6_399 {U : State} {a : Array Value} (h : TB U) : (Cond.methodLink RX6 399 yX6_passStepsOf).before a U = true := tb_of h 594 (by decide +kernel) rfl
theorem zi_X6_passStepsOf {U : State} {a : Array Value} (h : TB U) : (Cond.instanceMethod yX6_passStepsOf).before a U = true := tb_of h 596 (by decide +kernel) rfl
theorem zk_X6_passStepsOf {U : State} {a : Array Value} (h : TB U) : (Cond.code yX6_passStepsOf cX6_passStepsOf 3 (none)).before a U = true := tb_of h 597 (by decide +kernel) rfl
theorem zm_X6_402 {U : State} {a : Array Value} (h : TB U) : (Cond.methodLink RX6 402 yX0_stepsNeeded).before a U = true := tb_of h 598 (by decide +kernel) rfl
theorem zm_L_114 {U : State} {a : Array Value} (h : TB U) : (Cond.methodLink RL 114 yL_trip).before a U = true := tb_of h 599 (by decide +kernel) rfl
theorem zt_L_trip {U : State} {a : Array Value} (h : TB U) : (Cond.static yL_trip).before a U = true := tb_of h 600 (by decide +kernel) rfl
theorem zh_L_trip {U : State} {a : Array Value} (h : TB U) : (Cond.codeWith yL_trip cL_trip 8 (some .int) [(0, 16, 19, 13), (0, 16, 23, 21), (0, 16, 27, 15)]).before a U = true := tb_of h 601 (by decide +kernel) rfl
theorem zm_L_27 {U : State} {a : Array Value} (h : TB U) : (Cond.methodLink RL 27 yX6_trip).before a U = true := tb_of h 602 (by decide +kernel) rfl
theorem zi_X6_trip {U : State} {a : Array Value} (h : TB U) : (Cond.instanceMethod yX6_trip).before a U = true := tb_of h 603 (by decide +kernel) rfl
theorem zs_X6_X6_trip {U : State} {a : Array Value} (h : TB U) : (Cond.selects RX6 yX6_trip yX6_trip).before a U = true := tb_of h 604 (by decide +kernel) rfl
theorem zk_X6_trip {U : State} {a : Array Value} (h : TB U) : (Cond.code yX6_trip cX6_trip 8 (some .int)).before a U = true := tb_of h 605 (by decide +kernel) rfl
theorem zI_X5 {U : State} {a : Array Value} (h : TB U) : (Cond.instantiable RX5 6).before a U = true := tb_of h 607 (by decide +kernel) rfl
theorem zm_X6_112 {U : State} {a : Array Value} (h : TB U) : (Cond.methodLink RX6 112 yX5_init).before a U = true := tb_of h 608 (by decide +kernel) rfl
theorem zi_X5_init {U : State} {a : Array Value} (h : TB U) : (Cond.instanceMethod yX5_init).before a U = true := tb_of h 609 (by decide +kernel) rfl
theorem zk_X5_init {U : State} {a : Array Value} (h : TB U) : (Cond.code yX5_init cX5_init 7 (none)).before a U = true := tb_of h 610 (by decide +kernel) rfl
theorem zm_X5_1 {U : State} {a : Array Value} (h : TB U) : (Cond.methodLink RX5 1 yX1_init).before a U = true := tb_of h 611 (by decide +kernel) rfl
theorem zf_X5_7 {U : State} {a : Array Value} (h : TB U) : (Cond.fieldLink RX5 7 "ApprovalGrid$Trip" "person" "LApprovalGrid$Person;").before a U = true := tb_of h 612 (by decide +kernel) rfl
theorem zf_X6_344 {U : State} {a : Array Value} (h : TB U) : (Cond.fieldLink RX6 344 "ApprovalGrid$Trip" "person" "LApprovalGrid$Person;").before a U = true := tb_of h 613 (by decide +kernel) rfl
theorem zf_X5_13 {U : State} {a : Array Value} (h : TB U) : (Cond.fieldLink RX5 13 "ApprovalGrid$Trip" "land" "I").before a U = true := tb_of h 614 (by decide +kernel) rfl
theorem zf_X6_345 {U : State} {a : Array Value} (h : TB U) : (Cond.fieldLink RX6 345 "ApprovalGrid$Trip" "land" "I").before a U = true := tb_of h 615 (by decide +kernel) rfl
theorem zf_X5_17 {U : State} {a : Array Value} (h : TB U) : (Cond.fieldLink RX5 17 "ApprovalGrid$Trip" "from" "I").before a U = true := tb_of h 616 (by decide +kernel) rfl
theorem zf_X6_348 {U : State} {a : Array Value} (h : TB U) : (Cond.fieldLink RX6 348 "ApprovalGrid$Trip" "from" "I").before a U = true := tb_of h 617 (by decide +kernel) rfl
theorem zf_X5_20 {U : State} {a : Array Value} (h : TB U) : (Cond.fieldLink RX5 20 "ApprovalGrid$Trip" "to" "I").before a U = true := tb_of h 618 (by decide +kernel) rfl
theorem zf_X6_351 {U : State} {a : Array Value} (h : TB U) : (Cond.fieldLink RX6 351 "ApprovalGrid$Trip" "to" "I").before a U = true := tb_of h 619 (by decide +kernel) rfl
theorem zf_X5_23 {U : State} {a : Array Value} (h : TB U) : (Cond.fieldLink RX5 23 "ApprovalGrid$Trip" "extra" "I").before a U = true := tb_of h 620 (by decide +kernel) rfl
theorem zf_X6_354 {U : State} {a : Array Value} (h : TB U) : (Cond.fieldLink RX6 354 "ApprovalGrid$Trip" "extra" "I").before a U = true := tb_of h 621 (by decide +kernel) rfl
theorem zS_X5_X1 {U : State} {a : Array Value} (h : TB U) : (Cond.superclass RX5 RX1).before a U = true := tb_of h 633 (by decide +kernel) rfl
theorem zm_L_118 {U : State} {a : Array Value} (h : TB U) : (Cond.methodLink RL 118 yL_ofPerson).before a U = true := tb_of h 634 (by decide +kernel) rfl
theorem zt_L_ofPerson {U : State} {a : Array Value} (h : TB U) : (Cond.static yL_ofPerson).before a U = true := tb_of h 635 (by decide +kernel) rfl
theorem zh_L_ofPerson {U : State} {a : Array Value} (h : TB U) : (Cond.codeWith yL_ofPerson cL_ofPerson 5 (some .int) [(0, 10, 13, 13), (0, 10, 17, 21)]).before a U = true := tb_of h 636 (by decide +kernel) rfl
theorem zm_L_31 {U : State} {a : Array Value} (h : TB U) : (Cond.methodLink RL 31 yX6_ofPerson).before a U = true := tb_of h 637 (by decide +kernel) rfl
theorem zm_L_122 {U : State} {a : Array Value} (h : TB U) : (Cond.methodLink RL 122 yL_maySpend).before a U = true := tb_of h 638 (by decide +kernel) rfl
theorem zt_L_maySpend {U : State} {a : Array Value} (h : TB U) : (Cond.static yL_maySpend).before a U = true := tb_of h 639 (by decide +kernel) rfl
theorem zh_L_maySpend {U : State} {a : Array Value} (h : TB U) : (Cond.codeWith yL_maySpend cL_maySpend 6 (some .int) [(0, 12, 15, 13)]).before a U = true := tb_of h 640 (by decide +kernel) rfl
theorem zm_L_35 {U : State} {a : Array Value} (h : TB U) : (Cond.methodLink RL 35 yX6_maySpend).before a U = true := tb_of h 641 (by decide +kernel) rfl
theorem zm_L_125 {U : State} {a : Array Value} (h : TB U) : (Cond.methodLink RL 125 yL_plan).before a U = true := tb_of h 642 (by decide +kernel) rfl
theorem zt_L_plan {U : State} {a : Array Value} (h : TB U) : (Cond.static yL_plan).before a U = true := tb_of h 643 (by decide +kernel) rfl
theorem zh_L_plan {U : State} {a : Array Value} (h : TB U) : (Cond.codeWith yL_plan cL_plan 6 (some .int) [(0, 12, 15, 13), (0, 12, 19, 21)]).before a U = true := tb_of h 644 (by decide +kernel) rfl
theorem zm_L_38 {U : State} {a : Array Value} (h : TB U) : (Cond.methodLink RL 38 yX6_plan).before a U = true := tb_of h 645 (by decide +kernel) rfl
theorem zi_X6_plan {U : State} {a : Array Value} (h : TB U) : (Cond.instanceMethod yX6_plan).before a U = true := tb_of h 646 (by decide +kernel) rfl
theorem zs_X6_X6_plan {U : State} {a : Array Value} (h : TB U) : (Cond.selects RX6 yX6_plan yX6_plan).before a U = true := tb_of h 647 (by decide +kernel) rfl
theorem zk_X6_plan {U : State} {a : Array Value} (h : TB U) : (Cond.code yX6_plan cX6_plan 4 (some .int)).before a U = true := tb_of h 648 (by decide +kernel) rfl
theorem zm_X6_143 {U : State} {a : Array Value} (h : TB U) : (Cond.methodLink RX6 143 yX6_checkPeriod).before a U = true := tb_of h 649 (by decide +kernel) rfl
theorem zt_X6_checkPeriod {U : State} {a : Array Value} (h : TB U) : (Cond.static yX6_checkPeriod).before a U = true := tb_of h 650 (by decide +kernel) rfl
theorem zk_X6_checkPeriod {U : State} {a : Array Value} (h : TB U) : (Cond.code yX6_checkPeriod cX6_checkPeriod 1 (none)).before a U = true := tb_of h 651 (by decide +kernel) rfl
theorem zm_L_128 {U : State} {a : Array Value} (h : TB U) : (Cond.methodLink RL 128 yL_carry).before a U = true := tb_of h 654 (by decide +kernel) rfl
theorem zt_L_carry {U : State} {a : Array Value} (h : TB U) : (Cond.static yL_carry).before a U = true := tb_of h 655 (by decide +kernel) rfl
theorem zh_L_carry {U : State} {a : Array Value} (h : TB U) : (Cond.codeWith yL_carry cL_carry 5 (some .int) [(0, 10, 13, 13), (0, 10, 17, 21)]).before a U = true := tb_of h 656 (by decide +kernel) rfl
theorem zm_L_41 {U : State} {a : Array Value} (h : TB U) : (Cond.methodLink RL 41 yX6_carry).before a U = true := tb_of h 657 (by decide +kernel) rfl
theorem zi_X6_carry {U : State} {a : Array Value} (h : TB U) : (Cond.instanceMethod yX6_carry).before a U = true := tb_of h 658 (by decide +kernel) rfl
theorem zs_X6_X6_carry {U : State} {a : Array Value} (h : TB U) : (Cond.selects RX6 yX6_carry yX6_carry).before a U = true := tb_of h 659 (by decide +kernel) rfl
theorem zk_X6_carry {U : State} {a : Array Value} (h : TB U) : (Cond.code yX6_carry cX6_carry 3 (some .int)).before a U = true := tb_of h 660 (by decide +kernel) rfl
theorem zm_L_131 {U : State} {a : Array Value} (h : TB U) : (Cond.methodLink RL 131 yL_rate).before a U = true := tb_of h 661 (by decide +kernel) rfl
theorem zt_L_rate {U : State} {a : Array Value} (h : TB U) : (Cond.static yL_rate).before a U = true := tb_of h 662 (by decide +kernel) rfl
theorem zh_L_rate {U : State} {a : Array Value} (h : TB U) : (Cond.codeWith yL_rate cL_rate 6 (some .int) [(0, 12, 15, 13), (0, 12, 19, 21)]).before a U = true := tb_of h 663 (by decide +kernel) rfl
theorem zm_L_44 {U : State} {a : Array Value} (h : TB U) : (Cond.methodLink RL 44 yX6_rate).before a U = true := tb_of h 664 (by decide +kernel) rfl
theorem zi_X6_rate {U : State} {a : Array Value} (h : TB U) : (Cond.instanceMethod yX6_rate).before a U = true := tb_of h 665 (by decide +kernel) rfl
theorem zs_X6_X6_rate {U : State} {a : Array Value} (h : TB U) : (Cond.selects RX6 yX6_rate yX6_rate).before a U = true := tb_of h 666 (by decide +kernel) rfl
theorem zk_X6_rate {U : State} {a : Array Value} (h : TB U) : (Cond.code yX6_rate cX6_rate 4 (some .int)).before a U = true := tb_of h 667 (by decide +kernel) rfl
theorem zm_L_134 {U : State} {a : Array Value} (h : TB U) : (Cond.methodLink RL 134 yL_left).before a U = true := tb_of h 668 (by decide +kernel) rfl
theorem zt_L_left {U : State} {a : Array Value} (h : TB U) : (Cond.static yL_left).before a U = true := tb_of h 669 (by decide +kernel) rfl
theorem zh_L_left {U : State} {a : Array Value} (h : TB U) : (Cond.codeWith yL_left cL_left 5 (some .int) [(0, 10, 13, 13)]).before a U = true := tb_of h 670 (by decide +kernel) rfl
theorem zm_L_47 {U : State} {a : Array Value} (h : TB U) : (Cond.methodLink RL 47 yX6_left).before a U = true := tb_of h 671 (by decide +kernel) rfl
theorem zi_X6_left {U : State} {a : Array Value} (h : TB U) : (Cond.instanceMethod yX6_left).before a U = true := tb_of h 672 (by decide +kernel) rfl
theorem zs_X6_X6_left {U : State} {a : Array Value} (h : TB U) : (Cond.selects RX6 yX6_left yX6_left).before a U = true := tb_of h 673 (by decide +kernel) rfl
theorem zk_X6_left {U : State} {a : Array Value} (h : TB U) : (Cond.code yX6_left cX6_left 3 (some .int)).before a U = true := tb_of h 674 (by decide +kernel) rfl
theorem zm_L_137 {U : State} {a : Array Value} (h : TB U) : (Cond.methodLink RL 137 yL_charge).before a U = true := tb_of h 675 (by decide +kernel) rfl
theorem zt_L_charge {U : State} {a : Array Value} (h : TB U) : (Cond.static yL_charge).before a U = true := tb_of h 676 (by decide +kernel) rfl
theorem zh_L_charge {U : State} {a : Array Value} (h : TB U) : (Cond.codeWith yL_charge cL_charge 8 (some .int) [(0, 16, 19, 13), (0, 16, 23, 21), (0, 16, 27, 15)]).before a U = true := tb_of h 677 (by decide +kernel) rfl
theorem zm_L_50 {U : State} {a : Array Value} (h : TB U) : (Cond.methodLink RL 50 yX6_charge).before a U = true := tb_of h 678 (by decide +kernel) rfl
theorem zi_X6_charge {U : State} {a : Array Value} (h : TB U) : (Cond.instanceMethod yX6_charge).before a U = true := tb_of h 679 (by decide +kernel) rfl
theorem zs_X6_X6_charge {U : State} {a : Array Value} (h : TB U) : (Cond.selects RX6 yX6_charge yX6_charge).before a U = true := tb_of h 680 (by decide +kernel) rfl
theorem zk_X6_charge {U : State} {a : Array Value} (h : TB U) : (Cond.code yX6_charge cX6_charge 8 (some .int)).before a U = true := tb_of h 681 (by decide +kernel) rfl
theorem zI_X0 {U : State} {a : Array Value} (h : TB U) : (Cond.instantiable RX0 13).before a U = true := tb_of h 684 (by decide +kernel) rfl
theorem zm_X6_157 {U : State} {a : Array Value} (h : TB U) : (Cond.methodLink RX6 157 yX0_init).before a U = true := tb_of h 685 (by decide +kernel) rfl
theorem zi_X0_init {U : State} {a : Array Value} (h : TB U) : (Cond.instanceMethod yX0_init).before a U = true := tb_of h 686 (by decide +kernel) rfl
theorem zk_X0_init {U : State} {a : Array Value} (h : TB U) : (Cond.code yX0_init cX0_init 8 (none)).before a U = true := tb_of h 687 (by decide +kernel) rfl
theorem zm_X0_3 {U : State} {a : Array Value} (h : TB U) : (Cond.methodLink RX0 3 yX1_init).before a U = true := tb_of h 688 (by decide +kernel) rfl
theorem zf_X0_33 {U : State} {a : Array Value} (h : TB U) : (Cond.fieldLink RX0 33 "ApprovalGrid$Charge" "person" "LApprovalGrid$Person;").before a U = true := tb_of h 689 (by decide +kernel) rfl
theorem zf_X6_211 {U : State} {a : Array Value} (h : TB U) : (Cond.fieldLink RX6 211 "ApprovalGrid$Charge" "person" "LApprovalGrid$Person;").before a U = true := tb_of h 690 (by decide +kernel) rfl
theorem zf_X0_37 {U : State} {a : Array Value} (h : TB U) : (Cond.fieldLink RX0 37 "ApprovalGrid$Charge" "kind" "I").before a U = true := tb_of h 691 (by decide +kernel) rfl
theorem zf_X6_214 {U : State} {a : Array Value} (h : TB U) : (Cond.fieldLink RX6 214 "ApprovalGrid$Charge" "kind" "I").before a U = true := tb_of h 692 (by decide +kernel) rfl
theorem zf_X0_40 {U : State} {a : Array Value} (h : TB U) : (Cond.fieldLink RX0 40 "ApprovalGrid$Charge" "land" "I").before a U = true := tb_of h 693 (by decide +kernel) rfl
theorem zf_X6_371 {U : State} {a : Array Value} (h : TB U) : (Cond.fieldLink RX6 371 "ApprovalGrid$Charge" "land" "I").before a U = true := tb_of h 694 (by decide +kernel) rfl
theorem zf_X0_43 {U : State} {a : Array Value} (h : TB U) : (Cond.fieldLink RX0 43 "ApprovalGrid$Charge" "amount" "I").before a U = true := tb_of h 695 (by decide +kernel) rfl
theorem zf_X6_217 {U : State} {a : Array Value} (h : TB U) : (Cond.fieldLink RX6 217 "ApprovalGrid$Charge" "amount" "I").before a U = true := tb_of h 696 (by decide +kernel) rfl
theorem zf_X0_46 {U : State} {a : Array Value} (h : TB U) : (Cond.fieldLink RX0 46 "ApprovalGrid$Charge" "text" "I").before a U = true := tb_of h 697 (by decide +kernel) rfl
theorem zf_X6_395 {U : State} {a : Array Value} (h : TB U) : (Cond.fieldLink RX6 395 "ApprovalGrid$Charge" "text" "I").before a U = true := tb_of h 698 (by decide +kernel) rfl
theorem zf_X0_49 {U : State} {a : Array Value} (h : TB U) : (Cond.fieldLink RX0 49 "ApprovalGrid$Charge" "day" "I").before a U = true := tb_of h 699 (by decide +kernel) rfl
theorem zf_X6_220 {U : State} {a : Array Value} (h : TB U) : (Cond.fieldLink RX6 220 "ApprovalGrid$Charge" "day" "I").before a U = true := tb_of h 700 (by decide +kernel) rfl
theorem zf_X0_9 {U : State} {a : Array Value} (h : TB U) : (Cond.fieldLink RX0 9 "ApprovalGrid$Charge" "trip" "LApprovalGrid$Trip;").before a U = true := tb_of h 701 (by decide +kernel) rfl
theorem zf_X6_164 {U : State} {a : Array Value} (h : TB U) : (Cond.fieldLink RX6 164 "ApprovalGrid$Charge" "trip" "LApprovalGrid$Trip;").before a U = true := tb_of h 702 (by decide +kernel) rfl
theorem zf_X0_15 {U : State} {a : Array Value} (h : TB U) : (Cond.fieldLink RX0 15 "ApprovalGrid$Charge" "state" "I").before a U = true := tb_of h 703 (by decide +kernel) rfl
theorem zf_X6_197 {U : State} {a : Array Value} (h : TB U) : (Cond.fieldLink RX6 197 "ApprovalGrid$Charge" "state" "I").before a U = true := tb_of h 704 (by decide +kernel) rfl
theorem zf_X0_19 {U : State} {a : Array Value} (h : TB U) : (Cond.fieldLink RX0 19 "ApprovalGrid$Charge" "receipt" "LApprovalGrid$Receipt;").before a U = true := tb_of h 705 (by decide +kernel) rfl
theorem zf_X6_223 {U : State} {a : Array Value} (h : TB U) : (Cond.fieldLink RX6 223 "ApprovalGrid$Charge" "receipt" "LApprovalGrid$Receipt;").before a U = true := tb_of h 706 (by decide +kernel) rfl
theorem zf_X0_23 {U : State} {a : Array Value} (h : TB U) : (Cond.fieldLink RX0 23 "ApprovalGrid$Charge" "steps" "I").before a U = true := tb_of h 707 (by decide +kernel) rfl
theorem zf_X6_204 {U : State} {a : Array Value} (h : TB U) : (Cond.fieldLink RX6 204 "ApprovalGrid$Charge" "steps" "I").before a U = true := tb_of h 708 (by decide +kernel) rfl
theorem zf_X0_26 {U : State} {a : Array Value} (h : TB U) : (Cond.fieldLink RX0 26 "ApprovalGrid$Charge" "wasMissing" "Z").before a U = true := tb_of h 709 (by decide +kernel) rfl
theorem zf_X6_239 {U : State} {a : Array Value} (h : TB U) : (Cond.fieldLink RX6 239 "ApprovalGrid$Charge" "wasMissing" "Z").before a U = true := tb_of h 710 (by decide +kernel) rfl
theorem zf_X0_30 {U : State} {a : Array Value} (h : TB U) : (Cond.fieldLink RX0 30 "ApprovalGrid$Charge" "splits" "I").before a U = true := tb_of h 711 (by decide +kernel) rfl
theorem zS_X0_X1 {U : State} {a : Array Value} (h : TB U) : (Cond.superclass RX0 RX1).before a U = true := tb_of h 737 (by decide +kernel) rfl
theorem zm_X6_168 {U : State} {a : Array Value} (h : TB U) : (Cond.methodLink RX6 168 yX6_matchPairs).before a U = true := tb_of h 738 (by decide +kernel) rfl
theorem zi_X6_matchPairs {U : State} {a : Array Value} (h : TB U) : (Cond.instanceMethod yX6_matchPairs).before a U = true := tb_of h 740 (by decide +kernel) rfl
theorem zk_X6_matchPairs {U : State} {a : Array Value} (h : TB U) : (Cond.code yX6_matchPairs cX6_matchPairs 3 (none)).before a U = true := tb_of h 741 (by decide +kernel) rfl
theorem zm_X6_372 {U : State} {a : Array Value} (h : TB U) : (Cond.methodLink RX6 372 yX6_matchBestPair).before a U = true := tb_of h 742 (by decide +kernel) rfl
theorem zi_X6_matchBestPair {U : State} {a : Array Value} (h : TB U) : (Cond.instanceMethod yX6_matchBestPair).before a U = true := tb_of h 744 (by decide +kernel) rfl
theorem zk_X6_matchBestPair {U : State} {a : Array Value} (h : TB U) : (Cond.code yX6_matchBestPair cX6_matchBestPair 7 (some .boolean)).before a U = true := tb_of h 745 (by decide +kernel) rfl
theorem zm_X6_375 {U : State} {a : Array Value} (h : TB U) : (Cond.methodLink RX6 375 yX6_bestReceiptFor).before a U = true := tb_of h 746 (by decide +kernel) rfl
theorem zi_X6_bestReceiptFor {U : State} {a : Array Value} (h : TB U) : (Cond.instanceMethod yX6_bestReceiptFor).before a U = true := tb_of h 748 (by decide +kernel) rfl
theorem zk_X6_bestReceiptFor {U : State} {a : Array Value} (h : TB U) : (Cond.code yX6_bestReceiptFor cX6_bestReceiptFor 6 (some (.object "ApprovalGrid$Receipt"))).before a U = true := tb_of h 749 (by decide +kernel) rfl
theorem zm_X6_278 {U : State} {a : Array Value} (h : TB U) : (Cond.methodLink RX6 278 yX6_goTogether).before a U = true := tb_of h 750 (by decide +kernel) rfl
theorem zt_X6_goTogether {U : State} {a : Array Value} (h : TB U) : (Cond.static yX6_goTogether).before a U = true := tb_of h 751 (by decide +kernel) rfl
theorem zk_X6_goTogether {U : State} {a : Array Value} (h : TB U) : (Cond.code yX6_goTogether cX6_goTogether 2 (some .boolean)).before a U = true := tb_of h 752 (by decide +kernel) rfl
theorem zm_X6_386 {U : State} {a : Array Value} (h : TB U) : (Cond.methodLink RX6 386 yX0_wasSplitFrom).before a U = true := tb_of h 753 (by decide +kernel) rfl
theorem zi_X0_wasSplitFrom {U : State} {a : Array Value} (h : TB U) : (Cond.instanceMethod yX0_wasSplitFrom).before a U = true := tb_of h 754 (by decide +kernel) rfl
theorem zs_X0_X0_wasSplitFrom {U : State} {a : Array Value} (h : TB U) : (Cond.selects RX0 yX0_wasSplitFrom yX0_wasSplitFrom).before a U = true := tb_of h 755 (by decide +kernel) rfl
theorem zk_X0_wasSplitFrom {U : State} {a : Array Value} (h : TB U) : (Cond.code yX0_wasSplitFrom cX0_wasSplitFrom 2 (some .boolean)).before a U = true := tb_of h 756 (by decide +kernel) rfl
theorem zm_X6_247 {U : State} {a : Array Value} (h : TB U) : (Cond.methodLink RX6 247 yX6_scoreOf).before a U = true := tb_of h 757 (by decide +kernel) rfl
theorem zt_X6_scoreOf {U : State} {a : Array Value} (h : TB U) : (Cond.static yX6_scoreOf).before a U = true := tb_of h 758 (by decide +kernel) rfl
theorem zk_X6_scoreOf {U : State} {a : Array Value} (h : TB U) : (Cond.code yX6_scoreOf cX6_scoreOf 5 (some .int)).before a U = true := tb_of h 759 (by decide +kernel) rfl
theorem zm_X6_391 {U : State} {a : Array Value} (h : TB U) : (Cond.methodLink RX6 391 yJ9_abs_0f7a4).before a U = true := tb_of h 760 (by decide +kernel) rfl
theorem zt_J9_abs_0f7a4 {U : State} {a : Array Value} (h : TB U) : (Cond.static yJ9_abs_0f7a4).before a U = true := tb_of h 761 (by decide +kernel) rfl
theorem zk_J9_abs_0f7a4 {U : State} {a : Array Value} (h : TB U) : (Cond.code yJ9_abs_0f7a4 cJ9_abs_0f7a4 1 (some .int)).before a U = true := tb_of h 762 (by decide +kernel) rfl
theorem zm_X6_379 {U : State} {a : Array Value} (h : TB U) : (Cond.methodLink RX6 379 yX6_match).before a U = true := tb_of h 763 (by decide +kernel) rfl
theorem zi_X6_match {U : State} {a : Array Value} (h : TB U) : (Cond.instanceMethod yX6_match).before a U = true := tb_of h 765 (by decide +kernel) rfl
theorem zk_X6_match {U : State} {a : Array Value} (h : TB U) : (Cond.code yX6_match cX6_match 3 (none)).before a U = true := tb_of h 766 (by decide +kernel) rfl
theorem zm_X6_383 {U : State} {a : Array Value} (h : TB U) : (Cond.methodLink RX6 383 yX2_gainPoint).before a U = true := tb_of h 767 (by decide +kernel) rfl
theorem zi_X2_gainPoint {U : State} {a : Array Value} (h : TB U) : (Cond.instanceMethod yX2_gainPoint).before a U = true := tb_of h 768 (by decide +kernel) rfl
theorem zs_X2_X2_gainPoint {U : State} {a : Array Value} (h : TB U) : (Cond.selects RX2 yX2_gainPoint yX2_gainPoint).before a U = true := tb_of h 769 (by decide +kernel) rfl
theorem zk_X2_gainPoint {U : State} {a : Array Value} (h : TB U) : (Cond.code yX2_gainPoint cX2_gainPoint 1 (none)).before a U = true := tb_of h 770 (by decide +kernel) rfl
theorem zm_X2_28 {U : State} {a : Array Value} (h : TB U) : (Cond.methodLink RX2 28 yJ9_min_7cf53).before a U = true := tb_of h 771 (by decide +kernel) rfl
theorem zm_L_140 {U : State} {a : Array Value} (h : TB U) : (Cond.methodLink RL 140 yL_receipt).before a U = true := tb_of h 772 (by decide +kernel) rfl
theorem zt_L_receipt {U : State} {a : Array Value} (h : TB U) : (Cond.static yL_receipt).before a U = true := tb_of h 773 (by decide +kernel) rfl
theorem zh_L_receipt {U : State} {a : Array Value} (h : TB U) : (Cond.codeWith yL_receipt cL_receipt 6 (some .int) [(0, 12, 15, 21), (0, 12, 19, 15)]).before a U = true := tb_of h 774 (by decide +kernel) rfl
theorem zm_L_53 {U : State} {a : Array Value} (h : TB U) : (Cond.methodLink RL 53 yX6_receipt).before a U = true := tb_of h 775 (by decide +kernel) rfl
theorem zi_X6_receipt {U : State} {a : Array Value} (h : TB U) : (Cond.instanceMethod yX6_receipt).before a U = true := tb_of h 776 (by decide +kernel) rfl
theorem zs_X6_X6_receipt {U : State} {a : Array Value} (h : TB U) : (Cond.selects RX6 yX6_receipt yX6_receipt).before a U = true := tb_of h 777 (by decide +kernel) rfl
theorem zk_X6_receipt {U : State} {a : Array Value} (h : TB U) : (Cond.code yX6_receipt cX6_receipt 5 (some .int)).before a U = true := tb_of h 778 (by decide +kernel) rfl
theorem zm_X6_172 {U : State} {a : Array Value} (h : TB U) : (Cond.methodLink RX6 172 yX6_checkReceipt).before a U = true := tb_of h 779 (by decide +kernel) rfl
theorem zt_X6_checkReceipt {U : State} {a : Array Value} (h : TB U) : (Cond.static yX6_checkReceipt).before a U = true := tb_of h 780 (by decide +kernel) rfl
theorem zk_X6_checkReceipt {U : State} {a : Array Value} (h : TB U) : (Cond.code yX6_checkReceipt cX6_checkReceipt 3 (none)).before a U = true := tb_of h 781 (by decide +kernel) rfl
theorem zI_X3 {U : State} {a : Array Value} (h : TB U) : (Cond.instantiable RX3 5).before a U = true := tb_of h 783 (by decide +kernel) rfl
theorem zm_X6_179 {U : State} {a : Array Value} (h : TB U) : (Cond.methodLink RX6 179 yX3_init).before a U = true := tb_of h 784 (by decide +kernel) rfl
theorem zi_X3_init {U : State} {a : Array Value} (h : TB U) : (Cond.instanceMethod yX3_init).before a U = true := tb_of h 785 (by decide +kernel) rfl
theorem zk_X3_init {U : State} {a : Array Value} (h : TB U) : (Cond.code yX3_init cX3_init 5 (none)).before a U = true := tb_of h 786 (by decide +kernel) rfl
theorem zm_X3_1 {U : State} {a : Array Value} (h : TB U) : (Cond.methodLink RX3 1 yX1_init).before a U = true := tb_of h 787 (by decide +kernel) rfl
theorem zf_X3_13 {U : State} {a : Array Value} (h : TB U) : (Cond.fieldLink RX3 13 "ApprovalGrid$Receipt" "amount" "I").before a U = true := tb_of h 788 (by decide +kernel) rfl
theorem zf_X6_390 {U : State} {a : Array Value} (h : TB U) : (Cond.fieldLink RX6 390 "ApprovalGrid$Receipt" "amount" "I").before a U = true := tb_of h 789 (by decide +kernel) rfl
theorem zf_X3_17 {U : State} {a : Array Value} (h : TB U) : (Cond.fieldLink RX3 17 "ApprovalGrid$Receipt" "day" "I").before a U = true := tb_of h 790 (by decide +kernel) rfl
theorem zf_X6_394 {U : State} {a : Array Value} (h : TB U) : (Cond.fieldLink RX6 394 "ApprovalGrid$Receipt" "day" "I").before a U = true := tb_of h 791 (by decide +kernel) rfl
theorem zf_X3_20 {U : State} {a : Array Value} (h : TB U) : (Cond.fieldLink RX3 20 "ApprovalGrid$Receipt" "text" "I").before a U = true := tb_of h 792 (by decide +kernel) rfl
theorem zf_X6_398 {U : State} {a : Array Value} (h : TB U) : (Cond.fieldLink RX6 398 "ApprovalGrid$Receipt" "text" "I").before a U = true := tb_of h 793 (by decide +kernel) rfl
theorem zf_X3_7 {U : State} {a : Array Value} (h : TB U) : (Cond.fieldLink RX3 7 "ApprovalGrid$Receipt" "charge" "LApprovalGrid$Charge;").before a U = true := tb_of h 794 (by decide +kernel) rfl
theorem zf_X0_57 {U : State} {a : Array Value} (h : TB U) : (Cond.fieldLink RX0 57 "ApprovalGrid$Receipt" "charge" "LApprovalGrid$Charge;").before a U = true := tb_of h 795 (by decide +kernel) rfl
theorem zf_X6_182 {U : State} {a : Array Value} (h : TB U) : (Cond.fieldLink RX6 182 "ApprovalGrid$Receipt" "charge" "LApprovalGrid$Charge;").before a U = true := tb_of h 796 (by decide +kernel) rfl
theorem zS_X3_X1 {U : State} {a : Array Value} (h : TB U) : (Cond.superclass RX3 RX1).before a U = true := tb_of h 806 (by decide +kernel) rfl
theorem zm_L_143 {U : State} {a : Array Value} (h : TB U) : (Cond.methodLink RL 143 yL_split).before a U = true := tb_of h 807 (by decide +kernel) rfl
theorem zt_L_split {U : State} {a : Array Value} (h : TB U) : (Cond.static yL_split).before a U = true := tb_of h 808 (by decide +kernel) rfl
theorem zh_L_split {U : State} {a : Array Value} (h : TB U) : (Cond.codeWith yL_split cL_split 4 (some .int) [(0, 9, 12, 13), (0, 9, 15, 15)]).before a U = true := tb_of h 809 (by decide +kernel) rfl
theorem zm_L_56 {U : State} {a : Array Value} (h : TB U) : (Cond.methodLink RL 56 yX6_split).before a U = true := tb_of h 810 (by decide +kernel) rfl
theorem zi_X6_split {U : State} {a : Array Value} (h : TB U) : (Cond.instanceMethod yX6_split).before a U = true := tb_of h 811 (by decide +kernel) rfl
theorem zs_X6_X6_split {U : State} {a : Array Value} (h : TB U) : (Cond.selects RX6 yX6_split yX6_split).before a U = true := tb_of h 812 (by decide +kernel) rfl
theorem zk_X6_split {U : State} {a : Array Value} (h : TB U) : (Cond.code yX6_split cX6_split 3 (some .int)).before a U = true := tb_of h 813 (by decide +kernel) rfl
theorem zm_X6_190 {U : State} {a : Array Value} (h : TB U) : (Cond.methodLink RX6 190 yX6_checkState).before a U = true := tb_of h 814 (by decide +kernel) rfl
theorem zt_X6_checkState {U : State} {a : Array Value} (h : TB U) : (Cond.static yX6_checkState).before a U = true := tb_of h 815 (by decide +kernel) rfl
theorem zk_X6_checkState {U : State} {a : Array Value} (h : TB U) : (Cond.code yX6_checkState cX6_checkState 2 (none)).before a U = true := tb_of h 816 (by decide +kernel) rfl
theorem zm_X6_194 {U : State} {a : Array Value} (h : TB U) : (Cond.methodLink RX6 194 yX0_partFromReceipt).before a U = true := tb_of h 818 (by decide +kernel) rfl
theorem zi_X0_partFromReceipt {U : State} {a : Array Value} (h : TB U) : (Cond.instanceMethod yX0_partFromReceipt).before a U = true := tb_of h 819 (by decide +kernel) rfl
theorem zs_X0_X0_partFromReceipt {U : State} {a : Array Value} (h : TB U) : (Cond.selects RX0 yX0_partFromReceipt yX0_partFromReceipt).before a U = true := tb_of h 820 (by decide +kernel) rfl
theorem zk_X0_partFromReceipt {U : State} {a : Array Value} (h : TB U) : (Cond.code yX0_partFromReceipt cX0_partFromReceipt 1 (none)).before a U = true := tb_of h 821 (by decide +kernel) rfl
theorem zm_L_146 {U : State} {a : Array Value} (h : TB U) : (Cond.methodLink RL 146 yL_approve).before a U = true := tb_of h 822 (by decide +kernel) rfl
theorem zt_L_approve {U : State} {a : Array Value} (h : TB U) : (Cond.static yL_approve).before a U = true := tb_of h 823 (by decide +kernel) rfl
theorem zh_L_approve {U : State} {a : Array Value} (h : TB U) : (Cond.codeWith yL_approve cL_approve 5 (some .int) [(0, 10, 13, 13), (0, 10, 17, 15)]).before a U = true := tb_of h 824 (by decide +kernel) rfl
theorem zm_L_59 {U : State} {a : Array Value} (h : TB U) : (Cond.methodLink RL 59 yX6_approve).before a U = true := tb_of h 825 (by decide +kernel) rfl
theorem zi_X6_approve {U : State} {a : Array Value} (h : TB U) : (Cond.instanceMethod yX6_approve).before a U = true := tb_of h 826 (by decide +kernel) rfl
theorem zs_X6_X6_approve {U : State} {a : Array Value} (h : TB U) : (Cond.selects RX6 yX6_approve yX6_approve).before a U = true := tb_of h 827 (by decide +kernel) rfl
theorem zk_X6_approve {U : State} {a : Array Value} (h : TB U) : (Cond.code yX6_approve cX6_approve 5 (some .int)).before a U = true := tb_of h 828 (by decide +kernel) rfl
theorem zm_X6_200 {U : State} {a : Array Value} (h : TB U) : (Cond.methodLink RX6 200 yX6_checkNextApprover).before a U = true := tb_of h 829 (by decide +kernel) rfl
theorem zi_X6_checkNextApprover {U : State} {a : Array Value} (h : TB U) : (Cond.instanceMethod yX6_checkNextApprover).before a U = true := tb_of h 831 (by decide +kernel) rfl
theorem zk_X6_checkNextApprover {U : State} {a : Array Value} (h : TB U) : (Cond.code yX6_checkNextApprover cX6_checkNextApprover 3 (none)).before a U = true := tb_of h 832 (by decide +kernel) rfl
theorem zm_L_149 {U : State} {a : Array Value} (h : TB U) : (Cond.methodLink RL 149 yL_refuse).before a U = true := tb_of h 834 (by decide +kernel) rfl
theorem zt_L_refuse {U : State} {a : Array Value} (h : TB U) : (Cond.static yL_refuse).before a U = true := tb_of h 835 (by decide +kernel) rfl
theorem zh_L_refuse {U : State} {a : Array Value} (h : TB U) : (Cond.codeWith yL_refuse cL_refuse 5 (some .int) [(0, 10, 13, 13), (0, 10, 17, 15)]).before a U = true := tb_of h 836 (by decide +kernel) rfl
theorem zm_L_62 {U : State} {a : Array Value} (h : TB U) : (Cond.methodLink RL 62 yX6_refuse).before a U = true := tb_of h 837 (by decide +kernel) rfl
theorem zi_X6_refuse {U : State} {a : Array Value} (h : TB U) : (Cond.instanceMethod yX6_refuse).before a U = true := tb_of h 838 (by decide +kernel) rfl
theorem zs_X6_X6_refuse {U : State} {a : Array Value} (h : TB U) : (Cond.selects RX6 yX6_refuse yX6_refuse).before a U = true := tb_of h 839 (by decide +kernel) rfl
theorem zk_X6_refuse {U : State} {a : Array Value} (h : TB U) : (Cond.code yX6_refuse cX6_refuse 5 (some .int)).before a U = true := tb_of h 840 (by decide +kernel) rfl
theorem zm_L_152 {U : State} {a : Array Value} (h : TB U) : (Cond.methodLink RL 152 yL_settle).before a U = true := tb_of h 841 (by decide +kernel) rfl
theorem zt_L_settle {U : State} {a : Array Value} (h : TB U) : (Cond.static yL_settle).before a U = true := tb_of h 842 (by decide +kernel) rfl
theorem zh_L_settle {U : State} {a : Array Value} (h : TB U) : (Cond.codeWith yL_settle cL_settle 5 (some .int) [(0, 10, 13, 13), (0, 10, 17, 15)]).before a U = true := tb_of h 843 (by decide +kernel) rfl
theorem zm_L_65 {U : State} {a : Array Value} (h : TB U) : (Cond.methodLink RL 65 yX6_settle).before a U = true := tb_of h 844 (by decide +kernel) rfl
theorem zi_X6_settle {U : State} {a : Array Value} (h : TB U) : (Cond.instanceMethod yX6_settle).before a U = true := tb_of h 845 (by decide +kernel) rfl
theorem zs_X6_X6_settle {U : State} {a : Array Value} (h : TB U) : (Cond.selects RX6 yX6_settle yX6_settle).before a U = true := tb_of h 846 (by decide +kernel) rfl
theorem zk_X6_settle {U : State} {a : Array Value} (h : TB U) : (Cond.code yX6_settle cX6_settle 4 (some .int)).before a U = true := tb_of h 847 (by decide +kernel) rfl
theorem zm_L_156 {U : State} {a : Array Value} (h : TB U) : (Cond.methodLink RL 156 yL_ofCharge).before a U = true := tb_of h 848 (by decide +kernel) rfl
theorem zt_L_ofCharge {U : State} {a : Array Value} (h : TB U) : (Cond.static yL_ofCharge).before a U = true := tb_of h 849 (by decide +kernel) rfl
theorem zh_L_ofCharge {U : State} {a : Array Value} (h : TB U) : (Cond.codeWith yL_ofCharge cL_ofCharge 5 (some .int) [(0, 10, 13, 13), (0, 10, 17, 21)]).before a U = true := tb_of h 850 (by decide +kernel) rfl
theorem zm_L_69 {U : State} {a : Array Value} (h : TB U) : (Cond.methodLink RL 69 yX6_ofCharge).before a U = true := tb_of h 851 (by decide +kernel) rfl
theorem zm_L_159 {U : State} {a : Array Value} (h : TB U) : (Cond.methodLink RL 159 yL_ofReceipt).before a U = true := tb_of h 852 (by decide +kernel) rfl
theorem zt_L_ofReceipt {U : State} {a : Array Value} (h : TB U) : (Cond.static yL_ofReceipt).before a U = true := tb_of h 853 (by decide +kernel) rfl
theorem zh_L_ofReceipt {U : State} {a : Array Value} (h : TB U) : (Cond.codeWith yL_ofReceipt cL_ofReceipt 4 (some .int) [(0, 9, 12, 13)]).before a U = true := tb_of h 854 (by decide +kernel) rfl
theorem zm_L_72 {U : State} {a : Array Value} (h : TB U) : (Cond.methodLink RL 72 yX6_ofReceipt).before a U = true := tb_of h 855 (by decide +kernel) rfl
theorem zm_L_162 {U : State} {a : Array Value} (h : TB U) : (Cond.methodLink RL 162 yL_score).before a U = true := tb_of h 856 (by decide +kernel) rfl
theorem zt_L_score {U : State} {a : Array Value} (h : TB U) : (Cond.static yL_score).before a U = true := tb_of h 857 (by decide +kernel) rfl
theorem zh_L_score {U : State} {a : Array Value} (h : TB U) : (Cond.codeWith yL_score cL_score 5 (some .int) [(0, 10, 13, 13)]).before a U = true := tb_of h 858 (by decide +kernel) rfl
theorem zm_L_75 {U : State} {a : Array Value} (h : TB U) : (Cond.methodLink RL 75 yX6_score).before a U = true := tb_of h 859 (by decide +kernel) rfl
theorem zi_X6_score {U : State} {a : Array Value} (h : TB U) : (Cond.instanceMethod yX6_score).before a U = true := tb_of h 860 (by decide +kernel) rfl
theorem zs_X6_X6_score {U : State} {a : Array Value} (h : TB U) : (Cond.selects RX6 yX6_score yX6_score).before a U = true := tb_of h 861 (by decide +kernel) rfl
theorem zk_X6_score {U : State} {a : Array Value} (h : TB U) : (Cond.code yX6_score cX6_score 3 (some .int)).before a U = true := tb_of h 862 (by decide +kernel) rfl
theorem zm_L_165 {U : State} {a : Array Value} (h : TB U) : (Cond.methodLink RL 165 yL_day).before a U = true := tb_of h 863 (by decide +kernel) rfl
theorem zt_L_day {U : State} {a : Array Value} (h : TB U) : (Cond.static yL_day).before a U = true := tb_of h 864 (by decide +kernel) rfl
theorem zh_L_day {U : State} {a : Array Value} (h : TB U) : (Cond.codeWith yL_day cL_day 3 (some .int) [(0, 8, 11, 15)]).before a U = true := tb_of h 865 (by decide +kernel) rfl
theorem zm_L_78 {U : State} {a : Array Value} (h : TB U) : (Cond.methodLink RL 78 yX6_day).before a U = true := tb_of h 866 (by decide +kernel) rfl
theorem zi_X6_day {U : State} {a : Array Value} (h : TB U) : (Cond.instanceMethod yX6_day).before a U = true := tb_of h 867 (by decide +kernel) rfl
theorem zs_X6_X6_day {U : State} {a : Array Value} (h : TB U) : (Cond.selects RX6 yX6_day yX6_day).before a U = true := tb_of h 868 (by decide +kernel) rfl
theorem zk_X6_day {U : State} {a : Array Value} (h : TB U) : (Cond.code yX6_day cX6_day 4 (some .int)).before a U = true := tb_of h 869 (by decide +kernel) rfl
theorem zm_X6_257 {U : State} {a : Array Value} (h : TB U) : (Cond.methodLink RX6 257 yX6_isOverdue).before a U = true := tb_of h 871 (by decide +kernel) rfl
theorem zi_X6_isOverdue {U : State} {a : Array Value} (h : TB U) : (Cond.instanceMethod yX6_isOverdue).before a U = true := tb_of h 873 (by decide +kernel) rfl
theorem zk_X6_isOverdue {U : State} {a : Array Value} (h : TB U) : (Cond.code yX6_isOverdue cX6_isOverdue 3 (some .boolean)).before a U = true := tb_of h 874 (by decide +kernel) rfl
theorem zm_X6_261 {U : State} {a : Array Value} (h : TB U) : (Cond.methodLink RX6 261 yX6_bearDelay).before a U = true := tb_of h 875 (by decide +kernel) rfl
theorem zi_X6_bearDelay {U : State} {a : Array Value} (h : TB U) : (Cond.instanceMethod yX6_bearDelay).before a U = true := tb_of h 877 (by decide +kernel) rfl
theorem zk_X6_bearDelay {U : State} {a : Array Value} (h : TB U) : (Cond.code yX6_bearDelay cX6_bearDelay 2 (none)).before a U = true := tb_of h 878 (by decide +kernel) rfl
theorem zm_X6_409 {U : State} {a : Array Value} (h : TB U) : (Cond.methodLink RX6 409 yX2_loseTrust).before a U = true := tb_of h 879 (by decide +kernel) rfl
theorem zi_X2_loseTrust {U : State} {a : Array Value} (h : TB U) : (Cond.instanceMethod yX2_loseTrust).before a U = true := tb_of h 880 (by decide +kernel) rfl
theorem zs_X2_X2_loseTrust {U : State} {a : Array Value} (h : TB U) : (Cond.selects RX2 yX2_loseTrust yX2_loseTrust).before a U = true := tb_of h 881 (by decide +kernel) rfl
theorem zk_X2_loseTrust {U : State} {a : Array Value} (h : TB U) : (Cond.code yX2_loseTrust cX2_loseTrust 1 (none)).before a U = true := tb_of h 882 (by decide +kernel) rfl
theorem zm_X2_34 {U : State} {a : Array Value} (h : TB U) : (Cond.methodLink RX2 34 yJ9_max_7cf53).before a U = true := tb_of h 883 (by decide +kernel) rfl
theorem zm_L_169 {U : State} {a : Array Value} (h : TB U) : (Cond.methodLink RL 169 yL_many).before a U = true := tb_of h 884 (by decide +kernel) rfl
theorem zt_L_many {U : State} {a : Array Value} (h : TB U) : (Cond.static yL_many).before a U = true := tb_of h 885 (by decide +kernel) rfl
theorem zh_L_many {U : State} {a : Array Value} (h : TB U) : (Cond.codeWith yL_many cL_many 4 (some .int) [(0, 9, 12, 21)]).before a U = true := tb_of h 886 (by decide +kernel) rfl
theorem zm_L_82 {U : State} {a : Array Value} (h : TB U) : (Cond.methodLink RL 82 yX6_many).before a U = true := tb_of h 887 (by decide +kernel) rfl
theorem zm_L_177 {U : State} {a : Array Value} (h : TB U) : (Cond.methodLink RL 177 yL_wouldMatch).before a U = true := tb_of h 888 (by decide +kernel) rfl
theorem zt_L_wouldMatch {U : State} {a : Array Value} (h : TB U) : (Cond.static yL_wouldMatch).before a U = true := tb_of h 889 (by decide +kernel) rfl
theorem zh_L_wouldMatch {U : State} {a : Array Value} (h : TB U) : (Cond.codeWith yL_wouldMatch cL_wouldMatch 6 (some .int) [(0, 12, 15, 21)]).before a U = true := tb_of h 890 (by decide +kernel) rfl
theorem zm_L_85 {U : State} {a : Array Value} (h : TB U) : (Cond.methodLink RL 85 yX6_wouldMatch).before a U = true := tb_of h 891 (by decide +kernel) rfl
theorem zi_X6_wouldMatch {U : State} {a : Array Value} (h : TB U) : (Cond.instanceMethod yX6_wouldMatch).before a U = true := tb_of h 892 (by decide +kernel) rfl
theorem zs_X6_X6_wouldMatch {U : State} {a : Array Value} (h : TB U) : (Cond.selects RX6 yX6_wouldMatch yX6_wouldMatch).before a U = true := tb_of h 893 (by decide +kernel) rfl
theorem zk_X6_wouldMatch {U : State} {a : Array Value} (h : TB U) : (Cond.code yX6_wouldMatch cX6_wouldMatch 9 (some .int)).before a U = true := tb_of h 894 (by decide +kernel) rfl
theorem zm_L_180 {U : State} {a : Array Value} (h : TB U) : (Cond.methodLink RL 180 yL_trustBehind).before a U = true := tb_of h 895 (by decide +kernel) rfl
theorem zt_L_trustBehind {U : State} {a : Array Value} (h : TB U) : (Cond.static yL_trustBehind).before a U = true := tb_of h 896 (by decide +kernel) rfl
theorem zh_L_trustBehind {U : State} {a : Array Value} (h : TB U) : (Cond.codeWith yL_trustBehind cL_trustBehind 5 (some .int) [(0, 10, 13, 13), (0, 10, 17, 21)]).before a U = true := tb_of h 897 (by decide +kernel) rfl
theorem zm_L_88 {U : State} {a : Array Value} (h : TB U) : (Cond.methodLink RL 88 yX6_trustBehind).before a U = true := tb_of h 898 (by decide +kernel) rfl
theorem zm_L_183 {U : State} {a : Array Value} (h : TB U) : (Cond.methodLink RL 183 yL_leftWith).before a U = true := tb_of h 899 (by decide +kernel) rfl
theorem zt_L_leftWith {U : State} {a : Array Value} (h : TB U) : (Cond.static yL_leftWith).before a U = true := tb_of h 900 (by decide +kernel) rfl
theorem zh_L_leftWith {U : State} {a : Array Value} (h : TB U) : (Cond.codeWith yL_leftWith cL_leftWith 5 (some .int) [(0, 10, 13, 13)]).before a U = true := tb_of h 901 (by decide +kernel) rfl
theorem zm_L_91 {U : State} {a : Array Value} (h : TB U) : (Cond.methodLink RL 91 yX6_leftWith).before a U = true := tb_of h 902 (by decide +kernel) rfl
theorem zi_X6_leftWith {U : State} {a : Array Value} (h : TB U) : (Cond.instanceMethod yX6_leftWith).before a U = true := tb_of h 903 (by decide +kernel) rfl
theorem zs_X6_X6_leftWith {U : State} {a : Array Value} (h : TB U) : (Cond.selects RX6 yX6_leftWith yX6_leftWith).before a U = true := tb_of h 904 (by decide +kernel) rfl
theorem zk_X6_leftWith {U : State} {a : Array Value} (h : TB U) : (Cond.code yX6_leftWith cX6_leftWith 3 (some .int)).before a U = true := tb_of h 905 (by decide +kernel) rfl
theorem zc_L_95 {U : State} {a : Array Value} (h : TB U) : (Cond.classLink RL 95 RX12).before a U = true := tb_of h 906 (by decide +kernel) rfl
theorem zI_X12 {U : State} {a : Array Value} (h : TB U) : (Cond.instantiable RX12 2).before a U = true := tb_of h 907 (by decide +kernel) rfl
theorem zm_L_97 {U : State} {a : Array Value} (h : TB U) : (Cond.methodLink RL 97 yX12_init).before a U = true := tb_of h 908 (by decide +kernel) rfl
theorem zi_X12_init {U : State} {a : Array Value} (h : TB U) : (Cond.instanceMethod yX12_init).before a U = true := tb_of h 909 (by decide +kernel) rfl
theorem zk_X12_init {U : State} {a : Array Value} (h : TB U) : (Cond.code yX12_init cX12_init 1 (none)).before a U = true := tb_of h 910 (by decide +kernel) rfl
theorem zm_X12_1 {U : State} {a : Array Value} (h : TB U) : (Cond.methodLink RX12 1 ⟨"java/lang/Object", "<init>", "()V"⟩).before a U = true := tb_of h 911 (by decide +kernel) rfl
theorem zc_X12_7 {U : State} {a : Array Value} (h : TB U) : (Cond.classLink RX12 7 RX8).before a U = true := tb_of h 912 (by decide +kernel) rfl
theorem zI_X8 {U : State} {a : Array Value} (h : TB U) : (Cond.instantiable RX8 8).before a U = true := tb_of h 913 (by decide +kernel) rfl
theorem zi_X8_init {U : State} {a : Array Value} (h : TB U) : (Cond.instanceMethod yX8_init).before a U = true := tb_of h 915 (by decide +kernel) rfl
theorem zk_X8_init {U : State} {a : Array Value} (h : TB U) : (Cond.code yX8_init cX8_init 1 (none)).before a U = true := tb_of h 916 (by decide +kernel) rfl
theorem zm_X8_3 {U : State} {a : Array Value} (h : TB U) : (Cond.methodLink RX8 3 ⟨"java/lang/Object", "<init>", "()V"⟩).before a U = true := tb_of h 917 (by decide +kernel) rfl
theorem zc_X8_9 {U : State} {a : Array Value} (h : TB U) : (Cond.classLink RX8 9 RJx4a65c).before a U = true := tb_of h 918 (by decide +kernel) rfl
theorem zm_X8_11 {U : State} {a : Array Value} (h : TB U) : (Cond.methodLink RX8 11 yJx4a65c_init_da8c8).before a U = true := tb_of h 919 (by decide +kernel) rfl
theorem zc_X8_27 {U : State} {a : Array Value} (h : TB U) : (Cond.classLink RX8 27 "[[I").before a U = true := tb_of h 920 (by decide +kernel) rfl
theorem zf_X8_12 {U : State} {a : Array Value} (h : TB U) : (Cond.fieldLink RX8 12 "ApprovalGridModel$Desk" "people" "Ljava/util/ArrayList;").before a U = true := tb_of h 922 (by decide +kernel) rfl
theorem zf_X12_24 {U : State} {a : Array Value} (h : TB U) : (Cond.fieldLink RX12 24 "ApprovalGridModel$Desk" "people" "Ljava/util/ArrayList;").before a U = true := tb_of h 923 (by decide +kernel) rfl
theorem zf_X8_18 {U : State} {a : Array Value} (h : TB U) : (Cond.fieldLink RX8 18 "ApprovalGridModel$Desk" "trips" "Ljava/util/ArrayList;").before a U = true := tb_of h 924 (by decide +kernel) rfl
theorem zf_X12_87 {U : State} {a : Array Value} (h : TB U) : (Cond.fieldLink RX12 87 "ApprovalGridModel$Desk" "trips" "Ljava/util/ArrayList;").before a U = true := tb_of h 925 (by decide +kernel) rfl
theorem zf_X8_21 {U : State} {a : Array Value} (h : TB U) : (Cond.fieldLink RX8 21 "ApprovalGridModel$Desk" "charges" "Ljava/util/ArrayList;").before a U = true := tb_of h 926 (by decide +kernel) rfl
theorem zf_X12_95 {U : State} {a : Array Value} (h : TB U) : (Cond.fieldLink RX12 95 "ApprovalGridModel$Desk" "charges" "Ljava/util/ArrayList;").before a U = true := tb_of h 927 (by decide +kernel) rfl
theorem zf_X8_24 {U : State} {a : Array Value} (h : TB U) : (Cond.fieldLink RX8 24 "ApprovalGridModel$Desk" "receipts" "Ljava/util/ArrayList;").before a U = true := tb_of h 928 (by decide +kernel) rfl
theorem zf_X12_185 {U : State} {a : Array Value} (h : TB U) : (Cond.fieldLink RX12 185 "ApprovalGridModel$Desk" "receipts" "Ljava/util/ArrayList;").before a U = true := tb_of h 929 (by decide +kernel) rfl
theorem zf_X8_29 {U : State} {a : Array Value} (h : TB U) : (Cond.fieldLink RX8 29 "ApprovalGridModel$Desk" "plans" "[[I").before a U = true := tb_of h 930 (by decide +kernel) rfl
theorem zf_X12_153 {U : State} {a : Array Value} (h : TB U) : (Cond.fieldLink RX12 153 "ApprovalGridModel$Desk" "plans" "[[I").before a U = true := tb_of h 931 (by decide +kernel) rfl
theorem zf_X8_32 {U : State} {a : Array Value} (h : TB U) : (Cond.fieldLink RX8 32 "ApprovalGridModel$Desk" "carries" "[I").before a U = true := tb_of h 932 (by decide +kernel) rfl
theorem zf_X12_157 {U : State} {a : Array Value} (h : TB U) : (Cond.fieldLink RX12 157 "ApprovalGridModel$Desk" "carries" "[I").before a U = true := tb_of h 933 (by decide +kernel) rfl
theorem zf_X8_36 {U : State} {a : Array Value} (h : TB U) : (Cond.fieldLink RX8 36 "ApprovalGridModel$Desk" "rates" "[[I").before a U = true := tb_of h 934 (by decide +kernel) rfl
theorem zf_X12_160 {U : State} {a : Array Value} (h : TB U) : (Cond.fieldLink RX12 160 "ApprovalGridModel$Desk" "rates" "[[I").before a U = true := tb_of h 935 (by decide +kernel) rfl
theorem zf_X8_49 {U : State} {a : Array Value} (h : TB U) : (Cond.fieldLink RX8 49 "ApprovalGridModel$Desk" "day" "I").before a U = true := tb_of h 936 (by decide +kernel) rfl
theorem zf_X12_170 {U : State} {a : Array Value} (h : TB U) : (Cond.fieldLink RX12 170 "ApprovalGridModel$Desk" "day" "I").before a U = true := tb_of h 937 (by decide +kernel) rfl
theorem zS_X8_Object {U : State} {a : Array Value} (h : TB U) : (Cond.superclass RX8 "java/lang/Object").before a U = true := tb_of h 954 (by decide +kernel) rfl
theorem zf_X12_16 {U : State} {a : Array Value} (h : TB U) : (Cond.fieldLink RX12 16 "ApprovalGridModel" "thrown" "I").before a U = true := tb_of h 955 (by decide +kernel) rfl
theorem zf_X12_10 {U : State} {a : Array Value} (h : TB U) : (Cond.fieldLink RX12 10 "ApprovalGridModel" "desk" "LApprovalGridModel$Desk;").before a U = true := tb_of h 956 (by decide +kernel) rfl
theorem zS_X12_Object {U : State} {a : Array Value} (h : TB U) : (Cond.superclass RX12 "java/lang/Object").before a U = true := tb_of h 961 (by decide +kernel) rfl
theorem zm_L_104 {U : State} {a : Array Value} (h : TB U) : (Cond.methodLink RL 104 yX12_thrown).before a U = true := tb_of h 962 (by decide +kernel) rfl
theorem zi_X12_thrown {U : State} {a : Array Value} (h : TB U) : (Cond.instanceMethod yX12_thrown).before a U = true := tb_of h 963 (by decide +kernel) rfl
theorem zs_X12_X12_thrown {U : State} {a : Array Value} (h : TB U) : (Cond.selects RX12 yX12_thrown yX12_thrown).before a U = true := tb_of h 964 (by decide +kernel) rfl
theorem zk_X12_thrown {U : State} {a : Array Value} (h : TB U) : (Cond.code yX12_thrown cX12_thrown 1 (some .int)).before a U = true := tb_of h 965 (by decide +kernel) rfl
theorem zm_L_103 {U : State} {a : Array Value} (h : TB U) : (Cond.methodLink RL 103 yX12_person).before a U = true := tb_of h 966 (by decide +kernel) rfl
theorem zi_X12_person {U : State} {a : Array Value} (h : TB U) : (Cond.instanceMethod yX12_person).before a U = true := tb_of h 967 (by decide +kernel) rfl
theorem zs_X12_X12_person {U : State} {a : Array Value} (h : TB U) : (Cond.selects RX12 yX12_person yX12_person).before a U = true := tb_of h 968 (by decide +kernel) rfl
theorem zk_X12_person {U : State} {a : Array Value} (h : TB U) : (Cond.code yX12_person cX12_person 2 (some .int)).before a U = true := tb_of h 969 (by decide +kernel) rfl
theorem zm_X12_44 {U : State} {a : Array Value} (h : TB U) : (Cond.methodLink RX12 44 yX12_isNo).before a U = true := tb_of h 970 (by decide +kernel) rfl
theorem zi_X12_isNo {U : State} {a : Array Value} (h : TB U) : (Cond.instanceMethod yX12_isNo).before a U = true := tb_of h 972 (by decide +kernel) rfl
theorem zk_X12_isNo {U : State} {a : Array Value} (h : TB U) : (Cond.code yX12_isNo cX12_isNo 2 (some .boolean)).before a U = true := tb_of h 973 (by decide +kernel) rfl
theorem zm_X12_28 {U : State} {a : Array Value} (h : TB U) : (Cond.methodLink RX12 28 yJx4a65c_size_8abf5).before a U = true := tb_of h 974 (by decide +kernel) rfl
theorem zm_X12_34 {U : State} {a : Array Value} (h : TB U) : (Cond.methodLink RX12 34 yX12_isIn).before a U = true := tb_of h 975 (by decide +kernel) rfl
theorem zt_X12_isIn {U : State} {a : Array Value} (h : TB U) : (Cond.static yX12_isIn).before a U = true := tb_of h 976 (by decide +kernel) rfl
theorem zk_X12_isIn {U : State} {a : Array Value} (h : TB U) : (Cond.code yX12_isIn cX12_isIn 3 (some .boolean)).before a U = true := tb_of h 977 (by decide +kernel) rfl
theorem zm_X12_48 {U : State} {a : Array Value} (h : TB U) : (Cond.methodLink RX12 48 yX12_start).before a U = true := tb_of h 978 (by decide +kernel) rfl
theorem zi_X12_start {U : State} {a : Array Value} (h : TB U) : (Cond.instanceMethod yX12_start).before a U = true := tb_of h 980 (by decide +kernel) rfl
theorem zk_X12_start {U : State} {a : Array Value} (h : TB U) : (Cond.code yX12_start cX12_start 3 (some .boolean)).before a U = true := tb_of h 981 (by decide +kernel) rfl
theorem zm_X12_20 {U : State} {a : Array Value} (h : TB U) : (Cond.methodLink RX12 20 yX12_refuse).before a U = true := tb_of h 982 (by decide +kernel) rfl
theorem zi_X12_refuse {U : State} {a : Array Value} (h : TB U) : (Cond.instanceMethod yX12_refuse).before a U = true := tb_of h 984 (by decide +kernel) rfl
theorem zk_X12_refuse {U : State} {a : Array Value} (h : TB U) : (Cond.code yX12_refuse cX12_refuse 3 (some .boolean)).before a U = true := tb_of h 985 (by decide +kernel) rfl
theorem zc_X12_42 {U : State} {a : Array Value} (h : TB U) : (Cond.classLink RX12 42 RX9).before a U = true := tb_of h 986 (by decide +kernel) rfl
theorem zI_X9 {U : State} {a : Array Value} (h : TB U) : (Cond.instantiable RX9 7).before a U = true := tb_of h 987 (by decide +kernel) rfl
theorem zm_X12_51 {U : State} {a : Array Value} (h : TB U) : (Cond.methodLink RX12 51 yX12_of).before a U = true := tb_of h 988 (by decide +kernel) rfl
theorem zi_X12_of {U : State} {a : Array Value} (h : TB U) : (Cond.instanceMethod yX12_of).before a U = true := tb_of h 990 (by decide +kernel) rfl
theorem zk_X12_of {U : State} {a : Array Value} (h : TB U) : (Cond.code yX12_of cX12_of 2 (some (.object "ApprovalGridModel$Person"))).before a U = true := tb_of h 991 (by decide +kernel) rfl
theorem zm_X12_38 {U : State} {a : Array Value} (h : TB U) : (Cond.methodLink RX12 38 yJx4a65c_get_915e3).before a U = true := tb_of h 992 (by decide +kernel) rfl
theorem zm_X12_55 {U : State} {a : Array Value} (h : TB U) : (Cond.methodLink RX12 55 yX9_init).before a U = true := tb_of h 993 (by decide +kernel) rfl
theorem zi_X9_init {U : State} {a : Array Value} (h : TB U) : (Cond.instanceMethod yX9_init).before a U = true := tb_of h 994 (by decide +kernel) rfl
theorem zk_X9_init {U : State} {a : Array Value} (h : TB U) : (Cond.code yX9_init cX9_init 3 (none)).before a U = true := tb_of h 995 (by decide +kernel) rfl
theorem zm_X9_3 {U : State} {a : Array Value} (h : TB U) : (Cond.methodLink RX9 3 ⟨"java/lang/Object", "<init>", "()V"⟩).before a U = true := tb_of h 996 (by decide +kernel) rfl
theorem zf_X9_25 {U : State} {a : Array Value} (h : TB U) : (Cond.fieldLink RX9 25 "ApprovalGridModel$Person" "number" "I").before a U = true := tb_of h 997 (by decide +kernel) rfl
theorem zf_X8_165 {U : State} {a : Array Value} (h : TB U) : (Cond.fieldLink RX8 165 "ApprovalGridModel$Person" "number" "I").before a U = true := tb_of h 998 (by decide +kernel) rfl
theorem zf_X12_121 {U : State} {a : Array Value} (h : TB U) : (Cond.fieldLink RX12 121 "ApprovalGridModel$Person" "number" "I").before a U = true := tb_of h 999 (by decide +kernel) rfl
theorem zf_X9_28 {U : State} {a : Array Value} (h : TB U) : (Cond.fieldLink RX9 28 "ApprovalGridModel$Person" "boss" "LApprovalGridModel$Person;").before a U = true := tb_of h 1000 (by decide +kernel) rfl
theorem zf_X8_154 {U : State} {a : Array Value} (h : TB U) : (Cond.fieldLink RX8 154 "ApprovalGridModel$Person" "boss" "LApprovalGridModel$Person;").before a U = true := tb_of h 1001 (by decide +kernel) rfl
theorem zf_X12_117 {U : State} {a : Array Value} (h : TB U) : (Cond.fieldLink RX12 117 "ApprovalGridModel$Person" "boss" "LApprovalGridModel$Person;").before a U = true := tb_of h 1002 (by decide +kernel) rfl
theorem zf_X9_9 {U : State} {a : Array Value} (h : TB U) : (Cond.fieldLink RX9 9 "ApprovalGridModel$Person" "trust" "I").before a U = true := tb_of h 1003 (by decide +kernel) rfl
theorem zf_X8_77 {U : State} {a : Array Value} (h : TB U) : (Cond.fieldLink RX8 77 "ApprovalGridModel$Person" "trust" "I").before a U = true := tb_of h 1004 (by decide +kernel) rfl
theorem zf_X12_124 {U : State} {a : Array Value} (h : TB U) : (Cond.fieldLink RX12 124 "ApprovalGridModel$Person" "trust" "I").before a U = true := tb_of h 1005 (by decide +kernel) rfl
theorem zf_X8_140 {U : State} {a : Array Value} (h : TB U) : (Cond.fieldLink RX8 140 "ApprovalGridModel$Person" "points" "I").before a U = true := tb_of h 1006 (by decide +kernel) rfl
theorem zf_X12_127 {U : State} {a : Array Value} (h : TB U) : (Cond.fieldLink RX12 127 "ApprovalGridModel$Person" "points" "I").before a U = true := tb_of h 1007 (by decide +kernel) rfl
theorem zf_X9_15 {U : State} {a : Array Value} (h : TB U) : (Cond.fieldLink RX9 15 "ApprovalGridModel$Person" "limits" "[I").before a U = true := tb_of h 1008 (by decide +kernel) rfl
theorem zf_X8_74 {U : State} {a : Array Value} (h : TB U) : (Cond.fieldLink RX8 74 "ApprovalGridModel$Person" "limits" "[I").before a U = true := tb_of h 1009 (by decide +kernel) rfl
theorem zf_X12_65 {U : State} {a : Array Value} (h : TB U) : (Cond.fieldLink RX12 65 "ApprovalGridModel$Person" "limits" "[I").before a U = true := tb_of h 1010 (by decide +kernel) rfl
theorem zf_X9_19 {U : State} {a : Array Value} (h : TB U) : (Cond.fieldLink RX9 19 "ApprovalGridModel$Person" "awayTo" "I").before a U = true := tb_of h 1011 (by decide +kernel) rfl
theorem zf_X8_45 {U : State} {a : Array Value} (h : TB U) : (Cond.fieldLink RX8 45 "ApprovalGridModel$Person" "awayTo" "I").before a U = true := tb_of h 1012 (by decide +kernel) rfl
theorem zf_X12_75 {U : State} {a : Array Value} (h : TB U) : (Cond.fieldLink RX12 75 "ApprovalGridModel$Person" "awayTo" "I").before a U = true := tb_of h 1013 (by decide +kernel) rfl
theorem zf_X9_22 {U : State} {a : Array Value} (h : TB U) : (Cond.fieldLink RX9 22 "ApprovalGridModel$Person" "standIn" "I").before a U = true := tb_of h 1014 (by decide +kernel) rfl
theorem zf_X8_172 {U : State} {a : Array Value} (h : TB U) : (Cond.fieldLink RX8 172 "ApprovalGridModel$Person" "standIn" "I").before a U = true := tb_of h 1015 (by decide +kernel) rfl
theorem zf_X12_78 {U : State} {a : Array Value} (h : TB U) : (Cond.fieldLink RX12 78 "ApprovalGridModel$Person" "standIn" "I").before a U = true := tb_of h 1016 (by decide +kernel) rfl
theorem zS_X9_Object {U : State} {a : Array Value} (h : TB U) : (Cond.superclass RX9 "java/lang/Object").before a U = true := tb_of h 1031 (by decide +kernel) rfl
theorem zm_X12_58 {U : State} {a : Array Value} (h : TB U) : (Cond.methodLink RX12 58 yJx4a65c_add_9ea2d).before a U = true := tb_of h 1032 (by decide +kernel) rfl
theorem zm_L_110 {U : State} {a : Array Value} (h : TB U) : (Cond.methodLink RL 110 yX12_limit).before a U = true := tb_of h 1033 (by decide +kernel) rfl
theorem zi_X12_limit {U : State} {a : Array Value} (h : TB U) : (Cond.instanceMethod yX12_limit).before a U = true := tb_of h 1034 (by decide +kernel) rfl
theorem zs_X12_X12_limit {U : State} {a : Array Value} (h : TB U) : (Cond.selects RX12 yX12_limit yX12_limit).before a U = true := tb_of h 1035 (by decide +kernel) rfl
theorem zk_X12_limit {U : State} {a : Array Value} (h : TB U) : (Cond.code yX12_limit cX12_limit 5 (some .int)).before a U = true := tb_of h 1036 (by decide +kernel) rfl
theorem zm_X12_62 {U : State} {a : Array Value} (h : TB U) : (Cond.methodLink RX12 62 yX12_isNoKind).before a U = true := tb_of h 1037 (by decide +kernel) rfl
theorem zt_X12_isNoKind {U : State} {a : Array Value} (h : TB U) : (Cond.static yX12_isNoKind).before a U = true := tb_of h 1038 (by decide +kernel) rfl
theorem zk_X12_isNoKind {U : State} {a : Array Value} (h : TB U) : (Cond.code yX12_isNoKind cX12_isNoKind 1 (some .boolean)).before a U = true := tb_of h 1039 (by decide +kernel) rfl
theorem zm_L_113 {U : State} {a : Array Value} (h : TB U) : (Cond.methodLink RL 113 yX12_away).before a U = true := tb_of h 1040 (by decide +kernel) rfl
theorem zi_X12_away {U : State} {a : Array Value} (h : TB U) : (Cond.instanceMethod yX12_away).before a U = true := tb_of h 1041 (by decide +kernel) rfl
theorem zs_X12_X12_away {U : State} {a : Array Value} (h : TB U) : (Cond.selects RX12 yX12_away yX12_away).before a U = true := tb_of h 1042 (by decide +kernel) rfl
theorem zk_X12_away {U : State} {a : Array Value} (h : TB U) : (Cond.code yX12_away cX12_away 5 (some .boolean)).before a U = true := tb_of h 1043 (by decide +kernel) rfl
theorem zm_X12_69 {U : State} {a : Array Value} (h : TB U) : (Cond.methodLink RX12 69 yX12_isNoDay).before a U = true := tb_of h 1044 (by decide +kernel) rfl
theorem zt_X12_isNoDay {U : State} {a : Array Value} (h : TB U) : (Cond.static yX12_isNoDay).before a U = true := tb_of h 1045 (by decide +kernel) rfl
theorem zk_X12_isNoDay {U : State} {a : Array Value} (h : TB U) : (Cond.code yX12_isNoDay cX12_isNoDay 1 (some .boolean)).before a U = true := tb_of h 1046 (by decide +kernel) rfl
theorem zm_X12_72 {U : State} {a : Array Value} (h : TB U) : (Cond.methodLink RX12 72 yX8_isAway).before a U = true := tb_of h 1047 (by decide +kernel) rfl
theorem zi_X8_isAway {U : State} {a : Array Value} (h : TB U) : (Cond.instanceMethod yX8_isAway).before a U = true := tb_of h 1048 (by decide +kernel) rfl
theorem zs_X8_X8_isAway {U : State} {a : Array Value} (h : TB U) : (Cond.selects RX8 yX8_isAway yX8_isAway).before a U = true := tb_of h 1049 (by decide +kernel) rfl
theorem zk_X8_isAway {U : State} {a : Array Value} (h : TB U) : (Cond.code yX8_isAway cX8_isAway 2 (some .boolean)).before a U = true := tb_of h 1050 (by decide +kernel) rfl
theorem zm_X8_39 {U : State} {a : Array Value} (h : TB U) : (Cond.methodLink RX8 39 yJx4a65c_get_915e3).before a U = true := tb_of h 1051 (by decide +kernel) rfl
theorem zc_X8_43 {U : State} {a : Array Value} (h : TB U) : (Cond.classLink RX8 43 RX9).before a U = true := tb_of h 1052 (by decide +kernel) rfl
theorem zm_X12_81 {U : State} {a : Array Value} (h : TB U) : (Cond.methodLink RX12 81 yX8_goOn).before a U = true := tb_of h 1053 (by decide +kernel) rfl
theorem zi_X8_goOn {U : State} {a : Array Value} (h : TB U) : (Cond.instanceMethod yX8_goOn).before a U = true := tb_of h 1054 (by decide +kernel) rfl
theorem zs_X8_X8_goOn {U : State} {a : Array Value} (h : TB U) : (Cond.selects RX8 yX8_goOn yX8_goOn).before a U = true := tb_of h 1055 (by decide +kernel) rfl
theorem zk_X8_goOn {U : State} {a : Array Value} (h : TB U) : (Cond.code yX8_goOn cX8_goOn 3 (none)).before a U = true := tb_of h 1056 (by decide +kernel) rfl
theorem zm_X8_52 {U : State} {a : Array Value} (h : TB U) : (Cond.methodLink RX8 52 yJx4a65c_size_8abf5).before a U = true := tb_of h 1057 (by decide +kernel) rfl
theorem zc_X8_83 {U : State} {a : Array Value} (h : TB U) : (Cond.classLink RX8 83 RX7).before a U = true := tb_of h 1058 (by decide +kernel) rfl
theorem zm_X8_161 {U : State} {a : Array Value} (h : TB U) : (Cond.methodLink RX8 161 yX8_bossOf).before a U = true := tb_of h 1059 (by decide +kernel) rfl
theorem zi_X8_bossOf {U : State} {a : Array Value} (h : TB U) : (Cond.instanceMethod yX8_bossOf).before a U = true := tb_of h 1061 (by decide +kernel) rfl
theorem zk_X8_bossOf {U : State} {a : Array Value} (h : TB U) : (Cond.code yX8_bossOf cX8_bossOf 5 (some (.object "ApprovalGridModel$Person"))).before a U = true := tb_of h 1062 (by decide +kernel) rfl
theorem zm_X8_158 {U : State} {a : Array Value} (h : TB U) : (Cond.methodLink RX8 158 yX7_needs).before a U = true := tb_of h 1063 (by decide +kernel) rfl
theorem zi_X7_needs {U : State} {a : Array Value} (h : TB U) : (Cond.instanceMethod yX7_needs).before a U = true := tb_of h 1064 (by decide +kernel) rfl
theorem zs_X7_X7_needs {U : State} {a : Array Value} (h : TB U) : (Cond.selects RX7 yX7_needs yX7_needs).before a U = true := tb_of h 1065 (by decide +kernel) rfl
theorem zk_X7_needs {U : State} {a : Array Value} (h : TB U) : (Cond.code yX7_needs cX7_needs 1 (some .int)).before a U = true := tb_of h 1066 (by decide +kernel) rfl
theorem zm_X8_175 {U : State} {a : Array Value} (h : TB U) : (Cond.methodLink RX8 175 yX8_approver).before a U = true := tb_of h 1067 (by decide +kernel) rfl
theorem zi_X8_approver {U : State} {a : Array Value} (h : TB U) : (Cond.instanceMethod yX8_approver).before a U = true := tb_of h 1068 (by decide +kernel) rfl
theorem zs_X8_X8_approver {U : State} {a : Array Value} (h : TB U) : (Cond.selects RX8 yX8_approver yX8_approver).before a U = true := tb_of h 1069 (by decide +kernel) rfl
theorem zk_X8_approver {U : State} {a : Array Value} (h : TB U) : (Cond.code yX8_approver cX8_approver 3 (some .int)).before a U = true := tb_of h 1070 (by decide +kernel) rfl
theorem zm_X8_168 {U : State} {a : Array Value} (h : TB U) : (Cond.methodLink RX8 168 yX8_isAway).before a U = true := tb_of h 1071 (by decide +kernel) rfl
theorem zm_L_117 {U : State} {a : Array Value} (h : TB U) : (Cond.methodLink RL 117 yX12_trip).before a U = true := tb_of h 1072 (by decide +kernel) rfl
theorem zi_X12_trip {U : State} {a : Array Value} (h : TB U) : (Cond.instanceMethod yX12_trip).before a U = true := tb_of h 1073 (by decide +kernel) rfl
theorem zs_X12_X12_trip {U : State} {a : Array Value} (h : TB U) : (Cond.selects RX12 yX12_trip yX12_trip).before a U = true := tb_of h 1074 (by decide +kernel) rfl
theorem zk_X12_trip {U : State} {a : Array Value} (h : TB U) : (Cond.code yX12_trip cX12_trip 6 (some .int)).before a U = true := tb_of h 1075 (by decide +kernel) rfl
theorem zm_X12_84 {U : State} {a : Array Value} (h : TB U) : (Cond.methodLink RX12 84 yX12_isNoLand).before a U = true := tb_of h 1076 (by decide +kernel) rfl
theorem zt_X12_isNoLand {U : State} {a : Array Value} (h : TB U) : (Cond.static yX12_isNoLand).before a U = true := tb_of h 1077 (by decide +kernel) rfl
theorem zk_X12_isNoLand {U : State} {a : Array Value} (h : TB U) : (Cond.code yX12_isNoLand cX12_isNoLand 1 (some .boolean)).before a U = true := tb_of h 1078 (by decide +kernel) rfl
theorem zc_X12_90 {U : State} {a : Array Value} (h : TB U) : (Cond.classLink RX12 90 RX11).before a U = true := tb_of h 1079 (by decide +kernel) rfl
theorem zI_X11 {U : State} {a : Array Value} (h : TB U) : (Cond.instantiable RX11 5).before a U = true := tb_of h 1080 (by decide +kernel) rfl
theorem zm_X12_92 {U : State} {a : Array Value} (h : TB U) : (Cond.methodLink RX12 92 yX11_init).before a U = true := tb_of h 1081 (by decide +kernel) rfl
theorem zi_X11_init {U : State} {a : Array Value} (h : TB U) : (Cond.instanceMethod yX11_init).before a U = true := tb_of h 1082 (by decide +kernel) rfl
theorem zk_X11_init {U : State} {a : Array Value} (h : TB U) : (Cond.code yX11_init cX11_init 6 (none)).before a U = true := tb_of h 1083 (by decide +kernel) rfl
theorem zm_X11_1 {U : State} {a : Array Value} (h : TB U) : (Cond.methodLink RX11 1 ⟨"java/lang/Object", "<init>", "()V"⟩).before a U = true := tb_of h 1084 (by decide +kernel) rfl
theorem zf_X11_7 {U : State} {a : Array Value} (h : TB U) : (Cond.fieldLink RX11 7 "ApprovalGridModel$Trip" "person" "I").before a U = true := tb_of h 1085 (by decide +kernel) rfl
theorem zf_X8_58 {U : State} {a : Array Value} (h : TB U) : (Cond.fieldLink RX8 58 "ApprovalGridModel$Trip" "person" "I").before a U = true := tb_of h 1086 (by decide +kernel) rfl
theorem zf_X11_13 {U : State} {a : Array Value} (h : TB U) : (Cond.fieldLink RX11 13 "ApprovalGridModel$Trip" "land" "I").before a U = true := tb_of h 1087 (by decide +kernel) rfl
theorem zf_X8_61 {U : State} {a : Array Value} (h : TB U) : (Cond.fieldLink RX8 61 "ApprovalGridModel$Trip" "land" "I").before a U = true := tb_of h 1088 (by decide +kernel) rfl
theorem zf_X11_16 {U : State} {a : Array Value} (h : TB U) : (Cond.fieldLink RX11 16 "ApprovalGridModel$Trip" "from" "I").before a U = true := tb_of h 1089 (by decide +kernel) rfl
theorem zf_X8_64 {U : State} {a : Array Value} (h : TB U) : (Cond.fieldLink RX8 64 "ApprovalGridModel$Trip" "from" "I").before a U = true := tb_of h 1090 (by decide +kernel) rfl
theorem zf_X11_19 {U : State} {a : Array Value} (h : TB U) : (Cond.fieldLink RX11 19 "ApprovalGridModel$Trip" "to" "I").before a U = true := tb_of h 1091 (by decide +kernel) rfl
theorem zf_X8_67 {U : State} {a : Array Value} (h : TB U) : (Cond.fieldLink RX8 67 "ApprovalGridModel$Trip" "to" "I").before a U = true := tb_of h 1092 (by decide +kernel) rfl
theorem zf_X11_22 {U : State} {a : Array Value} (h : TB U) : (Cond.fieldLink RX11 22 "ApprovalGridModel$Trip" "extra" "I").before a U = true := tb_of h 1093 (by decide +kernel) rfl
theorem zf_X8_80 {U : State} {a : Array Value} (h : TB U) : (Cond.fieldLink RX8 80 "ApprovalGridModel$Trip" "extra" "I").before a U = true := tb_of h 1094 (by decide +kernel) rfl
theorem zS_X11_Object {U : State} {a : Array Value} (h : TB U) : (Cond.superclass RX11 "java/lang/Object").before a U = true := tb_of h 1105 (by decide +kernel) rfl
theorem zm_L_121 {U : State} {a : Array Value} (h : TB U) : (Cond.methodLink RL 121 yX12_ofPerson).before a U = true := tb_of h 1106 (by decide +kernel) rfl
theorem zi_X12_ofPerson {U : State} {a : Array Value} (h : TB U) : (Cond.instanceMethod yX12_ofPerson).before a U = true := tb_of h 1107 (by decide +kernel) rfl
theorem zs_X12_X12_ofPerson {U : State} {a : Array Value} (h : TB U) : (Cond.selects RX12 yX12_ofPerson yX12_ofPerson).before a U = true := tb_of h 1108 (by decide +kernel) rfl
theorem zk_X12_ofPerson {U : State} {a : Array Value} (h : TB U) : (Cond.code yX12_ofPerson cX12_ofPerson 3 (some .int)).before a U = true := tb_of h 1109 (by decide +kernel) rfl
theorem zm_X12_140 {U : State} {a : Array Value} (h : TB U) : (Cond.methodLink RX12 140 yX12_ofPersonNow).before a U = true := tb_of h 1110 (by decide +kernel) rfl
theorem zi_X12_ofPersonNow {U : State} {a : Array Value} (h : TB U) : (Cond.instanceMethod yX12_ofPersonNow).before a U = true := tb_of h 1112 (by decide +kernel) rfl
theorem zk_X12_ofPersonNow {U : State} {a : Array Value} (h : TB U) : (Cond.code yX12_ofPersonNow cX12_ofPersonNow 5 (some .int)).before a U = true := tb_of h 1113 (by decide +kernel) rfl
theorem zm_X12_130 {U : State} {a : Array Value} (h : TB U) : (Cond.methodLink RX12 130 yX12_openOf).before a U = true := tb_of h 1114 (by decide +kernel) rfl
theorem zi_X12_openOf {U : State} {a : Array Value} (h : TB U) : (Cond.instanceMethod yX12_openOf).before a U = true := tb_of h 1116 (by decide +kernel) rfl
theorem zk_X12_openOf {U : State} {a : Array Value} (h : TB U) : (Cond.code yX12_openOf cX12_openOf 4 (some .int)).before a U = true := tb_of h 1117 (by decide +kernel) rfl
theorem zc_X12_98 {U : State} {a : Array Value} (h : TB U) : (Cond.classLink RX12 98 RX7).before a U = true := tb_of h 1118 (by decide +kernel) rfl
theorem zm_X12_134 {U : State} {a : Array Value} (h : TB U) : (Cond.methodLink RX12 134 yX12_repaidOf).before a U = true := tb_of h 1119 (by decide +kernel) rfl
theorem zi_X12_repaidOf {U : State} {a : Array Value} (h : TB U) : (Cond.instanceMethod yX12_repaidOf).before a U = true := tb_of h 1121 (by decide +kernel) rfl
theorem zk_X12_repaidOf {U : State} {a : Array Value} (h : TB U) : (Cond.code yX12_repaidOf cX12_repaidOf 4 (some .int)).before a U = true := tb_of h 1122 (by decide +kernel) rfl
theorem zm_X12_106 {U : State} {a : Array Value} (h : TB U) : (Cond.methodLink RX12 106 yX7_isRepaid).before a U = true := tb_of h 1123 (by decide +kernel) rfl
theorem zi_X7_isRepaid {U : State} {a : Array Value} (h : TB U) : (Cond.instanceMethod yX7_isRepaid).before a U = true := tb_of h 1124 (by decide +kernel) rfl
theorem zs_X7_X7_isRepaid {U : State} {a : Array Value} (h : TB U) : (Cond.selects RX7 yX7_isRepaid yX7_isRepaid).before a U = true := tb_of h 1125 (by decide +kernel) rfl
theorem zk_X7_isRepaid {U : State} {a : Array Value} (h : TB U) : (Cond.code yX7_isRepaid cX7_isRepaid 1 (some .boolean)).before a U = true := tb_of h 1126 (by decide +kernel) rfl
theorem zm_X12_137 {U : State} {a : Array Value} (h : TB U) : (Cond.methodLink RX12 137 yX12_waitingFor).before a U = true := tb_of h 1127 (by decide +kernel) rfl
theorem zi_X12_waitingFor {U : State} {a : Array Value} (h : TB U) : (Cond.instanceMethod yX12_waitingFor).before a U = true := tb_of h 1129 (by decide +kernel) rfl
theorem zk_X12_waitingFor {U : State} {a : Array Value} (h : TB U) : (Cond.code yX12_waitingFor cX12_waitingFor 4 (some .int)).before a U = true := tb_of h 1130 (by decide +kernel) rfl
theorem zm_X12_113 {U : State} {a : Array Value} (h : TB U) : (Cond.methodLink RX12 113 yX8_approver).before a U = true := tb_of h 1131 (by decide +kernel) rfl
theorem zm_L_124 {U : State} {a : Array Value} (h : TB U) : (Cond.methodLink RL 124 yX12_maySpend).before a U = true := tb_of h 1132 (by decide +kernel) rfl
theorem zi_X12_maySpend {U : State} {a : Array Value} (h : TB U) : (Cond.instanceMethod yX12_maySpend).before a U = true := tb_of h 1133 (by decide +kernel) rfl
theorem zs_X12_X12_maySpend {U : State} {a : Array Value} (h : TB U) : (Cond.selects RX12 yX12_maySpend yX12_maySpend).before a U = true := tb_of h 1134 (by decide +kernel) rfl
theorem zk_X12_maySpend {U : State} {a : Array Value} (h : TB U) : (Cond.code yX12_maySpend cX12_maySpend 4 (some .int)).before a U = true := tb_of h 1135 (by decide +kernel) rfl
theorem zm_X12_144 {U : State} {a : Array Value} (h : TB U) : (Cond.methodLink RX12 144 yX8_maySpend).before a U = true := tb_of h 1136 (by decide +kernel) rfl
theorem zi_X8_maySpend {U : State} {a : Array Value} (h : TB U) : (Cond.instanceMethod yX8_maySpend).before a U = true := tb_of h 1137 (by decide +kernel) rfl
theorem zs_X8_X8_maySpend {U : State} {a : Array Value} (h : TB U) : (Cond.selects RX8 yX8_maySpend yX8_maySpend).before a U = true := tb_of h 1138 (by decide +kernel) rfl
theorem zk_X8_maySpend {U : State} {a : Array Value} (h : TB U) : (Cond.code yX8_maySpend cX8_maySpend 8 (some .int)).before a U = true := tb_of h 1139 (by decide +kernel) rfl
theorem zm_X8_70 {U : State} {a : Array Value} (h : TB U) : (Cond.methodLink RX8 70 yX8_tripOf).before a U = true := tb_of h 1140 (by decide +kernel) rfl
theorem zi_X8_tripOf {U : State} {a : Array Value} (h : TB U) : (Cond.instanceMethod yX8_tripOf).before a U = true := tb_of h 1141 (by decide +kernel) rfl
theorem zs_X8_X8_tripOf {U : State} {a : Array Value} (h : TB U) : (Cond.selects RX8 yX8_tripOf yX8_tripOf).before a U = true := tb_of h 1142 (by decide +kernel) rfl
theorem zk_X8_tripOf {U : State} {a : Array Value} (h : TB U) : (Cond.code yX8_tripOf cX8_tripOf 5 (some .int)).before a U = true := tb_of h 1143 (by decide +kernel) rfl
theorem zc_X8_56 {U : State} {a : Array Value} (h : TB U) : (Cond.classLink RX8 56 RX11).before a U = true := tb_of h 1144 (by decide +kernel) rfl
theorem zm_X8_85 {U : State} {a : Array Value} (h : TB U) : (Cond.methodLink RX8 85 yX7_isRepaid).before a U = true := tb_of h 1145 (by decide +kernel) rfl
theorem zm_L_127 {U : State} {a : Array Value} (h : TB U) : (Cond.methodLink RL 127 yX12_plan).before a U = true := tb_of h 1146 (by decide +kernel) rfl
theorem zi_X12_plan {U : State} {a : Array Value} (h : TB U) : (Cond.instanceMethod yX12_plan).before a U = true := tb_of h 1147 (by decide +kernel) rfl
theorem zs_X12_X12_plan {U : State} {a : Array Value} (h : TB U) : (Cond.selects RX12 yX12_plan yX12_plan).before a U = true := tb_of h 1148 (by decide +kernel) rfl
theorem zk_X12_plan {U : State} {a : Array Value} (h : TB U) : (Cond.code yX12_plan cX12_plan 5 (some .int)).before a U = true := tb_of h 1149 (by decide +kernel) rfl
theorem zm_X12_148 {U : State} {a : Array Value} (h : TB U) : (Cond.methodLink RX12 148 yX12_isNoBudget).before a U = true := tb_of h 1150 (by decide +kernel) rfl
theorem zi_X12_isNoBudget {U : State} {a : Array Value} (h : TB U) : (Cond.instanceMethod yX12_isNoBudget).before a U = true := tb_of h 1152 (by decide +kernel) rfl
theorem zk_X12_isNoBudget {U : State} {a : Array Value} (h : TB U) : (Cond.code yX12_isNoBudget cX12_isNoBudget 3 (some .boolean)).before a U = true := tb_of h 1153 (by decide +kernel) rfl
theorem zm_L_130 {U : State} {a : Array Value} (h : TB U) : (Cond.methodLink RL 130 yX12_carry).before a U = true := tb_of h 1155 (by decide +kernel) rfl
theorem zi_X12_carry {U : State} {a : Array Value} (h : TB U) : (Cond.instanceMethod yX12_carry).before a U = true := tb_of h 1156 (by decide +kernel) rfl
theorem zs_X12_X12_carry {U : State} {a : Array Value} (h : TB U) : (Cond.selects RX12 yX12_carry yX12_carry).before a U = true := tb_of h 1157 (by decide +kernel) rfl
theorem zk_X12_carry {U : State} {a : Array Value} (h : TB U) : (Cond.code yX12_carry cX12_carry 4 (some .int)).before a U = true := tb_of h 1158 (by decide +kernel) rfl
theorem zm_L_133 {U : State} {a : Array Value} (h : TB U) : (Cond.methodLink RL 133 yX12_rate).before a U = true := tb_of h 1159 (by decide +kernel) rfl
theorem zi_X12_rate {U : State} {a : Array Value} (h : TB U) : (Cond.instanceMethod yX12_rate).before a U = true := tb_of h 1160 (by decide +kernel) rfl
theorem zs_X12_X12_rate {U : State} {a : Array Value} (h : TB U) : (Cond.selects RX12 yX12_rate yX12_rate).before a U = true := tb_of h 1161 (by decide +kernel) rfl
theorem zk_X12_rate {U : State} {a : Array Value} (h : TB U) : (Cond.code yX12_rate cX12_rate 5 (some .int)).before a U = true := tb_of h 1162 (by decide +kernel) rfl
theorem zm_L_136 {U : State} {a : Array Value} (h : TB U) : (Cond.methodLink RL 136 yX12_left).before a U = true := tb_of h 1163 (by decide +kernel) rfl
theorem zi_X12_left {U : State} {a : Array Value} (h : TB U) : (Cond.instanceMethod yX12_left).before a U = true := tb_of h 1164 (by decide +kernel) rfl
theorem zs_X12_X12_left {U : State} {a : Array Value} (h : TB U) : (Cond.selects RX12 yX12_left yX12_left).before a U = true := tb_of h 1165 (by decide +kernel) rfl
theorem zk_X12_left {U : State} {a : Array Value} (h : TB U) : (Cond.code yX12_left cX12_left 3 (some .int)).before a U = true := tb_of h 1166 (by decide +kernel) rfl
theorem zm_X12_163 {U : State} {a : Array Value} (h : TB U) : (Cond.methodLink RX12 163 yX8_left).before a U = true := tb_of h 1167 (by decide +kernel) rfl
theorem zi_X8_left {U : State} {a : Array Value} (h : TB U) : (Cond.instanceMethod yX8_left).before a U = true := tb_of h 1168 (by decide +kernel) rfl
theorem zs_X8_X8_left {U : State} {a : Array Value} (h : TB U) : (Cond.selects RX8 yX8_left yX8_left).before a U = true := tb_of h 1169 (by decide +kernel) rfl
theorem zk_X8_left {U : State} {a : Array Value} (h : TB U) : (Cond.code yX8_left cX8_left 6 (some .int)).before a U = true := tb_of h 1170 (by decide +kernel) rfl
theorem zm_X8_108 {U : State} {a : Array Value} (h : TB U) : (Cond.methodLink RX8 108 yX8_left).before a U = true := tb_of h 1171 (by decide +kernel) rfl
theorem zm_X8_112 {U : State} {a : Array Value} (h : TB U) : (Cond.methodLink RX8 112 yJ9_max_7cf53).before a U = true := tb_of h 1172 (by decide +kernel) rfl
theorem zm_X8_117 {U : State} {a : Array Value} (h : TB U) : (Cond.methodLink RX8 117 yX8_cost).before a U = true := tb_of h 1173 (by decide +kernel) rfl
theorem zi_X8_cost {U : State} {a : Array Value} (h : TB U) : (Cond.instanceMethod yX8_cost).before a U = true := tb_of h 1174 (by decide +kernel) rfl
theorem zs_X8_X8_cost {U : State} {a : Array Value} (h : TB U) : (Cond.selects RX8 yX8_cost yX8_cost).before a U = true := tb_of h 1175 (by decide +kernel) rfl
theorem zk_X8_cost {U : State} {a : Array Value} (h : TB U) : (Cond.code yX8_cost cX8_cost 4 (some .int)).before a U = true := tb_of h 1176 (by decide +kernel) rfl
theorem zm_X8_104 {U : State} {a : Array Value} (h : TB U) : (Cond.methodLink RX8 104 yX8_tax).before a U = true := tb_of h 1177 (by decide +kernel) rfl
theorem zi_X8_tax {U : State} {a : Array Value} (h : TB U) : (Cond.instanceMethod yX8_tax).before a U = true := tb_of h 1178 (by decide +kernel) rfl
theorem zs_X8_X8_tax {U : State} {a : Array Value} (h : TB U) : (Cond.selects RX8 yX8_tax yX8_tax).before a U = true := tb_of h 1179 (by decide +kernel) rfl
theorem zk_X8_tax {U : State} {a : Array Value} (h : TB U) : (Cond.code yX8_tax cX8_tax 2 (some .int)).before a U = true := tb_of h 1180 (by decide +kernel) rfl
theorem zm_L_139 {U : State} {a : Array Value} (h : TB U) : (Cond.methodLink RL 139 yX12_charge).before a U = true := tb_of h 1181 (by decide +kernel) rfl
theorem zi_X12_charge {U : State} {a : Array Value} (h : TB U) : (Cond.instanceMethod yX12_charge).before a U = true := tb_of h 1182 (by decide +kernel) rfl
theorem zs_X12_X12_charge {U : State} {a : Array Value} (h : TB U) : (Cond.selects RX12 yX12_charge yX12_charge).before a U = true := tb_of h 1183 (by decide +kernel) rfl
theorem zk_X12_charge {U : State} {a : Array Value} (h : TB U) : (Cond.code yX12_charge cX12_charge 6 (some .int)).before a U = true := tb_of h 1184 (by decide +kernel) rfl
theorem zm_X12_167 {U : State} {a : Array Value} (h : TB U) : (Cond.methodLink RX12 167 yX12_isNoText).before a U = true := tb_of h 1185 (by decide +kernel) rfl
theorem zt_X12_isNoText {U : State} {a : Array Value} (h : TB U) : (Cond.static yX12_isNoText).before a U = true := tb_of h 1186 (by decide +kernel) rfl
theorem zk_X12_isNoText {U : State} {a : Array Value} (h : TB U) : (Cond.code yX12_isNoText cX12_isNoText 1 (some .boolean)).before a U = true := tb_of h 1187 (by decide +kernel) rfl
theorem zI_X7 {U : State} {a : Array Value} (h : TB U) : (Cond.instantiable RX7 12).before a U = true := tb_of h 1188 (by decide +kernel) rfl
theorem zm_X12_173 {U : State} {a : Array Value} (h : TB U) : (Cond.methodLink RX12 173 yX8_tripOf).before a U = true := tb_of h 1189 (by decide +kernel) rfl
theorem zm_X12_176 {U : State} {a : Array Value} (h : TB U) : (Cond.methodLink RX12 176 yX7_init).before a U = true := tb_of h 1190 (by decide +kernel) rfl
theorem zi_X7_init {U : State} {a : Array Value} (h : TB U) : (Cond.instanceMethod yX7_init).before a U = true := tb_of h 1191 (by decide +kernel) rfl
theorem zk_X7_init {U : State} {a : Array Value} (h : TB U) : (Cond.code yX7_init cX7_init 8 (none)).before a U = true := tb_of h 1192 (by decide +kernel) rfl
theorem zm_X7_3 {U : State} {a : Array Value} (h : TB U) : (Cond.methodLink RX7 3 ⟨"java/lang/Object", "<init>", "()V"⟩).before a U = true := tb_of h 1193 (by decide +kernel) rfl
theorem zf_X7_22 {U : State} {a : Array Value} (h : TB U) : (Cond.fieldLink RX7 22 "ApprovalGridModel$Charge" "person" "I").before a U = true := tb_of h 1194 (by decide +kernel) rfl
theorem zf_X8_92 {U : State} {a : Array Value} (h : TB U) : (Cond.fieldLink RX8 92 "ApprovalGridModel$Charge" "person" "I").before a U = true := tb_of h 1195 (by decide +kernel) rfl
theorem zf_X12_100 {U : State} {a : Array Value} (h : TB U) : (Cond.fieldLink RX12 100 "ApprovalGridModel$Charge" "person" "I").before a U = true := tb_of h 1196 (by decide +kernel) rfl
theorem zf_X7_25 {U : State} {a : Array Value} (h : TB U) : (Cond.fieldLink RX7 25 "ApprovalGridModel$Charge" "kind" "I").before a U = true := tb_of h 1197 (by decide +kernel) rfl
theorem zf_X8_93 {U : State} {a : Array Value} (h : TB U) : (Cond.fieldLink RX8 93 "ApprovalGridModel$Charge" "kind" "I").before a U = true := tb_of h 1198 (by decide +kernel) rfl
theorem zf_X12_218 {U : State} {a : Array Value} (h : TB U) : (Cond.fieldLink RX12 218 "ApprovalGridModel$Charge" "kind" "I").before a U = true := tb_of h 1199 (by decide +kernel) rfl
theorem zf_X7_28 {U : State} {a : Array Value} (h : TB U) : (Cond.fieldLink RX7 28 "ApprovalGridModel$Charge" "land" "I").before a U = true := tb_of h 1200 (by decide +kernel) rfl
theorem zf_X8_100 {U : State} {a : Array Value} (h : TB U) : (Cond.fieldLink RX8 100 "ApprovalGridModel$Charge" "land" "I").before a U = true := tb_of h 1201 (by decide +kernel) rfl
theorem zf_X7_31 {U : State} {a : Array Value} (h : TB U) : (Cond.fieldLink RX7 31 "ApprovalGridModel$Charge" "amount" "I").before a U = true := tb_of h 1202 (by decide +kernel) rfl
theorem zf_X8_97 {U : State} {a : Array Value} (h : TB U) : (Cond.fieldLink RX8 97 "ApprovalGridModel$Charge" "amount" "I").before a U = true := tb_of h 1203 (by decide +kernel) rfl
theorem zf_X12_110 {U : State} {a : Array Value} (h : TB U) : (Cond.fieldLink RX12 110 "ApprovalGridModel$Charge" "amount" "I").before a U = true := tb_of h 1204 (by decide +kernel) rfl
theorem zf_X7_34 {U : State} {a : Array Value} (h : TB U) : (Cond.fieldLink RX7 34 "ApprovalGridModel$Charge" "text" "I").before a U = true := tb_of h 1205 (by decide +kernel) rfl
theorem zf_X7_37 {U : State} {a : Array Value} (h : TB U) : (Cond.fieldLink RX7 37 "ApprovalGridModel$Charge" "day" "I").before a U = true := tb_of h 1206 (by decide +kernel) rfl
theorem zf_X8_96 {U : State} {a : Array Value} (h : TB U) : (Cond.fieldLink RX8 96 "ApprovalGridModel$Charge" "day" "I").before a U = true := tb_of h 1207 (by decide +kernel) rfl
theorem zf_X12_221 {U : State} {a : Array Value} (h : TB U) : (Cond.fieldLink RX12 221 "ApprovalGridModel$Charge" "day" "I").before a U = true := tb_of h 1208 (by decide +kernel) rfl
theorem zf_X7_40 {U : State} {a : Array Value} (h : TB U) : (Cond.fieldLink RX7 40 "ApprovalGridModel$Charge" "trip" "I").before a U = true := tb_of h 1209 (by decide +kernel) rfl
theorem zf_X8_89 {U : State} {a : Array Value} (h : TB U) : (Cond.fieldLink RX8 89 "ApprovalGridModel$Charge" "trip" "I").before a U = true := tb_of h 1210 (by decide +kernel) rfl
theorem zf_X12_222 {U : State} {a : Array Value} (h : TB U) : (Cond.fieldLink RX12 222 "ApprovalGridModel$Charge" "trip" "I").before a U = true := tb_of h 1211 (by decide +kernel) rfl
theorem zf_X7_9 {U : State} {a : Array Value} (h : TB U) : (Cond.fieldLink RX7 9 "ApprovalGridModel$Charge" "split" "[Z").before a U = true := tb_of h 1212 (by decide +kernel) rfl
theorem zf_X8_126 {U : State} {a : Array Value} (h : TB U) : (Cond.fieldLink RX8 126 "ApprovalGridModel$Charge" "split" "[Z").before a U = true := tb_of h 1213 (by decide +kernel) rfl
theorem zf_X12_202 {U : State} {a : Array Value} (h : TB U) : (Cond.fieldLink RX12 202 "ApprovalGridModel$Charge" "split" "[Z").before a U = true := tb_of h 1214 (by decide +kernel) rfl
theorem zf_X7_15 {U : State} {a : Array Value} (h : TB U) : (Cond.fieldLink RX7 15 "ApprovalGridModel$Charge" "state" "I").before a U = true := tb_of h 1215 (by decide +kernel) rfl
theorem zf_X8_101 {U : State} {a : Array Value} (h : TB U) : (Cond.fieldLink RX8 101 "ApprovalGridModel$Charge" "state" "I").before a U = true := tb_of h 1216 (by decide +kernel) rfl
theorem zf_X12_103 {U : State} {a : Array Value} (h : TB U) : (Cond.fieldLink RX12 103 "ApprovalGridModel$Charge" "state" "I").before a U = true := tb_of h 1217 (by decide +kernel) rfl
theorem zf_X7_19 {U : State} {a : Array Value} (h : TB U) : (Cond.fieldLink RX7 19 "ApprovalGridModel$Charge" "receipt" "I").before a U = true := tb_of h 1218 (by decide +kernel) rfl
theorem zf_X8_134 {U : State} {a : Array Value} (h : TB U) : (Cond.fieldLink RX8 134 "ApprovalGridModel$Charge" "receipt" "I").before a U = true := tb_of h 1219 (by decide +kernel) rfl
theorem zf_X12_206 {U : State} {a : Array Value} (h : TB U) : (Cond.fieldLink RX12 206 "ApprovalGridModel$Charge" "receipt" "I").before a U = true := tb_of h 1220 (by decide +kernel) rfl
theorem zf_X8_137 {U : State} {a : Array Value} (h : TB U) : (Cond.fieldLink RX8 137 "ApprovalGridModel$Charge" "steps" "I").before a U = true := tb_of h 1221 (by decide +kernel) rfl
theorem zf_X12_209 {U : State} {a : Array Value} (h : TB U) : (Cond.fieldLink RX12 209 "ApprovalGridModel$Charge" "steps" "I").before a U = true := tb_of h 1222 (by decide +kernel) rfl
theorem zf_X8_178 {U : State} {a : Array Value} (h : TB U) : (Cond.fieldLink RX8 178 "ApprovalGridModel$Charge" "wasMissing" "Z").before a U = true := tb_of h 1223 (by decide +kernel) rfl
theorem zf_X12_232 {U : State} {a : Array Value} (h : TB U) : (Cond.fieldLink RX12 232 "ApprovalGridModel$Charge" "wasMissing" "Z").before a U = true := tb_of h 1224 (by decide +kernel) rfl
theorem zS_X7_Object {U : State} {a : Array Value} (h : TB U) : (Cond.superclass RX7 "java/lang/Object").before a U = true := tb_of h 1249 (by decide +kernel) rfl
theorem zA_1193 {U : State} {a : Array Value} (h : TB U) : (Cond.arrayClass .boolean).before a U = true := tb_of h 1250 (by decide +kernel) rfl
theorem zm_X12_179 {U : State} {a : Array Value} (h : TB U) : (Cond.methodLink RX12 179 yX8_matchAll).before a U = true := tb_of h 1251 (by decide +kernel) rfl
theorem zi_X8_matchAll {U : State} {a : Array Value} (h : TB U) : (Cond.instanceMethod yX8_matchAll).before a U = true := tb_of h 1252 (by decide +kernel) rfl
theorem zs_X8_X8_matchAll {U : State} {a : Array Value} (h : TB U) : (Cond.selects RX8 yX8_matchAll yX8_matchAll).before a U = true := tb_of h 1253 (by decide +kernel) rfl
theorem zk_X8_matchAll {U : State} {a : Array Value} (h : TB U) : (Cond.code yX8_matchAll cX8_matchAll 7 (none)).before a U = true := tb_of h 1254 (by decide +kernel) rfl
theorem zm_X8_146 {U : State} {a : Array Value} (h : TB U) : (Cond.methodLink RX8 146 yX8_goTogether).before a U = true := tb_of h 1255 (by decide +kernel) rfl
theorem zi_X8_goTogether {U : State} {a : Array Value} (h : TB U) : (Cond.instanceMethod yX8_goTogether).before a U = true := tb_of h 1257 (by decide +kernel) rfl
theorem zk_X8_goTogether {U : State} {a : Array Value} (h : TB U) : (Cond.code yX8_goTogether cX8_goTogether 4 (some .boolean)).before a U = true := tb_of h 1258 (by decide +kernel) rfl
theorem zc_X8_121 {U : State} {a : Array Value} (h : TB U) : (Cond.classLink RX8 121 RX10).before a U = true := tb_of h 1259 (by decide +kernel) rfl
theorem zm_X8_130 {U : State} {a : Array Value} (h : TB U) : (Cond.methodLink RX8 130 yX7_score).before a U = true := tb_of h 1260 (by decide +kernel) rfl
theorem zi_X7_score {U : State} {a : Array Value} (h : TB U) : (Cond.instanceMethod yX7_score).before a U = true := tb_of h 1261 (by decide +kernel) rfl
theorem zs_X7_X7_score {U : State} {a : Array Value} (h : TB U) : (Cond.selects RX7 yX7_score yX7_score).before a U = true := tb_of h 1262 (by decide +kernel) rfl
theorem zk_X7_score {U : State} {a : Array Value} (h : TB U) : (Cond.code yX7_score cX7_score 4 (some .int)).before a U = true := tb_of h 1263 (by decide +kernel) rfl
theorem zm_X7_46 {U : State} {a : Array Value} (h : TB U) : (Cond.methodLink RX7 46 yJ9_abs_0f7a4).before a U = true := tb_of h 1264 (by decide +kernel) rfl
theorem zm_X8_150 {U : State} {a : Array Value} (h : TB U) : (Cond.methodLink RX8 150 yX8_match).before a U = true := tb_of h 1265 (by decide +kernel) rfl
theorem zi_X8_match {U : State} {a : Array Value} (h : TB U) : (Cond.instanceMethod yX8_match).before a U = true := tb_of h 1267 (by decide +kernel) rfl
theorem zk_X8_match {U : State} {a : Array Value} (h : TB U) : (Cond.code yX8_match cX8_match 5 (none)).before a U = true := tb_of h 1268 (by decide +kernel) rfl
theorem zm_X8_143 {U : State} {a : Array Value} (h : TB U) : (Cond.methodLink RX8 143 yJ9_min_7cf53).before a U = true := tb_of h 1269 (by decide +kernel) rfl
theorem zm_L_142 {U : State} {a : Array Value} (h : TB U) : (Cond.methodLink RL 142 yX12_receipt).before a U = true := tb_of h 1270 (by decide +kernel) rfl
theorem zi_X12_receipt {U : State} {a : Array Value} (h : TB U) : (Cond.instanceMethod yX12_receipt).before a U = true := tb_of h 1271 (by decide +kernel) rfl
theorem zs_X12_X12_receipt {U : State} {a : Array Value} (h : TB U) : (Cond.selects RX12 yX12_receipt yX12_receipt).before a U = true := tb_of h 1272 (by decide +kernel) rfl
theorem zk_X12_receipt {U : State} {a : Array Value} (h : TB U) : (Cond.code yX12_receipt cX12_receipt 5 (some .int)).before a U = true := tb_of h 1273 (by decide +kernel) rfl
theorem zm_X12_182 {U : State} {a : Array Value} (h : TB U) : (Cond.methodLink RX12 182 yX12_isNoReceipt).before a U = true := tb_of h 1274 (by decide +kernel) rfl
theorem zi_X12_isNoReceipt {U : State} {a : Array Value} (h : TB U) : (Cond.instanceMethod yX12_isNoReceipt).before a U = true := tb_of h 1276 (by decide +kernel) rfl
theorem zk_X12_isNoReceipt {U : State} {a : Array Value} (h : TB U) : (Cond.code yX12_isNoReceipt cX12_isNoReceipt 4 (some .boolean)).before a U = true := tb_of h 1277 (by decide +kernel) rfl
theorem zc_X12_188 {U : State} {a : Array Value} (h : TB U) : (Cond.classLink RX12 188 RX10).before a U = true := tb_of h 1278 (by decide +kernel) rfl
theorem zI_X10 {U : State} {a : Array Value} (h : TB U) : (Cond.instantiable RX10 4).before a U = true := tb_of h 1279 (by decide +kernel) rfl
theorem zm_X12_190 {U : State} {a : Array Value} (h : TB U) : (Cond.methodLink RX12 190 yX10_init).before a U = true := tb_of h 1280 (by decide +kernel) rfl
theorem zi_X10_init {U : State} {a : Array Value} (h : TB U) : (Cond.instanceMethod yX10_init).before a U = true := tb_of h 1281 (by decide +kernel) rfl
theorem zk_X10_init {U : State} {a : Array Value} (h : TB U) : (Cond.code yX10_init cX10_init 4 (none)).before a U = true := tb_of h 1282 (by decide +kernel) rfl
theorem zm_X10_3 {U : State} {a : Array Value} (h : TB U) : (Cond.methodLink RX10 3 ⟨"java/lang/Object", "<init>", "()V"⟩).before a U = true := tb_of h 1283 (by decide +kernel) rfl
theorem zf_X10_15 {U : State} {a : Array Value} (h : TB U) : (Cond.fieldLink RX10 15 "ApprovalGridModel$Receipt" "amount" "I").before a U = true := tb_of h 1284 (by decide +kernel) rfl
theorem zf_X7_43 {U : State} {a : Array Value} (h : TB U) : (Cond.fieldLink RX7 43 "ApprovalGridModel$Receipt" "amount" "I").before a U = true := tb_of h 1285 (by decide +kernel) rfl
theorem zf_X10_18 {U : State} {a : Array Value} (h : TB U) : (Cond.fieldLink RX10 18 "ApprovalGridModel$Receipt" "day" "I").before a U = true := tb_of h 1286 (by decide +kernel) rfl
theorem zf_X7_52 {U : State} {a : Array Value} (h : TB U) : (Cond.fieldLink RX7 52 "ApprovalGridModel$Receipt" "day" "I").before a U = true := tb_of h 1287 (by decide +kernel) rfl
theorem zf_X10_21 {U : State} {a : Array Value} (h : TB U) : (Cond.fieldLink RX10 21 "ApprovalGridModel$Receipt" "text" "I").before a U = true := tb_of h 1288 (by decide +kernel) rfl
theorem zf_X7_53 {U : State} {a : Array Value} (h : TB U) : (Cond.fieldLink RX7 53 "ApprovalGridModel$Receipt" "text" "I").before a U = true := tb_of h 1289 (by decide +kernel) rfl
theorem zf_X10_9 {U : State} {a : Array Value} (h : TB U) : (Cond.fieldLink RX10 9 "ApprovalGridModel$Receipt" "of" "I").before a U = true := tb_of h 1290 (by decide +kernel) rfl
theorem zf_X8_123 {U : State} {a : Array Value} (h : TB U) : (Cond.fieldLink RX8 123 "ApprovalGridModel$Receipt" "of" "I").before a U = true := tb_of h 1291 (by decide +kernel) rfl
theorem zf_X12_193 {U : State} {a : Array Value} (h : TB U) : (Cond.fieldLink RX12 193 "ApprovalGridModel$Receipt" "of" "I").before a U = true := tb_of h 1292 (by decide +kernel) rfl
theorem zS_X10_Object {U : State} {a : Array Value} (h : TB U) : (Cond.superclass RX10 "java/lang/Object").before a U = true := tb_of h 1301 (by decide +kernel) rfl
theorem zm_L_145 {U : State} {a : Array Value} (h : TB U) : (Cond.methodLink RL 145 yX12_split).before a U = true := tb_of h 1302 (by decide +kernel) rfl
theorem zi_X12_split {U : State} {a : Array Value} (h : TB U) : (Cond.instanceMethod yX12_split).before a U = true := tb_of h 1303 (by decide +kernel) rfl
theorem zs_X12_X12_split {U : State} {a : Array Value} (h : TB U) : (Cond.selects RX12 yX12_split yX12_split).before a U = true := tb_of h 1304 (by decide +kernel) rfl
theorem zk_X12_split {U : State} {a : Array Value} (h : TB U) : (Cond.code yX12_split cX12_split 3 (some .int)).before a U = true := tb_of h 1305 (by decide +kernel) rfl
theorem zm_X12_195 {U : State} {a : Array Value} (h : TB U) : (Cond.methodLink RX12 195 yX12_isNoCharge).before a U = true := tb_of h 1306 (by decide +kernel) rfl
theorem zi_X12_isNoCharge {U : State} {a : Array Value} (h : TB U) : (Cond.instanceMethod yX12_isNoCharge).before a U = true := tb_of h 1308 (by decide +kernel) rfl
theorem zk_X12_isNoCharge {U : State} {a : Array Value} (h : TB U) : (Cond.code yX12_isNoCharge cX12_isNoCharge 2 (some .boolean)).before a U = true := tb_of h 1309 (by decide +kernel) rfl
theorem zm_X12_198 {U : State} {a : Array Value} (h : TB U) : (Cond.methodLink RX12 198 yX12_charge_).before a U = true := tb_of h 1310 (by decide +kernel) rfl
theorem zi_X12_charge_ {U : State} {a : Array Value} (h : TB U) : (Cond.instanceMethod yX12_charge_).before a U = true := tb_of h 1312 (by decide +kernel) rfl
theorem zk_X12_charge_ {U : State} {a : Array Value} (h : TB U) : (Cond.code yX12_charge_ cX12_charge_ 2 (some (.object "ApprovalGridModel$Charge"))).before a U = true := tb_of h 1313 (by decide +kernel) rfl
theorem zm_L_148 {U : State} {a : Array Value} (h : TB U) : (Cond.methodLink RL 148 yX12_approve).before a U = true := tb_of h 1314 (by decide +kernel) rfl
theorem zi_X12_approve {U : State} {a : Array Value} (h : TB U) : (Cond.instanceMethod yX12_approve).before a U = true := tb_of h 1315 (by decide +kernel) rfl
theorem zs_X12_X12_approve {U : State} {a : Array Value} (h : TB U) : (Cond.selects RX12 yX12_approve yX12_approve).before a U = true := tb_of h 1316 (by decide +kernel) rfl
theorem zk_X12_approve {U : State} {a : Array Value} (h : TB U) : (Cond.code yX12_approve cX12_approve 3 (some .int)).before a U = true := tb_of h 1317 (by decide +kernel) rfl
theorem zm_X12_212 {U : State} {a : Array Value} (h : TB U) : (Cond.methodLink RX12 212 yX12_isNotDue).before a U = true := tb_of h 1318 (by decide +kernel) rfl
theorem zi_X12_isNotDue {U : State} {a : Array Value} (h : TB U) : (Cond.instanceMethod yX12_isNotDue).before a U = true := tb_of h 1320 (by decide +kernel) rfl
theorem zk_X12_isNotDue {U : State} {a : Array Value} (h : TB U) : (Cond.code yX12_isNotDue cX12_isNotDue 3 (some .boolean)).before a U = true := tb_of h 1321 (by decide +kernel) rfl
theorem zm_L_151 {U : State} {a : Array Value} (h : TB U) : (Cond.methodLink RL 151 yX12_refuse_).before a U = true := tb_of h 1322 (by decide +kernel) rfl
theorem zi_X12_refuse_ {U : State} {a : Array Value} (h : TB U) : (Cond.instanceMethod yX12_refuse_).before a U = true := tb_of h 1323 (by decide +kernel) rfl
theorem zs_X12_X12_refuse_ {U : State} {a : Array Value} (h : TB U) : (Cond.selects RX12 yX12_refuse_ yX12_refuse_).before a U = true := tb_of h 1324 (by decide +kernel) rfl
theorem zk_X12_refuse_ {U : State} {a : Array Value} (h : TB U) : (Cond.code yX12_refuse_ cX12_refuse_ 3 (some .int)).before a U = true := tb_of h 1325 (by decide +kernel) rfl
theorem zm_X12_215 {U : State} {a : Array Value} (h : TB U) : (Cond.methodLink RX12 215 yX8_in).before a U = true := tb_of h 1326 (by decide +kernel) rfl
theorem zi_X8_in {U : State} {a : Array Value} (h : TB U) : (Cond.instanceMethod yX8_in).before a U = true := tb_of h 1327 (by decide +kernel) rfl
theorem zs_X8_X8_in {U : State} {a : Array Value} (h : TB U) : (Cond.selects RX8 yX8_in yX8_in).before a U = true := tb_of h 1328 (by decide +kernel) rfl
theorem zk_X8_in {U : State} {a : Array Value} (h : TB U) : (Cond.code yX8_in cX8_in 4 (some .int)).before a U = true := tb_of h 1329 (by decide +kernel) rfl
theorem zm_L_155 {U : State} {a : Array Value} (h : TB U) : (Cond.methodLink RL 155 yX12_settle).before a U = true := tb_of h 1330 (by decide +kernel) rfl
theorem zi_X12_settle {U : State} {a : Array Value} (h : TB U) : (Cond.instanceMethod yX12_settle).before a U = true := tb_of h 1331 (by decide +kernel) rfl
theorem zs_X12_X12_settle {U : State} {a : Array Value} (h : TB U) : (Cond.selects RX12 yX12_settle yX12_settle).before a U = true := tb_of h 1332 (by decide +kernel) rfl
theorem zk_X12_settle {U : State} {a : Array Value} (h : TB U) : (Cond.code yX12_settle cX12_settle 3 (some .int)).before a U = true := tb_of h 1333 (by decide +kernel) rfl
theorem zm_L_158 {U : State} {a : Array Value} (h : TB U) : (Cond.methodLink RL 158 yX12_ofCharge).before a U = true := tb_of h 1334 (by decide +kernel) rfl
theorem zi_X12_ofCharge {U : State} {a : Array Value} (h : TB U) : (Cond.instanceMethod yX12_ofCharge).before a U = true := tb_of h 1335 (by decide +kernel) rfl
theorem zs_X12_X12_ofCharge {U : State} {a : Array Value} (h : TB U) : (Cond.selects RX12 yX12_ofCharge yX12_ofCharge).before a U = true := tb_of h 1336 (by decide +kernel) rfl
theorem zk_X12_ofCharge {U : State} {a : Array Value} (h : TB U) : (Cond.code yX12_ofCharge cX12_ofCharge 3 (some .int)).before a U = true := tb_of h 1337 (by decide +kernel) rfl
theorem zm_X12_236 {U : State} {a : Array Value} (h : TB U) : (Cond.methodLink RX12 236 yX12_ofChargeNow).before a U = true := tb_of h 1338 (by decide +kernel) rfl
theorem zi_X12_ofChargeNow {U : State} {a : Array Value} (h : TB U) : (Cond.instanceMethod yX12_ofChargeNow).before a U = true := tb_of h 1340 (by decide +kernel) rfl
theorem zk_X12_ofChargeNow {U : State} {a : Array Value} (h : TB U) : (Cond.code yX12_ofChargeNow cX12_ofChargeNow 4 (some .int)).before a U = true := tb_of h 1341 (by decide +kernel) rfl
theorem zm_X12_225 {U : State} {a : Array Value} (h : TB U) : (Cond.methodLink RX12 225 yX8_tax).before a U = true := tb_of h 1342 (by decide +kernel) rfl
theorem zm_X12_228 {U : State} {a : Array Value} (h : TB U) : (Cond.methodLink RX12 228 yX8_cost).before a U = true := tb_of h 1343 (by decide +kernel) rfl
theorem zm_L_161 {U : State} {a : Array Value} (h : TB U) : (Cond.methodLink RL 161 yX12_ofReceipt).before a U = true := tb_of h 1344 (by decide +kernel) rfl
theorem zi_X12_ofReceipt {U : State} {a : Array Value} (h : TB U) : (Cond.instanceMethod yX12_ofReceipt).before a U = true := tb_of h 1345 (by decide +kernel) rfl
theorem zs_X12_X12_ofReceipt {U : State} {a : Array Value} (h : TB U) : (Cond.selects RX12 yX12_ofReceipt yX12_ofReceipt).before a U = true := tb_of h 1346 (by decide +kernel) rfl
theorem zk_X12_ofReceipt {U : State} {a : Array Value} (h : TB U) : (Cond.code yX12_ofReceipt cX12_ofReceipt 2 (some .int)).before a U = true := tb_of h 1347 (by decide +kernel) rfl
theorem zm_X12_240 {U : State} {a : Array Value} (h : TB U) : (Cond.methodLink RX12 240 yX12_isNoOne).before a U = true := tb_of h 1348 (by decide +kernel) rfl
theorem zi_X12_isNoOne {U : State} {a : Array Value} (h : TB U) : (Cond.instanceMethod yX12_isNoOne).before a U = true := tb_of h 1350 (by decide +kernel) rfl
theorem zk_X12_isNoOne {U : State} {a : Array Value} (h : TB U) : (Cond.code yX12_isNoOne cX12_isNoOne 2 (some .boolean)).before a U = true := tb_of h 1351 (by decide +kernel) rfl
theorem zm_L_164 {U : State} {a : Array Value} (h : TB U) : (Cond.methodLink RL 164 yX12_score).before a U = true := tb_of h 1352 (by decide +kernel) rfl
theorem zi_X12_score {U : State} {a : Array Value} (h : TB U) : (Cond.instanceMethod yX12_score).before a U = true := tb_of h 1353 (by decide +kernel) rfl
theorem zs_X12_X12_score {U : State} {a : Array Value} (h : TB U) : (Cond.selects RX12 yX12_score yX12_score).before a U = true := tb_of h 1354 (by decide +kernel) rfl
theorem zk_X12_score {U : State} {a : Array Value} (h : TB U) : (Cond.code yX12_score cX12_score 3 (some .int)).before a U = true := tb_of h 1355 (by decide +kernel) rfl
theorem zm_X12_243 {U : State} {a : Array Value} (h : TB U) : (Cond.methodLink RX12 243 yX7_score).before a U = true := tb_of h 1356 (by decide +kernel) rfl
theorem zm_L_168 {U : State} {a : Array Value} (h : TB U) : (Cond.methodLink RL 168 yX12_day).before a U = true := tb_of h 1357 (by decide +kernel) rfl
theorem zi_X12_day {U : State} {a : Array Value} (h : TB U) : (Cond.instanceMethod yX12_day).before a U = true := tb_of h 1358 (by decide +kernel) rfl
theorem zs_X12_X12_day {U : State} {a : Array Value} (h : TB U) : (Cond.selects RX12 yX12_day yX12_day).before a U = true := tb_of h 1359 (by decide +kernel) rfl
theorem zk_X12_day {U : State} {a : Array Value} (h : TB U) : (Cond.code yX12_day cX12_day 1 (some .int)).before a U = true := tb_of h 1360 (by decide +kernel) rfl
theorem zm_X12_247 {U : State} {a : Array Value} (h : TB U) : (Cond.methodLink RX12 247 yX8_dayOn).before a U = true := tb_of h 1361 (by decide +kernel) rfl
theorem zi_X8_dayOn {U : State} {a : Array Value} (h : TB U) : (Cond.instanceMethod yX8_dayOn).before a U = true := tb_of h 1362 (by decide +kernel) rfl
theorem zs_X8_X8_dayOn {U : State} {a : Array Value} (h : TB U) : (Cond.selects RX8 yX8_dayOn yX8_dayOn).before a U = true := tb_of h 1363 (by decide +kernel) rfl
theorem zk_X8_dayOn {U : State} {a : Array Value} (h : TB U) : (Cond.code yX8_dayOn cX8_dayOn 5 (some .int)).before a U = true := tb_of h 1364 (by decide +kernel) rfl
theorem zm_X8_182 {U : State} {a : Array Value} (h : TB U) : (Cond.methodLink RX8 182 yX8_goOn).before a U = true := tb_of h 1365 (by decide +kernel) rfl
theorem zm_L_171 {U : State} {a : Array Value} (h : TB U) : (Cond.methodLink RL 171 yX12_many).before a U = true := tb_of h 1366 (by decide +kernel) rfl
theorem zi_X12_many {U : State} {a : Array Value} (h : TB U) : (Cond.instanceMethod yX12_many).before a U = true := tb_of h 1367 (by decide +kernel) rfl
theorem zs_X12_X12_many {U : State} {a : Array Value} (h : TB U) : (Cond.selects RX12 yX12_many yX12_many).before a U = true := tb_of h 1368 (by decide +kernel) rfl
theorem zk_X12_many {U : State} {a : Array Value} (h : TB U) : (Cond.code yX12_many cX12_many 2 (some .int)).before a U = true := tb_of h 1369 (by decide +kernel) rfl
theorem zm_X12_257 {U : State} {a : Array Value} (h : TB U) : (Cond.methodLink RX12 257 yX12_count).before a U = true := tb_of h 1370 (by decide +kernel) rfl
theorem zi_X12_count {U : State} {a : Array Value} (h : TB U) : (Cond.instanceMethod yX12_count).before a U = true := tb_of h 1372 (by decide +kernel) rfl
theorem zk_X12_count {U : State} {a : Array Value} (h : TB U) : (Cond.code yX12_count cX12_count 2 (some .int)).before a U = true := tb_of h 1373 (by decide +kernel) rfl
theorem zm_X12_250 {U : State} {a : Array Value} (h : TB U) : (Cond.methodLink RX12 250 yX12_free).before a U = true := tb_of h 1374 (by decide +kernel) rfl
theorem zi_X12_free {U : State} {a : Array Value} (h : TB U) : (Cond.instanceMethod yX12_free).before a U = true := tb_of h 1376 (by decide +kernel) rfl
theorem zk_X12_free {U : State} {a : Array Value} (h : TB U) : (Cond.code yX12_free cX12_free 3 (some .int)).before a U = true := tb_of h 1377 (by decide +kernel) rfl
theorem zm_X12_253 {U : State} {a : Array Value} (h : TB U) : (Cond.methodLink RX12 253 yX12_sum).before a U = true := tb_of h 1378 (by decide +kernel) rfl
theorem zi_X12_sum {U : State} {a : Array Value} (h : TB U) : (Cond.instanceMethod yX12_sum).before a U = true := tb_of h 1380 (by decide +kernel) rfl
theorem zk_X12_sum {U : State} {a : Array Value} (h : TB U) : (Cond.code yX12_sum cX12_sum 5 (some .int)).before a U = true := tb_of h 1381 (by decide +kernel) rfl
theorem zm_L_176 {U : State} {a : Array Value} (h : TB U) : (Cond.methodLink RL 176 yX12_meanTrust).before a U = true := tb_of h 1382 (by decide +kernel) rfl
theorem zi_X12_meanTrust {U : State} {a : Array Value} (h : TB U) : (Cond.instanceMethod yX12_meanTrust).before a U = true := tb_of h 1383 (by decide +kernel) rfl
theorem zs_X12_X12_meanTrust {U : State} {a : Array Value} (h : TB U) : (Cond.selects RX12 yX12_meanTrust yX12_meanTrust).before a U = true := tb_of h 1384 (by decide +kernel) rfl
theorem zk_X12_meanTrust {U : State} {a : Array Value} (h : TB U) : (Cond.code yX12_meanTrust cX12_meanTrust 3 (some .double)).before a U = true := tb_of h 1385 (by decide +kernel) rfl
theorem zm_X12_260 {U : State} {a : Array Value} (h : TB U) : (Cond.methodLink RX12 260 yJx4a65c_isEmpty_aae02).before a U = true := tb_of h 1386 (by decide +kernel) rfl
theorem zm_L_179 {U : State} {a : Array Value} (h : TB U) : (Cond.methodLink RL 179 yX12_wouldMatch).before a U = true := tb_of h 1387 (by decide +kernel) rfl
theorem zi_X12_wouldMatch {U : State} {a : Array Value} (h : TB U) : (Cond.instanceMethod yX12_wouldMatch).before a U = true := tb_of h 1388 (by decide +kernel) rfl
theorem zs_X12_X12_wouldMatch {U : State} {a : Array Value} (h : TB U) : (Cond.selects RX12 yX12_wouldMatch yX12_wouldMatch).before a U = true := tb_of h 1389 (by decide +kernel) rfl
theorem zk_X12_wouldMatch {U : State} {a : Array Value} (h : TB U) : (Cond.code yX12_wouldMatch cX12_wouldMatch 7 (some .int)).before a U = true := tb_of h 1390 (by decide +kernel) rfl
theorem zm_L_182 {U : State} {a : Array Value} (h : TB U) : (Cond.methodLink RL 182 yX12_trustBehind).before a U = true := tb_of h 1391 (by decide +kernel) rfl
theorem zi_X12_trustBehind {U : State} {a : Array Value} (h : TB U) : (Cond.instanceMethod yX12_trustBehind).before a U = true := tb_of h 1392 (by decide +kernel) rfl
theorem zs_X12_X12_trustBehind {U : State} {a : Array Value} (h : TB U) : (Cond.selects RX12 yX12_trustBehind yX12_trustBehind).before a U = true := tb_of h 1393 (by decide +kernel) rfl
theorem zk_X12_trustBehind {U : State} {a : Array Value} (h : TB U) : (Cond.code yX12_trustBehind cX12_trustBehind 3 (some .int)).before a U = true := tb_of h 1394 (by decide +kernel) rfl
theorem zm_X12_263 {U : State} {a : Array Value} (h : TB U) : (Cond.methodLink RX12 263 yX8_trustBehind).before a U = true := tb_of h 1395 (by decide +kernel) rfl
theorem zi_X8_trustBehind {U : State} {a : Array Value} (h : TB U) : (Cond.instanceMethod yX8_trustBehind).before a U = true := tb_of h 1396 (by decide +kernel) rfl
theorem zs_X8_X8_trustBehind {U : State} {a : Array Value} (h : TB U) : (Cond.selects RX8 yX8_trustBehind yX8_trustBehind).before a U = true := tb_of h 1397 (by decide +kernel) rfl
theorem zk_X8_trustBehind {U : State} {a : Array Value} (h : TB U) : (Cond.code yX8_trustBehind cX8_trustBehind 9 (some .int)).before a U = true := tb_of h 1398 (by decide +kernel) rfl
theorem zm_L_185 {U : State} {a : Array Value} (h : TB U) : (Cond.methodLink RL 185 yX12_leftWith).before a U = true := tb_of h 1399 (by decide +kernel) rfl
theorem zi_X12_leftWith {U : State} {a : Array Value} (h : TB U) : (Cond.instanceMethod yX12_leftWith).before a U = true := tb_of h 1400 (by decide +kernel) rfl
theorem zs_X12_X12_leftWith {U : State} {a : Array Value} (h : TB U) : (Cond.selects RX12 yX12_leftWith yX12_leftWith).before a U = true := tb_of h 1401 (by decide +kernel) rfl
theorem zk_X12_leftWith {U : State} {a : Array Value} (h : TB U) : (Cond.code yX12_leftWith cX12_leftWith 3 (some .int)).before a U = true := tb_of h 1402 (by decide +kernel) rfl
theorem zm_L_190 {U : State} {a : Array Value} (h : TB U) : (Cond.methodLink RL 190 yX12_digest).before a U = true := tb_of h 1403 (by decide +kernel) rfl
theorem zi_X12_digest {U : State} {a : Array Value} (h : TB U) : (Cond.instanceMethod yX12_digest).before a U = true := tb_of h 1404 (by decide +kernel) rfl
theorem zs_X12_X12_digest {U : State} {a : Array Value} (h : TB U) : (Cond.selects RX12 yX12_digest yX12_digest).before a U = true := tb_of h 1405 (by decide +kernel) rfl
theorem zk_X12_digest {U : State} {a : Array Value} (h : TB U) : (Cond.code yX12_digest cX12_digest 5 (some .long)).before a U = true := tb_of h 1406 (by decide +kernel) rfl
theorem zl_X12_268 {U : State} {a : Array Value} (h : TB U) : (Cond.constantLong RX12 268 (58110)).before a U = true := tb_of h 1407 (by decide +kernel) rfl
theorem zm_X12_270 {U : State} {a : Array Value} (h : TB U) : (Cond.methodLink RX12 270 yX12_add).before a U = true := tb_of h 1408 (by decide +kernel) rfl
theorem zt_X12_add {U : State} {a : Array Value} (h : TB U) : (Cond.static yX12_add).before a U = true := tb_of h 1409 (by decide +kernel) rfl
theorem zk_X12_add {U : State} {a : Array Value} (h : TB U) : (Cond.code yX12_add cX12_add 4 (some .long)).before a U = true := tb_of h 1410 (by decide +kernel) rfl
theorem zl_X12_266 {U : State} {a : Array Value} (h : TB U) : (Cond.constantLong RX12 266 (31)).before a U = true := tb_of h 1411 (by decide +kernel) rfl
theorem zA_1355 {U : State} {a : Array Value} (h : TB U) : (Cond.arrayClass .long).before a U = true := tb_of h 1412 (by decide +kernel) rfl
theorem zM_Object__getClass {U : State} {a : Array Value} (h : TB U) : (Cond.sameMethod "[Ljava/lang/Object;" "java/lang/Object" "getClass" "()Ljava/lang/Class;").before a U = true := tb_of h 1432 (by decide +kernel) rfl
theorem zs_Object__Object_getClass {U : State} {a : Array Value} (h : TB U) : (Cond.selects "[Ljava/lang/Object;" ⟨"java/lang/Object", "getClass", "()Ljava/lang/Class;"⟩ ⟨"java/lang/Object", "getClass", "()Ljava/lang/Class;"⟩).before a U = true := tb_of h 1433 (by decide +kernel) rfl
theorem twX0 {U : State} {a : Array Value} (h : TB U) : ∀ w ∈ u_ws RX0 TX0 13, w.before a U = true := tb_wsr h [736, 712, 714, 716, 718, 720, 722, 724, 726, 728, 730, 732, 734] (by decide +kernel) (by decide +kernel)
theorem twX2 {U : State} {a : Array Value} (h : TB U) : ∀ w ∈ u_ws RX2 TX2 6, w.before a U = true := tb_wsr h [507, 497, 499, 501, 503, 505] (by decide +kernel) (by decide +kernel)
theorem twX3 {U : State} {a : Array Value} (h : TB U) : ∀ w ∈ u_ws RX3 TX3 5, w.before a U = true := tb_wsr h [805, 797, 799, 801, 803] (by decide +kernel) (by decide +kernel)
theorem twX4 {U : State} {a : Array Value} (h : TB U) : ∀ w ∈ u_ws RX4 TX4 3, w.before a U = true := tb_wsr h [132, 134, 136] (by decide +kernel) (by decide +kernel)
theorem twX5 {U : State} {a : Array Value} (h : TB U) : ∀ w ∈ u_ws RX5 TX5 6, w.before a U = true := tb_wsr h [632, 622, 624, 626, 628, 630] (by decide +kernel) (by decide +kernel)
theorem twX6 {U : State} {a : Array Value} (h : TB U) : ∀ w ∈ u_ws RX6 TX6 9, w.before a U = true := tb_wsr h [149, 151, 153, 155, 157, 159, 161, 163, 165] (by decide +kernel) (by decide +kernel)
theorem twX7 {U : State} {a : Array Value} (h : TB U) : ∀ w ∈ u_ws RX7 TX7 12, w.before a U = true := tb_wsr h [1225, 1227, 1229, 1231, 1233, 1235, 1237, 1239, 1241, 1243, 1245, 1247] (by decide +kernel) (by decide +kernel)
theorem twX8 {U : State} {a : Array Value} (h : TB U) : ∀ w ∈ u_ws RX8 TX8 8, w.before a U = true := tb_wsr h [938, 940, 942, 944, 946, 948, 950, 952] (by decide +kernel) (by decide +kernel)
theorem twX9 {U : State} {a : Array Value} (h : TB U) : ∀ w ∈ u_ws RX9 TX9 7, w.before a U = true := tb_wsr h [1017, 1019, 1021, 1023, 1025, 1027, 1029] (by decide +kernel) (by decide +kernel)
theorem twX10 {U : State} {a : Array Value} (h : TB U) : ∀ w ∈ u_ws RX10 TX10 4, w.before a U = true := tb_wsr h [1293, 1295, 1297, 1299] (by decide +kernel) (by decide +kernel)
theorem twX11 {U : State} {a : Array Value} (h : TB U) : ∀ w ∈ u_ws RX11 TX11 5, w.before a U = true := tb_wsr h [1095, 1097, 1099, 1101, 1103] (by decide +kernel) (by decide +kernel)
theorem twX12 {U : State} {a : Array Value} (h : TB U) : ∀ w ∈ u_ws RX12 TX12 2, w.before a U = true := tb_wsr h [957, 959] (by decide +kernel) (by decide +kernel)
theorem twJx4a65c {U : State} {a : Array Value} (h : TB U) : ∀ w ∈ u_ws RJx4a65c TJx4a65c 3, w.before a U = true := tb_wsr h [117, 113, 115] (by decide +kernel) (by decide +kernel)
