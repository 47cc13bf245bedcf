/-- the tables' words (those that any warmed state keeps) -/
def TB (U : State) : Prop := ∀ (a : Array Value) (w : Cond), w ∈ lw_tbl → goodWord w = true → w.before a U = true
theorem TB.moved {s U : State} (hW : s.WarmedH U.vm) (h : TB s) : TB U := fun a w hm hg => word_at hW (good_of_word hg) (h #[] w hm hg)
theorem TB.calling {U : State} {g : JFrame} {mk : MethodId} {a : Array Value} (h : TB U) : TB (U.calling g mk a) := h.moved (State.WarmedH.refl U)
theorem tb_of {U : State} (h : TB U) {w : Cond} {a : Array Value} (i : Nat) (hi : lw_tbl[i]? = some w) (hg : goodWord w = true) : w.before a U = true := h a w (List.mem_of_getElem? hi) hg
theorem tb_ws {U : State} (h : TB U) {ws : List Cond} {a : Array Value} (hm : ws.all (fun w => decide (w ∈ lw_tbl) && goodWord w) = true) : ∀ w ∈ ws, w.before a U = true := by
  intro w hw
  have h1 := List.all_eq_true.mp hm w hw
  simp only [Bool.and_eq_true, decide_eq_true_eq] at h1
  exact h a w h1.1 h1.2
theorem tb_wsr {U : State} (h : TB U) {ws : List Cond} {a : Array Value} (ps : List Nat) (hp : ws = ps.filterMap (fun i => lw_tbl[i]?)) (hg : ws.all goodWord = true) : ∀ w ∈ ws, w.before a U = true := by
  intro w hw
  have h1 := List.all_eq_true.mp hg w hw
  rw [hp] at hw
  obtain ⟨i, -, hi⟩ := List.mem_filterMap.mp hw
  exact tb_of h i hi h1
theorem zs_X6_X6_personAt {U : State} {a : Array Value} (h : TB U) : (Cond.selects RX6 yX6_personAt yX6_personAt).before a U = true := tb_of h 0 (by decide +kernel) rfl
theorem zs_Throwable_Throwable_fillInStackTrace {U : State} {a : Array Value} (h : TB U) : (Cond.selects "java/lang/Throwable" ⟨"java/lang/Throwable", "fillInStackTrace", "(I)Ljava/lang/Throwable;"⟩ ⟨"java/lang/Throwable", "fillInStackTrace", "(I)Ljava/lang/Throwable;"⟩).before a U = true := tb_of h 1 (by decide +kernel) rfl
theorem zs_Jx4a65c_Jx4a65c_add_72be8 {U : State} {a : Array Value} (h : TB U) : (Cond.selects RJx4a65c yJx4a65c_add_72be8 yJx4a65c_add_72be8).before a U = true := tb_of h 2 (by decide +kernel) rfl
theorem zs_Jx4a65c_Jx4a65c_grow_d5877 {U : State} {a : Array Value} (h : TB U) : (Cond.selects RJx4a65c yJx4a65c_grow_d5877 yJx4a65c_grow_d5877).before a U = true := tb_of h 3 (by decide +kernel) rfl
theorem zs_Jx4a65c_Jx4a65c_grow_92f84 {U : State} {a : Array Value} (h : TB U) : (Cond.selects RJx4a65c yJx4a65c_grow_92f84 yJx4a65c_grow_92f84).before a U = true := tb_of h 4 (by decide +kernel) rfl
theorem zs_X6_X6_passSteps {U : State} {a : Array Value} (h : TB U) : (Cond.selects RX6 yX6_passSteps yX6_passSteps).before a U = true := tb_of h 5 (by decide +kernel) rfl
theorem zs_X6_X6_passStepsOf {U : State} {a : Array Value} (h : TB U) : (Cond.selects RX6 yX6_passStepsOf yX6_passStepsOf).before a U = true := tb_of h 6 (by decide +kernel) rfl
theorem zs_X6_X6_nextApproverOf {U : State} {a : Array Value} (h : TB U) : (Cond.selects RX6 yX6_nextApproverOf yX6_nextApproverOf).before a U = true := tb_of h 7 (by decide +kernel) rfl
theorem zs_X6_X6_countOpenOf {U : State} {a : Array Value} (h : TB U) : (Cond.selects RX6 yX6_countOpenOf yX6_countOpenOf).before a U = true := tb_of h 8 (by decide +kernel) rfl
theorem zs_X6_X6_repaidAmountOf {U : State} {a : Array Value} (h : TB U) : (Cond.selects RX6 yX6_repaidAmountOf yX6_repaidAmountOf).before a U = true := tb_of h 9 (by decide +kernel) rfl
theorem zs_X6_X6_countToApproveBy {U : State} {a : Array Value} (h : TB U) : (Cond.selects RX6 yX6_countToApproveBy yX6_countToApproveBy).before a U = true := tb_of h 10 (by decide +kernel) rfl
theorem zs_X6_X6_spendableBy {U : State} {a : Array Value} (h : TB U) : (Cond.selects RX6 yX6_spendableBy yX6_spendableBy).before a U = true := tb_of h 11 (by decide +kernel) rfl
theorem zs_X6_X6_tripToday {U : State} {a : Array Value} (h : TB U) : (Cond.selects RX6 yX6_tripToday yX6_tripToday).before a U = true := tb_of h 12 (by decide +kernel) rfl
theorem zs_X6_X6_spentOnTrip {U : State} {a : Array Value} (h : TB U) : (Cond.selects RX6 yX6_spentOnTrip yX6_spentOnTrip).before a U = true := tb_of h 13 (by decide +kernel) rfl
theorem zs_X6_X6_spentOffTrips {U : State} {a : Array Value} (h : TB U) : (Cond.selects RX6 yX6_spentOffTrips yX6_spentOffTrips).before a U = true := tb_of h 14 (by decide +kernel) rfl
theorem zs_X6_X6_leftOf {U : State} {a : Array Value} (h : TB U) : (Cond.selects RX6 yX6_leftOf yX6_leftOf).before a U = true := tb_of h 15 (by decide +kernel) rfl
theorem zs_X6_X6_costIn {U : State} {a : Array Value} (h : TB U) : (Cond.selects RX6 yX6_costIn yX6_costIn).before a U = true := tb_of h 16 (by decide +kernel) rfl
theorem zs_X6_X6_costOf {U : State} {a : Array Value} (h : TB U) : (Cond.selects RX6 yX6_costOf yX6_costOf).before a U = true := tb_of h 17 (by decide +kernel) rfl
theorem zs_X6_X6_taxOf {U : State} {a : Array Value} (h : TB U) : (Cond.selects RX6 yX6_taxOf yX6_taxOf).before a U = true := tb_of h 18 (by decide +kernel) rfl
theorem zs_X6_X6_matchPairs {U : State} {a : Array Value} (h : TB U) : (Cond.selects RX6 yX6_matchPairs yX6_matchPairs).before a U = true := tb_of h 19 (by decide +kernel) rfl
theorem zs_X6_X6_matchBestPair {U : State} {a : Array Value} (h : TB U) : (Cond.selects RX6 yX6_matchBestPair yX6_matchBestPair).before a U = true := tb_of h 20 (by decide +kernel) rfl
theorem zs_X6_X6_bestReceiptFor {U : State} {a : Array Value} (h : TB U) : (Cond.selects RX6 yX6_bestReceiptFor yX6_bestReceiptFor).before a U = true := tb_of h 21 (by decide +kernel) rfl
theorem zs_X6_X6_match {U : State} {a : Array Value} (h : TB U) : (Cond.selects RX6 yX6_match yX6_match).before a U = true := tb_of h 22 (by decide +kernel) rfl
theorem zs_X6_X6_chargeAt {U : State} {a : Array Value} (h : TB U) : (Cond.selects RX6 yX6_chargeAt yX6_chargeAt).before a U = true := tb_of h 23 (by decide +kernel) rfl
theorem zs_X6_X6_checkNextApprover {U : State} {a : Array Value} (h : TB U) : (Cond.selects RX6 yX6_checkNextApprover yX6_checkNextApprover).before a U = true := tb_of h 24 (by decide +kernel) rfl
theorem zs_X6_X6_countInState {U : State} {a : Array Value} (h : TB U) : (Cond.selects RX6 yX6_countInState yX6_countInState).before a U = true := tb_of h 25 (by decide +kernel) rfl
theorem zs_X6_X6_receiptAt {U : State} {a : Array Value} (h : TB U) : (Cond.selects RX6 yX6_receiptAt yX6_receiptAt).before a U = true := tb_of h 26 (by decide +kernel) rfl
theorem zs_X6_X6_isOverdue {U : State} {a : Array Value} (h : TB U) : (Cond.selects RX6 yX6_isOverdue yX6_isOverdue).before a U = true := tb_of h 27 (by decide +kernel) rfl
theorem zs_X6_X6_bearDelay {U : State} {a : Array Value} (h : TB U) : (Cond.selects RX6 yX6_bearDelay yX6_bearDelay).before a U = true := tb_of h 28 (by decide +kernel) rfl
theorem zs_X6_X6_countFreeReceipts {U : State} {a : Array Value} (h : TB U) : (Cond.selects RX6 yX6_countFreeReceipts yX6_countFreeReceipts).before a U = true := tb_of h 29 (by decide +kernel) rfl
theorem zs_X6_X6_amountNotRepaid {U : State} {a : Array Value} (h : TB U) : (Cond.selects RX6 yX6_amountNotRepaid yX6_amountNotRepaid).before a U = true := tb_of h 30 (by decide +kernel) rfl
theorem zs_X6_X6_costOfAll {U : State} {a : Array Value} (h : TB U) : (Cond.selects RX6 yX6_costOfAll yX6_costOfAll).before a U = true := tb_of h 31 (by decide +kernel) rfl
theorem zs_X6_X6_trustLostBy {U : State} {a : Array Value} (h : TB U) : (Cond.selects RX6 yX6_trustLostBy yX6_trustLostBy).before a U = true := tb_of h 32 (by decide +kernel) rfl
theorem zs_X6_X6_withPeople {U : State} {a : Array Value} (h : TB U) : (Cond.selects RX6 yX6_withPeople yX6_withPeople).before a U = true := tb_of h 33 (by decide +kernel) rfl
theorem zs_X6_X6_withBudgets {U : State} {a : Array Value} (h : TB U) : (Cond.selects RX6 yX6_withBudgets yX6_withBudgets).before a U = true := tb_of h 34 (by decide +kernel) rfl
theorem zs_X6_X6_withCharges {U : State} {a : Array Value} (h : TB U) : (Cond.selects RX6 yX6_withCharges yX6_withCharges).before a U = true := tb_of h 35 (by decide +kernel) rfl
theorem zn_L {U : State} {a : Array Value} (h : TB U) : (Cond.initialized RL).before a U = true := tb_of h 36 (by decide +kernel) rfl
theorem zn_X6 {U : State} {a : Array Value} (h : TB U) : (Cond.initialized RX6).before a U = true := tb_of h 37 (by decide +kernel) rfl
theorem zn_Jxa1e45 {U : State} {a : Array Value} (h : TB U) : (Cond.initialized RJxa1e45).before a U = true := tb_of h 38 (by decide +kernel) rfl
theorem zn_Jxc12de {U : State} {a : Array Value} (h : TB U) : (Cond.initialized RJxc12de).before a U = true := tb_of h 39 (by decide +kernel) rfl
theorem zn_Jx4a65c {U : State} {a : Array Value} (h : TB U) : (Cond.initialized RJx4a65c).before a U = true := tb_of h 40 (by decide +kernel) rfl
theorem zn_X4 {U : State} {a : Array Value} (h : TB U) : (Cond.initialized RX4).before a U = true := tb_of h 41 (by decide +kernel) rfl
theorem zn_J9 {U : State} {a : Array Value} (h : TB U) : (Cond.initialized RJ9).before a U = true := tb_of h 42 (by decide +kernel) rfl
theorem zn_Throwable {U : State} {a : Array Value} (h : TB U) : (Cond.initialized "java/lang/Throwable").before a U = true := tb_of h 43 (by decide +kernel) rfl
theorem zn_Exception {U : State} {a : Array Value} (h : TB U) : (Cond.initialized "java/lang/Exception").before a U = true := tb_of h 44 (by decide +kernel) rfl
theorem zn_RuntimeException {U : State} {a : Array Value} (h : TB U) : (Cond.initialized "java/lang/RuntimeException").before a U = true := tb_of h 45 (by decide +kernel) rfl
theorem zn_IndexOutOfBoundsException {U : State} {a : Array Value} (h : TB U) : (Cond.initialized "java/lang/IndexOutOfBoundsException").before a U = true := tb_of h 46 (by decide +kernel) rfl
theorem zn_J15 {U : State} {a : Array Value} (h : TB U) : (Cond.initialized RJ15).before a U = true := tb_of h 47 (by decide +kernel) rfl
theorem zn_J3 {U : State} {a : Array Value} (h : TB U) : (Cond.initialized RJ3).before a U = true := tb_of h 48 (by decide +kernel) rfl
theorem zn_IllegalStateException {U : State} {a : Array Value} (h : TB U) : (Cond.initialized "java/lang/IllegalStateException").before a U = true := tb_of h 49 (by decide +kernel) rfl
theorem zn_X1 {U : State} {a : Array Value} (h : TB U) : (Cond.initialized RX1).before a U = true := tb_of h 50 (by decide +kernel) rfl
theorem zn_X2 {U : State} {a : Array Value} (h : TB U) : (Cond.initialized RX2).before a U = true := tb_of h 51 (by decide +kernel) rfl
theorem zn_J8 {U : State} {a : Array Value} (h : TB U) : (Cond.initialized RJ8).before a U = true := tb_of h 52 (by decide +kernel) rfl
theorem zn_J7 {U : State} {a : Array Value} (h : TB U) : (Cond.initialized RJ7).before a U = true := tb_of h 53 (by decide +kernel) rfl
theorem zn_J10 {U : State} {a : Array Value} (h : TB U) : (Cond.initialized RJ10).before a U = true := tb_of h 54 (by decide +kernel) rfl
theorem zn_IllegalArgumentException {U : State} {a : Array Value} (h : TB U) : (Cond.initialized "java/lang/IllegalArgumentException").before a U = true := tb_of h 55 (by decide +kernel) rfl
theorem zn_X0 {U : State} {a : Array Value} (h : TB U) : (Cond.initialized RX0).before a U = true := tb_of h 56 (by decide +kernel) rfl
theorem zn_X3 {U : State} {a : Array Value} (h : TB U) : (Cond.initialized RX3).before a U = true := tb_of h 57 (by decide +kernel) rfl
theorem zc_L_9 {U : State} {a : Array Value} (h : TB U) : (Cond.classLink RL 9 RX6).before a U = true := tb_of h 58 (by decide +kernel) rfl
theorem zI_X6 {U : State} {a : Array Value} (h : TB U) : (Cond.instantiable RX6 9).before a U = true := tb_of h 59 (by decide +kernel) rfl
theorem zm_L_11 {U : State} {a : Array Value} (h : TB U) : (Cond.methodLink RL 11 yX6_init).before a U = true := tb_of h 60 (by decide +kernel) rfl
theorem zi_X6_init {U : State} {a : Array Value} (h : TB U) : (Cond.instanceMethod yX6_init).before a U = true := tb_of h 61 (by decide +kernel) rfl
theorem zk_X6_init {U : State} {a : Array Value} (h : TB U) : (Cond.code yX6_init cX6_init 1 (none)).before a U = true := tb_of h 62 (by decide +kernel) rfl
theorem zm_X6_1 {U : State} {a : Array Value} (h : TB U) : (Cond.methodLink RX6 1 ⟨"java/lang/Object", "<init>", "()V"⟩).before a U = true := tb_of h 63 (by decide +kernel) rfl
theorem zi_Object_init {U : State} {a : Array Value} (h : TB U) : (Cond.instanceMethod ⟨"java/lang/Object", "<init>", "()V"⟩).before a U = true := tb_of h 64 (by decide +kernel) rfl
theorem zk_Object_init {U : State} {a : Array Value} (h : TB U) : (Cond.code ⟨"java/lang/Object", "<init>", "()V"⟩ object_method_1_code 1 (none)).before a U = true := tb_of h 65 (by decide +kernel) rfl
theorem zc_X6_7 {U : State} {a : Array Value} (h : TB U) : (Cond.classLink RX6 7 RJx4a65c).before a U = true := tb_of h 66 (by decide +kernel) rfl
theorem zI_Jx4a65c {U : State} {a : Array Value} (h : TB U) : (Cond.instantiable RJx4a65c 3).before a U = true := tb_of h 67 (by decide +kernel) rfl
theorem zm_X6_9 {U : State} {a : Array Value} (h : TB U) : (Cond.methodLink RX6 9 yJx4a65c_init_da8c8).before a U = true := tb_of h 68 (by decide +kernel) rfl
theorem zi_Jx4a65c_init_da8c8 {U : State} {a : Array Value} (h : TB U) : (Cond.instanceMethod yJx4a65c_init_da8c8).before a U = true := tb_of h 69 (by decide +kernel) rfl
theorem zk_Jx4a65c_init_da8c8 {U : State} {a : Array Value} (h : TB U) : (Cond.code yJx4a65c_init_da8c8 cJx4a65c_init_da8c8 1 (none)).before a U = true := tb_of h 70 (by decide +kernel) rfl
theorem zm_Jx4a65c_1 {U : State} {a : Array Value} (h : TB U) : (Cond.methodLink RJx4a65c 1 yJxc12de_init_da8c8).before a U = true := tb_of h 71 (by decide +kernel) rfl
theorem zi_Jxc12de_init_da8c8 {U : State} {a : Array Value} (h : TB U) : (Cond.instanceMethod yJxc12de_init_da8c8).before a U = true := tb_of h 72 (by decide +kernel) rfl
theorem zk_Jxc12de_init_da8c8 {U : State} {a : Array Value} (h : TB U) : (Cond.code yJxc12de_init_da8c8 cJxc12de_init_da8c8 1 (none)).before a U = true := tb_of h 73 (by decide +kernel) rfl
theorem zm_Jxc12de_1 {U : State} {a : Array Value} (h : TB U) : (Cond.methodLink RJxc12de 1 yJxa1e45_init_da8c8).before a U = true := tb_of h 74 (by decide +kernel) rfl
theorem zi_Jxa1e45_init_da8c8 {U : State} {a : Array Value} (h : TB U) : (Cond.instanceMethod yJxa1e45_init_da8c8).before a U = true := tb_of h 75 (by decide +kernel) rfl
theorem zk_Jxa1e45_init_da8c8 {U : State} {a : Array Value} (h : TB U) : (Cond.code yJxa1e45_init_da8c8 cJxa1e45_init_da8c8 1 (none)).before a U = true := tb_of h 76 (by decide +kernel) rfl
theorem zm_Jxa1e45_1 {U : State} {a : Array Value} (h : TB U) : (Cond.methodLink RJxa1e45 1 ⟨"java/lang/Object", "<init>", "()V"⟩).before a U = true := tb_of h 77 (by decide +kernel) rfl
theorem zf_Jx4a65c_39 {U : State} {a : Array Value} (h : TB U) : (Cond.fieldLink RJx4a65c 39 "java/util/ArrayList" "DEFAULTCAPACITY_EMPTY_ELEMENTDATA" "[Ljava/lang/Object;").before a U = true := tb_of h 78 (by decide +kernel) rfl
theorem zf_Jx4a65c_9 {U : State} {a : Array Value} (h : TB U) : (Cond.fieldLink RJx4a65c 9 "java/util/ArrayList" "elementData" "[Ljava/lang/Object;").before a U = true := tb_of h 80 (by decide +kernel) rfl
theorem zf_Jx4a65c_48 {U : State} {a : Array Value} (h : TB U) : (Cond.fieldLink RJx4a65c 48 "java/util/ArrayList" "size" "I").before a U = true := tb_of h 81 (by decide +kernel) rfl
theorem zf_Jxc12de_7 {U : State} {a : Array Value} (h : TB U) : (Cond.fieldLink RJxc12de 7 "java/util/AbstractList" "modCount" "I").before a U = true := tb_of h 82 (by decide +kernel) rfl
theorem zf_Jx4a65c_63 {U : State} {a : Array Value} (h : TB U) : (Cond.fieldLink RJx4a65c 63 "java/util/ArrayList" "modCount" "I").before a U = true := tb_of h 83 (by decide +kernel) rfl
theorem zF_Jx4a65c_modCount {U : State} {a : Array Value} (h : TB U) : (Cond.sameField "java/util/ArrayList" "java/util/AbstractList" "modCount" "I").before a U = true := tb_of h 84 (by decide +kernel) rfl
theorem zS_Jx4a65c_Jxc12de {U : State} {a : Array Value} (h : TB U) : (Cond.superclass RJx4a65c RJxc12de).before a U = true := tb_of h 91 (by decide +kernel) rfl
theorem zc_X6_25 {U : State} {a : Array Value} (h : TB U) : (Cond.classLink RX6 25 RX4).before a U = true := tb_of h 92 (by decide +kernel) rfl
theorem zI_X4 {U : State} {a : Array Value} (h : TB U) : (Cond.instantiable RX4 3).before a U = true := tb_of h 93 (by decide +kernel) rfl
theorem zm_X6_27 {U : State} {a : Array Value} (h : TB U) : (Cond.methodLink RX6 27 yX4_init).before a U = true := tb_of h 94 (by decide +kernel) rfl
theorem zi_X4_init {U : State} {a : Array Value} (h : TB U) : (Cond.instanceMethod yX4_init).before a U = true := tb_of h 95 (by decide +kernel) rfl
theorem zk_X4_init {U : State} {a : Array Value} (h : TB U) : (Cond.code yX4_init cX4_init 3 (none)).before a U = true := tb_of h 96 (by decide +kernel) rfl
theorem zm_X4_1 {U : State} {a : Array Value} (h : TB U) : (Cond.methodLink RX4 1 ⟨"java/lang/Object", "<init>", "()V"⟩).before a U = true := tb_of h 97 (by decide +kernel) rfl
theorem zm_X4_7 {U : State} {a : Array Value} (h : TB U) : (Cond.methodLink RX4 7 yJ9_max_7cf53).before a U = true := tb_of h 98 (by decide +kernel) rfl
theorem zt_J9_max_7cf53 {U : State} {a : Array Value} (h : TB U) : (Cond.static yJ9_max_7cf53).before a U = true := tb_of h 99 (by decide +kernel) rfl
theorem zk_J9_max_7cf53 {U : State} {a : Array Value} (h : TB U) : (Cond.code yJ9_max_7cf53 cJ9_max_7cf53 2 (some .int)).before a U = true := tb_of h 100 (by decide +kernel) rfl
theorem zf_X4_13 {U : State} {a : Array Value} (h : TB U) : (Cond.fieldLink RX4 13 "ApprovalGrid$Table" "rows" "I").before a U = true := tb_of h 101 (by decide +kernel) rfl
theorem zf_X4_19 {U : State} {a : Array Value} (h : TB U) : (Cond.fieldLink RX4 19 "ApprovalGrid$Table" "columns" "I").before a U = true := tb_of h 102 (by decide +kernel) rfl
theorem zf_X4_22 {U : State} {a : Array Value} (h : TB U) : (Cond.fieldLink RX4 22 "ApprovalGrid$Table" "cells" "[I").before a U = true := tb_of h 103 (by decide +kernel) rfl
theorem zS_X4_Object {U : State} {a : Array Value} (h : TB U) : (Cond.superclass RX4 "java/lang/Object").before a U = true := tb_of h 110 (by decide +kernel) rfl
theorem zA_75 {U : State} {a : Array Value} (h : TB U) : (Cond.arrayClass .int).before a U = true := tb_of h 111 (by decide +kernel) rfl
theorem zf_X6_10 {U : State} {a : Array Value} (h : TB U) : (Cond.fieldLink RX6 10 "ApprovalGrid" "people" "Ljava/util/ArrayList;").before a U = true := tb_of h 112 (by decide +kernel) rfl
theorem zf_X6_16 {U : State} {a : Array Value} (h : TB U) : (Cond.fieldLink RX6 16 "ApprovalGrid" "trips" "Ljava/util/ArrayList;").before a U = true := tb_of h 113 (by decide +kernel) rfl
theorem zf_X6_19 {U : State} {a : Array Value} (h : TB U) : (Cond.fieldLink RX6 19 "ApprovalGrid" "charges" "Ljava/util/ArrayList;").before a U = true := tb_of h 114 (by decide +kernel) rfl
theorem zf_X6_22 {U : State} {a : Array Value} (h : TB U) : (Cond.fieldLink RX6 22 "ApprovalGrid" "receipts" "Ljava/util/ArrayList;").before a U = true := tb_of h 115 (by decide +kernel) rfl
theorem zf_X6_30 {U : State} {a : Array Value} (h : TB U) : (Cond.fieldLink RX6 30 "ApprovalGrid" "limits" "LApprovalGrid$Table;").before a U = true := tb_of h 116 (by decide +kernel) rfl
theorem zf_X6_34 {U : State} {a : Array Value} (h : TB U) : (Cond.fieldLink RX6 34 "ApprovalGrid" "plans" "LApprovalGrid$Table;").before a U = true := tb_of h 117 (by decide +kernel) rfl
theorem zf_X6_37 {U : State} {a : Array Value} (h : TB U) : (Cond.fieldLink RX6 37 "ApprovalGrid" "carries" "LApprovalGrid$Table;").before a U = true := tb_of h 118 (by decide +kernel) rfl
theorem zf_X6_40 {U : State} {a : Array Value} (h : TB U) : (Cond.fieldLink RX6 40 "ApprovalGrid" "rates" "LApprovalGrid$Table;").before a U = true := tb_of h 119 (by decide +kernel) rfl
theorem zf_X6_43 {U : State} {a : Array Value} (h : TB U) : (Cond.fieldLink RX6 43 "ApprovalGrid" "today" "I").before a U = true := tb_of h 120 (by decide +kernel) rfl
theorem zS_X6_Object {U : State} {a : Array Value} (h : TB U) : (Cond.superclass RX6 "java/lang/Object").before a U = true := tb_of h 139 (by decide +kernel) rfl
theorem zm_L_22 {U : State} {a : Array Value} (h : TB U) : (Cond.methodLink RL 22 yX6_person).before a U = true := tb_of h 140 (by decide +kernel) rfl
theorem zi_X6_person {U : State} {a : Array Value} (h : TB U) : (Cond.instanceMethod yX6_person).before a U = true := tb_of h 141 (by decide +kernel) rfl
theorem zs_X6_X6_person {U : State} {a : Array Value} (h : TB U) : (Cond.selects RX6 yX6_person yX6_person).before a U = true := tb_of h 142 (by decide +kernel) rfl
theorem zk_X6_person {U : State} {a : Array Value} (h : TB U) : (Cond.code yX6_person cX6_person 4 (some .int)).before a U = true := tb_of h 143 (by decide +kernel) rfl
theorem zm_X6_47 {U : State} {a : Array Value} (h : TB U) : (Cond.methodLink RX6 47 yX6_personAt).before a U = true := tb_of h 144 (by decide +kernel) rfl
theorem zi_X6_personAt {U : State} {a : Array Value} (h : TB U) : (Cond.instanceMethod yX6_personAt).before a U = true := tb_of h 146 (by decide +kernel) rfl
theorem zk_X6_personAt {U : State} {a : Array Value} (h : TB U) : (Cond.code yX6_personAt cX6_personAt 2 (some (.object "ApprovalGrid$Person"))).before a U = true := tb_of h 147 (by decide +kernel) rfl
theorem zm_X6_51 {U : State} {a : Array Value} (h : TB U) : (Cond.methodLink RX6 51 yJx4a65c_size_8abf5).before a U = true := tb_of h 148 (by decide +kernel) rfl
theorem zi_Jx4a65c_size_8abf5 {U : State} {a : Array Value} (h : TB U) : (Cond.instanceMethod yJx4a65c_size_8abf5).before a U = true := tb_of h 149 (by decide +kernel) rfl
theorem zs_Jx4a65c_Jx4a65c_size_8abf5 {U : State} {a : Array Value} (h : TB U) : (Cond.selects RJx4a65c yJx4a65c_size_8abf5 yJx4a65c_size_8abf5).before a U = true := tb_of h 150 (by decide +kernel) rfl
theorem zk_Jx4a65c_size_8abf5 {U : State} {a : Array Value} (h : TB U) : (Cond.code yJx4a65c_size_8abf5 cJx4a65c_size_8abf5 1 (some .int)).before a U = true := tb_of h 151 (by decide +kernel) rfl
theorem zc_X6_320 {U : State} {a : Array Value} (h : TB U) : (Cond.classLink RX6 320 "java/lang/IndexOutOfBoundsException").before a U = true := tb_of h 152 (by decide +kernel) rfl
theorem zI_IndexOutOfBoundsException {U : State} {a : Array Value} (h : TB U) : (Cond.instantiable "java/lang/IndexOutOfBoundsException" 6).before a U = true := tb_of h 153 (by decide +kernel) rfl
theorem zs_IndexOutOfBoundsException_Throwable_fillInStackTrace {U : State} {a : Array Value} (h : TB U) : (Cond.selects "java/lang/IndexOutOfBoundsException" ⟨"java/lang/Throwable", "fillInStackTrace", "(I)Ljava/lang/Throwable;"⟩ ⟨"java/lang/Throwable", "fillInStackTrace", "(I)Ljava/lang/Throwable;"⟩).before a U = true := tb_of h 161 (by decide +kernel) rfl
theorem zf_Throwable_198 {U : State} {a : Array Value} (h : TB U) : (Cond.fieldLink "java/lang/Throwable" 198 "java/lang/Throwable" "backtrace" "Ljava/lang/Object;").before a U = true := tb_of h 173 (by decide +kernel) rfl
theorem zS_Throwable_Object {U : State} {a : Array Value} (h : TB U) : (Cond.superclass "java/lang/Throwable" "java/lang/Object").before a U = true := tb_of h 174 (by decide +kernel) rfl
theorem zi_Throwable_init {U : State} {a : Array Value} (h : TB U) : (Cond.instanceMethod ⟨"java/lang/Throwable", "<init>", "()V"⟩).before a U = true := tb_of h 175 (by decide +kernel) rfl
theorem zk_Throwable_init {U : State} {a : Array Value} (h : TB U) : (Cond.code ⟨"java/lang/Throwable", "<init>", "()V"⟩ prog_26_method_1_code 1 (none)).before a U = true := tb_of h 176 (by decide +kernel) rfl
theorem zm_Throwable_1 {U : State} {a : Array Value} (h : TB U) : (Cond.methodLink "java/lang/Throwable" 1 ⟨"java/lang/Object", "<init>", "()V"⟩).before a U = true := tb_of h 177 (by decide +kernel) rfl
theorem zf_Throwable_13 {U : State} {a : Array Value} (h : TB U) : (Cond.fieldLink "java/lang/Throwable" 13 "java/lang/Throwable" "UNASSIGNED_STACK" "[Ljava/lang/StackTraceElement;").before a U = true := tb_of h 178 (by decide +kernel) rfl
theorem zf_Throwable_20 {U : State} {a : Array Value} (h : TB U) : (Cond.fieldLink "java/lang/Throwable" 20 "java/lang/Throwable" "SUPPRESSED_SENTINEL" "Ljava/util/List;").before a U = true := tb_of h 180 (by decide +kernel) rfl
theorem zm_Throwable_27 {U : State} {a : Array Value} (h : TB U) : (Cond.methodLink "java/lang/Throwable" 27 ⟨"java/lang/Throwable", "fillInStackTrace", "()Ljava/lang/Throwable;"⟩).before a U = true := tb_of h 182 (by decide +kernel) rfl
theorem zi_Throwable_fillInStackTrace {U : State} {a : Array Value} (h : TB U) : (Cond.instanceMethod ⟨"java/lang/Throwable", "fillInStackTrace", "()Ljava/lang/Throwable;"⟩).before a U = true := tb_of h 183 (by decide +kernel) rfl
theorem zM_Throwable_fillInStackTrace {U : State} {a : Array Value} (h : TB U) : (Cond.sameMethod "java/lang/Throwable" "java/lang/Throwable" "fillInStackTrace" "()Ljava/lang/Throwable;").before a U = true := tb_of h 184 (by decide +kernel) rfl
theorem zs_IllegalArgumentException_Throwable_fillInStackTrace {U : State} {a : Array Value} (h : TB U) : (Cond.selects "java/lang/IllegalArgumentException" ⟨"java/lang/Throwable", "fillInStackTrace", "()Ljava/lang/Throwable;"⟩ ⟨"java/lang/Throwable", "fillInStackTrace", "()Ljava/lang/Throwable;"⟩).before a U = true := tb_of h 185 (by decide +kernel) rfl
theorem zs_IllegalStateException_Throwable_fillInStackTrace {U : State} {a : Array Value} (h : TB U) : (Cond.selects "java/lang/IllegalStateException" ⟨"java/lang/Throwable", "fillInStackTrace", "()Ljava/lang/Throwable;"⟩ ⟨"java/lang/Throwable", "fillInStackTrace", "()Ljava/lang/Throwable;"⟩).before a U = true := tb_of h 186 (by decide +kernel) rfl
theorem zm_Throwable_202 {U : State} {a : Array Value} (h : TB U) : (Cond.methodLink "java/lang/Throwable" 202 ⟨"java/lang/Throwable", "fillInStackTrace", "(I)Ljava/lang/Throwable;"⟩).before a U = true := tb_of h 188 (by decide +kernel) rfl
theorem zI_Throwable {U : State} {a : Array Value} (h : TB U) : (Cond.instantiable "java/lang/Throwable" 6).before a U = true := tb_of h 191 (by decide +kernel) rfl
theorem zN_Throwable_fillInStackTrace {U : State} {a : Array Value} (h : TB U) : (Cond.native ⟨"java/lang/Throwable", "fillInStackTrace", "(I)Ljava/lang/Throwable;"⟩).before a U = true := tb_of h 192 (by decide +kernel) rfl
theorem zm_X6_324 {U : State} {a : Array Value} (h : TB U) : (Cond.methodLink RX6 324 ⟨"java/lang/IndexOutOfBoundsException", "<init>", "(Ljava/lang/String;)V"⟩).before a U = true := tb_of h 194 (by decide +kernel) rfl
theorem zi_IndexOutOfBoundsException_init {U : State} {a : Array Value} (h : TB U) : (Cond.instanceMethod ⟨"java/lang/IndexOutOfBoundsException", "<init>", "(Ljava/lang/String;)V"⟩).before a U = true := tb_of h 195 (by decide +kernel) rfl
theorem zk_IndexOutOfBoundsException_init {U : State} {a : Array Value} (h : TB U) : (Cond.code ⟨"java/lang/IndexOutOfBoundsException", "<init>", "(Ljava/lang/String;)V"⟩ prog_20_method_2_code 2 (none)).before a U = true := tb_of h 196 (by decide +kernel) rfl
theorem zm_IndexOutOfBoundsException_7 {U : State} {a : Array Value} (h : TB U) : (Cond.methodLink "java/lang/IndexOutOfBoundsException" 7 ⟨"java/lang/RuntimeException", "<init>", "(Ljava/lang/String;)V"⟩).before a U = true := tb_of h 197 (by decide +kernel) rfl
theorem zi_RuntimeException_init {U : State} {a : Array Value} (h : TB U) : (Cond.instanceMethod ⟨"java/lang/RuntimeException", "<init>", "(Ljava/lang/String;)V"⟩).before a U = true := tb_of h 198 (by decide +kernel) rfl
theorem zk_RuntimeException_init {U : State} {a : Array Value} (h : TB U) : (Cond.code ⟨"java/lang/RuntimeException", "<init>", "(Ljava/lang/String;)V"⟩ prog_23_method_2_code 2 (none)).before a U = true := tb_of h 199 (by decide +kernel) rfl
theorem zm_RuntimeException_7 {U : State} {a : Array Value} (h : TB U) : (Cond.methodLink "java/lang/RuntimeException" 7 ⟨"java/lang/Exception", "<init>", "(Ljava/lang/String;)V"⟩).before a U = true := tb_of h 200 (by decide +kernel) rfl
theorem zi_Exception_init {U : State} {a : Array Value} (h : TB U) : (Cond.instanceMethod ⟨"java/lang/Exception", "<init>", "(Ljava/lang/String;)V"⟩).before a U = true := tb_of h 201 (by decide +kernel) rfl
theorem zk_Exception_init {U : State} {a : Array Value} (h : TB U) : (Cond.code ⟨"java/lang/Exception", "<init>", "(Ljava/lang/String;)V"⟩ prog_17_method_2_code 2 (none)).before a U = true := tb_of h 202 (by decide +kernel) rfl
theorem zm_Exception_7 {U : State} {a : Array Value} (h : TB U) : (Cond.methodLink "java/lang/Exception" 7 ⟨"java/lang/Throwable", "<init>", "(Ljava/lang/String;)V"⟩).before a U = true := tb_of h 203 (by decide +kernel) rfl
theorem zf_Throwable_31 {U : State} {a : Array Value} (h : TB U) : (Cond.fieldLink "java/lang/Throwable" 31 "java/lang/Throwable" "detailMessage" "Ljava/lang/String;").before a U = true := tb_of h 207 (by decide +kernel) rfl
theorem zf_Throwable_7 {U : State} {a : Array Value} (h : TB U) : (Cond.fieldLink "java/lang/Throwable" 7 "java/lang/Throwable" "cause" "Ljava/lang/Throwable;").before a U = true := tb_of h 208 (by decide +kernel) rfl
theorem zf_Throwable_17 {U : State} {a : Array Value} (h : TB U) : (Cond.fieldLink "java/lang/Throwable" 17 "java/lang/Throwable" "stackTrace" "[Ljava/lang/StackTraceElement;").before a U = true := tb_of h 209 (by decide +kernel) rfl
theorem zf_Throwable_24 {U : State} {a : Array Value} (h : TB U) : (Cond.fieldLink "java/lang/Throwable" 24 "java/lang/Throwable" "suppressedExceptions" "Ljava/util/List;").before a U = true := tb_of h 210 (by decide +kernel) rfl
theorem zS_IndexOutOfBoundsException_RuntimeException {U : State} {a : Array Value} (h : TB U) : (Cond.superclass "java/lang/IndexOutOfBoundsException" "java/lang/RuntimeException").before a U = true := tb_of h 218 (by decide +kernel) rfl
theorem zA_183 {U : State} {a : Array Value} (h : TB U) : (Cond.arrayClass .byte).before a U = true := tb_of h 219 (by decide +kernel) rfl
theorem zm_X6_253 {U : State} {a : Array Value} (h : TB U) : (Cond.methodLink RX6 253 yJx4a65c_get_915e3).before a U = true := tb_of h 220 (by decide +kernel) rfl
theorem zi_Jx4a65c_get_915e3 {U : State} {a : Array Value} (h : TB U) : (Cond.instanceMethod yJx4a65c_get_915e3).before a U = true := tb_of h 221 (by decide +kernel) rfl
theorem zs_Jx4a65c_Jx4a65c_get_915e3 {U : State} {a : Array Value} (h : TB U) : (Cond.selects RJx4a65c yJx4a65c_get_915e3 yJx4a65c_get_915e3).before a U = true := tb_of h 222 (by decide +kernel) rfl
theorem zk_Jx4a65c_get_915e3 {U : State} {a : Array Value} (h : TB U) : (Cond.code yJx4a65c_get_915e3 cJx4a65c_get_915e3 2 (some (.object "java/lang/Object"))).before a U = true := tb_of h 223 (by decide +kernel) rfl
theorem zm_Jx4a65c_118 {U : State} {a : Array Value} (h : TB U) : (Cond.methodLink RJx4a65c 118 yJ15_checkIndex_7cf53).before a U = true := tb_of h 224 (by decide +kernel) rfl
theorem zt_J15_checkIndex_7cf53 {U : State} {a : Array Value} (h : TB U) : (Cond.static yJ15_checkIndex_7cf53).before a U = true := tb_of h 225 (by decide +kernel) rfl
theorem zk_J15_checkIndex_7cf53 {U : State} {a : Array Value} (h : TB U) : (Cond.code yJ15_checkIndex_7cf53 cJ15_checkIndex_7cf53 2 (some .int)).before a U = true := tb_of h 226 (by decide +kernel) rfl
theorem zm_J15_105 {U : State} {a : Array Value} (h : TB U) : (Cond.methodLink RJ15 105 yJ3_checkIndex_8e157).before a U = true := tb_of h 227 (by decide +kernel) rfl
theorem zt_J3_checkIndex_8e157 {U : State} {a : Array Value} (h : TB U) : (Cond.static yJ3_checkIndex_8e157).before a U = true := tb_of h 228 (by decide +kernel) rfl
theorem zk_J3_checkIndex_8e157 {U : State} {a : Array Value} (h : TB U) : (Cond.code yJ3_checkIndex_8e157 cJ3_checkIndex_8e157 3 (some .int)).before a U = true := tb_of h 229 (by decide +kernel) rfl
theorem zm_Jx4a65c_123 {U : State} {a : Array Value} (h : TB U) : (Cond.methodLink RJx4a65c 123 yJx4a65c_elementData_915e3).before a U = true := tb_of h 230 (by decide +kernel) rfl
theorem zi_Jx4a65c_elementData_915e3 {U : State} {a : Array Value} (h : TB U) : (Cond.instanceMethod yJx4a65c_elementData_915e3).before a U = true := tb_of h 231 (by decide +kernel) rfl
theorem zs_Jx4a65c_Jx4a65c_elementData_915e3 {U : State} {a : Array Value} (h : TB U) : (Cond.selects RJx4a65c yJx4a65c_elementData_915e3 yJx4a65c_elementData_915e3).before a U = true := tb_of h 232 (by decide +kernel) rfl
theorem zk_Jx4a65c_elementData_915e3 {U : State} {a : Array Value} (h : TB U) : (Cond.code yJx4a65c_elementData_915e3 cJx4a65c_elementData_915e3 2 (some (.object "java/lang/Object"))).before a U = true := tb_of h 233 (by decide +kernel) rfl
theorem zc_X6_62 {U : State} {a : Array Value} (h : TB U) : (Cond.classLink RX6 62 RX2).before a U = true := tb_of h 234 (by decide +kernel) rfl
theorem zc_X6_55 {U : State} {a : Array Value} (h : TB U) : (Cond.classLink RX6 55 "java/lang/IllegalStateException").before a U = true := tb_of h 235 (by decide +kernel) rfl
theorem zI_IllegalStateException {U : State} {a : Array Value} (h : TB U) : (Cond.instantiable "java/lang/IllegalStateException" 6).before a U = true := tb_of h 236 (by decide +kernel) rfl
theorem zm_X6_59 {U : State} {a : Array Value} (h : TB U) : (Cond.methodLink RX6 59 ⟨"java/lang/IllegalStateException", "<init>", "(Ljava/lang/String;)V"⟩).before a U = true := tb_of h 245 (by decide +kernel) rfl
theorem zi_IllegalStateException_init {U : State} {a : Array Value} (h : TB U) : (Cond.instanceMethod ⟨"java/lang/IllegalStateException", "<init>", "(Ljava/lang/String;)V"⟩).before a U = true := tb_of h 246 (by decide +kernel) rfl
theorem zk_IllegalStateException_init {U : State} {a : Array Value} (h : TB U) : (Cond.code ⟨"java/lang/IllegalStateException", "<init>", "(Ljava/lang/String;)V"⟩ prog_19_method_2_code 2 (none)).before a U = true := tb_of h 247 (by decide +kernel) rfl
theorem zm_IllegalStateException_7 {U : State} {a : Array Value} (h : TB U) : (Cond.methodLink "java/lang/IllegalStateException" 7 ⟨"java/lang/RuntimeException", "<init>", "(Ljava/lang/String;)V"⟩).before a U = true := tb_of h 248 (by decide +kernel) rfl
theorem zS_IllegalStateException_RuntimeException {U : State} {a : Array Value} (h : TB U) : (Cond.superclass "java/lang/IllegalStateException" "java/lang/RuntimeException").before a U = true := tb_of h 250 (by decide +kernel) rfl
theorem zI_X2 {U : State} {a : Array Value} (h : TB U) : (Cond.instantiable RX2 6).before a U = true := tb_of h 251 (by decide +kernel) rfl
theorem zm_X6_64 {U : State} {a : Array Value} (h : TB U) : (Cond.methodLink RX6 64 yX2_init).before a U = true := tb_of h 252 (by decide +kernel) rfl
theorem zi_X2_init {U : State} {a : Array Value} (h : TB U) : (Cond.instanceMethod yX2_init).before a U = true := tb_of h 253 (by decide +kernel) rfl
theorem zk_X2_init {U : State} {a : Array Value} (h : TB U) : (Cond.code yX2_init cX2_init 3 (none)).before a U = true := tb_of h 254 (by decide +kernel) rfl
theorem zm_X2_3 {U : State} {a : Array Value} (h : TB U) : (Cond.methodLink RX2 3 yX1_init).before a U = true := tb_of h 255 (by decide +kernel) rfl
theorem zi_X1_init {U : State} {a : Array Value} (h : TB U) : (Cond.instanceMethod yX1_init).before a U = true := tb_of h 256 (by decide +kernel) rfl
theorem zk_X1_init {U : State} {a : Array Value} (h : TB U) : (Cond.code yX1_init cX1_init 2 (none)).before a U = true := tb_of h 257 (by decide +kernel) rfl
theorem zm_X1_1 {U : State} {a : Array Value} (h : TB U) : (Cond.methodLink RX1 1 ⟨"java/lang/Object", "<init>", "()V"⟩).before a U = true := tb_of h 258 (by decide +kernel) rfl
theorem zf_X2_25 {U : State} {a : Array Value} (h : TB U) : (Cond.fieldLink RX2 25 "ApprovalGrid$Person" "boss" "LApprovalGrid$Person;").before a U = true := tb_of h 259 (by decide +kernel) rfl
theorem zf_X0_61 {U : State} {a : Array Value} (h : TB U) : (Cond.fieldLink RX0 61 "ApprovalGrid$Person" "boss" "LApprovalGrid$Person;").before a U = true := tb_of h 260 (by decide +kernel) rfl
theorem zf_X6_116 {U : State} {a : Array Value} (h : TB U) : (Cond.fieldLink RX6 116 "ApprovalGrid$Person" "boss" "LApprovalGrid$Person;").before a U = true := tb_of h 261 (by decide +kernel) rfl
theorem zf_X2_9 {U : State} {a : Array Value} (h : TB U) : (Cond.fieldLink RX2 9 "ApprovalGrid$Person" "trust" "I").before a U = true := tb_of h 262 (by decide +kernel) rfl
theorem zf_X6_123 {U : State} {a : Array Value} (h : TB U) : (Cond.fieldLink RX6 123 "ApprovalGrid$Person" "trust" "I").before a U = true := tb_of h 263 (by decide +kernel) rfl
theorem zf_X2_15 {U : State} {a : Array Value} (h : TB U) : (Cond.fieldLink RX2 15 "ApprovalGrid$Person" "points" "I").before a U = true := tb_of h 264 (by decide +kernel) rfl
theorem zf_X6_126 {U : State} {a : Array Value} (h : TB U) : (Cond.fieldLink RX6 126 "ApprovalGrid$Person" "points" "I").before a U = true := tb_of h 265 (by decide +kernel) rfl
theorem zf_X2_18 {U : State} {a : Array Value} (h : TB U) : (Cond.fieldLink RX2 18 "ApprovalGrid$Person" "awayUntil" "I").before a U = true := tb_of h 266 (by decide +kernel) rfl
theorem zf_X6_95 {U : State} {a : Array Value} (h : TB U) : (Cond.fieldLink RX6 95 "ApprovalGrid$Person" "awayUntil" "I").before a U = true := tb_of h 267 (by decide +kernel) rfl
theorem zf_X2_21 {U : State} {a : Array Value} (h : TB U) : (Cond.fieldLink RX2 21 "ApprovalGrid$Person" "standIn" "LApprovalGrid$Person;").before a U = true := tb_of h 268 (by decide +kernel) rfl
theorem zf_X6_98 {U : State} {a : Array Value} (h : TB U) : (Cond.fieldLink RX6 98 "ApprovalGrid$Person" "standIn" "LApprovalGrid$Person;").before a U = true := tb_of h 269 (by decide +kernel) rfl
theorem zf_X1_7 {U : State} {a : Array Value} (h : TB U) : (Cond.fieldLink RX1 7 "ApprovalGrid$Numbered" "number" "I").before a U = true := tb_of h 270 (by decide +kernel) rfl
theorem zf_X0_52 {U : State} {a : Array Value} (h : TB U) : (Cond.fieldLink RX0 52 "ApprovalGrid$Receipt" "number" "I").before a U = true := tb_of h 271 (by decide +kernel) rfl
theorem zF_X3_number {U : State} {a : Array Value} (h : TB U) : (Cond.sameField "ApprovalGrid$Receipt" "ApprovalGrid$Numbered" "number" "I").before a U = true := tb_of h 272 (by decide +kernel) rfl
theorem zf_X6_71 {U : State} {a : Array Value} (h : TB U) : (Cond.fieldLink RX6 71 "ApprovalGrid$Person" "number" "I").before a U = true := tb_of h 273 (by decide +kernel) rfl
theorem zF_X2_number {U : State} {a : Array Value} (h : TB U) : (Cond.sameField "ApprovalGrid$Person" "ApprovalGrid$Numbered" "number" "I").before a U = true := tb_of h 274 (by decide +kernel) rfl
theorem zf_X6_171 {U : State} {a : Array Value} (h : TB U) : (Cond.fieldLink RX6 171 "ApprovalGrid$Charge" "number" "I").before a U = true := tb_of h 275 (by decide +kernel) rfl
theorem zF_X0_number {U : State} {a : Array Value} (h : TB U) : (Cond.sameField "ApprovalGrid$Charge" "ApprovalGrid$Numbered" "number" "I").before a U = true := tb_of h 276 (by decide +kernel) rfl
theorem zf_X6_341 {U : State} {a : Array Value} (h : TB U) : (Cond.fieldLink RX6 341 "ApprovalGrid$Numbered" "number" "I").before a U = true := tb_of h 277 (by decide +kernel) rfl
theorem zS_X2_X1 {U : State} {a : Array Value} (h : TB U) : (Cond.superclass RX2 RX1).before a U = true := tb_of h 290 (by decide +kernel) rfl
theorem zm_X6_67 {U : State} {a : Array Value} (h : TB U) : (Cond.methodLink RX6 67 yJx4a65c_add_9ea2d).before a U = true := tb_of h 291 (by decide +kernel) rfl
theorem zi_Jx4a65c_add_9ea2d {U : State} {a : Array Value} (h : TB U) : (Cond.instanceMethod yJx4a65c_add_9ea2d).before a U = true := tb_of h 292 (by decide +kernel) rfl
theorem zs_Jx4a65c_Jx4a65c_add_9ea2d {U : State} {a : Array Value} (h : TB U) : (Cond.selects RJx4a65c yJx4a65c_add_9ea2d yJx4a65c_add_9ea2d).before a U = true := tb_of h 293 (by decide +kernel) rfl
theorem zk_Jx4a65c_add_9ea2d {U : State} {a : Array Value} (h : TB U) : (Cond.code yJx4a65c_add_9ea2d cJx4a65c_add_9ea2d 2 (some .boolean)).before a U = true := tb_of h 294 (by decide +kernel) rfl
theorem zm_Jx4a65c_131 {U : State} {a : Array Value} (h : TB U) : (Cond.methodLink RJx4a65c 131 yJx4a65c_add_72be8).before a U = true := tb_of h 295 (by decide +kernel) rfl
theorem zi_Jx4a65c_add_72be8 {U : State} {a : Array Value} (h : TB U) : (Cond.instanceMethod yJx4a65c_add_72be8).before a U = true := tb_of h 297 (by decide +kernel) rfl
theorem zk_Jx4a65c_add_72be8 {U : State} {a : Array Value} (h : TB U) : (Cond.code yJx4a65c_add_72be8 cJx4a65c_add_72be8 4 (none)).before a U = true := tb_of h 298 (by decide +kernel) rfl
theorem zm_Jx4a65c_129 {U : State} {a : Array Value} (h : TB U) : (Cond.methodLink RJx4a65c 129 yJx4a65c_grow_d5877).before a U = true := tb_of h 299 (by decide +kernel) rfl
theorem zi_Jx4a65c_grow_d5877 {U : State} {a : Array Value} (h : TB U) : (Cond.instanceMethod yJx4a65c_grow_d5877).before a U = true := tb_of h 301 (by decide +kernel) rfl
theorem zk_Jx4a65c_grow_d5877 {U : State} {a : Array Value} (h : TB U) : (Cond.code yJx4a65c_grow_d5877 cJx4a65c_grow_d5877 1 (some (.array (.object "java/lang/Object")))).before a U = true := tb_of h 302 (by decide +kernel) rfl
theorem zm_Jx4a65c_69 {U : State} {a : Array Value} (h : TB U) : (Cond.methodLink RJx4a65c 69 yJx4a65c_grow_92f84).before a U = true := tb_of h 303 (by decide +kernel) rfl
theorem zi_Jx4a65c_grow_92f84 {U : State} {a : Array Value} (h : TB U) : (Cond.instanceMethod yJx4a65c_grow_92f84).before a U = true := tb_of h 305 (by decide +kernel) rfl
theorem zk_Jx4a65c_grow_92f84 {U : State} {a : Array Value} (h : TB U) : (Cond.code yJx4a65c_grow_92f84 cJx4a65c_grow_92f84 4 (some (.array (.object "java/lang/Object")))).before a U = true := tb_of h 306 (by decide +kernel) rfl
theorem zm_Jx4a65c_73 {U : State} {a : Array Value} (h : TB U) : (Cond.methodLink RJx4a65c 73 yJ8_newLength_cabcc).before a U = true := tb_of h 307 (by decide +kernel) rfl
theorem zt_J8_newLength_cabcc {U : State} {a : Array Value} (h : TB U) : (Cond.static yJ8_newLength_cabcc).before a U = true := tb_of h 308 (by decide +kernel) rfl
theorem zk_J8_newLength_cabcc {U : State} {a : Array Value} (h : TB U) : (Cond.code yJ8_newLength_cabcc cJ8_newLength_cabcc 4 (some .int)).before a U = true := tb_of h 309 (by decide +kernel) rfl
theorem zm_J8_194 {U : State} {a : Array Value} (h : TB U) : (Cond.methodLink RJ8 194 yJ9_max_7cf53).before a U = true := tb_of h 310 (by decide +kernel) rfl
theorem zm_J8_201 {U : State} {a : Array Value} (h : TB U) : (Cond.methodLink RJ8 201 yJ8_hugeLength_7cf53).before a U = true := tb_of h 312 (by decide +kernel) rfl
theorem zt_J8_hugeLength_7cf53 {U : State} {a : Array Value} (h : TB U) : (Cond.static yJ8_hugeLength_7cf53).before a U = true := tb_of h 313 (by decide +kernel) rfl
theorem zk_J8_hugeLength_7cf53 {U : State} {a : Array Value} (h : TB U) : (Cond.code yJ8_hugeLength_7cf53 cJ8_hugeLength_7cf53 3 (some .int)).before a U = true := tb_of h 314 (by decide +kernel) rfl
theorem zm_Jx4a65c_66 {U : State} {a : Array Value} (h : TB U) : (Cond.methodLink RJx4a65c 66 yJ7_copyOf_1904c).before a U = true := tb_of h 315 (by decide +kernel) rfl
theorem zt_J7_copyOf_1904c {U : State} {a : Array Value} (h : TB U) : (Cond.static yJ7_copyOf_1904c).before a U = true := tb_of h 316 (by decide +kernel) rfl
theorem zk_J7_copyOf_1904c {U : State} {a : Array Value} (h : TB U) : (Cond.code yJ7_copyOf_1904c cJ7_copyOf_1904c 2 (some (.array (.object "java/lang/Object")))).before a U = true := tb_of h 317 (by decide +kernel) rfl
theorem zm_J7_86 {U : State} {a : Array Value} (h : TB U) : (Cond.methodLink RJ7 86 ⟨"java/lang/Object", "getClass", "()Ljava/lang/Class;"⟩).before a U = true := tb_of h 318 (by decide +kernel) rfl
theorem zi_Object_getClass {U : State} {a : Array Value} (h : TB U) : (Cond.instanceMethod ⟨"java/lang/Object", "getClass", "()Ljava/lang/Class;"⟩).before a U = true := tb_of h 319 (by decide +kernel) rfl
theorem zM_Object_getClass {U : State} {a : Array Value} (h : TB U) : (Cond.sameMethod "java/lang/Object" "java/lang/Object" "getClass" "()Ljava/lang/Class;").before a U = true := tb_of h 320 (by decide +kernel) rfl
theorem zs_X6_Object_getClass {U : State} {a : Array Value} (h : TB U) : (Cond.selects RX6 ⟨"java/lang/Object", "getClass", "()Ljava/lang/Class;"⟩ ⟨"java/lang/Object", "getClass", "()Ljava/lang/Class;"⟩).before a U = true := tb_of h 321 (by decide +kernel) rfl
theorem zs_X0_Object_getClass {U : State} {a : Array Value} (h : TB U) : (Cond.selects RX0 ⟨"java/lang/Object", "getClass", "()Ljava/lang/Class;"⟩ ⟨"java/lang/Object", "getClass", "()Ljava/lang/Class;"⟩).before a U = true := tb_of h 322 (by decide +kernel) rfl
theorem zs_X2_Object_getClass {U : State} {a : Array Value} (h : TB U) : (Cond.selects RX2 ⟨"java/lang/Object", "getClass", "()Ljava/lang/Class;"⟩ ⟨"java/lang/Object", "getClass", "()Ljava/lang/Class;"⟩).before a U = true := tb_of h 323 (by decide +kernel) rfl
theorem zs_X3_Object_getClass {U : State} {a : Array Value} (h : TB U) : (Cond.selects RX3 ⟨"java/lang/Object", "getClass", "()Ljava/lang/Class;"⟩ ⟨"java/lang/Object", "getClass", "()Ljava/lang/Class;"⟩).before a U = true := tb_of h 324 (by decide +kernel) rfl
theorem zs_X4_Object_getClass {U : State} {a : Array Value} (h : TB U) : (Cond.selects RX4 ⟨"java/lang/Object", "getClass", "()Ljava/lang/Class;"⟩ ⟨"java/lang/Object", "getClass", "()Ljava/lang/Class;"⟩).before a U = true := tb_of h 325 (by decide +kernel) rfl
theorem zs_IllegalArgumentException_Object_getClass {U : State} {a : Array Value} (h : TB U) : (Cond.selects "java/lang/IllegalArgumentException" ⟨"java/lang/Object", "getClass", "()Ljava/lang/Class;"⟩ ⟨"java/lang/Object", "getClass", "()Ljava/lang/Class;"⟩).before a U = true := tb_of h 326 (by decide +kernel) rfl
theorem zs_IllegalStateException_Object_getClass {U : State} {a : Array Value} (h : TB U) : (Cond.selects "java/lang/IllegalStateException" ⟨"java/lang/Object", "getClass", "()Ljava/lang/Class;"⟩ ⟨"java/lang/Object", "getClass", "()Ljava/lang/Class;"⟩).before a U = true := tb_of h 327 (by decide +kernel) rfl
theorem zs_IndexOutOfBoundsException_Object_getClass {U : State} {a : Array Value} (h : TB U) : (Cond.selects "java/lang/IndexOutOfBoundsException" ⟨"java/lang/Object", "getClass", "()Ljava/lang/Class;"⟩ ⟨"java/lang/Object", "getClass", "()Ljava/lang/Class;"⟩).before a U = true := tb_of h 328 (by decide +kernel) rfl
theorem zs_Jx4a65c_Object_getClass {U : State} {a : Array Value} (h : TB U) : (Cond.selects RJx4a65c ⟨"java/lang/Object", "getClass", "()Ljava/lang/Class;"⟩ ⟨"java/lang/Object", "getClass", "()Ljava/lang/Class;"⟩).before a U = true := tb_of h 329 (by decide +kernel) rfl
theorem zN_Object_getClass {U : State} {a : Array Value} (h : TB U) : (Cond.native ⟨"java/lang/Object", "getClass", "()Ljava/lang/Class;"⟩).before a U = true := tb_of h 330 (by decide +kernel) rfl
theorem zm_J7_300 {U : State} {a : Array Value} (h : TB U) : (Cond.methodLink RJ7 300 yJ7_copyOf_6403c).before a U = true := tb_of h 331 (by decide +kernel) rfl
theorem zt_J7_copyOf_6403c {U : State} {a : Array Value} (h : TB U) : (Cond.static yJ7_copyOf_6403c).before a U = true := tb_of h 332 (by decide +kernel) rfl
theorem zk_J7_copyOf_6403c {U : State} {a : Array Value} (h : TB U) : (Cond.code yJ7_copyOf_6403c cJ7_copyOf_6403c 4 (some (.array (.object "java/lang/Object")))).before a U = true := tb_of h 333 (by decide +kernel) rfl
theorem zc_J7_110 {U : State} {a : Array Value} (h : TB U) : (Cond.classLink RJ7 110 "[Ljava/lang/Object;").before a U = true := tb_of h 334 (by decide +kernel) rfl
theorem zc_J7_2 {U : State} {a : Array Value} (h : TB U) : (Cond.classLink RJ7 2 "java/lang/Object").before a U = true := tb_of h 336 (by decide +kernel) rfl
theorem zm_J7_304 {U : State} {a : Array Value} (h : TB U) : (Cond.methodLink RJ7 304 yJ9_min_7cf53).before a U = true := tb_of h 337 (by decide +kernel) rfl
theorem zt_J9_min_7cf53 {U : State} {a : Array Value} (h : TB U) : (Cond.static yJ9_min_7cf53).before a U = true := tb_of h 338 (by decide +kernel) rfl
theorem zk_J9_min_7cf53 {U : State} {a : Array Value} (h : TB U) : (Cond.code yJ9_min_7cf53 cJ9_min_7cf53 2 (some .int)).before a U = true := tb_of h 339 (by decide +kernel) rfl
theorem zm_J7_150 {U : State} {a : Array Value} (h : TB U) : (Cond.methodLink RJ7 150 ⟨RJ10, "arraycopy", "(Ljava/lang/Object;ILjava/lang/Object;II)V"⟩).before a U = true := tb_of h 340 (by decide +kernel) rfl
theorem zt_J10_arraycopy {U : State} {a : Array Value} (h : TB U) : (Cond.static ⟨RJ10, "arraycopy", "(Ljava/lang/Object;ILjava/lang/Object;II)V"⟩).before a U = true := tb_of h 341 (by decide +kernel) rfl
theorem zN_J10_arraycopy {U : State} {a : Array Value} (h : TB U) : (Cond.native ⟨RJ10, "arraycopy", "(Ljava/lang/Object;ILjava/lang/Object;II)V"⟩).before a U = true := tb_of h 342 (by decide +kernel) rfl
theorem zm_Jx4a65c_79 {U : State} {a : Array Value} (h : TB U) : (Cond.methodLink RJx4a65c 79 yJ9_max_7cf53).before a U = true := tb_of h 343 (by decide +kernel) rfl
theorem zc_Jx4a65c_7 {U : State} {a : Array Value} (h : TB U) : (Cond.classLink RJx4a65c 7 "java/lang/Object").before a U = true := tb_of h 344 (by decide +kernel) rfl
theorem zm_L_26 {U : State} {a : Array Value} (h : TB U) : (Cond.methodLink RL 26 yX6_limit).before a U = true := tb_of h 345 (by decide +kernel) rfl
theorem zi_X6_limit {U : State} {a : Array Value} (h : TB U) : (Cond.instanceMethod yX6_limit).before a U = true := tb_of h 346 (by decide +kernel) rfl
theorem zs_X6_X6_limit {U : State} {a : Array Value} (h : TB U) : (Cond.selects RX6 yX6_limit yX6_limit).before a U = true := tb_of h 347 (by decide +kernel) rfl
theorem zk_X6_limit {U : State} {a : Array Value} (h : TB U) : (Cond.code yX6_limit cX6_limit 5 (some .int)).before a U = true := tb_of h 348 (by decide +kernel) rfl
theorem zm_X6_74 {U : State} {a : Array Value} (h : TB U) : (Cond.methodLink RX6 74 yX6_checkKind).before a U = true := tb_of h 349 (by decide +kernel) rfl
theorem zt_X6_checkKind {U : State} {a : Array Value} (h : TB U) : (Cond.static yX6_checkKind).before a U = true := tb_of h 350 (by decide +kernel) rfl
theorem zk_X6_checkKind {U : State} {a : Array Value} (h : TB U) : (Cond.code yX6_checkKind cX6_checkKind 1 (none)).before a U = true := tb_of h 351 (by decide +kernel) rfl
theorem zm_X6_78 {U : State} {a : Array Value} (h : TB U) : (Cond.methodLink RX6 78 yX6_checkRange).before a U = true := tb_of h 353 (by decide +kernel) rfl
theorem zt_X6_checkRange {U : State} {a : Array Value} (h : TB U) : (Cond.static yX6_checkRange).before a U = true := tb_of h 354 (by decide +kernel) rfl
theorem zk_X6_checkRange {U : State} {a : Array Value} (h : TB U) : (Cond.code yX6_checkRange cX6_checkRange 3 (none)).before a U = true := tb_of h 355 (by decide +kernel) rfl
theorem zc_X6_86 {U : State} {a : Array Value} (h : TB U) : (Cond.classLink RX6 86 "java/lang/IllegalArgumentException").before a U = true := tb_of h 356 (by decide +kernel) rfl
theorem zI_IllegalArgumentException {U : State} {a : Array Value} (h : TB U) : (Cond.instantiable "java/lang/IllegalArgumentException" 6).before a U = true := tb_of h 357 (by decide +kernel) rfl
theorem zm_X6_90 {U : State} {a : Array Value} (h : TB U) : (Cond.methodLink RX6 90 ⟨"java/lang/IllegalArgumentException", "<init>", "(Ljava/lang/String;)V"⟩).before a U = true := tb_of h 366 (by decide +kernel) rfl
theorem zi_IllegalArgumentException_init {U : State} {a : Array Value} (h : TB U) : (Cond.instanceMethod ⟨"java/lang/IllegalArgumentException", "<init>", "(Ljava/lang/String;)V"⟩).before a U = true := tb_of h 367 (by decide +kernel) rfl
theorem zk_IllegalArgumentException_init {U : State} {a : Array Value} (h : TB U) : (Cond.code ⟨"java/lang/IllegalArgumentException", "<init>", "(Ljava/lang/String;)V"⟩ prog_18_method_2_code 2 (none)).before a U = true := tb_of h 368 (by decide +kernel) rfl
theorem zm_IllegalArgumentException_7 {U : State} {a : Array Value} (h : TB U) : (Cond.methodLink "java/lang/IllegalArgumentException" 7 ⟨"java/lang/RuntimeException", "<init>", "(Ljava/lang/String;)V"⟩).before a U = true := tb_of h 369 (by decide +kernel) rfl
theorem zS_IllegalArgumentException_RuntimeException {U : State} {a : Array Value} (h : TB U) : (Cond.superclass "java/lang/IllegalArgumentException" "java/lang/RuntimeException").before a U = true := tb_of h 371 (by decide +kernel) rfl
theorem zm_X6_82 {U : State} {a : Array Value} (h : TB U) : (Cond.methodLink RX6 82 yX4_replace).before a U = true := tb_of h 372 (by decide +kernel) rfl
theorem zi_X4_replace {U : State} {a : Array Value} (h : TB U) : (Cond.instanceMethod yX4_replace).before a U = true := tb_of h 373 (by decide +kernel) rfl
theorem zs_X4_X4_replace {U : State} {a : Array Value} (h : TB U) : (Cond.selects RX4 yX4_replace yX4_replace).before a U = true := tb_of h 374 (by decide +kernel) rfl
theorem zk_X4_replace {U : State} {a : Array Value} (h : TB U) : (Cond.code yX4_replace cX4_replace 5 (some .int)).before a U = true := tb_of h 375 (by decide +kernel) rfl
theorem zm_X4_26 {U : State} {a : Array Value} (h : TB U) : (Cond.methodLink RX4 26 yX4_at).before a U = true := tb_of h 376 (by decide +kernel) rfl
theorem zi_X4_at {U : State} {a : Array Value} (h : TB U) : (Cond.instanceMethod yX4_at).before a U = true := tb_of h 377 (by decide +kernel) rfl
theorem zs_X4_X4_at {U : State} {a : Array Value} (h : TB U) : (Cond.selects RX4 yX4_at yX4_at).before a U = true := tb_of h 378 (by decide +kernel) rfl
theorem zk_X4_at {U : State} {a : Array Value} (h : TB U) : (Cond.code yX4_at cX4_at 4 (some .int)).before a U = true := tb_of h 379 (by decide +kernel) rfl
theorem zm_L_90 {U : State} {a : Array Value} (h : TB U) : (Cond.methodLink RL 90 yX6_away).before a U = true := tb_of h 380 (by decide +kernel) rfl
theorem zi_X6_away {U : State} {a : Array Value} (h : TB U) : (Cond.instanceMethod yX6_away).before a U = true := tb_of h 381 (by decide +kernel) rfl
theorem zs_X6_X6_away {U : State} {a : Array Value} (h : TB U) : (Cond.selects RX6 yX6_away yX6_away).before a U = true := tb_of h 382 (by decide +kernel) rfl
theorem zk_X6_away {U : State} {a : Array Value} (h : TB U) : (Cond.code yX6_away cX6_away 7 (some .boolean)).before a U = true := tb_of h 383 (by decide +kernel) rfl
theorem zm_X6_91 {U : State} {a : Array Value} (h : TB U) : (Cond.methodLink RX6 91 yX2_isAwayOn).before a U = true := tb_of h 385 (by decide +kernel) rfl
theorem zi_X2_isAwayOn {U : State} {a : Array Value} (h : TB U) : (Cond.instanceMethod yX2_isAwayOn).before a U = true := tb_of h 386 (by decide +kernel) rfl
theorem zs_X2_X2_isAwayOn {U : State} {a : Array Value} (h : TB U) : (Cond.selects RX2 yX2_isAwayOn yX2_isAwayOn).before a U = true := tb_of h 387 (by decide +kernel) rfl
theorem zk_X2_isAwayOn {U : State} {a : Array Value} (h : TB U) : (Cond.code yX2_isAwayOn cX2_isAwayOn 2 (some .boolean)).before a U = true := tb_of h 388 (by decide +kernel) rfl
theorem zm_X6_102 {U : State} {a : Array Value} (h : TB U) : (Cond.methodLink RX6 102 yX6_passSteps).before a U = true := tb_of h 389 (by decide +kernel) rfl
theorem zi_X6_passSteps {U : State} {a : Array Value} (h : TB U) : (Cond.instanceMethod yX6_passSteps).before a U = true := tb_of h 391 (by decide +kernel) rfl
theorem zk_X6_passSteps {U : State} {a : Array Value} (h : TB U) : (Cond.code yX6_passSteps cX6_passSteps 3 (none)).before a U = true := tb_of h 392 (by decide +kernel) rfl
theorem zc_X6_155 {U : State} {a : Array Value} (h : TB U) : (Cond.classLink RX6 155 RX0).before a U = true := tb_of h 393 (by decide +kernel) rfl
theorem zm_X6_399 {U : State} {a : Array Value} (h : TB U) : (Cond.methodLink RX6 399 yX6_passStepsOf).before a U = true := tb_of h 394 (by decide +kernel) rfl
theorem zi_X6_passStepsOf {U : State} {a : Array Value} (h : TB U) : (Cond.instanceMethod yX6_passStepsOf).before a U = true := tb_of h 396 (by decide +kernel) rfl
theorem zk_X6_passStepsOf {U : State} {a : Array Value} (h : TB U) : (Cond.code yX6_passStepsOf cX6_passStepsOf 3 (none)).before a U = true := tb_of h 397 (by decide +kernel) rfl
theorem zm_X6_402 {U : State} {a : Array Value} (h : TB U) : (Cond.methodLink RX6 402 yX0_stepsNeeded).before a U = true := tb_of h 398 (by decide +kernel) rfl
theorem zi_X0_stepsNeeded {U : State} {a : Array Value} (h : TB U) : (Cond.instanceMethod yX0_stepsNeeded).before a U = true := tb_of h 399 (by decide +kernel) rfl
theorem zs_X0_X0_stepsNeeded {U : State} {a : Array Value} (h : TB U) : (Cond.selects RX0 yX0_stepsNeeded yX0_stepsNeeded).before a U = true := tb_of h 400 (by decide +kernel) rfl
theorem zk_X0_stepsNeeded {U : State} {a : Array Value} (h : TB U) : (Cond.code yX0_stepsNeeded cX0_stepsNeeded 4 (some .int)).before a U = true := tb_of h 401 (by decide +kernel) rfl
theorem zm_X6_235 {U : State} {a : Array Value} (h : TB U) : (Cond.methodLink RX6 235 yX6_nextApproverOf).before a U = true := tb_of h 402 (by decide +kernel) rfl
theorem zi_X6_nextApproverOf {U : State} {a : Array Value} (h : TB U) : (Cond.instanceMethod yX6_nextApproverOf).before a U = true := tb_of h 404 (by decide +kernel) rfl
theorem zk_X6_nextApproverOf {U : State} {a : Array Value} (h : TB U) : (Cond.code yX6_nextApproverOf cX6_nextApproverOf 4 (some (.object "ApprovalGrid$Person"))).before a U = true := tb_of h 405 (by decide +kernel) rfl
theorem zm_X6_405 {U : State} {a : Array Value} (h : TB U) : (Cond.methodLink RX6 405 yX0_bossOfNextStep).before a U = true := tb_of h 406 (by decide +kernel) rfl
theorem zi_X0_bossOfNextStep {U : State} {a : Array Value} (h : TB U) : (Cond.instanceMethod yX0_bossOfNextStep).before a U = true := tb_of h 407 (by decide +kernel) rfl
theorem zs_X0_X0_bossOfNextStep {U : State} {a : Array Value} (h : TB U) : (Cond.selects RX0 yX0_bossOfNextStep yX0_bossOfNextStep).before a U = true := tb_of h 408 (by decide +kernel) rfl
theorem zk_X0_bossOfNextStep {U : State} {a : Array Value} (h : TB U) : (Cond.code yX0_bossOfNextStep cX0_bossOfNextStep 3 (some (.object "ApprovalGrid$Person"))).before a U = true := tb_of h 409 (by decide +kernel) rfl
theorem zm_X0_66 {U : State} {a : Array Value} (h : TB U) : (Cond.methodLink RX0 66 yX0_stepsNeeded).before a U = true := tb_of h 410 (by decide +kernel) rfl
theorem zm_L_87 {U : State} {a : Array Value} (h : TB U) : (Cond.methodLink RL 87 yX6_ofPerson).before a U = true := tb_of h 411 (by decide +kernel) rfl
theorem zi_X6_ofPerson {U : State} {a : Array Value} (h : TB U) : (Cond.instanceMethod yX6_ofPerson).before a U = true := tb_of h 412 (by decide +kernel) rfl
theorem zs_X6_X6_ofPerson {U : State} {a : Array Value} (h : TB U) : (Cond.selects RX6 yX6_ofPerson yX6_ofPerson).before a U = true := tb_of h 413 (by decide +kernel) rfl
theorem zk_X6_ofPerson {U : State} {a : Array Value} (h : TB U) : (Cond.code yX6_ofPerson cX6_ofPerson 4 (some .int)).before a U = true := tb_of h 414 (by decide +kernel) rfl
theorem zm_X6_119 {U : State} {a : Array Value} (h : TB U) : (Cond.methodLink RX6 119 yX6_numberOf).before a U = true := tb_of h 415 (by decide +kernel) rfl
theorem zt_X6_numberOf {U : State} {a : Array Value} (h : TB U) : (Cond.static yX6_numberOf).before a U = true := tb_of h 416 (by decide +kernel) rfl
theorem zk_X6_numberOf {U : State} {a : Array Value} (h : TB U) : (Cond.code yX6_numberOf cX6_numberOf 1 (some .int)).before a U = true := tb_of h 417 (by decide +kernel) rfl
theorem zm_X6_129 {U : State} {a : Array Value} (h : TB U) : (Cond.methodLink RX6 129 yX6_countOpenOf).before a U = true := tb_of h 418 (by decide +kernel) rfl
theorem zi_X6_countOpenOf {U : State} {a : Array Value} (h : TB U) : (Cond.instanceMethod yX6_countOpenOf).before a U = true := tb_of h 420 (by decide +kernel) rfl
theorem zk_X6_countOpenOf {U : State} {a : Array Value} (h : TB U) : (Cond.code yX6_countOpenOf cX6_countOpenOf 5 (some .int)).before a U = true := tb_of h 421 (by decide +kernel) rfl
theorem zm_X6_133 {U : State} {a : Array Value} (h : TB U) : (Cond.methodLink RX6 133 yX6_repaidAmountOf).before a U = true := tb_of h 422 (by decide +kernel) rfl
theorem zi_X6_repaidAmountOf {U : State} {a : Array Value} (h : TB U) : (Cond.instanceMethod yX6_repaidAmountOf).before a U = true := tb_of h 424 (by decide +kernel) rfl
theorem zk_X6_repaidAmountOf {U : State} {a : Array Value} (h : TB U) : (Cond.code yX6_repaidAmountOf cX6_repaidAmountOf 5 (some .int)).before a U = true := tb_of h 425 (by decide +kernel) rfl
theorem zm_X6_136 {U : State} {a : Array Value} (h : TB U) : (Cond.methodLink RX6 136 yX6_countToApproveBy).before a U = true := tb_of h 426 (by decide +kernel) rfl
theorem zi_X6_countToApproveBy {U : State} {a : Array Value} (h : TB U) : (Cond.instanceMethod yX6_countToApproveBy).before a U = true := tb_of h 428 (by decide +kernel) rfl
theorem zk_X6_countToApproveBy {U : State} {a : Array Value} (h : TB U) : (Cond.code yX6_countToApproveBy cX6_countToApproveBy 4 (some .int)).before a U = true := tb_of h 429 (by decide +kernel) rfl
theorem zm_L_43 {U : State} {a : Array Value} (h : TB U) : (Cond.methodLink RL 43 yX6_maySpend).before a U = true := tb_of h 430 (by decide +kernel) rfl
theorem zi_X6_maySpend {U : State} {a : Array Value} (h : TB U) : (Cond.instanceMethod yX6_maySpend).before a U = true := tb_of h 431 (by decide +kernel) rfl
theorem zs_X6_X6_maySpend {U : State} {a : Array Value} (h : TB U) : (Cond.selects RX6 yX6_maySpend yX6_maySpend).before a U = true := tb_of h 432 (by decide +kernel) rfl
theorem zk_X6_maySpend {U : State} {a : Array Value} (h : TB U) : (Cond.code yX6_maySpend cX6_maySpend 5 (some .int)).before a U = true := tb_of h 433 (by decide +kernel) rfl
theorem zm_X6_105 {U : State} {a : Array Value} (h : TB U) : (Cond.methodLink RX6 105 yX6_checkLand).before a U = true := tb_of h 434 (by decide +kernel) rfl
theorem zt_X6_checkLand {U : State} {a : Array Value} (h : TB U) : (Cond.static yX6_checkLand).before a U = true := tb_of h 435 (by decide +kernel) rfl
theorem zk_X6_checkLand {U : State} {a : Array Value} (h : TB U) : (Cond.code yX6_checkLand cX6_checkLand 1 (none)).before a U = true := tb_of h 436 (by decide +kernel) rfl
theorem zm_X6_139 {U : State} {a : Array Value} (h : TB U) : (Cond.methodLink RX6 139 yX6_spendableBy).before a U = true := tb_of h 438 (by decide +kernel) rfl
theorem zi_X6_spendableBy {U : State} {a : Array Value} (h : TB U) : (Cond.instanceMethod yX6_spendableBy).before a U = true := tb_of h 440 (by decide +kernel) rfl
theorem zk_X6_spendableBy {U : State} {a : Array Value} (h : TB U) : (Cond.code yX6_spendableBy cX6_spendableBy 6 (some .int)).before a U = true := tb_of h 441 (by decide +kernel) rfl
theorem zm_X6_160 {U : State} {a : Array Value} (h : TB U) : (Cond.methodLink RX6 160 yX6_tripToday).before a U = true := tb_of h 442 (by decide +kernel) rfl
theorem zi_X6_tripToday {U : State} {a : Array Value} (h : TB U) : (Cond.instanceMethod yX6_tripToday).before a U = true := tb_of h 444 (by decide +kernel) rfl
theorem zk_X6_tripToday {U : State} {a : Array Value} (h : TB U) : (Cond.code yX6_tripToday cX6_tripToday 5 (some (.object "ApprovalGrid$Trip"))).before a U = true := tb_of h 445 (by decide +kernel) rfl
theorem zc_X6_110 {U : State} {a : Array Value} (h : TB U) : (Cond.classLink RX6 110 RX5).before a U = true := tb_of h 446 (by decide +kernel) rfl
theorem zm_X6_357 {U : State} {a : Array Value} (h : TB U) : (Cond.methodLink RX6 357 yX6_spentOnTrip).before a U = true := tb_of h 447 (by decide +kernel) rfl
theorem zi_X6_spentOnTrip {U : State} {a : Array Value} (h : TB U) : (Cond.instanceMethod yX6_spentOnTrip).before a U = true := tb_of h 449 (by decide +kernel) rfl
theorem zk_X6_spentOnTrip {U : State} {a : Array Value} (h : TB U) : (Cond.code yX6_spentOnTrip cX6_spentOnTrip 5 (some .int)).before a U = true := tb_of h 450 (by decide +kernel) rfl
theorem zm_X6_361 {U : State} {a : Array Value} (h : TB U) : (Cond.methodLink RX6 361 yX4_at).before a U = true := tb_of h 451 (by decide +kernel) rfl
theorem zm_X6_364 {U : State} {a : Array Value} (h : TB U) : (Cond.methodLink RX6 364 yX6_spentOffTrips).before a U = true := tb_of h 452 (by decide +kernel) rfl
theorem zi_X6_spentOffTrips {U : State} {a : Array Value} (h : TB U) : (Cond.instanceMethod yX6_spentOffTrips).before a U = true := tb_of h 454 (by decide +kernel) rfl
theorem zk_X6_spentOffTrips {U : State} {a : Array Value} (h : TB U) : (Cond.code yX6_spentOffTrips cX6_spentOffTrips 7 (some .int)).before a U = true := tb_of h 455 (by decide +kernel) rfl
theorem zm_L_31 {U : State} {a : Array Value} (h : TB U) : (Cond.methodLink RL 31 yX6_plan).before a U = true := tb_of h 456 (by decide +kernel) rfl
theorem zi_X6_plan {U : State} {a : Array Value} (h : TB U) : (Cond.instanceMethod yX6_plan).before a U = true := tb_of h 457 (by decide +kernel) rfl
theorem zs_X6_X6_plan {U : State} {a : Array Value} (h : TB U) : (Cond.selects RX6 yX6_plan yX6_plan).before a U = true := tb_of h 458 (by decide +kernel) rfl
theorem zk_X6_plan {U : State} {a : Array Value} (h : TB U) : (Cond.code yX6_plan cX6_plan 4 (some .int)).before a U = true := tb_of h 459 (by decide +kernel) rfl
theorem zm_X6_143 {U : State} {a : Array Value} (h : TB U) : (Cond.methodLink RX6 143 yX6_checkPeriod).before a U = true := tb_of h 460 (by decide +kernel) rfl
theorem zt_X6_checkPeriod {U : State} {a : Array Value} (h : TB U) : (Cond.static yX6_checkPeriod).before a U = true := tb_of h 461 (by decide +kernel) rfl
theorem zk_X6_checkPeriod {U : State} {a : Array Value} (h : TB U) : (Cond.code yX6_checkPeriod cX6_checkPeriod 1 (none)).before a U = true := tb_of h 462 (by decide +kernel) rfl
theorem zm_L_34 {U : State} {a : Array Value} (h : TB U) : (Cond.methodLink RL 34 yX6_carry).before a U = true := tb_of h 465 (by decide +kernel) rfl
theorem zi_X6_carry {U : State} {a : Array Value} (h : TB U) : (Cond.instanceMethod yX6_carry).before a U = true := tb_of h 466 (by decide +kernel) rfl
theorem zs_X6_X6_carry {U : State} {a : Array Value} (h : TB U) : (Cond.selects RX6 yX6_carry yX6_carry).before a U = true := tb_of h 467 (by decide +kernel) rfl
theorem zk_X6_carry {U : State} {a : Array Value} (h : TB U) : (Cond.code yX6_carry cX6_carry 3 (some .int)).before a U = true := tb_of h 468 (by decide +kernel) rfl
theorem zm_L_37 {U : State} {a : Array Value} (h : TB U) : (Cond.methodLink RL 37 yX6_rate).before a U = true := tb_of h 469 (by decide +kernel) rfl
theorem zi_X6_rate {U : State} {a : Array Value} (h : TB U) : (Cond.instanceMethod yX6_rate).before a U = true := tb_of h 470 (by decide +kernel) rfl
theorem zs_X6_X6_rate {U : State} {a : Array Value} (h : TB U) : (Cond.selects RX6 yX6_rate yX6_rate).before a U = true := tb_of h 471 (by decide +kernel) rfl
theorem zk_X6_rate {U : State} {a : Array Value} (h : TB U) : (Cond.code yX6_rate cX6_rate 4 (some .int)).before a U = true := tb_of h 472 (by decide +kernel) rfl
theorem zm_L_46 {U : State} {a : Array Value} (h : TB U) : (Cond.methodLink RL 46 yX6_left).before a U = true := tb_of h 473 (by decide +kernel) rfl
theorem zi_X6_left {U : State} {a : Array Value} (h : TB U) : (Cond.instanceMethod yX6_left).before a U = true := tb_of h 474 (by decide +kernel) rfl
theorem zs_X6_X6_left {U : State} {a : Array Value} (h : TB U) : (Cond.selects RX6 yX6_left yX6_left).before a U = true := tb_of h 475 (by decide +kernel) rfl
theorem zk_X6_left {U : State} {a : Array Value} (h : TB U) : (Cond.code yX6_left cX6_left 3 (some .int)).before a U = true := tb_of h 476 (by decide +kernel) rfl
theorem zm_X6_147 {U : State} {a : Array Value} (h : TB U) : (Cond.methodLink RX6 147 yX6_leftOf).before a U = true := tb_of h 477 (by decide +kernel) rfl
theorem zi_X6_leftOf {U : State} {a : Array Value} (h : TB U) : (Cond.instanceMethod yX6_leftOf).before a U = true := tb_of h 479 (by decide +kernel) rfl
theorem zk_X6_leftOf {U : State} {a : Array Value} (h : TB U) : (Cond.code yX6_leftOf cX6_leftOf 7 (some .int)).before a U = true := tb_of h 480 (by decide +kernel) rfl
theorem zm_X6_292 {U : State} {a : Array Value} (h : TB U) : (Cond.methodLink RX6 292 yJ9_max_7cf53).before a U = true := tb_of h 481 (by decide +kernel) rfl
theorem zm_X6_368 {U : State} {a : Array Value} (h : TB U) : (Cond.methodLink RX6 368 yX6_costIn).before a U = true := tb_of h 482 (by decide +kernel) rfl
theorem zi_X6_costIn {U : State} {a : Array Value} (h : TB U) : (Cond.instanceMethod yX6_costIn).before a U = true := tb_of h 484 (by decide +kernel) rfl
theorem zk_X6_costIn {U : State} {a : Array Value} (h : TB U) : (Cond.code yX6_costIn cX6_costIn 7 (some .int)).before a U = true := tb_of h 485 (by decide +kernel) rfl
theorem zm_X6_231 {U : State} {a : Array Value} (h : TB U) : (Cond.methodLink RX6 231 yX6_costOf).before a U = true := tb_of h 486 (by decide +kernel) rfl
theorem zi_X6_costOf {U : State} {a : Array Value} (h : TB U) : (Cond.instanceMethod yX6_costOf).before a U = true := tb_of h 488 (by decide +kernel) rfl
theorem zk_X6_costOf {U : State} {a : Array Value} (h : TB U) : (Cond.code yX6_costOf cX6_costOf 3 (some .int)).before a U = true := tb_of h 489 (by decide +kernel) rfl
theorem zm_X6_227 {U : State} {a : Array Value} (h : TB U) : (Cond.methodLink RX6 227 yX6_taxOf).before a U = true := tb_of h 490 (by decide +kernel) rfl
theorem zi_X6_taxOf {U : State} {a : Array Value} (h : TB U) : (Cond.instanceMethod yX6_taxOf).before a U = true := tb_of h 492 (by decide +kernel) rfl
theorem zk_X6_taxOf {U : State} {a : Array Value} (h : TB U) : (Cond.code yX6_taxOf cX6_taxOf 4 (some .int)).before a U = true := tb_of h 493 (by decide +kernel) rfl
theorem zm_L_58 {U : State} {a : Array Value} (h : TB U) : (Cond.methodLink RL 58 yX6_charge).before a U = true := tb_of h 494 (by decide +kernel) rfl
theorem zi_X6_charge {U : State} {a : Array Value} (h : TB U) : (Cond.instanceMethod yX6_charge).before a U = true := tb_of h 495 (by decide +kernel) rfl
theorem zs_X6_X6_charge {U : State} {a : Array Value} (h : TB U) : (Cond.selects RX6 yX6_charge yX6_charge).before a U = true := tb_of h 496 (by decide +kernel) rfl
theorem zk_X6_charge {U : State} {a : Array Value} (h : TB U) : (Cond.code yX6_charge cX6_charge 8 (some .int)).before a U = true := tb_of h 497 (by decide +kernel) rfl
theorem zI_X0 {U : State} {a : Array Value} (h : TB U) : (Cond.instantiable RX0 13).before a U = true := tb_of h 500 (by decide +kernel) rfl
theorem zm_X6_157 {U : State} {a : Array Value} (h : TB U) : (Cond.methodLink RX6 157 yX0_init).before a U = true := tb_of h 501 (by decide +kernel) rfl
theorem zi_X0_init {U : State} {a : Array Value} (h : TB U) : (Cond.instanceMethod yX0_init).before a U = true := tb_of h 502 (by decide +kernel) rfl
theorem zk_X0_init {U : State} {a : Array Value} (h : TB U) : (Cond.code yX0_init cX0_init 8 (none)).before a U = true := tb_of h 503 (by decide +kernel) rfl
theorem zm_X0_3 {U : State} {a : Array Value} (h : TB U) : (Cond.methodLink RX0 3 yX1_init).before a U = true := tb_of h 504 (by decide +kernel) rfl
theorem zf_X0_33 {U : State} {a : Array Value} (h : TB U) : (Cond.fieldLink RX0 33 "ApprovalGrid$Charge" "person" "LApprovalGrid$Person;").before a U = true := tb_of h 505 (by decide +kernel) rfl
theorem zf_X6_211 {U : State} {a : Array Value} (h : TB U) : (Cond.fieldLink RX6 211 "ApprovalGrid$Charge" "person" "LApprovalGrid$Person;").before a U = true := tb_of h 506 (by decide +kernel) rfl
theorem zf_X0_37 {U : State} {a : Array Value} (h : TB U) : (Cond.fieldLink RX0 37 "ApprovalGrid$Charge" "kind" "I").before a U = true := tb_of h 507 (by decide +kernel) rfl
theorem zf_X6_214 {U : State} {a : Array Value} (h : TB U) : (Cond.fieldLink RX6 214 "ApprovalGrid$Charge" "kind" "I").before a U = true := tb_of h 508 (by decide +kernel) rfl
theorem zf_X0_40 {U : State} {a : Array Value} (h : TB U) : (Cond.fieldLink RX0 40 "ApprovalGrid$Charge" "land" "I").before a U = true := tb_of h 509 (by decide +kernel) rfl
theorem zf_X6_371 {U : State} {a : Array Value} (h : TB U) : (Cond.fieldLink RX6 371 "ApprovalGrid$Charge" "land" "I").before a U = true := tb_of h 510 (by decide +kernel) rfl
theorem zf_X0_43 {U : State} {a : Array Value} (h : TB U) : (Cond.fieldLink RX0 43 "ApprovalGrid$Charge" "amount" "I").before a U = true := tb_of h 511 (by decide +kernel) rfl
theorem zf_X6_217 {U : State} {a : Array Value} (h : TB U) : (Cond.fieldLink RX6 217 "ApprovalGrid$Charge" "amount" "I").before a U = true := tb_of h 512 (by decide +kernel) rfl
theorem zf_X0_46 {U : State} {a : Array Value} (h : TB U) : (Cond.fieldLink RX0 46 "ApprovalGrid$Charge" "text" "I").before a U = true := tb_of h 513 (by decide +kernel) rfl
theorem zf_X6_395 {U : State} {a : Array Value} (h : TB U) : (Cond.fieldLink RX6 395 "ApprovalGrid$Charge" "text" "I").before a U = true := tb_of h 514 (by decide +kernel) rfl
theorem zf_X0_49 {U : State} {a : Array Value} (h : TB U) : (Cond.fieldLink RX0 49 "ApprovalGrid$Charge" "day" "I").before a U = true := tb_of h 515 (by decide +kernel) rfl
theorem zf_X6_220 {U : State} {a : Array Value} (h : TB U) : (Cond.fieldLink RX6 220 "ApprovalGrid$Charge" "day" "I").before a U = true := tb_of h 516 (by decide +kernel) rfl
theorem zf_X0_9 {U : State} {a : Array Value} (h : TB U) : (Cond.fieldLink RX0 9 "ApprovalGrid$Charge" "trip" "LApprovalGrid$Trip;").before a U = true := tb_of h 517 (by decide +kernel) rfl
theorem zf_X6_164 {U : State} {a : Array Value} (h : TB U) : (Cond.fieldLink RX6 164 "ApprovalGrid$Charge" "trip" "LApprovalGrid$Trip;").before a U = true := tb_of h 518 (by decide +kernel) rfl
theorem zf_X0_15 {U : State} {a : Array Value} (h : TB U) : (Cond.fieldLink RX0 15 "ApprovalGrid$Charge" "state" "I").before a U = true := tb_of h 519 (by decide +kernel) rfl
theorem zf_X6_197 {U : State} {a : Array Value} (h : TB U) : (Cond.fieldLink RX6 197 "ApprovalGrid$Charge" "state" "I").before a U = true := tb_of h 520 (by decide +kernel) rfl
theorem zf_X0_19 {U : State} {a : Array Value} (h : TB U) : (Cond.fieldLink RX0 19 "ApprovalGrid$Charge" "receipt" "LApprovalGrid$Receipt;").before a U = true := tb_of h 521 (by decide +kernel) rfl
theorem zf_X6_223 {U : State} {a : Array Value} (h : TB U) : (Cond.fieldLink RX6 223 "ApprovalGrid$Charge" "receipt" "LApprovalGrid$Receipt;").before a U = true := tb_of h 522 (by decide +kernel) rfl
theorem zf_X0_23 {U : State} {a : Array Value} (h : TB U) : (Cond.fieldLink RX0 23 "ApprovalGrid$Charge" "steps" "I").before a U = true := tb_of h 523 (by decide +kernel) rfl
theorem zf_X6_204 {U : State} {a : Array Value} (h : TB U) : (Cond.fieldLink RX6 204 "ApprovalGrid$Charge" "steps" "I").before a U = true := tb_of h 524 (by decide +kernel) rfl
theorem zf_X0_26 {U : State} {a : Array Value} (h : TB U) : (Cond.fieldLink RX0 26 "ApprovalGrid$Charge" "wasMissing" "Z").before a U = true := tb_of h 525 (by decide +kernel) rfl
theorem zf_X6_239 {U : State} {a : Array Value} (h : TB U) : (Cond.fieldLink RX6 239 "ApprovalGrid$Charge" "wasMissing" "Z").before a U = true := tb_of h 526 (by decide +kernel) rfl
theorem zf_X0_30 {U : State} {a : Array Value} (h : TB U) : (Cond.fieldLink RX0 30 "ApprovalGrid$Charge" "splits" "I").before a U = true := tb_of h 527 (by decide +kernel) rfl
theorem zS_X0_X1 {U : State} {a : Array Value} (h : TB U) : (Cond.superclass RX0 RX1).before a U = true := tb_of h 553 (by decide +kernel) rfl
theorem zm_X6_168 {U : State} {a : Array Value} (h : TB U) : (Cond.methodLink RX6 168 yX6_matchPairs).before a U = true := tb_of h 554 (by decide +kernel) rfl
theorem zi_X6_matchPairs {U : State} {a : Array Value} (h : TB U) : (Cond.instanceMethod yX6_matchPairs).before a U = true := tb_of h 556 (by decide +kernel) rfl
theorem zk_X6_matchPairs {U : State} {a : Array Value} (h : TB U) : (Cond.code yX6_matchPairs cX6_matchPairs 3 (none)).before a U = true := tb_of h 557 (by decide +kernel) rfl
theorem zm_X6_372 {U : State} {a : Array Value} (h : TB U) : (Cond.methodLink RX6 372 yX6_matchBestPair).before a U = true := tb_of h 558 (by decide +kernel) rfl
theorem zi_X6_matchBestPair {U : State} {a : Array Value} (h : TB U) : (Cond.instanceMethod yX6_matchBestPair).before a U = true := tb_of h 560 (by decide +kernel) rfl
theorem zk_X6_matchBestPair {U : State} {a : Array Value} (h : TB U) : (Cond.code yX6_matchBestPair cX6_matchBestPair 7 (some .boolean)).before a U = true := tb_of h 561 (by decide +kernel) rfl
theorem zm_X6_375 {U : State} {a : Array Value} (h : TB U) : (Cond.methodLink RX6 375 yX6_bestReceiptFor).before a U = true := tb_of h 562 (by decide +kernel) rfl
theorem zi_X6_bestReceiptFor {U : State} {a : Array Value} (h : TB U) : (Cond.instanceMethod yX6_bestReceiptFor).before a U = true := tb_of h 564 (by decide +kernel) rfl
theorem zk_X6_bestReceiptFor {U : State} {a : Array Value} (h : TB U) : (Cond.code yX6_bestReceiptFor cX6_bestReceiptFor 6 (some (.object "ApprovalGrid$Receipt"))).before a U = true := tb_of h 565 (by decide +kernel) rfl
theorem zc_X6_177 {U : State} {a : Array Value} (h : TB U) : (Cond.classLink RX6 177 RX3).before a U = true := tb_of h 566 (by decide +kernel) rfl
theorem zm_X6_278 {U : State} {a : Array Value} (h : TB U) : (Cond.methodLink RX6 278 yX6_goTogether).before a U = true := tb_of h 567 (by decide +kernel) rfl
theorem zt_X6_goTogether {U : State} {a : Array Value} (h : TB U) : (Cond.static yX6_goTogether).before a U = true := tb_of h 568 (by decide +kernel) rfl
theorem zk_X6_goTogether {U : State} {a : Array Value} (h : TB U) : (Cond.code yX6_goTogether cX6_goTogether 2 (some .boolean)).before a U = true := tb_of h 569 (by decide +kernel) rfl
theorem zm_X6_386 {U : State} {a : Array Value} (h : TB U) : (Cond.methodLink RX6 386 yX0_wasSplitFrom).before a U = true := tb_of h 570 (by decide +kernel) rfl
theorem zi_X0_wasSplitFrom {U : State} {a : Array Value} (h : TB U) : (Cond.instanceMethod yX0_wasSplitFrom).before a U = true := tb_of h 571 (by decide +kernel) rfl
theorem zs_X0_X0_wasSplitFrom {U : State} {a : Array Value} (h : TB U) : (Cond.selects RX0 yX0_wasSplitFrom yX0_wasSplitFrom).before a U = true := tb_of h 572 (by decide +kernel) rfl
theorem zk_X0_wasSplitFrom {U : State} {a : Array Value} (h : TB U) : (Cond.code yX0_wasSplitFrom cX0_wasSplitFrom 2 (some .boolean)).before a U = true := tb_of h 573 (by decide +kernel) rfl
theorem zm_X6_247 {U : State} {a : Array Value} (h : TB U) : (Cond.methodLink RX6 247 yX6_scoreOf).before a U = true := tb_of h 574 (by decide +kernel) rfl
theorem zt_X6_scoreOf {U : State} {a : Array Value} (h : TB U) : (Cond.static yX6_scoreOf).before a U = true := tb_of h 575 (by decide +kernel) rfl
theorem zk_X6_scoreOf {U : State} {a : Array Value} (h : TB U) : (Cond.code yX6_scoreOf cX6_scoreOf 5 (some .int)).before a U = true := tb_of h 576 (by decide +kernel) rfl
theorem zm_X6_391 {U : State} {a : Array Value} (h : TB U) : (Cond.methodLink RX6 391 yJ9_abs_0f7a4).before a U = true := tb_of h 577 (by decide +kernel) rfl
theorem zt_J9_abs_0f7a4 {U : State} {a : Array Value} (h : TB U) : (Cond.static yJ9_abs_0f7a4).before a U = true := tb_of h 578 (by decide +kernel) rfl
theorem zk_J9_abs_0f7a4 {U : State} {a : Array Value} (h : TB U) : (Cond.code yJ9_abs_0f7a4 cJ9_abs_0f7a4 1 (some .int)).before a U = true := tb_of h 579 (by decide +kernel) rfl
theorem zm_X6_379 {U : State} {a : Array Value} (h : TB U) : (Cond.methodLink RX6 379 yX6_match).before a U = true := tb_of h 580 (by decide +kernel) rfl
theorem zi_X6_match {U : State} {a : Array Value} (h : TB U) : (Cond.instanceMethod yX6_match).before a U = true := tb_of h 582 (by decide +kernel) rfl
theorem zk_X6_match {U : State} {a : Array Value} (h : TB U) : (Cond.code yX6_match cX6_match 3 (none)).before a U = true := tb_of h 583 (by decide +kernel) rfl
theorem zm_X6_383 {U : State} {a : Array Value} (h : TB U) : (Cond.methodLink RX6 383 yX2_gainPoint).before a U = true := tb_of h 584 (by decide +kernel) rfl
theorem zi_X2_gainPoint {U : State} {a : Array Value} (h : TB U) : (Cond.instanceMethod yX2_gainPoint).before a U = true := tb_of h 585 (by decide +kernel) rfl
theorem zs_X2_X2_gainPoint {U : State} {a : Array Value} (h : TB U) : (Cond.selects RX2 yX2_gainPoint yX2_gainPoint).before a U = true := tb_of h 586 (by decide +kernel) rfl
theorem zk_X2_gainPoint {U : State} {a : Array Value} (h : TB U) : (Cond.code yX2_gainPoint cX2_gainPoint 1 (none)).before a U = true := tb_of h 587 (by decide +kernel) rfl
theorem zm_X2_28 {U : State} {a : Array Value} (h : TB U) : (Cond.methodLink RX2 28 yJ9_min_7cf53).before a U = true := tb_of h 588 (by decide +kernel) rfl
theorem zm_L_71 {U : State} {a : Array Value} (h : TB U) : (Cond.methodLink RL 71 yX6_receipt).before a U = true := tb_of h 589 (by decide +kernel) rfl
theorem zi_X6_receipt {U : State} {a : Array Value} (h : TB U) : (Cond.instanceMethod yX6_receipt).before a U = true := tb_of h 590 (by decide +kernel) rfl
theorem zs_X6_X6_receipt {U : State} {a : Array Value} (h : TB U) : (Cond.selects RX6 yX6_receipt yX6_receipt).before a U = true := tb_of h 591 (by decide +kernel) rfl
theorem zk_X6_receipt {U : State} {a : Array Value} (h : TB U) : (Cond.code yX6_receipt cX6_receipt 5 (some .int)).before a U = true := tb_of h 592 (by decide +kernel) rfl
theorem zm_X6_172 {U : State} {a : Array Value} (h : TB U) : (Cond.methodLink RX6 172 yX6_checkReceipt).before a U = true := tb_of h 593 (by decide +kernel) rfl
theorem zt_X6_checkReceipt {U : State} {a : Array Value} (h : TB U) : (Cond.static yX6_checkReceipt).before a U = true := tb_of h 594 (by decide +kernel) rfl
theorem zk_X6_checkReceipt {U : State} {a : Array Value} (h : TB U) : (Cond.code yX6_checkReceipt cX6_checkReceipt 3 (none)).before a U = true := tb_of h 595 (by decide +kernel) rfl
theorem zI_X3 {U : State} {a : Array Value} (h : TB U) : (Cond.instantiable RX3 5).before a U = true := tb_of h 597 (by decide +kernel) rfl
theorem zm_X6_179 {U : State} {a : Array Value} (h : TB U) : (Cond.methodLink RX6 179 yX3_init).before a U = true := tb_of h 598 (by decide +kernel) rfl
theorem zi_X3_init {U : State} {a : Array Value} (h : TB U) : (Cond.instanceMethod yX3_init).before a U = true := tb_of h 599 (by decide +kernel) rfl
theorem zk_X3_init {U : State} {a : Array Value} (h : TB U) : (Cond.code yX3_init cX3_init 5 (none)).before a U = true := tb_of h 600 (by decide +kernel) rfl
theorem zm_X3_1 {U : State} {a : Array Value} (h : TB U) : (Cond.methodLink RX3 1 yX1_init).before a U = true := tb_of h 601 (by decide +kernel) rfl
theorem zf_X3_13 {U : State} {a : Array Value} (h : TB U) : (Cond.fieldLink RX3 13 "ApprovalGrid$Receipt" "amount" "I").before a U = true := tb_of h 602 (by decide +kernel) rfl
theorem zf_X6_390 {U : State} {a : Array Value} (h : TB U) : (Cond.fieldLink RX6 390 "ApprovalGrid$Receipt" "amount" "I").before a U = true := tb_of h 603 (by decide +kernel) rfl
theorem zf_X3_17 {U : State} {a : Array Value} (h : TB U) : (Cond.fieldLink RX3 17 "ApprovalGrid$Receipt" "day" "I").before a U = true := tb_of h 604 (by decide +kernel) rfl
theorem zf_X6_394 {U : State} {a : Array Value} (h : TB U) : (Cond.fieldLink RX6 394 "ApprovalGrid$Receipt" "day" "I").before a U = true := tb_of h 605 (by decide +kernel) rfl
theorem zf_X3_20 {U : State} {a : Array Value} (h : TB U) : (Cond.fieldLink RX3 20 "ApprovalGrid$Receipt" "text" "I").before a U = true := tb_of h 606 (by decide +kernel) rfl
theorem zf_X6_398 {U : State} {a : Array Value} (h : TB U) : (Cond.fieldLink RX6 398 "ApprovalGrid$Receipt" "text" "I").before a U = true := tb_of h 607 (by decide +kernel) rfl
theorem zf_X3_7 {U : State} {a : Array Value} (h : TB U) : (Cond.fieldLink RX3 7 "ApprovalGrid$Receipt" "charge" "LApprovalGrid$Charge;").before a U = true := tb_of h 608 (by decide +kernel) rfl
theorem zf_X6_182 {U : State} {a : Array Value} (h : TB U) : (Cond.fieldLink RX6 182 "ApprovalGrid$Receipt" "charge" "LApprovalGrid$Charge;").before a U = true := tb_of h 609 (by decide +kernel) rfl
theorem zS_X3_X1 {U : State} {a : Array Value} (h : TB U) : (Cond.superclass RX3 RX1).before a U = true := tb_of h 619 (by decide +kernel) rfl
theorem zm_L_101 {U : State} {a : Array Value} (h : TB U) : (Cond.methodLink RL 101 yX6_approve).before a U = true := tb_of h 620 (by decide +kernel) rfl
theorem zi_X6_approve {U : State} {a : Array Value} (h : TB U) : (Cond.instanceMethod yX6_approve).before a U = true := tb_of h 621 (by decide +kernel) rfl
theorem zs_X6_X6_approve {U : State} {a : Array Value} (h : TB U) : (Cond.selects RX6 yX6_approve yX6_approve).before a U = true := tb_of h 622 (by decide +kernel) rfl
theorem zk_X6_approve {U : State} {a : Array Value} (h : TB U) : (Cond.code yX6_approve cX6_approve 5 (some .int)).before a U = true := tb_of h 623 (by decide +kernel) rfl
theorem zm_X6_186 {U : State} {a : Array Value} (h : TB U) : (Cond.methodLink RX6 186 yX6_chargeAt).before a U = true := tb_of h 624 (by decide +kernel) rfl
theorem zi_X6_chargeAt {U : State} {a : Array Value} (h : TB U) : (Cond.instanceMethod yX6_chargeAt).before a U = true := tb_of h 626 (by decide +kernel) rfl
theorem zk_X6_chargeAt {U : State} {a : Array Value} (h : TB U) : (Cond.code yX6_chargeAt cX6_chargeAt 2 (some (.object "ApprovalGrid$Charge"))).before a U = true := tb_of h 627 (by decide +kernel) rfl
theorem zm_X6_200 {U : State} {a : Array Value} (h : TB U) : (Cond.methodLink RX6 200 yX6_checkNextApprover).before a U = true := tb_of h 629 (by decide +kernel) rfl
theorem zi_X6_checkNextApprover {U : State} {a : Array Value} (h : TB U) : (Cond.instanceMethod yX6_checkNextApprover).before a U = true := tb_of h 631 (by decide +kernel) rfl
theorem zk_X6_checkNextApprover {U : State} {a : Array Value} (h : TB U) : (Cond.code yX6_checkNextApprover cX6_checkNextApprover 3 (none)).before a U = true := tb_of h 632 (by decide +kernel) rfl
theorem zm_L_94 {U : State} {a : Array Value} (h : TB U) : (Cond.methodLink RL 94 yX6_refuse).before a U = true := tb_of h 634 (by decide +kernel) rfl
theorem zi_X6_refuse {U : State} {a : Array Value} (h : TB U) : (Cond.instanceMethod yX6_refuse).before a U = true := tb_of h 635 (by decide +kernel) rfl
theorem zs_X6_X6_refuse {U : State} {a : Array Value} (h : TB U) : (Cond.selects RX6 yX6_refuse yX6_refuse).before a U = true := tb_of h 636 (by decide +kernel) rfl
theorem zk_X6_refuse {U : State} {a : Array Value} (h : TB U) : (Cond.code yX6_refuse cX6_refuse 5 (some .int)).before a U = true := tb_of h 637 (by decide +kernel) rfl
theorem zm_X6_207 {U : State} {a : Array Value} (h : TB U) : (Cond.methodLink RX6 207 yX6_countInState).before a U = true := tb_of h 638 (by decide +kernel) rfl
theorem zi_X6_countInState {U : State} {a : Array Value} (h : TB U) : (Cond.instanceMethod yX6_countInState).before a U = true := tb_of h 640 (by decide +kernel) rfl
theorem zk_X6_countInState {U : State} {a : Array Value} (h : TB U) : (Cond.code yX6_countInState cX6_countInState 4 (some .int)).before a U = true := tb_of h 641 (by decide +kernel) rfl
theorem zm_L_97 {U : State} {a : Array Value} (h : TB U) : (Cond.methodLink RL 97 yX6_settle).before a U = true := tb_of h 642 (by decide +kernel) rfl
theorem zi_X6_settle {U : State} {a : Array Value} (h : TB U) : (Cond.instanceMethod yX6_settle).before a U = true := tb_of h 643 (by decide +kernel) rfl
theorem zs_X6_X6_settle {U : State} {a : Array Value} (h : TB U) : (Cond.selects RX6 yX6_settle yX6_settle).before a U = true := tb_of h 644 (by decide +kernel) rfl
theorem zk_X6_settle {U : State} {a : Array Value} (h : TB U) : (Cond.code yX6_settle cX6_settle 4 (some .int)).before a U = true := tb_of h 645 (by decide +kernel) rfl
theorem zm_X6_190 {U : State} {a : Array Value} (h : TB U) : (Cond.methodLink RX6 190 yX6_checkState).before a U = true := tb_of h 646 (by decide +kernel) rfl
theorem zt_X6_checkState {U : State} {a : Array Value} (h : TB U) : (Cond.static yX6_checkState).before a U = true := tb_of h 647 (by decide +kernel) rfl
theorem zk_X6_checkState {U : State} {a : Array Value} (h : TB U) : (Cond.code yX6_checkState cX6_checkState 2 (none)).before a U = true := tb_of h 648 (by decide +kernel) rfl
theorem zm_L_62 {U : State} {a : Array Value} (h : TB U) : (Cond.methodLink RL 62 yX6_ofCharge).before a U = true := tb_of h 650 (by decide +kernel) rfl
theorem zi_X6_ofCharge {U : State} {a : Array Value} (h : TB U) : (Cond.instanceMethod yX6_ofCharge).before a U = true := tb_of h 651 (by decide +kernel) rfl
theorem zs_X6_X6_ofCharge {U : State} {a : Array Value} (h : TB U) : (Cond.selects RX6 yX6_ofCharge yX6_ofCharge).before a U = true := tb_of h 652 (by decide +kernel) rfl
theorem zk_X6_ofCharge {U : State} {a : Array Value} (h : TB U) : (Cond.code yX6_ofCharge cX6_ofCharge 4 (some .int)).before a U = true := tb_of h 653 (by decide +kernel) rfl
theorem zm_L_74 {U : State} {a : Array Value} (h : TB U) : (Cond.methodLink RL 74 yX6_ofReceipt).before a U = true := tb_of h 654 (by decide +kernel) rfl
theorem zi_X6_ofReceipt {U : State} {a : Array Value} (h : TB U) : (Cond.instanceMethod yX6_ofReceipt).before a U = true := tb_of h 655 (by decide +kernel) rfl
theorem zs_X6_X6_ofReceipt {U : State} {a : Array Value} (h : TB U) : (Cond.selects RX6 yX6_ofReceipt yX6_ofReceipt).before a U = true := tb_of h 656 (by decide +kernel) rfl
theorem zk_X6_ofReceipt {U : State} {a : Array Value} (h : TB U) : (Cond.code yX6_ofReceipt cX6_ofReceipt 2 (some .int)).before a U = true := tb_of h 657 (by decide +kernel) rfl
theorem zm_X6_243 {U : State} {a : Array Value} (h : TB U) : (Cond.methodLink RX6 243 yX6_receiptAt).before a U = true := tb_of h 658 (by decide +kernel) rfl
theorem zi_X6_receiptAt {U : State} {a : Array Value} (h : TB U) : (Cond.instanceMethod yX6_receiptAt).before a U = true := tb_of h 660 (by decide +kernel) rfl
theorem zk_X6_receiptAt {U : State} {a : Array Value} (h : TB U) : (Cond.code yX6_receiptAt cX6_receiptAt 2 (some (.object "ApprovalGrid$Receipt"))).before a U = true := tb_of h 661 (by decide +kernel) rfl
theorem zm_L_77 {U : State} {a : Array Value} (h : TB U) : (Cond.methodLink RL 77 yX6_score).before a U = true := tb_of h 663 (by decide +kernel) rfl
theorem zi_X6_score {U : State} {a : Array Value} (h : TB U) : (Cond.instanceMethod yX6_score).before a U = true := tb_of h 664 (by decide +kernel) rfl
theorem zs_X6_X6_score {U : State} {a : Array Value} (h : TB U) : (Cond.selects RX6 yX6_score yX6_score).before a U = true := tb_of h 665 (by decide +kernel) rfl
theorem zk_X6_score {U : State} {a : Array Value} (h : TB U) : (Cond.code yX6_score cX6_score 3 (some .int)).before a U = true := tb_of h 666 (by decide +kernel) rfl
theorem zm_L_83 {U : State} {a : Array Value} (h : TB U) : (Cond.methodLink RL 83 yX6_day).before a U = true := tb_of h 667 (by decide +kernel) rfl
theorem zi_X6_day {U : State} {a : Array Value} (h : TB U) : (Cond.instanceMethod yX6_day).before a U = true := tb_of h 668 (by decide +kernel) rfl
theorem zs_X6_X6_day {U : State} {a : Array Value} (h : TB U) : (Cond.selects RX6 yX6_day yX6_day).before a U = true := tb_of h 669 (by decide +kernel) rfl
theorem zk_X6_day {U : State} {a : Array Value} (h : TB U) : (Cond.code yX6_day cX6_day 4 (some .int)).before a U = true := tb_of h 670 (by decide +kernel) rfl
theorem zm_X6_257 {U : State} {a : Array Value} (h : TB U) : (Cond.methodLink RX6 257 yX6_isOverdue).before a U = true := tb_of h 672 (by decide +kernel) rfl
theorem zi_X6_isOverdue {U : State} {a : Array Value} (h : TB U) : (Cond.instanceMethod yX6_isOverdue).before a U = true := tb_of h 674 (by decide +kernel) rfl
theorem zk_X6_isOverdue {U : State} {a : Array Value} (h : TB U) : (Cond.code yX6_isOverdue cX6_isOverdue 3 (some .boolean)).before a U = true := tb_of h 675 (by decide +kernel) rfl
theorem zm_X6_261 {U : State} {a : Array Value} (h : TB U) : (Cond.methodLink RX6 261 yX6_bearDelay).before a U = true := tb_of h 676 (by decide +kernel) rfl
theorem zi_X6_bearDelay {U : State} {a : Array Value} (h : TB U) : (Cond.instanceMethod yX6_bearDelay).before a U = true := tb_of h 678 (by decide +kernel) rfl
theorem zk_X6_bearDelay {U : State} {a : Array Value} (h : TB U) : (Cond.code yX6_bearDelay cX6_bearDelay 2 (none)).before a U = true := tb_of h 679 (by decide +kernel) rfl
theorem zm_X6_409 {U : State} {a : Array Value} (h : TB U) : (Cond.methodLink RX6 409 yX2_loseTrust).before a U = true := tb_of h 680 (by decide +kernel) rfl
theorem zi_X2_loseTrust {U : State} {a : Array Value} (h : TB U) : (Cond.instanceMethod yX2_loseTrust).before a U = true := tb_of h 681 (by decide +kernel) rfl
theorem zs_X2_X2_loseTrust {U : State} {a : Array Value} (h : TB U) : (Cond.selects RX2 yX2_loseTrust yX2_loseTrust).before a U = true := tb_of h 682 (by decide +kernel) rfl
theorem zk_X2_loseTrust {U : State} {a : Array Value} (h : TB U) : (Cond.code yX2_loseTrust cX2_loseTrust 1 (none)).before a U = true := tb_of h 683 (by decide +kernel) rfl
theorem zm_X2_34 {U : State} {a : Array Value} (h : TB U) : (Cond.methodLink RX2 34 yJ9_max_7cf53).before a U = true := tb_of h 684 (by decide +kernel) rfl
theorem zm_L_40 {U : State} {a : Array Value} (h : TB U) : (Cond.methodLink RL 40 yX6_many).before a U = true := tb_of h 685 (by decide +kernel) rfl
theorem zi_X6_many {U : State} {a : Array Value} (h : TB U) : (Cond.instanceMethod yX6_many).before a U = true := tb_of h 686 (by decide +kernel) rfl
theorem zs_X6_X6_many {U : State} {a : Array Value} (h : TB U) : (Cond.selects RX6 yX6_many yX6_many).before a U = true := tb_of h 687 (by decide +kernel) rfl
theorem zk_X6_many {U : State} {a : Array Value} (h : TB U) : (Cond.code yX6_many cX6_many 2 (some .int)).before a U = true := tb_of h 688 (by decide +kernel) rfl
theorem zm_X6_265 {U : State} {a : Array Value} (h : TB U) : (Cond.methodLink RX6 265 yX6_countFreeReceipts).before a U = true := tb_of h 689 (by decide +kernel) rfl
theorem zi_X6_countFreeReceipts {U : State} {a : Array Value} (h : TB U) : (Cond.instanceMethod yX6_countFreeReceipts).before a U = true := tb_of h 691 (by decide +kernel) rfl
theorem zk_X6_countFreeReceipts {U : State} {a : Array Value} (h : TB U) : (Cond.code yX6_countFreeReceipts cX6_countFreeReceipts 3 (some .int)).before a U = true := tb_of h 692 (by decide +kernel) rfl
theorem zm_X6_268 {U : State} {a : Array Value} (h : TB U) : (Cond.methodLink RX6 268 yX6_amountNotRepaid).before a U = true := tb_of h 693 (by decide +kernel) rfl
theorem zi_X6_amountNotRepaid {U : State} {a : Array Value} (h : TB U) : (Cond.instanceMethod yX6_amountNotRepaid).before a U = true := tb_of h 695 (by decide +kernel) rfl
theorem zk_X6_amountNotRepaid {U : State} {a : Array Value} (h : TB U) : (Cond.code yX6_amountNotRepaid cX6_amountNotRepaid 4 (some .int)).before a U = true := tb_of h 696 (by decide +kernel) rfl
theorem zm_X6_271 {U : State} {a : Array Value} (h : TB U) : (Cond.methodLink RX6 271 yX6_costOfAll).before a U = true := tb_of h 697 (by decide +kernel) rfl
theorem zi_X6_costOfAll {U : State} {a : Array Value} (h : TB U) : (Cond.instanceMethod yX6_costOfAll).before a U = true := tb_of h 699 (by decide +kernel) rfl
theorem zk_X6_costOfAll {U : State} {a : Array Value} (h : TB U) : (Cond.code yX6_costOfAll cX6_costOfAll 3 (some .int)).before a U = true := tb_of h 700 (by decide +kernel) rfl
theorem zm_L_68 {U : State} {a : Array Value} (h : TB U) : (Cond.methodLink RL 68 yX6_wouldMatch).before a U = true := tb_of h 701 (by decide +kernel) rfl
theorem zi_X6_wouldMatch {U : State} {a : Array Value} (h : TB U) : (Cond.instanceMethod yX6_wouldMatch).before a U = true := tb_of h 702 (by decide +kernel) rfl
theorem zs_X6_X6_wouldMatch {U : State} {a : Array Value} (h : TB U) : (Cond.selects RX6 yX6_wouldMatch yX6_wouldMatch).before a U = true := tb_of h 703 (by decide +kernel) rfl
theorem zk_X6_wouldMatch {U : State} {a : Array Value} (h : TB U) : (Cond.code yX6_wouldMatch cX6_wouldMatch 9 (some .int)).before a U = true := tb_of h 704 (by decide +kernel) rfl
theorem zm_L_80 {U : State} {a : Array Value} (h : TB U) : (Cond.methodLink RL 80 yX6_trustBehind).before a U = true := tb_of h 705 (by decide +kernel) rfl
theorem zi_X6_trustBehind {U : State} {a : Array Value} (h : TB U) : (Cond.instanceMethod yX6_trustBehind).before a U = true := tb_of h 706 (by decide +kernel) rfl
theorem zs_X6_X6_trustBehind {U : State} {a : Array Value} (h : TB U) : (Cond.selects RX6 yX6_trustBehind yX6_trustBehind).before a U = true := tb_of h 707 (by decide +kernel) rfl
theorem zk_X6_trustBehind {U : State} {a : Array Value} (h : TB U) : (Cond.code yX6_trustBehind cX6_trustBehind 8 (some .int)).before a U = true := tb_of h 708 (by decide +kernel) rfl
theorem zm_X6_282 {U : State} {a : Array Value} (h : TB U) : (Cond.methodLink RX6 282 yJ9_min_7cf53).before a U = true := tb_of h 709 (by decide +kernel) rfl
theorem zm_X6_288 {U : State} {a : Array Value} (h : TB U) : (Cond.methodLink RX6 288 yX6_trustLostBy).before a U = true := tb_of h 710 (by decide +kernel) rfl
theorem zi_X6_trustLostBy {U : State} {a : Array Value} (h : TB U) : (Cond.instanceMethod yX6_trustLostBy).before a U = true := tb_of h 712 (by decide +kernel) rfl
theorem zk_X6_trustLostBy {U : State} {a : Array Value} (h : TB U) : (Cond.code yX6_trustLostBy cX6_trustLostBy 6 (some .int)).before a U = true := tb_of h 713 (by decide +kernel) rfl
theorem zm_L_112 {U : State} {a : Array Value} (h : TB U) : (Cond.methodLink RL 112 yX6_leftWith).before a U = true := tb_of h 714 (by decide +kernel) rfl
theorem zi_X6_leftWith {U : State} {a : Array Value} (h : TB U) : (Cond.instanceMethod yX6_leftWith).before a U = true := tb_of h 715 (by decide +kernel) rfl
theorem zs_X6_X6_leftWith {U : State} {a : Array Value} (h : TB U) : (Cond.selects RX6 yX6_leftWith yX6_leftWith).before a U = true := tb_of h 716 (by decide +kernel) rfl
theorem zk_X6_leftWith {U : State} {a : Array Value} (h : TB U) : (Cond.code yX6_leftWith cX6_leftWith 3 (some .int)).before a U = true := tb_of h 717 (by decide +kernel) rfl
theorem zm_L_108 {U : State} {a : Array Value} (h : TB U) : (Cond.methodLink RL 108 yX6_digest).before a U = true := tb_of h 718 (by decide +kernel) rfl
theorem zi_X6_digest {U : State} {a : Array Value} (h : TB U) : (Cond.instanceMethod yX6_digest).before a U = true := tb_of h 719 (by decide +kernel) rfl
theorem zs_X6_X6_digest {U : State} {a : Array Value} (h : TB U) : (Cond.selects RX6 yX6_digest yX6_digest).before a U = true := tb_of h 720 (by decide +kernel) rfl
theorem zk_X6_digest {U : State} {a : Array Value} (h : TB U) : (Cond.code yX6_digest cX6_digest 4 (some .long)).before a U = true := tb_of h 721 (by decide +kernel) rfl
theorem zl_X6_295 {U : State} {a : Array Value} (h : TB U) : (Cond.constantLong RX6 295 (58110)).before a U = true := tb_of h 722 (by decide +kernel) rfl
theorem zm_X6_297 {U : State} {a : Array Value} (h : TB U) : (Cond.methodLink RX6 297 yX6_many).before a U = true := tb_of h 723 (by decide +kernel) rfl
theorem zm_X6_300 {U : State} {a : Array Value} (h : TB U) : (Cond.methodLink RX6 300 yX6_mixed).before a U = true := tb_of h 724 (by decide +kernel) rfl
theorem zt_X6_mixed {U : State} {a : Array Value} (h : TB U) : (Cond.static yX6_mixed).before a U = true := tb_of h 725 (by decide +kernel) rfl
theorem zk_X6_mixed {U : State} {a : Array Value} (h : TB U) : (Cond.code yX6_mixed cX6_mixed 3 (some .long)).before a U = true := tb_of h 726 (by decide +kernel) rfl
theorem zl_X6_412 {U : State} {a : Array Value} (h : TB U) : (Cond.constantLong RX6 412 (31)).before a U = true := tb_of h 727 (by decide +kernel) rfl
theorem zm_X6_304 {U : State} {a : Array Value} (h : TB U) : (Cond.methodLink RX6 304 yX6_withPeople).before a U = true := tb_of h 728 (by decide +kernel) rfl
theorem zi_X6_withPeople {U : State} {a : Array Value} (h : TB U) : (Cond.instanceMethod yX6_withPeople).before a U = true := tb_of h 730 (by decide +kernel) rfl
theorem zk_X6_withPeople {U : State} {a : Array Value} (h : TB U) : (Cond.code yX6_withPeople cX6_withPeople 7 (some .long)).before a U = true := tb_of h 731 (by decide +kernel) rfl
theorem zm_X6_414 {U : State} {a : Array Value} (h : TB U) : (Cond.methodLink RX6 414 yX6_ofPerson).before a U = true := tb_of h 732 (by decide +kernel) rfl
theorem zm_X6_417 {U : State} {a : Array Value} (h : TB U) : (Cond.methodLink RX6 417 yX6_maySpend).before a U = true := tb_of h 733 (by decide +kernel) rfl
theorem zm_X6_308 {U : State} {a : Array Value} (h : TB U) : (Cond.methodLink RX6 308 yX6_withBudgets).before a U = true := tb_of h 734 (by decide +kernel) rfl
theorem zi_X6_withBudgets {U : State} {a : Array Value} (h : TB U) : (Cond.instanceMethod yX6_withBudgets).before a U = true := tb_of h 736 (by decide +kernel) rfl
theorem zk_X6_withBudgets {U : State} {a : Array Value} (h : TB U) : (Cond.code yX6_withBudgets cX6_withBudgets 7 (some .long)).before a U = true := tb_of h 737 (by decide +kernel) rfl
theorem zm_X6_311 {U : State} {a : Array Value} (h : TB U) : (Cond.methodLink RX6 311 yX6_withCharges).before a U = true := tb_of h 738 (by decide +kernel) rfl
theorem zi_X6_withCharges {U : State} {a : Array Value} (h : TB U) : (Cond.instanceMethod yX6_withCharges).before a U = true := tb_of h 740 (by decide +kernel) rfl
theorem zk_X6_withCharges {U : State} {a : Array Value} (h : TB U) : (Cond.code yX6_withCharges cX6_withCharges 7 (some .long)).before a U = true := tb_of h 741 (by decide +kernel) rfl
theorem zm_X6_420 {U : State} {a : Array Value} (h : TB U) : (Cond.methodLink RX6 420 yX6_ofCharge).before a U = true := tb_of h 742 (by decide +kernel) rfl
theorem zm_X6_314 {U : State} {a : Array Value} (h : TB U) : (Cond.methodLink RX6 314 yX6_ofReceipt).before a U = true := tb_of h 743 (by decide +kernel) rfl
theorem zm_X6_317 {U : State} {a : Array Value} (h : TB U) : (Cond.methodLink RX6 317 yX6_trustBehind).before a U = true := tb_of h 744 (by decide +kernel) rfl
theorem zm_L_18 {U : State} {a : Array Value} (h : TB U) : (Cond.methodLink RL 18 yL_below).before a U = true := tb_of h 745 (by decide +kernel) rfl
theorem zt_L_below {U : State} {a : Array Value} (h : TB U) : (Cond.static yL_below).before a U = true := tb_of h 746 (by decide +kernel) rfl
theorem zk_L_below {U : State} {a : Array Value} (h : TB U) : (Cond.code yL_below cL_below 2 (some .int)).before a U = true := tb_of h 747 (by decide +kernel) rfl
theorem zm_L_12 {U : State} {a : Array Value} (h : TB U) : (Cond.methodLink RL 12 yL_cell).before a U = true := tb_of h 749 (by decide +kernel) rfl
theorem zt_L_cell {U : State} {a : Array Value} (h : TB U) : (Cond.static yL_cell).before a U = true := tb_of h 750 (by decide +kernel) rfl
theorem zk_L_cell {U : State} {a : Array Value} (h : TB U) : (Cond.code yL_cell cL_cell 2 (some .int)).before a U = true := tb_of h 751 (by decide +kernel) rfl
theorem zm_L_54 {U : State} {a : Array Value} (h : TB U) : (Cond.methodLink RL 54 yL_isRefused).before a U = true := tb_of h 753 (by decide +kernel) rfl
theorem zt_L_isRefused {U : State} {a : Array Value} (h : TB U) : (Cond.static yL_isRefused).before a U = true := tb_of h 754 (by decide +kernel) rfl
theorem zh_L_isRefused {U : State} {a : Array Value} (h : TB U) : (Cond.codeWith yL_isRefused cL_isRefused 6 (some .boolean) [(0, 11, 14, 115)]).before a U = true := tb_of h 755 (by decide +kernel) rfl
theorem zc_L_115 {U : State} {a : Array Value} (h : TB U) : (Cond.classLink RL 115 "java/lang/IllegalStateException").before a U = true := tb_of h 756 (by decide +kernel) rfl
theorem zm_L_104 {U : State} {a : Array Value} (h : TB U) : (Cond.methodLink RL 104 yL_isFair).before a U = true := tb_of h 757 (by decide +kernel) rfl
theorem zt_L_isFair {U : State} {a : Array Value} (h : TB U) : (Cond.static yL_isFair).before a U = true := tb_of h 758 (by decide +kernel) rfl
theorem zk_L_isFair {U : State} {a : Array Value} (h : TB U) : (Cond.code yL_isFair cL_isFair 12 (some .boolean)).before a U = true := tb_of h 759 (by decide +kernel) rfl
theorem zm_L_65 {U : State} {a : Array Value} (h : TB U) : (Cond.methodLink RL 65 yJ9_max_7cf53).before a U = true := tb_of h 760 (by decide +kernel) rfl
theorem zm_L_49 {U : State} {a : Array Value} (h : TB U) : (Cond.methodLink RL 49 yJ9_min_7cf53).before a U = true := tb_of h 761 (by decide +kernel) rfl
theorem zM_Object__getClass {U : State} {a : Array Value} (h : TB U) : (Cond.sameMethod "[Ljava/lang/Object;" "java/lang/Object" "getClass" "()Ljava/lang/Class;").before a U = true := tb_of h 775 (by decide +kernel) rfl
theorem zs_Object__Object_getClass {U : State} {a : Array Value} (h : TB U) : (Cond.selects "[Ljava/lang/Object;" ⟨"java/lang/Object", "getClass", "()Ljava/lang/Class;"⟩ ⟨"java/lang/Object", "getClass", "()Ljava/lang/Class;"⟩).before a U = true := tb_of h 776 (by decide +kernel) rfl
theorem zf_X6_344 {U : State} {a : Array Value} (h : TB U) : (Cond.fieldLink RX6 344 "ApprovalGrid$Trip" "person" "LApprovalGrid$Person;").before a U = true := tb_of h 781 (by decide +kernel) rfl
theorem zf_X6_345 {U : State} {a : Array Value} (h : TB U) : (Cond.fieldLink RX6 345 "ApprovalGrid$Trip" "land" "I").before a U = true := tb_of h 782 (by decide +kernel) rfl
theorem zf_X6_348 {U : State} {a : Array Value} (h : TB U) : (Cond.fieldLink RX6 348 "ApprovalGrid$Trip" "from" "I").before a U = true := tb_of h 783 (by decide +kernel) rfl
theorem zf_X6_351 {U : State} {a : Array Value} (h : TB U) : (Cond.fieldLink RX6 351 "ApprovalGrid$Trip" "to" "I").before a U = true := tb_of h 784 (by decide +kernel) rfl
theorem zf_X6_354 {U : State} {a : Array Value} (h : TB U) : (Cond.fieldLink RX6 354 "ApprovalGrid$Trip" "extra" "I").before a U = true := tb_of h 785 (by decide +kernel) rfl
theorem twX0 {U : State} {a : Array Value} (h : TB U) : ∀ w ∈ u_ws RX0 TX0 13, w.before a U = true := tb_wsr h [552, 528, 530, 532, 534, 536, 538, 540, 542, 544, 546, 548, 550] (by decide +kernel) (by decide +kernel)
theorem twX2 {U : State} {a : Array Value} (h : TB U) : ∀ w ∈ u_ws RX2 TX2 6, w.before a U = true := tb_wsr h [288, 278, 280, 282, 284, 286] (by decide +kernel) (by decide +kernel)
theorem twX3 {U : State} {a : Array Value} (h : TB U) : ∀ w ∈ u_ws RX3 TX3 5, w.before a U = true := tb_wsr h [618, 610, 612, 614, 616] (by decide +kernel) (by decide +kernel)
theorem twX4 {U : State} {a : Array Value} (h : TB U) : ∀ w ∈ u_ws RX4 TX4 3, w.before a U = true := tb_wsr h [104, 106, 108] (by decide +kernel) (by decide +kernel)
theorem twX6 {U : State} {a : Array Value} (h : TB U) : ∀ w ∈ u_ws RX6 TX6 9, w.before a U = true := tb_wsr h [121, 123, 125, 127, 129, 131, 133, 135, 137] (by decide +kernel) (by decide +kernel)
theorem twJx4a65c {U : State} {a : Array Value} (h : TB U) : ∀ w ∈ u_ws RJx4a65c TJx4a65c 3, w.before a U = true := tb_wsr h [89, 85, 87] (by decide +kernel) (by decide +kernel)
