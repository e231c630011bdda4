set_option maxHeartbeats 4000000 in
set_option maxRecDepth 100000 in
theorem c_X12_in (l : Launch) (G : GG) {h : Hp} {v lo hi : Int32} : Con l G yX12_in wsX12_in 0 0 0 0 [.int v, .int lo, .int hi] h (pI (fun r h2 => r = bI (inB v lo hi) ∧ h2 = h)) := by
  refine Con.of (cc := cX12_in) (nL := 3) (ret := (some .boolean)) (by decide) rfl rfl rfl rfl (fun Γ hG hl X Y9 => ?_)
  subst hG
  subst hl
  refine V.iload_n X dX12_in_0 rfl ?_
  refine V.iload_n X dX12_in_1 rfl ?_
  refine V.icmp_lt 14 X dX12_in_2 (by decide) (fun c2 => ?_) (fun c2 => ?_)
  · have e0 : inB v lo hi = false := by
      unfold inB
      rw [decide_eq_false (fun z => by rw [Int32.le_iff_toInt_le] at z; rw [Int32.lt_iff_toInt_lt] at c2; omega)]
      rfl
    refine V.iconst (v := nI 0) X dX12_in_14 (by decide) ?_
    exact V.bret X Y9 dX12_in_15 (inB v lo hi) (by rw [e0]; rfl) ⟨rfl, rfl⟩ (Nat.le_of_ble_eq_true rfl) (Nat.le_of_ble_eq_true rfl)
  · refine V.iload_n X dX12_in_5 rfl ?_
    refine V.iload_n X dX12_in_6 rfl ?_
    refine V.icmp_gt 14 X dX12_in_7 (by decide) (fun c7 => ?_) (fun c7 => ?_)
    · have e0 : inB v lo hi = false := by
        unfold inB
        rw [decide_eq_false (p := v ≤ hi) (fun z => by rw [Int32.le_iff_toInt_le] at z; rw [Int32.lt_iff_toInt_lt] at c7; omega), Bool.and_false]
      refine V.iconst (v := nI 0) X dX12_in_14 (by decide) ?_
      exact V.bret X Y9 dX12_in_15 (inB v lo hi) (by rw [e0]; rfl) ⟨rfl, rfl⟩ (Nat.le_of_ble_eq_true rfl) (Nat.le_of_ble_eq_true rfl)
    · have e0 : inB v lo hi = true := by
        unfold inB
        rw [decide_eq_true (p := lo ≤ v) (by rw [Int32.le_iff_toInt_le]; rw [Int32.lt_iff_toInt_lt] at c2; omega), decide_eq_true (p := v ≤ hi) (by rw [Int32.le_iff_toInt_le]; rw [Int32.lt_iff_toInt_lt] at c7; omega)]
        rfl
      refine V.iconst (v := nI 1) X dX12_in_10 (by decide) ?_
      refine V.goto 15 X dX12_in_11 (by decide) ?_
      exact V.bret X Y9 dX12_in_15 (inB v lo hi) (by rw [e0]; rfl) ⟨rfl, rfl⟩ (Nat.le_of_ble_eq_true rfl) (Nat.le_of_ble_eq_true rfl)
theorem fX12_isMethodNumber_7 : FL wsX12_isMethodNumber RX12 7 14 0 (.array .int) true := ⟨_, rfl, by decide, Or.inl ⟨"ContractTesterModel", by decide +kernel, Or.inl rfl⟩, by decide +kernel, by decide +kernel, rfl⟩
set_option maxHeartbeats 4000000 in
set_option maxRecDepth 100000 in
theorem c_X12_isMethodNumber (l : Launch) (G : GG) {h : Hp} {M : Nat} {m : Md} (K : MdK h M) {n : Nat} (hs : m 1 4 = nI n) (hn : n < 2 ^ 31) {x : Int32} : Con l G yX12_isMethodNumber wsX12_isMethodNumber 1 22 0 0 [.ref M, .int x] (Hm h M m) (pI (fun r h2 => r = bI (isIx x n) ∧ h2 = Hm h M m)) := by
  refine Con.of (cc := cX12_isMethodNumber) (nL := 2) (ret := (some .boolean)) (by decide) rfl rfl rfl rfl (fun Γ hG hl X Y9 => ?_)
  subst hG
  subst hl
  refine V.iload_n X dX12_isMethodNumber_0 rfl ?_
  refine V.iconst (v := nI 0) X dX12_isMethodNumber_1 (by decide) ?_
  refine V.aload_n X dX12_isMethodNumber_2 rfl ?_
  refine V.mgr (k := 0) (a := 1) X K fX12_isMethodNumber_7 dX12_isMethodNumber_3 (by decide) ?_
  refine V.iconst (v := nI 4) X dX12_isMethodNumber_6 (by decide) ?_
  refine V.mld  X K 1 1178  dX12_isMethodNumber_7 rfl rfl (by omega) hs ?_
  refine V.iconst (v := nI 1) X dX12_isMethodNumber_8 (by decide) ?_
  refine V.isub X dX12_isMethodNumber_9 ?_
  refine V.callSi (n := 3) X dX12_isMethodNumber_10 gX12_isMethodNumber_X12_in (c_X12_in _ _) rfl (by decide +kernel) rfl rfl rfl ⟨Nat.le_of_ble_eq_true rfl, Nat.le_of_ble_eq_true rfl⟩ (fun r10 h10 hp10 => ?_)
  obtain ⟨rfl, e9⟩ := hp10; obtain rfl := e9.symm
  exact V.bret X Y9 dX12_isMethodNumber_13 (isIx x n) (by rw [inB_ix hn]) ⟨rfl, rfl⟩ (Nat.le_of_ble_eq_true rfl) (Nat.le_of_ble_eq_true rfl)
theorem fX12_isSequence_7 : FL wsX12_isSequence RX12 7 14 0 (.array .int) true := ⟨_, rfl, by decide, Or.inl ⟨"ContractTesterModel", by decide +kernel, Or.inl rfl⟩, by decide +kernel, by decide +kernel, rfl⟩
set_option maxHeartbeats 4000000 in
set_option maxRecDepth 100000 in
theorem c_X12_isSequence (l : Launch) (G : GG) {h : Hp} {M : Nat} {m : Md} (K : MdK h M) {n : Nat} (hs : m 1 276 = nI n) (hn : n < 2 ^ 31) {x : Int32} : Con l G yX12_isSequence wsX12_isSequence 1 22 0 0 [.ref M, .int x] (Hm h M m) (pI (fun r h2 => r = bI (isIx x n) ∧ h2 = Hm h M m)) := by
  refine Con.of (cc := cX12_isSequence) (nL := 2) (ret := (some .boolean)) (by decide) rfl rfl rfl rfl (fun Γ hG hl X Y9 => ?_)
  subst hG
  subst hl
  refine V.iload_n X dX12_isSequence_0 rfl ?_
  refine V.iconst (v := nI 0) X dX12_isSequence_1 (by decide) ?_
  refine V.aload_n X dX12_isSequence_2 rfl ?_
  refine V.mgr (k := 0) (a := 1) X K fX12_isSequence_7 dX12_isSequence_3 (by decide) ?_
  refine V.sipush (v := nI 276) X dX12_isSequence_6 (by decide) ?_
  refine V.mld  X K 1 1178  dX12_isSequence_9 rfl rfl (by omega) hs ?_
  refine V.iconst (v := nI 1) X dX12_isSequence_10 (by decide) ?_
  refine V.isub X dX12_isSequence_11 ?_
  refine V.callSi (n := 3) X dX12_isSequence_12 gX12_isSequence_X12_in (c_X12_in _ _) rfl (by decide +kernel) rfl rfl rfl ⟨Nat.le_of_ble_eq_true rfl, Nat.le_of_ble_eq_true rfl⟩ (fun r12 h12 hp12 => ?_)
  obtain ⟨rfl, e9⟩ := hp12; obtain rfl := e9.symm
  exact V.bret X Y9 dX12_isSequence_15 (isIx x n) (by rw [inB_ix hn]) ⟨rfl, rfl⟩ (Nat.le_of_ble_eq_true rfl) (Nat.le_of_ble_eq_true rfl)
theorem fX12_isFailure_7 : FL wsX12_isFailure RX12 7 14 0 (.array .int) true := ⟨_, rfl, by decide, Or.inl ⟨"ContractTesterModel", by decide +kernel, Or.inl rfl⟩, by decide +kernel, by decide +kernel, rfl⟩
set_option maxHeartbeats 4000000 in
set_option maxRecDepth 100000 in
theorem c_X12_isFailure (l : Launch) (G : GG) {h : Hp} {M : Nat} {m : Md} (K : MdK h M) {n : Nat} (hs : m 1 277 = nI n) (hn : n < 2 ^ 31) {x : Int32} : Con l G yX12_isFailure wsX12_isFailure 1 22 0 0 [.ref M, .int x] (Hm h M m) (pI (fun r h2 => r = bI (isIx x n) ∧ h2 = Hm h M m)) := by
  refine Con.of (cc := cX12_isFailure) (nL := 2) (ret := (some .boolean)) (by decide) rfl rfl rfl rfl (fun Γ hG hl X Y9 => ?_)
  subst hG
  subst hl
  refine V.iload_n X dX12_isFailure_0 rfl ?_
  refine V.iconst (v := nI 0) X dX12_isFailure_1 (by decide) ?_
  refine V.aload_n X dX12_isFailure_2 rfl ?_
  refine V.mgr (k := 0) (a := 1) X K fX12_isFailure_7 dX12_isFailure_3 (by decide) ?_
  refine V.sipush (v := nI 277) X dX12_isFailure_6 (by decide) ?_
  refine V.mld  X K 1 1178  dX12_isFailure_9 rfl rfl (by omega) hs ?_
  refine V.iconst (v := nI 1) X dX12_isFailure_10 (by decide) ?_
  refine V.isub X dX12_isFailure_11 ?_
  refine V.callSi (n := 3) X dX12_isFailure_12 gX12_isFailure_X12_in (c_X12_in _ _) rfl (by decide +kernel) rfl rfl rfl ⟨Nat.le_of_ble_eq_true rfl, Nat.le_of_ble_eq_true rfl⟩ (fun r12 h12 hp12 => ?_)
  obtain ⟨rfl, e9⟩ := hp12; obtain rfl := e9.symm
  exact V.bret X Y9 dX12_isFailure_15 (isIx x n) (by rw [inB_ix hn]) ⟨rfl, rfl⟩ (Nat.le_of_ble_eq_true rfl) (Nat.le_of_ble_eq_true rfl)
theorem fX12_lengthOf_7 : FL wsX12_lengthOf RX12 7 14 0 (.array .int) true := ⟨_, rfl, by decide, Or.inl ⟨"ContractTesterModel", by decide +kernel, Or.inl rfl⟩, by decide +kernel, by decide +kernel, rfl⟩
set_option maxHeartbeats 4000000 in
set_option maxRecDepth 100000 in
theorem c_X12_lengthOf (l : Launch) (G : GG) {h : Hp} {M : Nat} {m : Md} (K : MdK h M) {b i : Nat} (hb : b + 11 * i < 1178) : Con l G yX12_lengthOf wsX12_lengthOf 0 0 0 0 [.ref M, .int (nI b), .int (nI i)] (Hm h M m) (pI (fun r h2 => r = m 1 (b + 11 * i) ∧ h2 = Hm h M m)) := by
  refine Con.of (cc := cX12_lengthOf) (nL := 3) (ret := (some .int)) (by decide) rfl rfl rfl rfl (fun Γ hG hl X Y9 => ?_)
  subst hG
  subst hl
  refine V.aload_n X dX12_lengthOf_0 rfl ?_
  refine V.mgr (k := 0) (a := 1) X K fX12_lengthOf_7 dX12_lengthOf_1 (by decide) ?_
  refine V.iload_n X dX12_lengthOf_4 rfl ?_
  refine V.bipush (v := nI 11) X dX12_lengthOf_5 (by decide) ?_
  refine V.iload_n X dX12_lengthOf_7 rfl ?_
  refine V.imulN X dX12_lengthOf_8 ?_
  refine V.iaddN X dX12_lengthOf_9 ?_
  refine V.mld  X K 1 1178  dX12_lengthOf_10 rfl rfl (by omega) rfl ?_
  exact V.iret X Y9 dX12_lengthOf_11 ⟨rfl, rfl⟩ (Nat.le_of_ble_eq_true rfl) (Nat.le_of_ble_eq_true rfl)
theorem fX12_callOf_7 : FL wsX12_callOf RX12 7 14 0 (.array .int) true := ⟨_, rfl, by decide, Or.inl ⟨"ContractTesterModel", by decide +kernel, Or.inl rfl⟩, by decide +kernel, by decide +kernel, rfl⟩
set_option maxHeartbeats 4000000 in
set_option maxRecDepth 100000 in
theorem c_X12_callOf (l : Launch) (G : GG) {h : Hp} {M : Nat} {m : Md} (K : MdK h M) {b i k : Nat} (hb : b + 11 * i + 1 + k < 1178) : Con l G yX12_callOf wsX12_callOf 0 0 0 0 [.ref M, .int (nI b), .int (nI i), .int (nI k)] (Hm h M m) (pI (fun r h2 => r = m 1 (b + 11 * i + 1 + k) ∧ h2 = Hm h M m)) := by
  refine Con.of (cc := cX12_callOf) (nL := 4) (ret := (some .int)) (by decide) rfl rfl rfl rfl (fun Γ hG hl X Y9 => ?_)
  subst hG
  subst hl
  refine V.aload_n X dX12_callOf_0 rfl ?_
  refine V.mgr (k := 0) (a := 1) X K fX12_callOf_7 dX12_callOf_1 (by decide) ?_
  refine V.iload_n X dX12_callOf_4 rfl ?_
  refine V.bipush (v := nI 11) X dX12_callOf_5 (by decide) ?_
  refine V.iload_n X dX12_callOf_7 rfl ?_
  refine V.imulN X dX12_callOf_8 ?_
  refine V.iaddN X dX12_callOf_9 ?_
  refine V.iconst (v := nI 1) X dX12_callOf_10 (by decide) ?_
  refine V.iaddN X dX12_callOf_11 ?_
  refine V.iload_n X dX12_callOf_12 rfl ?_
  refine V.iaddN X dX12_callOf_13 ?_
  refine V.mld  X K 1 1178  dX12_callOf_14 rfl rfl (by omega) rfl ?_
  exact V.iret X Y9 dX12_callOf_15 ⟨rfl, rfl⟩ (Nat.le_of_ble_eq_true rfl) (Nat.le_of_ble_eq_true rfl)
theorem fX12_verdictOf_7 : FL wsX12_verdictOf RX12 7 14 0 (.array .int) true := ⟨_, rfl, by decide, Or.inl ⟨"ContractTesterModel", by decide +kernel, Or.inl rfl⟩, by decide +kernel, by decide +kernel, rfl⟩
set_option maxHeartbeats 4000000 in
set_option maxRecDepth 100000 in
theorem c_X12_verdictOf (l : Launch) (G : GG) {h : Hp} {M : Nat} {m : Md} (K : MdK h M) {i : Nat} (hb : i < 20) : Con l G yX12_verdictOf wsX12_verdictOf 0 0 0 0 [.ref M, .int (nI i)] (Hm h M m) (pI (fun r h2 => r = m 1 (718 + 11 * i + 10) ∧ h2 = Hm h M m)) := by
  refine Con.of (cc := cX12_verdictOf) (nL := 2) (ret := (some .int)) (by decide) rfl rfl rfl rfl (fun Γ hG hl X Y9 => ?_)
  subst hG
  subst hl
  refine V.aload_n X dX12_verdictOf_0 rfl ?_
  refine V.mgr (k := 0) (a := 1) X K fX12_verdictOf_7 dX12_verdictOf_1 (by decide) ?_
  refine V.sipush (v := nI 718) X dX12_verdictOf_4 (by decide) ?_
  refine V.bipush (v := nI 11) X dX12_verdictOf_7 (by decide) ?_
  refine V.iload_n X dX12_verdictOf_9 rfl ?_
  refine V.imulN X dX12_verdictOf_10 ?_
  refine V.iaddN X dX12_verdictOf_11 ?_
  refine V.bipush (v := nI 11) X dX12_verdictOf_12 (by decide) ?_
  refine V.iaddN X dX12_verdictOf_14 ?_
  refine V.iconst (v := nI 1) X dX12_verdictOf_15 (by decide) ?_
  refine V.isubN X dX12_verdictOf_16 (by omega) ?_
  refine V.mld (x := m 1 (718 + 11 * i + 10)) X K 1 1178  dX12_verdictOf_17 rfl rfl (by omega) (by rw [show 718 + 11 * i + 11 - 1 = 718 + 11 * i + 10 by omega]) ?_
  exact V.iret X Y9 dX12_verdictOf_18 ⟨rfl, rfl⟩ (Nat.le_of_ble_eq_true rfl) (Nat.le_of_ble_eq_true rfl)
theorem fX12_clauses_7 : FL wsX12_clauses RX12 7 14 0 (.array .int) true := ⟨_, rfl, by decide, Or.inl ⟨"ContractTesterModel", by decide +kernel, Or.inl rfl⟩, by decide +kernel, by decide +kernel, rfl⟩
set_option maxHeartbeats 4000000 in
set_option maxRecDepth 100000 in
theorem c_X12_clauses (l : Launch) (G : GG) {h : Hp} {M : Nat} {m : Md} (K : MdK h M) {i : Nat} (hb : i < 6) : Con l G yX12_clauses wsX12_clauses 0 0 0 0 [.ref M, .int (nI i)] (Hm h M m) (pI (fun r h2 => r = m 1 (14 + 43 * i) ∧ h2 = Hm h M m)) := by
  refine Con.of (cc := cX12_clauses) (nL := 2) (ret := (some .int)) (by decide) rfl rfl rfl rfl (fun Γ hG hl X Y9 => ?_)
  subst hG
  subst hl
  refine V.aload_n X dX12_clauses_0 rfl ?_
  refine V.mgr (k := 0) (a := 1) X K fX12_clauses_7 dX12_clauses_1 (by decide) ?_
  refine V.bipush (v := nI 14) X dX12_clauses_4 (by decide) ?_
  refine V.bipush (v := nI 43) X dX12_clauses_6 (by decide) ?_
  refine V.iload_n X dX12_clauses_8 rfl ?_
  refine V.imulN X dX12_clauses_9 ?_
  refine V.iaddN X dX12_clauses_10 ?_
  refine V.mld  X K 1 1178  dX12_clauses_11 rfl rfl (by omega) rfl ?_
  exact V.iret X Y9 dX12_clauses_12 ⟨rfl, rfl⟩ (Nat.le_of_ble_eq_true rfl) (Nat.le_of_ble_eq_true rfl)
set_option maxHeartbeats 4000000 in
set_option maxRecDepth 100000 in
theorem c_X12_clauseAt (l : Launch) (G : GG) {h : Hp} {M : Nat} {i k : Nat} : Con l G yX12_clauseAt wsX12_clauseAt 0 0 0 0 [.ref M, .int (nI i), .int (nI k)] h (pI (fun r h2 => r = nI (14 + 43 * i + 1 + 6 * k) ∧ h2 = h)) := by
  refine Con.of (cc := cX12_clauseAt) (nL := 3) (ret := (some .int)) (by decide) rfl rfl rfl rfl (fun Γ hG hl X Y9 => ?_)
  subst hG
  subst hl
  refine V.bipush (v := nI 14) X dX12_clauseAt_0 (by decide) ?_
  refine V.bipush (v := nI 43) X dX12_clauseAt_2 (by decide) ?_
  refine V.iload_n X dX12_clauseAt_4 rfl ?_
  refine V.imulN X dX12_clauseAt_5 ?_
  refine V.iaddN X dX12_clauseAt_6 ?_
  refine V.iconst (v := nI 1) X dX12_clauseAt_7 (by decide) ?_
  refine V.iaddN X dX12_clauseAt_8 ?_
  refine V.bipush (v := nI 6) X dX12_clauseAt_9 (by decide) ?_
  refine V.iload_n X dX12_clauseAt_11 rfl ?_
  refine V.imulN X dX12_clauseAt_12 ?_
  refine V.iaddN X dX12_clauseAt_13 ?_
  exact V.iret X Y9 dX12_clauseAt_14 ⟨rfl, rfl⟩ (Nat.le_of_ble_eq_true rfl) (Nat.le_of_ble_eq_true rfl)
theorem fX12_methodCount_7 : FL wsX12_methodCount RX12 7 14 0 (.array .int) true := ⟨_, rfl, by decide, Or.inl ⟨"ContractTesterModel", by decide +kernel, Or.inl rfl⟩, by decide +kernel, by decide +kernel, rfl⟩
set_option maxHeartbeats 4000000 in
set_option maxRecDepth 100000 in
theorem c_X12_methodCount (l : Launch) (G : GG) {h : Hp} {M : Nat} {m : Md} (K : MdK h M)  : Con l G yX12_methodCount wsX12_methodCount 0 0 0 0 [.ref M] (Hm h M m) (pI (fun r h2 => r = m 1 4 ∧ h2 = Hm h M m)) := by
  refine Con.of (cc := cX12_methodCount) (nL := 1) (ret := (some .int)) (by decide) rfl rfl rfl rfl (fun Γ hG hl X Y9 => ?_)
  subst hG
  subst hl
  refine V.aload_n X dX12_methodCount_0 rfl ?_
  refine V.mgr (k := 0) (a := 1) X K fX12_methodCount_7 dX12_methodCount_1 (by decide) ?_
  refine V.iconst (v := nI 4) X dX12_methodCount_4 (by decide) ?_
  refine V.mld  X K 1 1178  dX12_methodCount_5 rfl rfl (by omega) rfl ?_
  exact V.iret X Y9 dX12_methodCount_6 ⟨rfl, rfl⟩ (Nat.le_of_ble_eq_true rfl) (Nat.le_of_ble_eq_true rfl)
theorem fX12_skippedPairs_7 : FL wsX12_skippedPairs RX12 7 14 0 (.array .int) true := ⟨_, rfl, by decide, Or.inl ⟨"ContractTesterModel", by decide +kernel, Or.inl rfl⟩, by decide +kernel, by decide +kernel, rfl⟩
set_option maxHeartbeats 4000000 in
set_option maxRecDepth 100000 in
theorem c_X12_skippedPairs (l : Launch) (G : GG) {h : Hp} {M : Nat} {m : Md} (K : MdK h M)  : Con l G yX12_skippedPairs wsX12_skippedPairs 0 0 0 0 [.ref M] (Hm h M m) (pI (fun r h2 => r = m 1 273 ∧ h2 = Hm h M m)) := by
  refine Con.of (cc := cX12_skippedPairs) (nL := 1) (ret := (some .int)) (by decide) rfl rfl rfl rfl (fun Γ hG hl X Y9 => ?_)
  subst hG
  subst hl
  refine V.aload_n X dX12_skippedPairs_0 rfl ?_
  refine V.mgr (k := 0) (a := 1) X K fX12_skippedPairs_7 dX12_skippedPairs_1 (by decide) ?_
  refine V.sipush (v := nI 273) X dX12_skippedPairs_4 (by decide) ?_
  refine V.mld  X K 1 1178  dX12_skippedPairs_7 rfl rfl (by omega) rfl ?_
  exact V.iret X Y9 dX12_skippedPairs_8 ⟨rfl, rfl⟩ (Nat.le_of_ble_eq_true rfl) (Nat.le_of_ble_eq_true rfl)
theorem fX12_redundantPairs_7 : FL wsX12_redundantPairs RX12 7 14 0 (.array .int) true := ⟨_, rfl, by decide, Or.inl ⟨"ContractTesterModel", by decide +kernel, Or.inl rfl⟩, by decide +kernel, by decide +kernel, rfl⟩
set_option maxHeartbeats 4000000 in
set_option maxRecDepth 100000 in
theorem c_X12_redundantPairs (l : Launch) (G : GG) {h : Hp} {M : Nat} {m : Md} (K : MdK h M)  : Con l G yX12_redundantPairs wsX12_redundantPairs 0 0 0 0 [.ref M] (Hm h M m) (pI (fun r h2 => r = m 1 274 ∧ h2 = Hm h M m)) := by
  refine Con.of (cc := cX12_redundantPairs) (nL := 1) (ret := (some .int)) (by decide) rfl rfl rfl rfl (fun Γ hG hl X Y9 => ?_)
  subst hG
  subst hl
  refine V.aload_n X dX12_redundantPairs_0 rfl ?_
  refine V.mgr (k := 0) (a := 1) X K fX12_redundantPairs_7 dX12_redundantPairs_1 (by decide) ?_
  refine V.sipush (v := nI 274) X dX12_redundantPairs_4 (by decide) ?_
  refine V.mld  X K 1 1178  dX12_redundantPairs_7 rfl rfl (by omega) rfl ?_
  exact V.iret X Y9 dX12_redundantPairs_8 ⟨rfl, rfl⟩ (Nat.le_of_ble_eq_true rfl) (Nat.le_of_ble_eq_true rfl)
theorem fX12_droppedPairs_7 : FL wsX12_droppedPairs RX12 7 14 0 (.array .int) true := ⟨_, rfl, by decide, Or.inl ⟨"ContractTesterModel", by decide +kernel, Or.inl rfl⟩, by decide +kernel, by decide +kernel, rfl⟩
set_option maxHeartbeats 4000000 in
set_option maxRecDepth 100000 in
theorem c_X12_droppedPairs (l : Launch) (G : GG) {h : Hp} {M : Nat} {m : Md} (K : MdK h M)  : Con l G yX12_droppedPairs wsX12_droppedPairs 0 0 0 0 [.ref M] (Hm h M m) (pI (fun r h2 => r = m 1 275 ∧ h2 = Hm h M m)) := by
  refine Con.of (cc := cX12_droppedPairs) (nL := 1) (ret := (some .int)) (by decide) rfl rfl rfl rfl (fun Γ hG hl X Y9 => ?_)
  subst hG
  subst hl
  refine V.aload_n X dX12_droppedPairs_0 rfl ?_
  refine V.mgr (k := 0) (a := 1) X K fX12_droppedPairs_7 dX12_droppedPairs_1 (by decide) ?_
  refine V.sipush (v := nI 275) X dX12_droppedPairs_4 (by decide) ?_
  refine V.mld  X K 1 1178  dX12_droppedPairs_7 rfl rfl (by omega) rfl ?_
  exact V.iret X Y9 dX12_droppedPairs_8 ⟨rfl, rfl⟩ (Nat.le_of_ble_eq_true rfl) (Nat.le_of_ble_eq_true rfl)
theorem fX12_poolSize_7 : FL wsX12_poolSize RX12 7 14 0 (.array .int) true := ⟨_, rfl, by decide, Or.inl ⟨"ContractTesterModel", by decide +kernel, Or.inl rfl⟩, by decide +kernel, by decide +kernel, rfl⟩
set_option maxHeartbeats 4000000 in
set_option maxRecDepth 100000 in
theorem c_X12_poolSize (l : Launch) (G : GG) {h : Hp} {M : Nat} {m : Md} (K : MdK h M)  : Con l G yX12_poolSize wsX12_poolSize 0 0 0 0 [.ref M] (Hm h M m) (pI (fun r h2 => r = m 1 276 ∧ h2 = Hm h M m)) := by
  refine Con.of (cc := cX12_poolSize) (nL := 1) (ret := (some .int)) (by decide) rfl rfl rfl rfl (fun Γ hG hl X Y9 => ?_)
  subst hG
  subst hl
  refine V.aload_n X dX12_poolSize_0 rfl ?_
  refine V.mgr (k := 0) (a := 1) X K fX12_poolSize_7 dX12_poolSize_1 (by decide) ?_
  refine V.sipush (v := nI 276) X dX12_poolSize_4 (by decide) ?_
  refine V.mld  X K 1 1178  dX12_poolSize_7 rfl rfl (by omega) rfl ?_
  exact V.iret X Y9 dX12_poolSize_8 ⟨rfl, rfl⟩ (Nat.le_of_ble_eq_true rfl) (Nat.le_of_ble_eq_true rfl)
theorem fX12_failureCount_7 : FL wsX12_failureCount RX12 7 14 0 (.array .int) true := ⟨_, rfl, by decide, Or.inl ⟨"ContractTesterModel", by decide +kernel, Or.inl rfl⟩, by decide +kernel, by decide +kernel, rfl⟩
set_option maxHeartbeats 4000000 in
set_option maxRecDepth 100000 in
theorem c_X12_failureCount (l : Launch) (G : GG) {h : Hp} {M : Nat} {m : Md} (K : MdK h M)  : Con l G yX12_failureCount wsX12_failureCount 0 0 0 0 [.ref M] (Hm h M m) (pI (fun r h2 => r = m 1 277 ∧ h2 = Hm h M m)) := by
  refine Con.of (cc := cX12_failureCount) (nL := 1) (ret := (some .int)) (by decide) rfl rfl rfl rfl (fun Γ hG hl X Y9 => ?_)
  subst hG
  subst hl
  refine V.aload_n X dX12_failureCount_0 rfl ?_
  refine V.mgr (k := 0) (a := 1) X K fX12_failureCount_7 dX12_failureCount_1 (by decide) ?_
  refine V.sipush (v := nI 277) X dX12_failureCount_4 (by decide) ?_
  refine V.mld  X K 1 1178  dX12_failureCount_7 rfl rfl (by omega) rfl ?_
  exact V.iret X Y9 dX12_failureCount_8 ⟨rfl, rfl⟩ (Nat.le_of_ble_eq_true rfl) (Nat.le_of_ble_eq_true rfl)
theorem fX12_here_41 : FL wsX12_here RX12 41 14 6 .int false := ⟨_, rfl, by decide, Or.inl ⟨"ContractTesterModel", by decide +kernel, Or.inl rfl⟩, by decide +kernel, by decide +kernel, rfl⟩
theorem fX12_here_44 : FL wsX12_here RX12 44 14 5 .int false := ⟨_, rfl, by decide, Or.inl ⟨"ContractTesterModel", by decide +kernel, Or.inl rfl⟩, by decide +kernel, by decide +kernel, rfl⟩
theorem fX12_here_19 : FL wsX12_here RX12 19 14 4 (.array .int) true := ⟨_, rfl, by decide, Or.inl ⟨"ContractTesterModel", by decide +kernel, Or.inl rfl⟩, by decide +kernel, by decide +kernel, rfl⟩
set_option maxHeartbeats 4000000 in
set_option maxRecDepth 100000 in
theorem c_X12_here (l : Launch) (G : GG) {h : Hp} {M : Nat} {m : Md} (K : MdK h M) {t : List Nat} (hT : TxM m t) {p : Nat} (hp : m 0 6 = nI p) (hpl : p < 2 ^ 31) : Con l G yX12_here wsX12_here 0 0 0 0 [.ref M] (Hm h M m) (pI (fun r h2 => r = hrT t p ∧ h2 = Hm h M m)) := by
  refine Con.of (cc := cX12_here) (nL := 1) (ret := (some .int)) (by decide) rfl rfl rfl rfl (fun Γ hG hl X Y9 => ?_)
  subst hG
  subst hl
  have hl := hT.2.1
  refine V.aload_n X dX12_here_0 rfl ?_
  refine V.mgf  X K fX12_here_41 dX12_here_1 rfl hp ?_
  refine V.aload_n X dX12_here_4 rfl ?_
  refine V.mgf  X K fX12_here_44 dX12_here_5 rfl hT.1 ?_
  refine V.icmp_ge 23 X dX12_here_8 (by decide) (fun c8 => ?_) (fun c8 => ?_)
  · rw [nI_leI (by omega) (by omega)] at c8
    have e0 : hrT t p = -1 := by unfold hrT; rw [if_neg (by omega)]
    have e1 : (-1 : Int32) = hrT t p := e0.symm
    refine V.iconst (v := -1) X dX12_here_23 (by decide) ?_
    exact V.iret X Y9 dX12_here_24 ⟨e1, rfl⟩ (Nat.le_of_ble_eq_true rfl) (Nat.le_of_ble_eq_true rfl)
  · rw [nI_leI (by omega) (by omega)] at c8
    have e1 : hrT t p = hrT t p := rfl
    refine V.aload_n X dX12_here_11 rfl ?_
    refine V.mgr (k := 4) (a := 4) X K fX12_here_19 dX12_here_12 (by decide) ?_
    refine V.aload_n X dX12_here_15 rfl ?_
    refine V.mgf  X K fX12_here_41 dX12_here_16 rfl hp ?_
    refine V.mld (x := hrT t p) X K 4 200  dX12_here_19 rfl rfl (by omega) (by unfold hrT; rw [if_pos (by omega)]; exact (hT.2.2 p (by omega)).1) ?_
    refine V.goto 24 X dX12_here_20 (by decide) ?_
    exact V.iret X Y9 dX12_here_24 ⟨e1, rfl⟩ (Nat.le_of_ble_eq_true rfl) (Nat.le_of_ble_eq_true rfl)
theorem fX12_bare_7 : FL wsX12_bare RX12 7 14 0 (.array .int) true := ⟨_, rfl, by decide, Or.inl ⟨"ContractTesterModel", by decide +kernel, Or.inl rfl⟩, by decide +kernel, by decide +kernel, rfl⟩
set_option maxHeartbeats 4000000 in
set_option maxRecDepth 100000 in
theorem c_X12_bare (l : Launch) (G : GG) {h : Hp} {M : Nat} {m : Md} (K : MdK h M)  : Con l G yX12_bare wsX12_bare 0 0 0 0 [.ref M] (Hm h M m) (pV (fun h2 => h2 = Hm h M (bareM m))) := by
  refine Con.of (cc := cX12_bare) (nL := 2) (ret := none) (by decide) rfl rfl rfl rfl (fun Γ hG hl X Y9 => ?_)
  subst hG
  subst hl
  have loop : ∀ (n j : Nat), j + n = 905 → V Γ 0 0 4 [(0, .ref M), (1, .int (nI (273 + j)))] [] (Hm h M (fil m 1 273 j (nI 0))) := by
    intro n
    induction n with
    | zero =>
      intro j g1
      obtain rfl : j = 905 := by omega
      refine V.iload_n X dX12_bare_4 rfl ?_
      refine V.sipush (v := nI 1178) X dX12_bare_5 (by decide) ?_
      refine V.icmp_ge 24 X dX12_bare_8 (by decide) (fun c8 => ?_) (fun c8 => False.elim (by rw [nI_leI (by omega) (by omega)] at c8; omega))
      rw [nI_leI (by omega) (by omega)] at c8
      refine V.aload_n X dX12_bare_24 rfl ?_
      refine V.mgr (k := 0) (a := 1) X K fX12_bare_7 dX12_bare_25 (by decide) ?_
      refine V.sipush (v := nI 276) X dX12_bare_28 (by decide) ?_
      refine V.iconst (v := nI 1) X dX12_bare_31 (by decide) ?_
      refine V.mst X K 1 1178  dX12_bare_32 rfl rfl (by omega) ?_
      exact V.vret X Y9 dX12_bare_33 ⟨rfl, rfl⟩ (Nat.le_of_ble_eq_true rfl) (Nat.le_of_ble_eq_true rfl)
    | succ n ih =>
      intro j g1
      refine V.iload_n X dX12_bare_4 rfl ?_
      refine V.sipush (v := nI 1178) X dX12_bare_5 (by decide) ?_
      refine V.icmp_ge 24 X dX12_bare_8 (by decide) (fun c8 => False.elim (by rw [nI_leI (by omega) (by omega)] at c8; omega)) (fun c8 => ?_)
      rw [nI_leI (by omega) (by omega)] at c8
      refine V.aload_n X dX12_bare_11 rfl ?_
      refine V.mgr (k := 0) (a := 1) X K fX12_bare_7 dX12_bare_12 (by decide) ?_
      refine V.iload_n X dX12_bare_15 rfl ?_
      refine V.iconst (v := nI 0) X dX12_bare_16 (by decide) ?_
      refine V.mst X K 1 1178  dX12_bare_17 rfl rfl (by omega) ?_
      rw [fil_q rfl]
      refine V.iinc  X dX12_bare_18 [(0, _), (1, _)] rfl (nI_1 _) rfl rfl rfl ?_
      refine V.goto 4 X dX12_bare_21 (by decide) ?_
      exact ih (j + 1) (by omega)
  refine V.sipush (v := nI 273) X dX12_bare_0 (by decide) ?_
  refine V.istore_n X dX12_bare_3 [(0, _), (1, _)] rfl rfl rfl ?_
  rw [← fil_0 (m := m) (a := 1) (o := 273) (y := nI 0)]
  exact loop 905 0 rfl
theorem fX12_note_37 : FL wsX12_note RX12 37 14 3 .int false := ⟨_, rfl, by decide, Or.inl ⟨"ContractTesterModel", by decide +kernel, Or.inl rfl⟩, by decide +kernel, by decide +kernel, rfl⟩
theorem fX12_note_16 : FL wsX12_note RX12 16 14 2 (.array .int) true := ⟨_, rfl, by decide, Or.inl ⟨"ContractTesterModel", by decide +kernel, Or.inl rfl⟩, by decide +kernel, by decide +kernel, rfl⟩
theorem fX12_note_7 : FL wsX12_note RX12 7 14 0 (.array .int) true := ⟨_, rfl, by decide, Or.inl ⟨"ContractTesterModel", by decide +kernel, Or.inl rfl⟩, by decide +kernel, by decide +kernel, rfl⟩
set_option maxHeartbeats 4000000 in
set_option maxRecDepth 100000 in
theorem c_X12_note (l : Launch) (G : GG) {h : Hp} {M : Nat} {m : Md} (K : MdK h M) {p : Nat} (hp : m 0 3 = nI p) (hp6 : p ≤ 6) : Con l G yX12_note wsX12_note 0 0 0 0 [.ref M] (Hm h M m) (pV (fun h2 => h2 = Hm h M (noteM m p))) := by
  refine Con.of (cc := cX12_note) (nL := 2) (ret := none) (by decide) rfl rfl rfl rfl (fun Γ hG hl X Y9 => ?_)
  subst hG
  subst hl
  have loop2 : ∀ (m1 : Md) (q : Nat), m1 0 3 = nI q → q < 6 → noteB m1 q = noteM m p → ∀ (n j : Nat), j + n = 1178 → V Γ 0 0 52 [(0, .ref M), (1, .int (nI j))] [] (Hm h M (cpy m1 3 1 (1178 * q) 0 j)) := by
    intro m1 q hq hq6 e0 n
    induction n with
    | zero =>
      intro j g1
      obtain rfl : j = 1178 := by omega
      refine V.iload_n X dX12_note_52 rfl ?_
      refine V.sipush (v := nI 1178) X dX12_note_53 (by decide) ?_
      refine V.icmp_ge 86 X dX12_note_56 (by decide) (fun c56 => ?_) (fun c56 => False.elim (by rw [nI_leI (by omega) (by omega)] at c56; omega))
      rw [nI_leI (by omega) (by omega)] at c56
      refine V.aload_n X dX12_note_86 rfl ?_
      refine V.dup X dX12_note_87 rfl ?_
      refine V.mgf  X K fX12_note_37 dX12_note_88 rfl ((cpy_o (by decide)).trans hq) ?_
      refine V.iconst (v := nI 1) X dX12_note_91 (by decide) ?_
      refine V.iaddN X dX12_note_92 ?_
      refine V.mpf X K fX12_note_37 dX12_note_93 rfl rfl rfl ?_
      exact V.vret X Y9 dX12_note_96 ⟨rfl, congrArg (Hm h M) e0⟩ (Nat.le_of_ble_eq_true rfl) (Nat.le_of_ble_eq_true rfl)
    | succ n ih =>
      intro j g1
      refine V.iload_n X dX12_note_52 rfl ?_
      refine V.sipush (v := nI 1178) X dX12_note_53 (by decide) ?_
      refine V.icmp_ge 86 X dX12_note_56 (by decide) (fun c56 => False.elim (by rw [nI_leI (by omega) (by omega)] at c56; omega)) (fun c56 => ?_)
      rw [nI_leI (by omega) (by omega)] at c56
      refine V.aload_n X dX12_note_59 rfl ?_
      refine V.mgr (k := 2) (a := 3) X K fX12_note_16 dX12_note_60 (by decide) ?_
      refine V.sipush (v := nI 1178) X dX12_note_63 (by decide) ?_
      refine V.aload_n X dX12_note_66 rfl ?_
      refine V.mgf  X K fX12_note_37 dX12_note_67 rfl ((cpy_o (by decide)).trans hq) ?_
      refine V.imulN X dX12_note_70 ?_
      refine V.iload_n X dX12_note_71 rfl ?_
      refine V.iaddN X dX12_note_72 ?_
      refine V.aload_n X dX12_note_73 rfl ?_
      refine V.mgr (k := 0) (a := 1) X K fX12_note_7 dX12_note_74 (by decide) ?_
      refine V.iload_n X dX12_note_77 rfl ?_
      refine V.mld  X K 1 1178  dX12_note_78 rfl rfl (by omega) rfl ?_
      refine V.mst X K 3 7068  dX12_note_79 rfl rfl (by omega) ?_
      rw [cpy_q (by omega) (cpy_r (by omega) (by omega))]
      refine V.iinc  X dX12_note_80 [(0, _), (1, _)] rfl (nI_1 _) rfl rfl rfl ?_
      refine V.goto 52 X dX12_note_83 (by decide) ?_
      exact ih (j + 1) (by omega)
  have loop1 : p = 6 → noteB (mput (cpy m 3 3 0 1178 5890) 0 3 (nI 5)) 5 = noteM m p → ∀ (n j : Nat), j + n = 5890 → V Γ 0 0 11 [(0, .ref M), (1, .int (nI j))] [] (Hm h M (cpy m 3 3 0 1178 j)) := by
    intro h6 e0 n
    induction n with
    | zero =>
      intro j g1
      obtain rfl : j = 5890 := by omega
      refine V.iload_n X dX12_note_11 rfl ?_
      refine V.sipush (v := nI 5890) X dX12_note_12 (by decide) ?_
      refine V.icmp_ge 40 X dX12_note_15 (by decide) (fun c15 => ?_) (fun c15 => False.elim (by rw [nI_leI (by omega) (by omega)] at c15; omega))
      rw [nI_leI (by omega) (by omega)] at c15
      refine V.aload_n X dX12_note_40 rfl ?_
      refine V.dup X dX12_note_41 rfl ?_
      refine V.mgf (x := nI 6) X K fX12_note_37 dX12_note_42 rfl ((cpy_o (by decide)).trans (hp.trans (by rw [h6]))) ?_
      refine V.iconst (v := nI 1) X dX12_note_45 (by decide) ?_
      refine V.isubN X dX12_note_46 (by decide) ?_
      refine V.mpf X K fX12_note_37 dX12_note_47 rfl rfl rfl ?_
      refine V.iconst (v := nI 0) X dX12_note_50 (by decide) ?_
      refine V.istore_n X dX12_note_51 [(0, _), (1, _)] rfl rfl rfl ?_
      have l2 := loop2 (mput (cpy m 3 3 0 1178 5890) 0 3 (nI 5)) 5 rfl (by decide) e0 1178 0 rfl
      rw [cpy_0] at l2
      exact l2
    | succ n ih =>
      intro j g1
      refine V.iload_n X dX12_note_11 rfl ?_
      refine V.sipush (v := nI 5890) X dX12_note_12 (by decide) ?_
      refine V.icmp_ge 40 X dX12_note_15 (by decide) (fun c15 => False.elim (by rw [nI_leI (by omega) (by omega)] at c15; omega)) (fun c15 => ?_)
      rw [nI_leI (by omega) (by omega)] at c15
      refine V.aload_n X dX12_note_18 rfl ?_
      refine V.mgr (k := 2) (a := 3) X K fX12_note_16 dX12_note_19 (by decide) ?_
      refine V.iload_n X dX12_note_22 rfl ?_
      refine V.aload_n X dX12_note_23 rfl ?_
      refine V.mgr (k := 2) (a := 3) X K fX12_note_16 dX12_note_24 (by decide) ?_
      refine V.iload_n X dX12_note_27 rfl ?_
      refine V.sipush (v := nI 1178) X dX12_note_28 (by decide) ?_
      refine V.iaddN X dX12_note_31 ?_
      refine V.mld  X K 3 7068  dX12_note_32 rfl rfl (by omega) rfl ?_
      refine V.mst X K 3 7068  dX12_note_33 rfl rfl (by omega) ?_
      rw [cpy_q (by omega) (cpy_r (by omega) (by omega))]
      refine V.iinc  X dX12_note_34 [(0, _), (1, _)] rfl (nI_1 _) rfl rfl rfl ?_
      refine V.goto 11 X dX12_note_37 (by decide) ?_
      exact ih (j + 1) (by omega)
  refine V.aload_n X dX12_note_0 rfl ?_
  refine V.mgf  X K fX12_note_37 dX12_note_1 rfl hp ?_
  refine V.bipush (v := nI 6) X dX12_note_4 (by decide) ?_
  refine V.icmp_ne 50 X dX12_note_6 (by decide) (fun c6 => ?_) (fun c6 => ?_)
  · rw [nI_eq (by omega) (by omega)] at c6
    have e0 : noteB m p = noteM m p := by unfold noteM; rw [if_neg c6]
    refine V.iconst (v := nI 0) X dX12_note_50 (by decide) ?_
    refine V.istore_n X dX12_note_51 [(0, _), (1, _)] rfl rfl rfl ?_
    have l2 := loop2 m p hp (by omega) e0 1178 0 rfl
    rw [cpy_0] at l2
    exact l2
  · rw [nI_eq (by omega) (by omega)] at c6
    obtain rfl : p = 6 := c6
    have e0 : noteB (mput (cpy m 3 3 0 1178 5890) 0 3 (nI 5)) 5 = noteM m 6 := rfl
    refine V.iconst (v := nI 0) X dX12_note_9 (by decide) ?_
    refine V.istore_n X dX12_note_10 [(0, _), (1, _)] rfl rfl rfl ?_
    rw [← cpy_0 (m := m) (a := 3) (b := 3) (o1 := 0) (o2 := 1178)]
    exact loop1 rfl e0 5890 0 rfl
theorem fX12_begin_22 : FL wsX12_begin RX12 22 14 11 (.array .int) true := ⟨_, rfl, by decide, Or.inl ⟨"ContractTesterModel", by decide +kernel, Or.inl rfl⟩, by decide +kernel, by decide +kernel, rfl⟩
theorem fX12_begin_7 : FL wsX12_begin RX12 7 14 0 (.array .int) true := ⟨_, rfl, by decide, Or.inl ⟨"ContractTesterModel", by decide +kernel, Or.inl rfl⟩, by decide +kernel, by decide +kernel, rfl⟩
set_option maxHeartbeats 4000000 in
set_option maxRecDepth 100000 in
theorem c_X12_begin (l : Launch) (G : GG) {h : Hp} {M : Nat} {m : Md} (K : MdK h M)  : Con l G yX12_begin wsX12_begin 0 0 0 0 [.ref M] (Hm h M m) (pV (fun h2 => h2 = Hm h M (cpy m 5 1 0 0 3))) := by
  refine Con.of (cc := cX12_begin) (nL := 2) (ret := none) (by decide) rfl rfl rfl rfl (fun Γ hG hl X Y9 => ?_)
  subst hG
  subst hl
  have loop : ∀ (n j : Nat), j + n = 3 → V Γ 0 0 2 [(0, .ref M), (1, .int (nI j))] [] (Hm h M (cpy m 5 1 0 0 j)) := by
    intro n
    induction n with
    | zero =>
      intro j g1
      obtain rfl : j = 3 := by omega
      refine V.iload_n X dX12_begin_2 rfl ?_
      refine V.iconst (v := nI 3) X dX12_begin_3 (by decide) ?_
      refine V.icmp_ge 27 X dX12_begin_4 (by decide) (fun c4 => ?_) (fun c4 => False.elim (by rw [nI_leI (by omega) (by omega)] at c4; omega))
      rw [nI_leI (by omega) (by omega)] at c4
      exact V.vret X Y9 dX12_begin_27 ⟨rfl, rfl⟩ (Nat.le_of_ble_eq_true rfl) (Nat.le_of_ble_eq_true rfl)
    | succ n ih =>
      intro j g1
      refine V.iload_n X dX12_begin_2 rfl ?_
      refine V.iconst (v := nI 3) X dX12_begin_3 (by decide) ?_
      refine V.icmp_ge 27 X dX12_begin_4 (by decide) (fun c4 => False.elim (by rw [nI_leI (by omega) (by omega)] at c4; omega)) (fun c4 => ?_)
      rw [nI_leI (by omega) (by omega)] at c4
      refine V.aload_n X dX12_begin_7 rfl ?_
      refine V.mgr (k := 11) (a := 5) X K fX12_begin_22 dX12_begin_8 (by decide) ?_
      refine V.iload_n X dX12_begin_11 rfl ?_
      refine V.aload_n X dX12_begin_12 rfl ?_
      refine V.mgr (k := 0) (a := 1) X K fX12_begin_7 dX12_begin_13 (by decide) ?_
      refine V.iconst (v := nI 0) X dX12_begin_16 (by decide) ?_
      refine V.iload_n X dX12_begin_17 rfl ?_
      refine V.iaddN X dX12_begin_18 ?_
      refine V.mld  X K 1 1178  dX12_begin_19 rfl rfl (by omega) rfl ?_
      refine V.mst X K 5 3  dX12_begin_20 rfl rfl (by omega) ?_
      rw [cpy_q (by omega) (cpy_r (by omega) (by omega))]
      refine V.iinc  X dX12_begin_21 [(0, _), (1, _)] rfl (nI_1 _) rfl rfl rfl ?_
      refine V.goto 2 X dX12_begin_24 (by decide) ?_
      exact ih (j + 1) (by omega)
  refine V.iconst (v := nI 0) X dX12_begin_0 (by decide) ?_
  refine V.istore_n X dX12_begin_1 [(0, _), (1, _)] rfl rfl rfl ?_
  rw [← cpy_0 (m := m) (a := 5) (b := 1) (o1 := 0) (o2 := 0)]
  exact loop 3 0 rfl
