theorem fX9_callAt_15 : FL wsX9_callAt RX9 15 11 1 .int false := ⟨_, rfl, by decide, Or.inl ⟨"ContractTester$Sequence", by decide +kernel, Or.inl rfl⟩, by decide +kernel, by decide +kernel, rfl⟩
theorem fX9_callAt_9 : FL wsX9_callAt RX9 9 11 0 (.array .int) true := ⟨_, rfl, by decide, Or.inl ⟨"ContractTester$Sequence", by decide +kernel, Or.inl rfl⟩, by decide +kernel, by decide +kernel, rfl⟩
set_option maxHeartbeats 4000000 in
set_option maxRecDepth 100000 in
theorem c_X9_callAt (l : Launch) (G : GG) {h : Hp} {a : Nat} {xs : List Nat} {i : Int32} (hA : SqAt h a xs) : Con l G yX9_callAt wsX9_callAt 0 0 0 0 [.ref a, .int i] h (pI (fun r h2 => r = sqV xs i ∧ h2 = h)) := by
  refine Con.of (cc := cX9_callAt) (nL := 2) (ret := (some .int)) (by decide) rfl rfl rfl rfl (fun Γ hG hl X Y9 => ?_)
  subst hG
  subst hl
  obtain ⟨k0, k1, k2, k3, k4, k5⟩ := hA
  refine V.iload_n X dX9_callAt_0 rfl ?_
  refine V.if_lt 21 X dX9_callAt_1 (by decide) (fun c1 => ?_) (fun c1 => ?_)
  · refine V.sipush (v := -1000) X dX9_callAt_21 (by decide) ?_
    exact V.iret X Y9 dX9_callAt_24 ⟨by simp [sqV, isIx_neg c1], rfl⟩ (by omega) (by omega)
  · refine V.iload_n X dX9_callAt_4 rfl ?_
    refine V.aload_n X dX9_callAt_5 rfl ?_
    refine V.getf  X fX9_callAt_15 dX9_callAt_6 (by assumption) (by assumption) ?_
    refine V.icmp_ge 21 X dX9_callAt_9 (by decide) (fun c9 => ?_) (fun c9 => ?_)
    · refine V.sipush (v := -1000) X dX9_callAt_21 (by decide) ?_
      exact V.iret X Y9 dX9_callAt_24 ⟨by simp [sqV, isIx_big (show xs.length < 2 ^ 31 by omega) c9], rfl⟩ (by omega) (by omega)
    · obtain ⟨j, hj, rfl⟩ := isIx_t c1 c9 (by omega)
      refine V.aload_n X dX9_callAt_12 rfl ?_
      refine V.getf  X fX9_callAt_9 dX9_callAt_13 (by assumption) (by assumption) ?_
      refine V.iload_n X dX9_callAt_16 rfl ?_
      refine V.iald (j := j)  X dX9_callAt_17 (by assumption) rfl (by omega) (by omega) (k5 j hj) ?_
      refine V.goto 24 X dX9_callAt_18 (by decide) ?_
      exact V.iret X Y9 dX9_callAt_24 ⟨by simp [sqV, isIx_nI (show j < 2 ^ 31 by omega), hj, nI_clamp (show j < 2 ^ 31 by omega)], rfl⟩ (Nat.le_of_ble_eq_true rfl) (Nat.le_of_ble_eq_true rfl)
theorem fX9_append_15 : FL wsX9_append RX9 15 11 1 .int false := ⟨_, rfl, by decide, Or.inl ⟨"ContractTester$Sequence", by decide +kernel, Or.inl rfl⟩, by decide +kernel, by decide +kernel, rfl⟩
theorem fX9_append_9 : FL wsX9_append RX9 9 11 0 (.array .int) true := ⟨_, rfl, by decide, Or.inl ⟨"ContractTester$Sequence", by decide +kernel, Or.inl rfl⟩, by decide +kernel, by decide +kernel, rfl⟩
set_option maxHeartbeats 4000000 in
set_option maxRecDepth 100000 in
theorem c_X9_append (l : Launch) (G : GG) {h : Hp} {a m : Nat} {xs : List Nat} (hA : SqAt h a xs) (hl : xs.length < 8) : Con l G yX9_append wsX9_append 0 0 0 0 [.ref a, .int (nI m)] h (pV (fun h2 => SqAt h2 a (xs ++ [m]) ∧ Fr (fun q => q = a ∨ q = a + 1) h h2)) := by
  refine Con.of (cc := cX9_append) (nL := 2) (ret := none) (by decide) rfl rfl rfl rfl (fun Γ hG hl X Y9 => ?_)
  subst hG
  subst hl
  obtain ⟨k0, k1, k2, k3, k4, k5⟩ := hA
  refine V.aload_n X dX9_append_0 rfl ?_
  refine V.getf  X fX9_append_15 dX9_append_1 (by assumption) (by assumption) ?_
  refine V.bipush (v := nI 8) X dX9_append_4 (by decide) ?_
  refine V.icmp_ge 29 X dX9_append_6 (by decide) (fun c6 => absurd c6 (nI_nle9 hl (by omega))) (fun c6 => ?_)
  refine V.aload_n X dX9_append_9 rfl ?_
  refine V.getf  X fX9_append_9 dX9_append_10 (by assumption) (by assumption) ?_
  refine V.aload_n X dX9_append_13 rfl ?_
  refine V.getf  X fX9_append_15 dX9_append_14 (by assumption) (by assumption) ?_
  refine V.iload_n X dX9_append_17 rfl ?_
  refine V.iast (j := xs.length) X dX9_append_18 (by assumption) rfl (by omega) (by omega) ?_
  refine V.aload_n X dX9_append_19 rfl ?_
  refine V.dup X dX9_append_20 rfl ?_
  refine V.getf (v := .int (nI xs.length)) X fX9_append_15 dX9_append_21 (by assumption) (by rw [Hv_put_a _ _ _ _ (by omega)]; exact k2) ?_
  refine V.iconst (v := nI 1) X dX9_append_24 (by decide) ?_
  refine V.iadd X dX9_append_25 ?_
  rw [nI_add]
  refine V.putf X fX9_append_15 dX9_append_26 (by assumption) rfl rfl ?_
  exact V.vret X Y9 dX9_append_29 ⟨rfl, ⟨k0, by rw [Hv_put_k _ _ _ _ (by decide), Hv_put_a _ _ _ _ (by omega)]; exact k1, by rw [Hv_put_at]; simp, by simp; omega, k4, fun i hi => by
        simp at hi
        rw [Hv_put_a _ _ _ _ (by omega)]
        by_cases e : i = xs.length
        · subst e
          rw [Hv_put_at, getD_snoc_at]
        · rw [Hv_put_k _ _ _ _ e, getD_snoc_lt (by omega)]
          exact k5 i (by omega)⟩, (Fr.rf.thenPut (Or.inl (Or.inr rfl))).thenPut (Or.inl (Or.inl rfl))⟩ (Nat.le_of_ble_eq_true rfl) (Nat.le_of_ble_eq_true rfl)
theorem fX9_copyWithout_15 : FL wsX9_copyWithout RX9 15 11 1 .int false := ⟨_, rfl, by decide, Or.inl ⟨"ContractTester$Sequence", by decide +kernel, Or.inl rfl⟩, by decide +kernel, by decide +kernel, rfl⟩
set_option maxHeartbeats 4000000 in
set_option maxRecDepth 100000 in
theorem c_X9_copyWithout (l : Launch) (G : GG) {h : Hp} {a b : Nat} {xs ys : List Nat} {k : Int32} (hA : SqAt h a xs) (hB : SqAt h b ys) (hab : a + 1 < b ∨ b + 1 < a) : Con l G yX9_copyWithout wsX9_copyWithout 1 21 0 0 [.ref a, .ref b, .int k] h (pV (fun h2 => SqAt h2 a (wo ys 0 k) ∧ Fr (fun q => q = a ∨ q = a + 1) h h2)) := by
  refine Con.of (cc := cX9_copyWithout) (nL := 4) (ret := none) (by decide) rfl rfl rfl rfl (fun Γ hG hl X Y9 => ?_)
  subst hG
  subst hl
  refine V.wf (fun w => ?_)
  have loop : ∀ (n j : Nat) (acc : List Nat) (h1 : Hp), j ≤ ys.length → ys.length - j < n → acc.length ≤ j → acc ++ wo (ys.drop j) j k = wo ys 0 k → SqAt h1 a acc → SqAt h1 b ys → Fr (fun q => q = a ∨ q = a + 1) h h1 → V Γ 0 0 7 [(0, .ref a), (1, .ref b), (2, .int k), (3, .int (nI j))] [] h1 := by
    intro n
    induction n with
    | zero => intro j acc h1 g1 g2; omega
    | succ n ih =>
      intro j acc h1 g1 g2 g3 g4 pA pB pF
      have hl8 : ys.length ≤ 8 := pB.2.2.2.1
      refine V.wf (fun w1 => ?_)
      refine V.iload_n X dX9_copyWithout_7 rfl ?_
      refine V.aload_n X dX9_copyWithout_8 rfl ?_
      refine V.getf  X fX9_copyWithout_15 dX9_copyWithout_9 pB.1 pB.2.2.1 ?_
      refine V.icmp_ge 35 X dX9_copyWithout_12 (by decide) (fun c12 => ?_) (fun c12 => ?_)
      · have hj : j = ys.length := by have := (nI_leI (by omega) (by omega)).mp c12; omega
        subst hj
        rw [List.drop_length, wo_nil, List.append_nil] at g4
        exact V.vret X Y9 dX9_copyWithout_35 ⟨rfl, by rw [← g4]; exact pA, pF⟩ (by omega) (by omega)
      · have hj : j < ys.length := by
          rw [nI_leI (by omega) (by omega)] at c12
          omega
        have hd : ys.drop j = ys.getD j 0 :: ys.drop (j + 1) := by rw [List.drop_eq_getElem_cons hj]; simp [List.getD_eq_getElem?_getD, hj]
        rw [hd, wo_cons] at g4
        refine V.iload_n X dX9_copyWithout_15 rfl ?_
        refine V.iload_n X dX9_copyWithout_16 rfl ?_
        refine V.icmp_eq 29 X dX9_copyWithout_17 (by decide) (fun c17 => ?_) (fun c17 => ?_)
        · rw [if_pos c17] at g4
          refine V.iinc (v := nI (j + 1)) X dX9_copyWithout_29 [(0, _), (1, _), (2, _), (3, _)] rfl (nI_1 j) rfl rfl rfl ?_
          refine V.goto 7 X dX9_copyWithout_32 (by decide) ?_
          exact ih (j + 1) acc h1 (by omega) (by omega) (by omega) g4 pA pB pF
        · rw [if_neg c17] at g4
          refine V.aload_n X dX9_copyWithout_20 rfl ?_
          refine V.aload_n X dX9_copyWithout_21 rfl ?_
          refine V.iload_n X dX9_copyWithout_22 rfl ?_
          refine V.callVi (n := 1) X dX9_copyWithout_23 gX9_copyWithout_X9_callAt (c_X9_callAt _ _ pB) rfl (by decide +kernel) rfl rfl rfl pB.1 rfl rfl ⟨Nat.le_of_ble_eq_true rfl, Nat.le_of_ble_eq_true rfl⟩ (fun r23 h23 hp23 => ?_)
          obtain ⟨rfl, e9⟩ := hp23; obtain rfl := e9.symm
          rw [show sqV ys (nI j) = nI (ys.getD j 0) by simp [sqV, isIx_nI (show j < 2 ^ 31 by omega), hj, nI_clamp (show j < 2 ^ 31 by omega)]]
          refine V.callVv (n := 1) X dX9_copyWithout_26 gX9_copyWithout_X9_append (c_X9_append _ _ pA (by omega)) rfl (by decide +kernel) rfl rfl rfl pA.1 rfl rfl ⟨Nat.le_of_ble_eq_true rfl, Nat.le_of_ble_eq_true rfl⟩ (fun h26 hp26 => ?_)
          obtain ⟨qA, qF⟩ := hp26
          refine V.iinc (v := nI (j + 1)) X dX9_copyWithout_29 [(0, _), (1, _), (2, _), (3, _)] rfl (nI_1 j) rfl rfl rfl ?_
          refine V.goto 7 X dX9_copyWithout_32 (by decide) ?_
          exact ih (j + 1) (acc ++ [ys.getD j 0]) _ (by omega) (by omega) (by simp; omega) (by simpa using g4) qA (pB.kept w1 qF (by omega) (by omega)) (pF.tr qF)
  refine V.aload_n X dX9_copyWithout_0 rfl ?_
  refine V.iconst (v := nI 0) X dX9_copyWithout_1 (by decide) ?_
  refine V.putf X fX9_copyWithout_15 dX9_copyWithout_2 hA.1 rfl rfl ?_
  refine V.iconst (v := nI 0) X dX9_copyWithout_5 (by decide) ?_
  refine V.istore_n X dX9_copyWithout_6 [(0, _), (1, _), (2, _), (3, _)] rfl rfl rfl ?_
  exact loop (ys.length + 1) 0 [] _ (Nat.zero_le _) (by omega) (Nat.le_refl _) rfl (SqAt.clr hA) (hB.kept w (Fr.put (S := fun q => q = a) (Or.inl rfl)) (by omega) (by omega)) (Fr.put (Or.inl (Or.inl rfl)))
set_option maxHeartbeats 4000000 in
set_option maxRecDepth 100000 in
theorem c_X9_copyFrom (l : Launch) (G : GG) {h : Hp} {a b : Nat} {xs ys : List Nat} (hA : SqAt h a xs) (hB : SqAt h b ys) (hab : a + 1 < b ∨ b + 1 < a) : Con l G yX9_copyFrom wsX9_copyFrom 2 44 0 0 [.ref a, .ref b] h (pV (fun h2 => SqAt h2 a ys ∧ Fr (fun q => q = a ∨ q = a + 1) h h2)) := by
  refine Con.of (cc := cX9_copyFrom) (nL := 2) (ret := none) (by decide) rfl rfl rfl rfl (fun Γ hG hl X Y9 => ?_)
  subst hG
  subst hl
  have h8 : ys.length ≤ 8 := hB.2.2.2.1
  refine V.aload_n X dX9_copyFrom_0 rfl ?_
  refine V.aload_n X dX9_copyFrom_1 rfl ?_
  refine V.sipush (v := -1000) X dX9_copyFrom_2 (by decide) ?_
  refine V.callVv (n := 2) X dX9_copyFrom_5 gX9_copyFrom_X9_copyWithout (c_X9_copyWithout _ _ (k := -1000) hA hB hab) rfl (by decide +kernel) rfl rfl rfl hA.1 rfl rfl ⟨Nat.le_of_ble_eq_true rfl, Nat.le_of_ble_eq_true rfl⟩ (fun h5 hp5 => ?_)
  rw [wo_none ys 0 (by omega)] at hp5
  exact V.vret X Y9 dX9_copyFrom_8 ⟨rfl, hp5⟩ (Nat.le_of_ble_eq_true rfl) (Nat.le_of_ble_eq_true rfl)
