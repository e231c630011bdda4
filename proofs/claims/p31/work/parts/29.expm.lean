theorem isIx_big2 {x : Int32} {n m : Nat} (hm : m < 2 ^ 31) (hn : n ≤ m) (h : nI m ≤ x) : isIx x n = false := by
  have h1 := isIx_big hm h
  unfold isIx at h1 ⊢
  simp at h1 ⊢
  omega
theorem opn_le {c : Cmp} {r : Xr} {i : Nat} : opn c r i ≤ c.2.2.length := by
  unfold opn
  split <;> omega
theorem fX3_hasSequence_50 : FL wsX3_hasSequence RX3 50 5 5 .int false := ⟨_, rfl, by decide, Or.inl ⟨"ContractTester$Exploration", by decide +kernel, Or.inl rfl⟩, by decide +kernel, by decide +kernel, rfl⟩
set_option maxHeartbeats 4000000 in
set_option maxRecDepth 100000 in
theorem c_X3_hasSequence (l : Launch) (G : GG) {h : Hp} {E : Nat} {r : Xr} {rs : St} (hX : XlAt h E r rs) {x : Int32} (hp : xpc r ≤ 40) : Con l G yX3_hasSequence wsX3_hasSequence 0 0 0 0 [.ref E, .int x] h (pI (fun y h2 => y = bI (isIx x (xpc r)) ∧ h2 = h)) := by
  refine Con.of (cc := cX3_hasSequence) (nL := 2) (ret := (some .boolean)) (by decide) rfl rfl rfl rfl (fun Γ hG hl X Y9 => ?_)
  subst hG
  subst hl
  obtain ⟨a, n, -⟩ := id hX
  have hv : Hv h E 5 = .int (nI (xpc r)) := n.2.1
  refine V.iload_n X dX3_hasSequence_0 rfl ?_
  refine V.if_lt 22 X dX3_hasSequence_1 (by decide) (fun c1 => ?_) (fun c1 => ?_)
  · have e0 := isIx_neg (n := xpc r) c1
    refine V.iconst (v := nI 0) X dX3_hasSequence_22 (by decide) ?_
    exact V.bret X Y9 dX3_hasSequence_23 (isIx x (xpc r)) (by rw [e0]; rfl) ⟨rfl, rfl⟩ (Nat.le_of_ble_eq_true rfl) (Nat.le_of_ble_eq_true rfl)
  · refine V.iload_n X dX3_hasSequence_4 rfl ?_
    refine V.aload_n X dX3_hasSequence_5 rfl ?_
    refine V.getf  X fX3_hasSequence_50 dX3_hasSequence_6 a.1.1 hv ?_
    refine V.icmp_ge 22 X dX3_hasSequence_9 (by decide) (fun c9 => ?_) (fun c9 => ?_)
    · have e0 := isIx_big (by omega) c9
      refine V.iconst (v := nI 0) X dX3_hasSequence_22 (by decide) ?_
      exact V.bret X Y9 dX3_hasSequence_23 (isIx x (xpc r)) (by rw [e0]; rfl) ⟨rfl, rfl⟩ (Nat.le_of_ble_eq_true rfl) (Nat.le_of_ble_eq_true rfl)
    · refine V.iload_n X dX3_hasSequence_12 rfl ?_
      refine V.bipush (v := nI 40) X dX3_hasSequence_13 (by decide) ?_
      refine V.icmp_ge 22 X dX3_hasSequence_15 (by decide) (fun c15 => ?_) (fun c15 => ?_)
      · have e0 := isIx_big2 (by decide) hp c15
        refine V.iconst (v := nI 0) X dX3_hasSequence_22 (by decide) ?_
        exact V.bret X Y9 dX3_hasSequence_23 (isIx x (xpc r)) (by rw [e0]; rfl) ⟨rfl, rfl⟩ (Nat.le_of_ble_eq_true rfl) (Nat.le_of_ble_eq_true rfl)
      · have e0 : isIx x (xpc r) = true := by
          obtain ⟨j, hj, rfl⟩ := isIx_t c1 c9 (by omega)
          rw [isIx_nI (by omega)]; simp [hj]
        refine V.iconst (v := nI 1) X dX3_hasSequence_18 (by decide) ?_
        refine V.goto 23 X dX3_hasSequence_19 (by decide) ?_
        exact V.bret X Y9 dX3_hasSequence_23 (isIx x (xpc r)) (by rw [e0]; rfl) ⟨rfl, rfl⟩ (Nat.le_of_ble_eq_true rfl) (Nat.le_of_ble_eq_true rfl)
theorem fX3_hasFailure_60 : FL wsX3_hasFailure RX3 60 5 8 .int false := ⟨_, rfl, by decide, Or.inl ⟨"ContractTester$Exploration", by decide +kernel, Or.inl rfl⟩, by decide +kernel, by decide +kernel, rfl⟩
set_option maxHeartbeats 4000000 in
set_option maxRecDepth 100000 in
theorem c_X3_hasFailure (l : Launch) (G : GG) {h : Hp} {E : Nat} {r : Xr} {rs : St} (hX : XlAt h E r rs) {x : Int32} (hp : xfl r ≤ 20) : Con l G yX3_hasFailure wsX3_hasFailure 0 0 0 0 [.ref E, .int x] h (pI (fun y h2 => y = bI (isIx x (xfl r)) ∧ h2 = h)) := by
  refine Con.of (cc := cX3_hasFailure) (nL := 2) (ret := (some .boolean)) (by decide) rfl rfl rfl rfl (fun Γ hG hl X Y9 => ?_)
  subst hG
  subst hl
  obtain ⟨a, n, -⟩ := id hX
  have hv : Hv h E 8 = .int (nI (xfl r)) := n.2.2.1
  refine V.iload_n X dX3_hasFailure_0 rfl ?_
  refine V.if_lt 22 X dX3_hasFailure_1 (by decide) (fun c1 => ?_) (fun c1 => ?_)
  · have e0 := isIx_neg (n := xfl r) c1
    refine V.iconst (v := nI 0) X dX3_hasFailure_22 (by decide) ?_
    exact V.bret X Y9 dX3_hasFailure_23 (isIx x (xfl r)) (by rw [e0]; rfl) ⟨rfl, rfl⟩ (Nat.le_of_ble_eq_true rfl) (Nat.le_of_ble_eq_true rfl)
  · refine V.iload_n X dX3_hasFailure_4 rfl ?_
    refine V.aload_n X dX3_hasFailure_5 rfl ?_
    refine V.getf  X fX3_hasFailure_60 dX3_hasFailure_6 a.1.1 hv ?_
    refine V.icmp_ge 22 X dX3_hasFailure_9 (by decide) (fun c9 => ?_) (fun c9 => ?_)
    · have e0 := isIx_big (by omega) c9
      refine V.iconst (v := nI 0) X dX3_hasFailure_22 (by decide) ?_
      exact V.bret X Y9 dX3_hasFailure_23 (isIx x (xfl r)) (by rw [e0]; rfl) ⟨rfl, rfl⟩ (Nat.le_of_ble_eq_true rfl) (Nat.le_of_ble_eq_true rfl)
    · refine V.iload_n X dX3_hasFailure_12 rfl ?_
      refine V.bipush (v := nI 20) X dX3_hasFailure_13 (by decide) ?_
      refine V.icmp_ge 22 X dX3_hasFailure_15 (by decide) (fun c15 => ?_) (fun c15 => ?_)
      · have e0 := isIx_big2 (by decide) hp c15
        refine V.iconst (v := nI 0) X dX3_hasFailure_22 (by decide) ?_
        exact V.bret X Y9 dX3_hasFailure_23 (isIx x (xfl r)) (by rw [e0]; rfl) ⟨rfl, rfl⟩ (Nat.le_of_ble_eq_true rfl) (Nat.le_of_ble_eq_true rfl)
      · have e0 : isIx x (xfl r) = true := by
          obtain ⟨j, hj, rfl⟩ := isIx_t c1 c9 (by omega)
          rw [isIx_nI (by omega)]; simp [hj]
        refine V.iconst (v := nI 1) X dX3_hasFailure_18 (by decide) ?_
        refine V.goto 23 X dX3_hasFailure_19 (by decide) ?_
        exact V.bret X Y9 dX3_hasFailure_23 (isIx x (xfl r)) (by rw [e0]; rfl) ⟨rfl, rfl⟩ (Nat.le_of_ble_eq_true rfl) (Nat.le_of_ble_eq_true rfl)
theorem fX3_openPairsOf_24 : FL wsX3_openPairsOf RX3 24 5 2 (.array (.object "ContractTester$Sequence")) true := ⟨_, rfl, by decide, Or.inl ⟨"ContractTester$Exploration", by decide +kernel, Or.inl rfl⟩, by decide +kernel, by decide +kernel, rfl⟩
theorem fX3_openPairsOf_83 : FL wsX3_openPairsOf RX3 83 11 1 .int false := ⟨_, rfl, by decide, Or.inr ⟨"ContractTester", by decide +kernel⟩, by decide +kernel, by decide +kernel, rfl⟩
theorem fX3_openPairsOf_18 : FL wsX3_openPairsOf RX3 18 5 1 .int false := ⟨_, rfl, by decide, Or.inl ⟨"ContractTester$Exploration", by decide +kernel, Or.inl rfl⟩, by decide +kernel, by decide +kernel, rfl⟩
theorem fX3_openPairsOf_12 : FL wsX3_openPairsOf RX3 12 5 0 (.object "ContractTester$Component") false := ⟨_, rfl, by decide, Or.inl ⟨"ContractTester$Exploration", by decide +kernel, Or.inl rfl⟩, by decide +kernel, by decide +kernel, rfl⟩
theorem fX3_openPairsOf_86 : FL wsX3_openPairsOf RX3 86 3 2 (.object "java/util/ArrayList") true := ⟨_, rfl, by decide, Or.inr ⟨"ContractTester", by decide +kernel⟩, by decide +kernel, by decide +kernel, rfl⟩
theorem fX3_openPairsOf_34 : FL wsX3_openPairsOf RX3 34 5 4 (.array .int) true := ⟨_, rfl, by decide, Or.inl ⟨"ContractTester$Exploration", by decide +kernel, Or.inl rfl⟩, by decide +kernel, by decide +kernel, rfl⟩
set_option maxHeartbeats 4000000 in
set_option maxRecDepth 100000 in
theorem c_X3_openPairsOf (l : Launch) (G : GG) {h : Hp} {E : Nat} {r : Xr} {rs : St} (hX : XlAt h E r rs) {P : Nat → Prop} {o : Nat} {c : Cmp} (hO : Hv h E 0 = .ref o) (hC : CpAt P G h o c) (hr : XOk c r) {i : Nat} (hi40 : i < 40) : Con l G yX3_openPairsOf wsX3_openPairsOf 1 21 0 0 [.ref E, .int (nI i)] h (pI (fun y h2 => y = nI (opn c r i) ∧ h2 = h)) := by
  refine Con.of (cc := cX3_openPairsOf) (nL := 2) (ret := (some .int)) (by decide) rfl rfl rfl rfl (fun Γ hG hl X Y9 => ?_)
  subst hG
  subst hl
  obtain ⟨⟨a0, a1, a2⟩, n, pq, -⟩ := id hX
  have hlen := hC.len
  obtain ⟨xx, y, z, hp, hx, k0, k1, k2, k3, k4, k5, p6, es, l6, e6, m6⟩ := id hC
  obtain ⟨q1, q2, q3⟩ := pq i hi40
  have h8 := q1.2.2.2.1
  have hmx := hr.1
  have hpc := hr.2.1
  have v1 : Hv h E 1 = .int (nI (xmx r)) := n.1
  refine V.aload_n X dX3_openPairsOf_0 rfl ?_
  refine V.iload_n X dX3_openPairsOf_1 rfl ?_
  refine V.callVi (n := 1) X dX3_openPairsOf_2 gX3_openPairsOf_X3_hasSequence (c_X3_hasSequence _ _ hX hpc.2) rfl (by decide +kernel) rfl rfl rfl a0.1 rfl rfl ⟨Nat.le_of_ble_eq_true rfl, Nat.le_of_ble_eq_true rfl⟩ (fun r2 h2 hp2 => ?_)
  obtain ⟨rfl, e9⟩ := hp2; obtain rfl := e9.symm
  rw [isIx_nI (by omega)]
  refine V.if_eq 24 X dX3_openPairsOf_5 (by decide) (fun c5 => ?_) (fun c5 => ?_)
  · have hi : ¬ i < xpc r := by
      have := bI_eq c5
      simpa using this
    have e0 : opn c r i = 0 := if_neg (fun z => hi z.1)
    refine V.iconst (v := nI 0) X dX3_openPairsOf_24 (by decide) ?_
    exact V.iret X Y9 dX3_openPairsOf_25 ⟨by rw [e0], rfl⟩ (Nat.le_of_ble_eq_true rfl) (Nat.le_of_ble_eq_true rfl)
  · have hi : i < xpc r := by
      have := bI_ne c5
      simpa using this
    refine V.aload_n X dX3_openPairsOf_8 rfl ?_
    refine V.getf  X fX3_openPairsOf_24 dX3_openPairsOf_9 a0.1 a0.2.1 ?_
    refine V.iload_n X dX3_openPairsOf_12 rfl ?_
    refine V.aald (j := _)  X dX3_openPairsOf_13 a1.1 rfl rfl (by omega) (by omega) (a2.1 i hi40).1 ?_
    refine V.getf  X fX3_openPairsOf_83 dX3_openPairsOf_14 q1.1 q1.2.2.1 ?_
    refine V.aload_n X dX3_openPairsOf_17 rfl ?_
    refine V.getf  X fX3_openPairsOf_18 dX3_openPairsOf_18 a0.1 v1 ?_
    refine V.icmp_lt 26 X dX3_openPairsOf_21 (by decide) (fun c21 => ?_) (fun c21 => ?_)
    · rw [nI_ltI (by omega) (by omega)] at c21
      have e0 : opn c r i = c.2.2.length - xpr r i := if_pos ⟨hi, c21⟩
      have hpr := hr.2.2.2.2 i hi
      refine V.aload_n X dX3_openPairsOf_26 rfl ?_
      refine V.getf  X fX3_openPairsOf_12 dX3_openPairsOf_27 a0.1 hO ?_
      refine V.getf  X fX3_openPairsOf_86 dX3_openPairsOf_30 k0 k3 ?_
      refine V.callVi (n := 0) X dX3_openPairsOf_33 gX3_openPairsOf_Jx4a65c_size_8abf5 (c_Jx4a65c_size_8abf5 _ _ l6) rfl (by decide +kernel) rfl rfl rfl l6.1 rfl rfl ⟨Nat.le_of_ble_eq_true rfl, Nat.le_of_ble_eq_true rfl⟩ (fun r33 h33 hp33 => ?_)
      obtain ⟨rfl, e9⟩ := hp33; obtain rfl := e9.symm
      rw [e6]
      refine V.aload_n X dX3_openPairsOf_36 rfl ?_
      refine V.getf  X fX3_openPairsOf_34 dX3_openPairsOf_37 a0.1 a0.2.2.2.1 ?_
      refine V.iload_n X dX3_openPairsOf_40 rfl ?_
      refine V.iald (j := _)  X dX3_openPairsOf_41 a1.2.2.1 rfl (by omega) (by omega) q3 ?_
      refine V.isub X dX3_openPairsOf_42 ?_
      rw [nI_sub9 hpr]
      exact V.iret X Y9 dX3_openPairsOf_43 ⟨by rw [e0], rfl⟩ (Nat.le_of_ble_eq_true rfl) (Nat.le_of_ble_eq_true rfl)
    · rw [nI_ltI (by omega) (by omega)] at c21
      have e0 : opn c r i = 0 := if_neg (fun z => c21 z.2)
      refine V.iconst (v := nI 0) X dX3_openPairsOf_24 (by decide) ?_
      exact V.iret X Y9 dX3_openPairsOf_25 ⟨by rw [e0], rfl⟩ (Nat.le_of_ble_eq_true rfl) (Nat.le_of_ble_eq_true rfl)
set_option maxHeartbeats 4000000 in
set_option maxRecDepth 100000 in
theorem c_X3_countOpenPairs (l : Launch) (G : GG) {h : Hp} {E : Nat} {r : Xr} {rs : St} (hX : XlAt h E r rs) {P : Nat → Prop} {o : Nat} {c : Cmp} (hO : Hv h E 0 = .ref o) (hC : CpAt P G h o c) (hr : XOk c r) : Con l G yX3_countOpenPairs wsX3_countOpenPairs 2 42 0 0 [.ref E] h (pI (fun y h2 => y = nI (cop c r 40 0) ∧ h2 = h)) := by
  refine Con.of (cc := cX3_countOpenPairs) (nL := 3) (ret := (some .int)) (by decide) rfl rfl rfl rfl (fun Γ hG hl X Y9 => ?_)
  subst hG
  subst hl
  have loop : ∀ (m j acc : Nat), j + m = 40 → acc + cop c r m j = cop c r 40 0 → V Γ 0 0 4 [(0, .ref E), (1, .int (nI acc)), (2, .int (nI j))] [] h := by
    intro m
    induction m with
    | zero =>
      intro j acc g1 g3
      have ej : j = 40 := by omega
      subst ej
      have e0 : acc = cop c r 40 0 := g3
      refine V.iload_n X dX3_countOpenPairs_4 rfl ?_
      refine V.bipush (v := nI 40) X dX3_countOpenPairs_5 (by decide) ?_
      refine V.icmp_ge 24 X dX3_countOpenPairs_7 (by decide) (fun c7 => ?_) (fun c7 => absurd (by decide) c7)
      refine V.iload_n X dX3_countOpenPairs_24 rfl ?_
      exact V.iret X Y9 dX3_countOpenPairs_25 ⟨by rw [e0], rfl⟩ (Nat.le_of_ble_eq_true rfl) (Nat.le_of_ble_eq_true rfl)
    | succ m ih =>
      intro j acc g1 g3
      unfold cop at g3
      refine V.iload_n X dX3_countOpenPairs_4 rfl ?_
      refine V.bipush (v := nI 40) X dX3_countOpenPairs_5 (by decide) ?_
      refine V.icmp_ge 24 X dX3_countOpenPairs_7 (by decide) (fun c7 => absurd c7 (nI_nle9 (show j < 40 by omega) (by omega))) (fun c7 => ?_)
      refine V.iload_n X dX3_countOpenPairs_10 rfl ?_
      refine V.aload_n X dX3_countOpenPairs_11 rfl ?_
      refine V.iload_n X dX3_countOpenPairs_12 rfl ?_
      refine V.callVi (n := 1) X dX3_countOpenPairs_13 gX3_countOpenPairs_X3_openPairsOf (c_X3_openPairsOf _ _ hX hO hC hr (show j < 40 by omega)) rfl (by decide +kernel) rfl rfl rfl hX.1.1.1 rfl rfl ⟨Nat.le_of_ble_eq_true rfl, Nat.le_of_ble_eq_true rfl⟩ (fun r13 h13 hp13 => ?_)
      obtain ⟨rfl, e9⟩ := hp13; obtain rfl := e9.symm
      refine V.iadd X dX3_countOpenPairs_16 ?_
      rw [nI_add]
      refine V.istore_n X dX3_countOpenPairs_17 [(0, _), (1, _), (2, _)] rfl rfl rfl ?_
      refine V.iinc (v := nI (j + 1)) X dX3_countOpenPairs_18 [(0, _), (1, _), (2, _)] rfl (nI_1 j) rfl rfl rfl ?_
      refine V.goto 4 X dX3_countOpenPairs_21 (by decide) ?_
      exact ih (j + 1) _ (by omega) (by have g4 : acc + (opn c r j + cop c r m (j + 1)) = cop c r 40 0 := g3; omega)
  refine V.iconst (v := nI 0) X dX3_countOpenPairs_0 (by decide) ?_
  refine V.istore_n X dX3_countOpenPairs_1 [(0, _), (1, _)] rfl rfl rfl ?_
  refine V.iconst (v := nI 0) X dX3_countOpenPairs_2 (by decide) ?_
  refine V.istore_n X dX3_countOpenPairs_3 [(0, _), (1, _), (2, _)] rfl rfl rfl ?_
  exact loop 40 0 0 rfl (Nat.zero_add _)
set_option maxHeartbeats 4000000 in
set_option maxRecDepth 100000 in
theorem c_X3_firstOpenSequence (l : Launch) (G : GG) {h : Hp} {E : Nat} {r : Xr} {rs : St} (hX : XlAt h E r rs) {P : Nat → Prop} {o : Nat} {c : Cmp} (hO : Hv h E 0 = .ref o) (hC : CpAt P G h o c) (hr : XOk c r) : Con l G yX3_firstOpenSequence wsX3_firstOpenSequence 2 42 0 0 [.ref E] h (pI (fun y h2 => y = oI (fos c r 40 0) ∧ h2 = h)) := by
  refine Con.of (cc := cX3_firstOpenSequence) (nL := 2) (ret := (some .int)) (by decide) rfl rfl rfl rfl (fun Γ hG hl X Y9 => ?_)
  subst hG
  subst hl
  have hl := hC.len
  have loop : ∀ (m j : Nat), j + m = 40 → fos c r m j = fos c r 40 0 → V Γ 0 0 2 [(0, .ref E), (1, .int (nI j))] [] h := by
    intro m
    induction m with
    | zero =>
      intro j g1 g3
      have ej : j = 40 := by omega
      subst ej
      have e0 : fos c r 40 0 = none := g3.symm
      refine V.iload_n X dX3_firstOpenSequence_2 rfl ?_
      refine V.bipush (v := nI 40) X dX3_firstOpenSequence_3 (by decide) ?_
      refine V.icmp_ge 24 X dX3_firstOpenSequence_5 (by decide) (fun c5 => ?_) (fun c5 => absurd (by decide) c5)
      refine V.sipush (v := -1000) X dX3_firstOpenSequence_24 (by decide) ?_
      exact V.iret X Y9 dX3_firstOpenSequence_27 ⟨by rw [e0]; rfl, rfl⟩ (Nat.le_of_ble_eq_true rfl) (Nat.le_of_ble_eq_true rfl)
    | succ m ih =>
      intro j g1 g3
      unfold fos at g3
      have ho : opn c r j ≤ c.2.2.length := opn_le
      refine V.iload_n X dX3_firstOpenSequence_2 rfl ?_
      refine V.bipush (v := nI 40) X dX3_firstOpenSequence_3 (by decide) ?_
      refine V.icmp_ge 24 X dX3_firstOpenSequence_5 (by decide) (fun c5 => absurd c5 (nI_nle9 (show j < 40 by omega) (by omega))) (fun c5 => ?_)
      refine V.aload_n X dX3_firstOpenSequence_8 rfl ?_
      refine V.iload_n X dX3_firstOpenSequence_9 rfl ?_
      refine V.callVi (n := 1) X dX3_firstOpenSequence_10 gX3_firstOpenSequence_X3_openPairsOf (c_X3_openPairsOf _ _ hX hO hC hr (show j < 40 by omega)) rfl (by decide +kernel) rfl rfl rfl hX.1.1.1 rfl rfl ⟨Nat.le_of_ble_eq_true rfl, Nat.le_of_ble_eq_true rfl⟩ (fun r10 h10 hp10 => ?_)
      obtain ⟨rfl, e9⟩ := hp10; obtain rfl := e9.symm
      refine V.if_le 18 X dX3_firstOpenSequence_13 (by decide) (fun c13 => ?_) (fun c13 => ?_)
      · have hz : ¬ 0 < opn c r j := fun z => absurd c13 (nI_nle z (by omega))
        rw [if_neg hz] at g3
        refine V.iinc (v := nI (j + 1)) X dX3_firstOpenSequence_18 [(0, _), (1, _)] rfl (nI_1 j) rfl rfl rfl ?_
        refine V.goto 2 X dX3_firstOpenSequence_21 (by decide) ?_
        exact ih (j + 1) (by omega) g3
      · have hz : 0 < opn c r j := by
          rcases Nat.eq_zero_or_pos (opn c r j) with z | z
          · rw [z] at c13; exact absurd (by decide) c13
          · exact z
        rw [if_pos hz] at g3
        have e0 : fos c r 40 0 = some j := g3.symm
        refine V.iload_n X dX3_firstOpenSequence_16 rfl ?_
        exact V.iret X Y9 dX3_firstOpenSequence_17 ⟨by rw [e0]; rfl, rfl⟩ (Nat.le_of_ble_eq_true rfl) (Nat.le_of_ble_eq_true rfl)
  refine V.iconst (v := nI 0) X dX3_firstOpenSequence_0 (by decide) ?_
  refine V.istore_n X dX3_firstOpenSequence_1 [(0, _), (1, _)] rfl rfl rfl ?_
  exact loop 40 0 rfl rfl
theorem fX3_sequenceWithState_30 : FL wsX3_sequenceWithState RX3 30 5 3 (.array (.object "ContractTester$State")) true := ⟨_, rfl, by decide, Or.inl ⟨"ContractTester$Exploration", by decide +kernel, Or.inl rfl⟩, by decide +kernel, by decide +kernel, rfl⟩
set_option maxHeartbeats 4000000 in
set_option maxRecDepth 100000 in
theorem c_X3_sequenceWithState (l : Launch) (G : GG) {h : Hp} {E : Nat} {r : Xr} {rs : St} (hX : XlAt h E r rs) {t : St} (hpc : xpc r ≤ 40) : Con l G yX3_sequenceWithState wsX3_sequenceWithState 1 23 0 0 [.ref E, .int t.1, .int t.2.1, .int t.2.2] h (pI (fun y h2 => y = oI (sws r t 40 0) ∧ h2 = h)) := by
  refine Con.of (cc := cX3_sequenceWithState) (nL := 5) (ret := (some .int)) (by decide) rfl rfl rfl rfl (fun Γ hG hl X Y9 => ?_)
  subst hG
  subst hl
  obtain ⟨⟨a0, a1, a2⟩, n, pq, -⟩ := id hX
  have loop : ∀ (m j : Nat), j + m = 40 → sws r t m j = sws r t 40 0 → V Γ 0 0 3 [(0, .ref E), (1, .int t.1), (2, .int t.2.1), (3, .int t.2.2), (4, .int (nI j))] [] h := by
    intro m
    induction m with
    | zero =>
      intro j g1 g3
      have ej : j = 40 := by omega
      subst ej
      have e0 : sws r t 40 0 = none := g3.symm
      refine V.iload X dX3_sequenceWithState_3 rfl ?_
      refine V.bipush (v := nI 40) X dX3_sequenceWithState_5 (by decide) ?_
      refine V.icmp_ge 44 X dX3_sequenceWithState_7 (by decide) (fun c7 => ?_) (fun c7 => absurd (by decide) c7)
      refine V.sipush (v := -1000) X dX3_sequenceWithState_44 (by decide) ?_
      exact V.iret X Y9 dX3_sequenceWithState_47 ⟨by rw [e0]; rfl, rfl⟩ (Nat.le_of_ble_eq_true rfl) (Nat.le_of_ble_eq_true rfl)
    | succ m ih =>
      intro j g1 g3
      unfold sws at g3
      obtain ⟨q1, q2, q3⟩ := pq j (by omega)
      refine V.iload X dX3_sequenceWithState_3 rfl ?_
      refine V.bipush (v := nI 40) X dX3_sequenceWithState_5 (by decide) ?_
      refine V.icmp_ge 44 X dX3_sequenceWithState_7 (by decide) (fun c7 => absurd c7 (nI_nle9 (show j < 40 by omega) (by omega))) (fun c7 => ?_)
      refine V.aload_n X dX3_sequenceWithState_10 rfl ?_
      refine V.iload X dX3_sequenceWithState_11 rfl ?_
      refine V.callVi (n := 1) X dX3_sequenceWithState_13 gX3_sequenceWithState_X3_hasSequence (c_X3_hasSequence _ _ hX hpc) rfl (by decide +kernel) rfl rfl rfl a0.1 rfl rfl ⟨Nat.le_of_ble_eq_true rfl, Nat.le_of_ble_eq_true rfl⟩ (fun r13 h13 hp13 => ?_)
      obtain ⟨rfl, e9⟩ := hp13; obtain rfl := e9.symm
      rw [isIx_nI (by omega)]
      refine V.if_eq 38 X dX3_sequenceWithState_16 (by decide) (fun c16 => ?_) (fun c16 => ?_)
      · have hi : ¬ j < xpc r := by
          have := bI_eq c16
          simpa using this
        rw [if_neg (fun z => hi z.1)] at g3
        refine V.iinc (v := nI (j + 1)) X dX3_sequenceWithState_38 [(0, _), (1, _), (2, _), (3, _), (4, _)] rfl (nI_1 j) rfl rfl rfl ?_
        refine V.goto 3 X dX3_sequenceWithState_41 (by decide) ?_
        exact ih (j + 1) (by omega) g3
      · have hi : j < xpc r := by
          have := bI_ne c16
          simpa using this
        refine V.aload_n X dX3_sequenceWithState_19 rfl ?_
        refine V.getf  X fX3_sequenceWithState_30 dX3_sequenceWithState_20 a0.1 a0.2.2.1 ?_
        refine V.iload X dX3_sequenceWithState_23 rfl ?_
        refine V.aald (j := _)  X dX3_sequenceWithState_25 a1.2.1 rfl rfl (by omega) (by omega) (a2.1 j (by omega)).2 ?_
        refine V.iload_n X dX3_sequenceWithState_26 rfl ?_
        refine V.iload_n X dX3_sequenceWithState_27 rfl ?_
        refine V.iload_n X dX3_sequenceWithState_28 rfl ?_
        refine V.callVi (n := 3) X dX3_sequenceWithState_29 gX3_sequenceWithState_X10_hasValues (c_X10_hasValues _ _ (t := t) q2) rfl (by decide +kernel) rfl rfl rfl q2.1 rfl rfl ⟨Nat.le_of_ble_eq_true rfl, Nat.le_of_ble_eq_true rfl⟩ (fun r29 h29 hp29 => ?_)
        obtain ⟨rfl, e9⟩ := hp29; obtain rfl := e9.symm
        refine V.if_eq 38 X dX3_sequenceWithState_32 (by decide) (fun c32 => ?_) (fun c32 => ?_)
        · have hs : ¬ xss r j = t := by
            have := bI_eq c32
            simpa using this
          rw [if_neg (fun z => hs z.2)] at g3
          refine V.iinc (v := nI (j + 1)) X dX3_sequenceWithState_38 [(0, _), (1, _), (2, _), (3, _), (4, _)] rfl (nI_1 j) rfl rfl rfl ?_
          refine V.goto 3 X dX3_sequenceWithState_41 (by decide) ?_
          exact ih (j + 1) (by omega) g3
        · have hs : xss r j = t := by
            have := bI_ne c32
            simpa using this
          rw [if_pos ⟨hi, hs⟩] at g3
          have e0 : sws r t 40 0 = some j := g3.symm
          refine V.iload X dX3_sequenceWithState_35 rfl ?_
          exact V.iret X Y9 dX3_sequenceWithState_37 ⟨by rw [e0]; rfl, rfl⟩ (Nat.le_of_ble_eq_true rfl) (Nat.le_of_ble_eq_true rfl)
  refine V.iconst (v := nI 0) X dX3_sequenceWithState_0 (by decide) ?_
  refine V.istore X dX3_sequenceWithState_1 [(0, _), (1, _), (2, _), (3, _), (4, _)] rfl rfl rfl ?_
  exact loop 40 0 rfl rfl
theorem fX3_hasProcessedPair_34 : FL wsX3_hasProcessedPair RX3 34 5 4 (.array .int) true := ⟨_, rfl, by decide, Or.inl ⟨"ContractTester$Exploration", by decide +kernel, Or.inl rfl⟩, by decide +kernel, by decide +kernel, rfl⟩
set_option maxHeartbeats 4000000 in
set_option maxRecDepth 100000 in
theorem c_X3_hasProcessedPair (l : Launch) (G : GG) {h : Hp} {E : Nat} {r : Xr} {rs : St} (hX : XlAt h E r rs) {N : Nat} (hN : N < 1000) (hpc : xpc r ≤ 40) (hpr : ∀ i, i < xpc r → xpr r i ≤ N) : Con l G yX3_hasProcessedPair wsX3_hasProcessedPair 1 21 0 0 [.ref E] h (pI (fun y h2 => y = bI (hpp r 40 0) ∧ h2 = h)) := by
  refine Con.of (cc := cX3_hasProcessedPair) (nL := 2) (ret := (some .boolean)) (by decide) rfl rfl rfl rfl (fun Γ hG hl X Y9 => ?_)
  subst hG
  subst hl
  obtain ⟨⟨a0, a1, a2⟩, n, pq, -⟩ := id hX
  have loop : ∀ (m j : Nat), j + m = 40 → hpp r m j = hpp r 40 0 → V Γ 0 0 2 [(0, .ref E), (1, .int (nI j))] [] h := by
    intro m
    induction m with
    | zero =>
      intro j g1 g3
      have ej : j = 40 := by omega
      subst ej
      have e0 : hpp r 40 0 = false := g3.symm
      refine V.iload_n X dX3_hasProcessedPair_2 rfl ?_
      refine V.bipush (v := nI 40) X dX3_hasProcessedPair_3 (by decide) ?_
      refine V.icmp_ge 33 X dX3_hasProcessedPair_5 (by decide) (fun c5 => ?_) (fun c5 => absurd (by decide) c5)
      refine V.iconst (v := nI 0) X dX3_hasProcessedPair_33 (by decide) ?_
      exact V.bret X Y9 dX3_hasProcessedPair_34 (hpp r 40 0) (by rw [e0]; rfl) ⟨rfl, rfl⟩ (Nat.le_of_ble_eq_true rfl) (Nat.le_of_ble_eq_true rfl)
    | succ m ih =>
      intro j g1 g3
      unfold hpp at g3
      obtain ⟨q1, q2, q3⟩ := pq j (by omega)
      refine V.iload_n X dX3_hasProcessedPair_2 rfl ?_
      refine V.bipush (v := nI 40) X dX3_hasProcessedPair_3 (by decide) ?_
      refine V.icmp_ge 33 X dX3_hasProcessedPair_5 (by decide) (fun c5 => absurd c5 (nI_nle9 (show j < 40 by omega) (by omega))) (fun c5 => ?_)
      refine V.aload_n X dX3_hasProcessedPair_8 rfl ?_
      refine V.iload_n X dX3_hasProcessedPair_9 rfl ?_
      refine V.callVi (n := 1) X dX3_hasProcessedPair_10 gX3_hasProcessedPair_X3_hasSequence (c_X3_hasSequence _ _ hX hpc) rfl (by decide +kernel) rfl rfl rfl a0.1 rfl rfl ⟨Nat.le_of_ble_eq_true rfl, Nat.le_of_ble_eq_true rfl⟩ (fun r10 h10 hp10 => ?_)
      obtain ⟨rfl, e9⟩ := hp10; obtain rfl := e9.symm
      rw [isIx_nI (by omega)]
      refine V.if_eq 27 X dX3_hasProcessedPair_13 (by decide) (fun c13 => ?_) (fun c13 => ?_)
      · have hi : ¬ j < xpc r := by
          have := bI_eq c13
          simpa using this
        rw [if_neg (fun z => hi z.1)] at g3
        refine V.iinc (v := nI (j + 1)) X dX3_hasProcessedPair_27 [(0, _), (1, _)] rfl (nI_1 j) rfl rfl rfl ?_
        refine V.goto 2 X dX3_hasProcessedPair_30 (by decide) ?_
        exact ih (j + 1) (by omega) g3
      · have hi : j < xpc r := by
          have := bI_ne c13
          simpa using this
        have hj := hpr j hi
        refine V.aload_n X dX3_hasProcessedPair_16 rfl ?_
        refine V.getf  X fX3_hasProcessedPair_34 dX3_hasProcessedPair_17 a0.1 a0.2.2.2.1 ?_
        refine V.iload_n X dX3_hasProcessedPair_20 rfl ?_
        refine V.iald (j := _)  X dX3_hasProcessedPair_21 a1.2.2.1 rfl (by omega) (by omega) q3 ?_
        refine V.if_le 27 X dX3_hasProcessedPair_22 (by decide) (fun c22 => ?_) (fun c22 => ?_)
        · have hz : ¬ 0 < xpr r j := fun z => absurd c22 (nI_nle z (by omega))
          rw [if_neg (fun z => hz z.2)] at g3
          refine V.iinc (v := nI (j + 1)) X dX3_hasProcessedPair_27 [(0, _), (1, _)] rfl (nI_1 j) rfl rfl rfl ?_
          refine V.goto 2 X dX3_hasProcessedPair_30 (by decide) ?_
          exact ih (j + 1) (by omega) g3
        · have hz : 0 < xpr r j := by
            rcases Nat.eq_zero_or_pos (xpr r j) with z | z
            · rw [z] at c22; exact absurd (by decide) c22
            · exact z
          rw [if_pos ⟨hi, hz⟩] at g3
          have e0 : hpp r 40 0 = true := g3.symm
          refine V.iconst (v := nI 1) X dX3_hasProcessedPair_25 (by decide) ?_
          exact V.bret X Y9 dX3_hasProcessedPair_26 (hpp r 40 0) (by rw [e0]; rfl) ⟨rfl, rfl⟩ (Nat.le_of_ble_eq_true rfl) (Nat.le_of_ble_eq_true rfl)
  refine V.iconst (v := nI 0) X dX3_hasProcessedPair_0 (by decide) ?_
  refine V.istore_n X dX3_hasProcessedPair_1 [(0, _), (1, _)] rfl rfl rfl ?_
  exact loop 40 0 rfl rfl
