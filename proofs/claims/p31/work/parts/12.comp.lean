theorem fX1_hasMethod_25 : FL wsX1_hasMethod RX1 25 3 2 (.object "java/util/ArrayList") true := ⟨_, rfl, by decide, Or.inl ⟨"ContractTester$Component", by decide +kernel, Or.inl rfl⟩, by decide +kernel, by decide +kernel, rfl⟩
set_option maxHeartbeats 4000000 in
set_option maxRecDepth 100000 in
theorem c_X1_hasMethod (l : Launch) (G : GG) {P : Nat → Prop} {h : Hp} {o : Nat} {c : Cmp} {x : Int32} (hC : CpAt P G h o c) : Con l G yX1_hasMethod wsX1_hasMethod 1 20 0 0 [.ref o, .int x] h (pI (fun r h2 => r = bI (isIx x c.2.2.length) ∧ h2 = h)) := by
  refine Con.of (cc := cX1_hasMethod) (nL := 2) (ret := (some .boolean)) (by decide) rfl rfl rfl rfl (fun Γ hG hl X Y9 => ?_)
  subst hG
  subst hl
  have hlen := hC.len
  obtain ⟨xx, y, z, hp, hx, k0, k1, k2, k3, k4, k5, p6, es, l6, e6, m6⟩ := id hC
  refine V.iload_n X dX1_hasMethod_0 rfl ?_
  refine V.if_lt 19 X dX1_hasMethod_1 (by decide) (fun c1 => ?_) (fun c1 => ?_)
  · have e0 := isIx_neg (n := c.2.2.length) c1
    refine V.iconst (v := nI 0) X dX1_hasMethod_19 (by decide) ?_
    exact V.bret X Y9 dX1_hasMethod_20 (isIx x c.2.2.length) (by rw [e0]; rfl) ⟨rfl, rfl⟩ (Nat.le_of_ble_eq_true rfl) (Nat.le_of_ble_eq_true rfl)
  · refine V.iload_n X dX1_hasMethod_4 rfl ?_
    refine V.aload_n X dX1_hasMethod_5 rfl ?_
    refine V.getf  X fX1_hasMethod_25 dX1_hasMethod_6 (by assumption) (by assumption) ?_
    refine V.callVi (n := 0) X dX1_hasMethod_9 gX1_hasMethod_Jx4a65c_size_8abf5 (c_Jx4a65c_size_8abf5 _ _ l6) rfl (by decide +kernel) rfl rfl rfl l6.1 rfl rfl ⟨Nat.le_of_ble_eq_true rfl, Nat.le_of_ble_eq_true rfl⟩ (fun r9 h9 hp9 => ?_)
    obtain ⟨rfl, e9⟩ := hp9; obtain rfl := e9.symm
    rw [e6]
    refine V.icmp_ge 19 X dX1_hasMethod_12 (by decide) (fun c12 => ?_) (fun c12 => ?_)
    · have e0 := isIx_big (show c.2.2.length < 2 ^ 31 by omega) c12
      refine V.iconst (v := nI 0) X dX1_hasMethod_19 (by decide) ?_
      exact V.bret X Y9 dX1_hasMethod_20 (isIx x c.2.2.length) (by rw [e0]; rfl) ⟨rfl, rfl⟩ (Nat.le_of_ble_eq_true rfl) (Nat.le_of_ble_eq_true rfl)
    · have e0 : isIx x c.2.2.length = true := by
        obtain ⟨j, hj, rfl⟩ := isIx_t c1 c12 (by omega)
        rw [isIx_nI (by omega)]; simp [hj]
      refine V.iconst (v := nI 1) X dX1_hasMethod_15 (by decide) ?_
      refine V.goto 20 X dX1_hasMethod_16 (by decide) ?_
      exact V.bret X Y9 dX1_hasMethod_20 (isIx x c.2.2.length) (by rw [e0]; rfl) ⟨rfl, rfl⟩ (Nat.le_of_ble_eq_true rfl) (Nat.le_of_ble_eq_true rfl)
set_option maxHeartbeats 4000000 in
set_option maxRecDepth 100000 in
theorem c_X1_allHold (l : Launch) (G : GG) {P : Nat → Prop} {h : Hp} {l0 a b : Nat} {cs : List Cnd} {s t : St} (hL : LstAt P G h (CnAt P h) l0 cs) (hB : StAt h b s) (hA : StAt h a t) : Con l G yX1_allHold wsX1_allHold 3 64 0 0 [.ref l0, .ref b, .ref a] h (pI (fun r h2 => r = bI (allC cs s t) ∧ h2 = h)) := by
  refine Con.of (cc := cX1_allHold) (nL := 4) (ret := (some .boolean)) (by decide) rfl rfl rfl rfl (fun Γ hG hl X Y9 => ?_)
  subst hG
  subst hl
  obtain ⟨p6, es, l6, e6, m6⟩ := hL
  have hlen := l6.len
  have loop : ∀ (n j : Nat), j ≤ cs.length → cs.length - j < n → allC (cs.drop j) s t = allC cs s t → V Γ 0 0 2 [(0, .ref l0), (1, .ref b), (2, .ref a), (3, .int (nI j))] [] h := by
    intro n
    induction n with
    | zero => intro j g1 g2; omega
    | succ n ih =>
      intro j g1 g2 g3
      refine V.iload_n X dX1_allHold_2 rfl ?_
      refine V.aload_n X dX1_allHold_3 rfl ?_
      refine V.callVi (n := 0) X dX1_allHold_4 gX1_allHold_Jx4a65c_size_8abf5 (c_Jx4a65c_size_8abf5 _ _ l6) rfl (by decide +kernel) rfl rfl rfl l6.1 rfl rfl ⟨Nat.le_of_ble_eq_true rfl, Nat.le_of_ble_eq_true rfl⟩ (fun r4 h4 hp4 => ?_)
      obtain ⟨rfl, e9⟩ := hp4; obtain rfl := e9.symm
      rw [e6]
      refine V.icmp_ge 34 X dX1_allHold_7 (by decide) (fun c7 => ?_) (fun c7 => ?_)
      · have hj : j = cs.length := by have := (nI_leI (by omega) (by omega)).mp c7; omega
        subst hj
        rw [List.drop_length] at g3
        have e0 : allC cs s t = true := g3.symm
        refine V.iconst (v := nI 1) X dX1_allHold_34 (by decide) ?_
        exact V.bret X Y9 dX1_allHold_35 (allC cs s t) (by rw [e0]; rfl) ⟨rfl, rfl⟩ (Nat.le_of_ble_eq_true rfl) (Nat.le_of_ble_eq_true rfl)
      · have hj : j < cs.length := by
          rw [nI_leI (by omega) (by omega)] at c7
          omega
        obtain ⟨q, hq⟩ := get_some hj
        have hc := m6 j q hq
        refine V.aload_n X dX1_allHold_10 rfl ?_
        refine V.iload_n X dX1_allHold_11 rfl ?_
        refine V.callVr (n := 1) X dX1_allHold_12 gX1_allHold_Jx4a65c_get_915e3 (c_Jx4a65c_get_915e3 _ _ l6 (show j < es.length by omega)) rfl (by decide +kernel) rfl rfl rfl l6.1 rfl rfl ⟨Nat.le_of_ble_eq_true rfl, Nat.le_of_ble_eq_true rfl⟩ (fun r12 h12 hp12 => ?_)
        obtain ⟨-, rfl, e9⟩ := hp12; obtain rfl := e9.symm
        refine V.cast (ci := 4) X dX1_allHold_15 (by decide +kernel) hc.k rfl ?_
        refine V.aload_n X dX1_allHold_18 rfl ?_
        refine V.aload_n X dX1_allHold_19 rfl ?_
        refine V.callVi (n := 2) X dX1_allHold_20 gX1_allHold_X2_holds (c_X2_holds _ _ hc hB hA) rfl (by decide +kernel) rfl rfl rfl hc.k rfl rfl ⟨Nat.le_of_ble_eq_true rfl, Nat.le_of_ble_eq_true rfl⟩ (fun r20 h20 hp20 => ?_)
        obtain ⟨rfl, e9⟩ := hp20; obtain rfl := e9.symm
        refine V.if_ne 28 X dX1_allHold_23 (by decide) (fun c23 => ?_) (fun c23 => ?_)
        · refine V.iinc (v := nI (j + 1)) X dX1_allHold_28 [(0, _), (1, _), (2, _), (3, _)] rfl (nI_1 j) rfl rfl rfl ?_
          refine V.goto 2 X dX1_allHold_31 (by decide) ?_
          exact ih (j + 1) (by omega) (by omega) (by rw [allC_drop hq, bI_ne c23, Bool.true_and] at g3; exact g3)
        · have e1 := bI_eq (b := chk q s t) (by simpa using c23)
          have e0 : allC cs s t = false := by rw [← g3, allC_drop hq, e1, Bool.false_and]
          refine V.iconst (v := nI 0) X dX1_allHold_26 (by decide) ?_
          exact V.bret X Y9 dX1_allHold_27 (allC cs s t) (by rw [e0]; rfl) ⟨rfl, rfl⟩ (Nat.le_of_ble_eq_true rfl) (Nat.le_of_ble_eq_true rfl)
  refine V.iconst (v := nI 0) X dX1_allHold_0 (by decide) ?_
  refine V.istore_n X dX1_allHold_1 [(0, _), (1, _), (2, _), (3, _)] rfl rfl rfl ?_
  exact loop (cs.length + 1) 0 (Nat.zero_le _) (by omega) rfl
theorem fX1_isEnabled_25 : FL wsX1_isEnabled RX1 25 3 2 (.object "java/util/ArrayList") true := ⟨_, rfl, by decide, Or.inl ⟨"ContractTester$Component", by decide +kernel, Or.inl rfl⟩, by decide +kernel, by decide +kernel, rfl⟩
theorem fX1_isEnabled_61 : FL wsX1_isEnabled RX1 61 8 0 (.object "java/util/ArrayList") true := ⟨_, rfl, by decide, Or.inr ⟨"ContractTester", by decide +kernel⟩, by decide +kernel, by decide +kernel, rfl⟩
set_option maxHeartbeats 4000000 in
set_option maxRecDepth 100000 in
theorem c_X1_isEnabled (l : Launch) (G : GG) {P : Nat → Prop} {h : Hp} {o b m : Nat} {c : Cmp} {s : St} {q : Mth} (hC : CpAt P G h o c) (hB : StAt h b s) (hq : c.2.2[m]? = some q) : Con l G yX1_isEnabled wsX1_isEnabled 4 87 0 0 [.ref o, .int (nI m), .ref b] h (pI (fun r h2 => r = bI (allC q.1 s s) ∧ h2 = h)) := by
  refine Con.of (cc := cX1_isEnabled) (nL := 3) (ret := (some .boolean)) (by decide) rfl rfl rfl rfl (fun Γ hG hl X Y9 => ?_)
  subst hG
  subst hl
  have hlen := hC.len
  obtain ⟨xx, y, z, hp, hx, k0, k1, k2, k3, k4, k5, p6, es, l6, e6, m6⟩ := id hC
  have hM := m6 m q hq
  have hmn : m < c.2.2.length := (List.getElem?_eq_some_iff.mp hq).1
  obtain ⟨mx, my, mz, n0, n1, n2, n3, n4, n5, n6, n7⟩ := id hM
  refine V.aload_n X dX1_isEnabled_0 rfl ?_
  refine V.iload_n X dX1_isEnabled_1 rfl ?_
  refine V.callVi (n := 1) X dX1_isEnabled_2 gX1_isEnabled_X1_hasMethod (c_X1_hasMethod _ _ hC) rfl (by decide +kernel) rfl rfl rfl k0 rfl rfl ⟨Nat.le_of_ble_eq_true rfl, Nat.le_of_ble_eq_true rfl⟩ (fun r2 h2 hp2 => ?_)
  obtain ⟨rfl, e9⟩ := hp2; obtain rfl := e9.symm
  rw [isIx_nI (show m < 2 ^ 31 by omega)]
  rw [show decide (m < c.2.2.length) = true by simp [hmn]]
  refine V.if_eq 34 X dX1_isEnabled_5 (by decide) (fun c5 => absurd c5 (by decide)) (fun c5 => ?_)
  refine V.aload_n X dX1_isEnabled_8 rfl ?_
  refine V.getf  X fX1_isEnabled_25 dX1_isEnabled_9 (by assumption) (by assumption) ?_
  refine V.iload_n X dX1_isEnabled_12 rfl ?_
  refine V.callVr (n := 1) X dX1_isEnabled_13 gX1_isEnabled_Jx4a65c_get_915e3 (c_Jx4a65c_get_915e3 _ _ l6 (show m < es.length by omega)) rfl (by decide +kernel) rfl rfl rfl l6.1 rfl rfl ⟨Nat.le_of_ble_eq_true rfl, Nat.le_of_ble_eq_true rfl⟩ (fun r13 h13 hp13 => ?_)
  obtain ⟨-, rfl, e9⟩ := hp13; obtain rfl := e9.symm
  refine V.cast (ci := 8) X dX1_isEnabled_16 (by decide +kernel) hM.k rfl ?_
  refine V.getf  X fX1_isEnabled_61 dX1_isEnabled_19 (by assumption) (by assumption) ?_
  refine V.aload_n X dX1_isEnabled_22 rfl ?_
  refine V.aload_n X dX1_isEnabled_23 rfl ?_
  refine V.callSi (n := 3) X dX1_isEnabled_24 gX1_isEnabled_X1_allHold (c_X1_allHold _ _ n5 hB hB) rfl (by decide +kernel) rfl rfl rfl ⟨Nat.le_of_ble_eq_true rfl, Nat.le_of_ble_eq_true rfl⟩ (fun r24 h24 hp24 => ?_)
  obtain ⟨rfl, e9⟩ := hp24; obtain rfl := e9.symm
  refine V.if_eq 34 X dX1_isEnabled_27 (by decide) (fun c27 => ?_) (fun c27 => ?_)
  · have e0 := bI_eq c27
    refine V.iconst (v := nI 0) X dX1_isEnabled_34 (by decide) ?_
    exact V.bret X Y9 dX1_isEnabled_35 (allC q.1 s s) (by rw [e0]; rfl) ⟨rfl, rfl⟩ (Nat.le_of_ble_eq_true rfl) (Nat.le_of_ble_eq_true rfl)
  · have e0 := bI_ne c27
    refine V.iconst (v := nI 1) X dX1_isEnabled_30 (by decide) ?_
    refine V.goto 35 X dX1_isEnabled_31 (by decide) ?_
    exact V.bret X Y9 dX1_isEnabled_35 (allC q.1 s s) (by rw [e0]; rfl) ⟨rfl, rfl⟩ (Nat.le_of_ble_eq_true rfl) (Nat.le_of_ble_eq_true rfl)
theorem fX1_verdictOfCall_25 : FL wsX1_verdictOfCall RX1 25 3 2 (.object "java/util/ArrayList") true := ⟨_, rfl, by decide, Or.inl ⟨"ContractTester$Component", by decide +kernel, Or.inl rfl⟩, by decide +kernel, by decide +kernel, rfl⟩
theorem fX1_verdictOfCall_61 : FL wsX1_verdictOfCall RX1 61 8 0 (.object "java/util/ArrayList") true := ⟨_, rfl, by decide, Or.inr ⟨"ContractTester", by decide +kernel⟩, by decide +kernel, by decide +kernel, rfl⟩
theorem fX1_verdictOfCall_68 : FL wsX1_verdictOfCall RX1 68 8 1 (.object "java/util/ArrayList") true := ⟨_, rfl, by decide, Or.inr ⟨"ContractTester", by decide +kernel⟩, by decide +kernel, by decide +kernel, rfl⟩
theorem fX1_verdictOfCall_81 : FL wsX1_verdictOfCall RX1 81 8 2 (.object "java/util/ArrayList") true := ⟨_, rfl, by decide, Or.inr ⟨"ContractTester", by decide +kernel⟩, by decide +kernel, by decide +kernel, rfl⟩
theorem fX1_verdictOfCall_21 : FL wsX1_verdictOfCall RX1 21 3 1 (.object "java/util/ArrayList") true := ⟨_, rfl, by decide, Or.inl ⟨"ContractTester$Component", by decide +kernel, Or.inl rfl⟩, by decide +kernel, by decide +kernel, rfl⟩
theorem fX1_verdictOfCall_77 : FL wsX1_verdictOfCall RX1 77 2 0 .int true := ⟨_, rfl, by decide, Or.inr ⟨"ContractTester", by decide +kernel⟩, by decide +kernel, by decide +kernel, rfl⟩
set_option maxHeartbeats 4000000 in
set_option maxRecDepth 100000 in
theorem c_X1_verdictOfCall (l : Launch) (G : GG) {P : Nat → Prop} {h : Hp} {o a b m : Nat} {c : Cmp} {s s0 : St} (hC : CpAt P G h o c) (hB : StAt h b s) (hA : StAt h a s0) (hPa : ¬ P a) (hab : ¬ b = a) (hm : m < 2 ^ 31) : Con l G yX1_verdictOfCall wsX1_verdictOfCall 4 87 0 0 [.ref o, .int (nI m), .ref b, .ref a] h (pI (fun r h2 => r = nI (verd c m s) ∧ Fr (fun q => q = a) h h2 ∧ ∃ s', StAt h2 a s' ∧ (verd c m s = 0 → s' = nxt c m s))) := by
  refine Con.of (cc := cX1_verdictOfCall) (nL := 8) (ret := (some .int)) (by decide) rfl rfl rfl rfl (fun Γ hG hl X Y9 => ?_)
  subst hG
  subst hl
  refine V.wf (fun w => ?_)
  have hlen := hC.len
  obtain ⟨xx, y, z, hp, hx, k0, k1, k2, k3, k4, k5, p6, es, l6, e6, m6⟩ := id hC
  refine V.aload_n X dX1_verdictOfCall_0 rfl ?_
  refine V.iload_n X dX1_verdictOfCall_1 rfl ?_
  refine V.callVi (n := 1) X dX1_verdictOfCall_2 gX1_verdictOfCall_X1_hasMethod (c_X1_hasMethod _ _ hC) rfl (by decide +kernel) rfl rfl rfl k0 rfl rfl ⟨Nat.le_of_ble_eq_true rfl, Nat.le_of_ble_eq_true rfl⟩ (fun r2 h2 hp2 => ?_)
  obtain ⟨rfl, e9⟩ := hp2; obtain rfl := e9.symm
  rw [isIx_nI hm]
  refine V.if_ne 10 X dX1_verdictOfCall_5 (by decide) (fun c5 => ?_) (fun c5 => ?_)
  · have hmn : m < c.2.2.length := by simpa using bI_ne c5
    obtain ⟨q, hq⟩ := get_some hmn
    have hM := m6 m q hq
    obtain ⟨mx, my, mz, n0, n1, n2, n3, n4, n5, n6, n7⟩ := id hM
    have en := nxt_q (s := s) hq
    refine V.aload_n X dX1_verdictOfCall_10 rfl ?_
    refine V.getf  X fX1_verdictOfCall_25 dX1_verdictOfCall_11 (by assumption) (by assumption) ?_
    refine V.iload_n X dX1_verdictOfCall_14 rfl ?_
    refine V.callVr (n := 1) X dX1_verdictOfCall_15 gX1_verdictOfCall_Jx4a65c_get_915e3 (c_Jx4a65c_get_915e3 _ _ l6 (show m < es.length by omega)) rfl (by decide +kernel) rfl rfl rfl l6.1 rfl rfl ⟨Nat.le_of_ble_eq_true rfl, Nat.le_of_ble_eq_true rfl⟩ (fun r15 h15 hp15 => ?_)
    obtain ⟨-, rfl, e9⟩ := hp15; obtain rfl := e9.symm
    refine V.cast (ci := 8) X dX1_verdictOfCall_18 (by decide +kernel) hM.k rfl ?_
    refine V.astore X dX1_verdictOfCall_21 [(0, _), (1, _), (2, _), (3, _), (4, _)] rfl rfl rfl ?_
    refine V.aload X dX1_verdictOfCall_23 rfl ?_
    refine V.getf  X fX1_verdictOfCall_61 dX1_verdictOfCall_25 (by assumption) (by assumption) ?_
    refine V.aload_n X dX1_verdictOfCall_28 rfl ?_
    refine V.aload_n X dX1_verdictOfCall_29 rfl ?_
    refine V.callSi (n := 3) X dX1_verdictOfCall_30 gX1_verdictOfCall_X1_allHold (c_X1_allHold _ _ n5 hB hB) rfl (by decide +kernel) rfl rfl rfl ⟨Nat.le_of_ble_eq_true rfl, Nat.le_of_ble_eq_true rfl⟩ (fun r30 h30 hp30 => ?_)
    obtain ⟨rfl, e9⟩ := hp30; obtain rfl := e9.symm
    refine V.if_ne 38 X dX1_verdictOfCall_33 (by decide) (fun c33 => ?_) (fun c33 => ?_)
    · have e0 := bI_ne c33
      refine V.aload_n X dX1_verdictOfCall_38 rfl ?_
      refine V.aload_n X dX1_verdictOfCall_39 rfl ?_
      refine V.callVv (n := 1) X dX1_verdictOfCall_40 gX1_verdictOfCall_X10_copyFrom (c_X10_copyFrom _ _ hA hB) rfl (by decide +kernel) rfl rfl rfl hA.1 rfl rfl ⟨Nat.le_of_ble_eq_true rfl, Nat.le_of_ble_eq_true rfl⟩ (fun h40 hp40 => ?_)
      have f40 : Fr (fun q => q = a) h h40 := by rw [hp40]; exact ((Fr.put (S := fun q => q = a) (Or.inl rfl)).thenPut (Or.inl rfl)).thenPut (Or.inl rfl)
      have a40 : StAt h40 a s := by rw [hp40]; exact ⟨hA.1, by simp [Hv_put], by simp [Hv_put], by simp [Hv_put]⟩
      refine V.iconst (v := nI 0) X dX1_verdictOfCall_43 (by decide) ?_
      refine V.istore X dX1_verdictOfCall_44 [(0, _), (1, _), (2, _), (3, _), (4, _), (5, _)] rfl rfl rfl ?_
      have loop : ∀ (n j : Nat) (t : St) (h1 : Hp), j ≤ q.2.1.length → q.2.1.length - j < n → runA (q.2.1.drop j) t = runA q.2.1 s → Fr (fun q => q = a) h h1 → StAt h1 a t → V Γ 0 0 46 [(0, .ref o), (1, .int (nI m)), (2, .ref b), (3, .ref a), (4, .ref (es.getD m 0)), (5, .int (nI j))] [] h1 := by
        intro n
        induction n with
        | zero => intro j t h1 g1 g2; omega
        | succ n ih =>
          intro j t h1 g1 g2 g3 pF pA
          have u : Un P h h1 := pF.un w (fun q hq e => hPa (by rw [← e]; exact hq))
          have bB := hB.kept w pF hab
          obtain ⟨ux, uy, uz, v0, v1, v2, v3, v4, v5, v6, v7⟩ := hM.un u
          have uI := k5.un u (fun _ _ q => CnAt.un q u)
          obtain ⟨p7, es7, l7, e7, m7⟩ := id v6
          have hlen7 := l7.len
          obtain ⟨gC, gv⟩ := u o _ hp k0
          refine V.iload X dX1_verdictOfCall_46 rfl ?_
          refine V.aload X dX1_verdictOfCall_48 rfl ?_
          refine V.getf  X fX1_verdictOfCall_68 dX1_verdictOfCall_50 (by assumption) (by assumption) ?_
          refine V.callVi (n := 0) X dX1_verdictOfCall_53 gX1_verdictOfCall_Jx4a65c_size_8abf5 (c_Jx4a65c_size_8abf5 _ _ l7) rfl (by decide +kernel) rfl rfl rfl l7.1 rfl rfl ⟨Nat.le_of_ble_eq_true rfl, Nat.le_of_ble_eq_true rfl⟩ (fun r53 h53 hp53 => ?_)
          obtain ⟨rfl, e9⟩ := hp53; obtain rfl := e9.symm
          rw [e7]
          refine V.icmp_ge 115 X dX1_verdictOfCall_56 (by decide) (fun c56 => ?_) (fun c56 => ?_)
          · have hj : j = q.2.1.length := by have := (nI_leI (by omega) (by omega)).mp c56; omega
            subst hj
            rw [List.drop_length] at g3
            have er : runA q.2.1 s = some t := g3.symm
            have ev := verd_ok hq e0 er
            rw [er] at en
            simp only [Option.getD_some] at en
            refine V.aload X dX1_verdictOfCall_115 rfl ?_
            refine V.getf  X fX1_verdictOfCall_81 dX1_verdictOfCall_117 (by assumption) (by assumption) ?_
            refine V.aload_n X dX1_verdictOfCall_120 rfl ?_
            refine V.aload_n X dX1_verdictOfCall_121 rfl ?_
            refine V.callSi (n := 3) X dX1_verdictOfCall_122 gX1_verdictOfCall_X1_allHold (c_X1_allHold _ _ v7 bB pA) rfl (by decide +kernel) rfl rfl rfl ⟨Nat.le_of_ble_eq_true rfl, Nat.le_of_ble_eq_true rfl⟩ (fun r122 h122 hp122 => ?_)
            obtain ⟨rfl, e9⟩ := hp122; obtain rfl := e9.symm
            refine V.if_ne 130 X dX1_verdictOfCall_125 (by decide) (fun c125 => ?_) (fun c125 => ?_)
            · have e1 := bI_ne c125
              rw [e1] at ev
              refine V.aload_n X dX1_verdictOfCall_130 rfl ?_
              refine V.getf (v := .ref y) X fX1_verdictOfCall_21 dX1_verdictOfCall_131 gC (by rw [gv]; exact k2) ?_
              refine V.aload_n X dX1_verdictOfCall_134 rfl ?_
              refine V.aload_n X dX1_verdictOfCall_135 rfl ?_
              refine V.callSi (n := 3) X dX1_verdictOfCall_136 gX1_verdictOfCall_X1_allHold (c_X1_allHold _ _ uI bB pA) rfl (by decide +kernel) rfl rfl rfl ⟨Nat.le_of_ble_eq_true rfl, Nat.le_of_ble_eq_true rfl⟩ (fun r136 h136 hp136 => ?_)
              obtain ⟨rfl, e9⟩ := hp136; obtain rfl := e9.symm
              refine V.if_eq 146 X dX1_verdictOfCall_139 (by decide) (fun c139 => ?_) (fun c139 => ?_)
              · have e2 := bI_eq c139
                rw [e2] at ev
                refine V.iconst (v := nI 4) X dX1_verdictOfCall_146 (by decide) ?_
                exact V.iret X Y9 dX1_verdictOfCall_147 ⟨by rw [ev]; rfl, pF, t, pA, fun z => en.symm⟩ (Nat.le_of_ble_eq_true rfl) (Nat.le_of_ble_eq_true rfl)
              · have e2 := bI_ne c139
                rw [e2] at ev
                refine V.iconst (v := nI 0) X dX1_verdictOfCall_142 (by decide) ?_
                refine V.goto 147 X dX1_verdictOfCall_143 (by decide) ?_
                exact V.iret X Y9 dX1_verdictOfCall_147 ⟨by rw [ev]; rfl, pF, t, pA, fun z => en.symm⟩ (Nat.le_of_ble_eq_true rfl) (Nat.le_of_ble_eq_true rfl)
            · have e1 := bI_eq (b := allC q.2.2 s t) (by simpa using c125)
              rw [e1] at ev
              refine V.iconst (v := nI 3) X dX1_verdictOfCall_128 (by decide) ?_
              exact V.iret X Y9 dX1_verdictOfCall_129 ⟨by rw [ev]; rfl, pF, t, pA, fun z => by rw [ev] at z; cases z⟩ (Nat.le_of_ble_eq_true rfl) (Nat.le_of_ble_eq_true rfl)
          · have hj : j < q.2.1.length := by
              rw [nI_leI (by omega) (by omega)] at c56
              omega
            obtain ⟨x9, hx9⟩ := get_some hj
            have hA9 := m7 j x9 hx9
            obtain ⟨ax, ay, b0, b1, b2, b3, b4, b5, b6, b7⟩ := id hA9
            refine V.aload X dX1_verdictOfCall_59 rfl ?_
            refine V.getf  X fX1_verdictOfCall_68 dX1_verdictOfCall_61 (by assumption) (by assumption) ?_
            refine V.iload X dX1_verdictOfCall_64 rfl ?_
            refine V.callVr (n := 1) X dX1_verdictOfCall_66 gX1_verdictOfCall_Jx4a65c_get_915e3 (c_Jx4a65c_get_915e3 _ _ l7 (show j < es7.length by omega)) rfl (by decide +kernel) rfl rfl rfl l7.1 rfl rfl ⟨Nat.le_of_ble_eq_true rfl, Nat.le_of_ble_eq_true rfl⟩ (fun r66 h66 hp66 => ?_)
            obtain ⟨-, rfl, e9⟩ := hp66; obtain rfl := e9.symm
            refine V.cast (ci := 2) X dX1_verdictOfCall_69 (by decide +kernel) hA9.k rfl ?_
            refine V.astore X dX1_verdictOfCall_72 [(0, _), (1, _), (2, _), (3, _), (4, _), (5, _), (6, _)] rfl rfl rfl ?_
            refine V.aload X dX1_verdictOfCall_74 rfl ?_
            refine V.aload_n X dX1_verdictOfCall_76 rfl ?_
            refine V.callVi (n := 1) X dX1_verdictOfCall_77 gX1_verdictOfCall_X0_resultIn (c_X0_resultIn _ _ hA9 pA) rfl (by decide +kernel) rfl rfl rfl hA9.k rfl rfl ⟨Nat.le_of_ble_eq_true rfl, Nat.le_of_ble_eq_true rfl⟩ (fun r77 h77 hp77 => ?_)
            obtain ⟨rfl, e9⟩ := hp77; obtain rfl := e9.symm
            refine V.istore X dX1_verdictOfCall_80 [(0, _), (1, _), (2, _), (3, _), (4, _), (5, _), (6, _), (7, _)] rfl rfl rfl ?_
            refine V.iload X dX1_verdictOfCall_82 rfl ?_
            refine V.bipush (v := -99) X dX1_verdictOfCall_84 (by decide) ?_
            refine V.icmp_lt 96 X dX1_verdictOfCall_86 (by decide) (fun c86 => ?_) (fun c86 => ?_)
            · have eb : badV (asgV x9 t) = true := by simp [badV, c86]
              have ev := verd_rng hq e0 (show runA q.2.1 s = none by rw [← g3, runA_drop hx9, if_pos eb])
              refine V.iconst (v := nI 2) X dX1_verdictOfCall_96 (by decide) ?_
              exact V.iret X Y9 dX1_verdictOfCall_97 ⟨by rw [ev], pF, t, pA, fun z => by rw [ev] at z; cases z⟩ (Nat.le_of_ble_eq_true rfl) (Nat.le_of_ble_eq_true rfl)
            · refine V.iload X dX1_verdictOfCall_89 rfl ?_
              refine V.bipush (v := nI 99) X dX1_verdictOfCall_91 (by decide) ?_
              refine V.icmp_le 98 X dX1_verdictOfCall_93 (by decide) (fun c93 => ?_) (fun c93 => ?_)
              · have e82 : ¬ badV (asgV x9 t) = true := by
                  simp only [badV, Bool.or_eq_true, decide_eq_true_eq, not_or]
                  exact ⟨c86, fun z => absurd c93 (Int32.not_le.mpr z)⟩
                refine V.aload_n X dX1_verdictOfCall_98 rfl ?_
                refine V.aload X dX1_verdictOfCall_99 rfl ?_
                refine V.getf  X fX1_verdictOfCall_77 dX1_verdictOfCall_101 b1 b2 ?_
                refine V.iload X dX1_verdictOfCall_104 rfl ?_
                refine V.callVv (n := 2) X dX1_verdictOfCall_106 gX1_verdictOfCall_X10_assign (c_X10_assign _ _ pA) rfl (by decide +kernel) rfl rfl rfl pA.1 rfl rfl ⟨Nat.le_of_ble_eq_true rfl, Nat.le_of_ble_eq_true rfl⟩ (fun h106 hp106 => ?_)
                obtain ⟨k9, hk9, rfl, pA2⟩ := hp106
                refine V.iinc (v := nI (j + 1)) X dX1_verdictOfCall_109 [(0, _), (1, _), (2, _), (3, _), (4, _), (5, _), (6, _), (7, _)] rfl (nI_1 j) rfl rfl rfl ?_
                refine V.goto 46 X dX1_verdictOfCall_112 (by decide) ?_
                refine V.drop [(0, _), (1, _), (2, _), (3, _), (4, _), (5, _)] [0, 1, 2, 3, 4, 5] rfl ?_
                exact ih (j + 1) _ _ (by omega) (by omega) (by rw [runA_drop hx9, if_neg e82] at g3; exact g3) ((pF.thenPut (Or.inl rfl))) pA2
              · have eb : badV (asgV x9 t) = true := by
                  simp only [badV, Bool.or_eq_true, decide_eq_true_eq]
                  exact Or.inr (Int32.not_le.mp c93)
                have ev := verd_rng hq e0 (show runA q.2.1 s = none by rw [← g3, runA_drop hx9, if_pos eb])
                refine V.iconst (v := nI 2) X dX1_verdictOfCall_96 (by decide) ?_
                exact V.iret X Y9 dX1_verdictOfCall_97 ⟨by rw [ev], pF, t, pA, fun z => by rw [ev] at z; cases z⟩ (Nat.le_of_ble_eq_true rfl) (Nat.le_of_ble_eq_true rfl)
      exact loop (q.2.1.length + 1) 0 s h40 (Nat.zero_le _) (by omega) rfl f40 a40
    · have e0 := bI_eq (b := allC q.1 s s) (by simpa using c33)
      have ev := verd_pre hq e0
      refine V.iconst (v := nI 1) X dX1_verdictOfCall_36 (by decide) ?_
      exact V.iret X Y9 dX1_verdictOfCall_37 ⟨by rw [ev], Fr.rf, s0, hA, fun z => by rw [ev] at z; cases z⟩ (Nat.le_of_ble_eq_true rfl) (Nat.le_of_ble_eq_true rfl)
  · have hmn : ¬ m < c.2.2.length := by have := bI_eq (by simpa using c5); simpa using this
    have ev := verd_1 (s := s) hmn
    refine V.iconst (v := nI 1) X dX1_verdictOfCall_8 (by decide) ?_
    exact V.iret X Y9 dX1_verdictOfCall_9 ⟨by rw [ev], Fr.rf, s0, hA, fun z => by rw [ev] at z; cases z⟩ (Nat.le_of_ble_eq_true rfl) (Nat.le_of_ble_eq_true rfl)
