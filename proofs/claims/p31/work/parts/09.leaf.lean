theorem fX10_valueOf_7 : FL wsX10_valueOf RX10 7 12 0 .int false := ⟨_, rfl, by decide, Or.inl ⟨"ContractTester$State", by decide +kernel, Or.inl rfl⟩, by decide +kernel, by decide +kernel, rfl⟩
theorem fX10_valueOf_13 : FL wsX10_valueOf RX10 13 12 1 .int false := ⟨_, rfl, by decide, Or.inl ⟨"ContractTester$State", by decide +kernel, Or.inl rfl⟩, by decide +kernel, by decide +kernel, rfl⟩
theorem fX10_valueOf_16 : FL wsX10_valueOf RX10 16 12 2 .int false := ⟨_, rfl, by decide, Or.inl ⟨"ContractTester$State", by decide +kernel, Or.inl rfl⟩, by decide +kernel, by decide +kernel, rfl⟩
set_option maxHeartbeats 4000000 in
set_option maxRecDepth 100000 in
theorem c_X10_valueOf (l : Launch) (G : GG) {h : Hp} {a : Nat} {s : St} {f : Int32} (hA : StAt h a s) : Con l G yX10_valueOf wsX10_valueOf 0 0 0 0 [.ref a, .int f] h (pI (fun r h2 => r = getF s f ∧ h2 = h)) := by
  refine Con.of (cc := cX10_valueOf) (nL := 2) (ret := (some .int)) (by decide) rfl rfl rfl rfl (fun Γ hG hl X Y9 => ?_)
  subst hG
  subst hl
  obtain ⟨k0, k1, k2, k3⟩ := hA
  refine V.iload_n X dX10_valueOf_0 rfl ?_
  by_cases f0 : f = 0
  · refine V.lookup (off := 27) 28 X dX10_valueOf_1 rfl (ls2_a (by rw [f0]; decide)) (by decide) ?_
    refine V.aload_n X dX10_valueOf_28 rfl ?_
    refine V.getf  X fX10_valueOf_7 dX10_valueOf_29 (by assumption) (by assumption) ?_
    exact V.iret X Y9 dX10_valueOf_32 ⟨by simp [getF, f0], rfl⟩ (Nat.le_of_ble_eq_true rfl) (Nat.le_of_ble_eq_true rfl)
  · by_cases f1 : f = 1
    · refine V.lookup (off := 32) 33 X dX10_valueOf_1 rfl (ls2_b (by rw [f1]; decide) (by decide)) (by decide) ?_
      refine V.aload_n X dX10_valueOf_33 rfl ?_
      refine V.getf  X fX10_valueOf_13 dX10_valueOf_34 (by assumption) (by assumption) ?_
      exact V.iret X Y9 dX10_valueOf_37 ⟨by simp [getF, f1], rfl⟩ (Nat.le_of_ble_eq_true rfl) (Nat.le_of_ble_eq_true rfl)
    · refine V.lookup (off := 37) 38 X dX10_valueOf_1 rfl (ls2_d (i32_ne (by decide) f0) (i32_ne (by decide) f1)) (by decide) ?_
      refine V.aload_n X dX10_valueOf_38 rfl ?_
      refine V.getf  X fX10_valueOf_16 dX10_valueOf_39 (by assumption) (by assumption) ?_
      exact V.iret X Y9 dX10_valueOf_42 ⟨by simp [getF, f0, f1], rfl⟩ (Nat.le_of_ble_eq_true rfl) (Nat.le_of_ble_eq_true rfl)
theorem fX10_assign_7 : FL wsX10_assign RX10 7 12 0 .int false := ⟨_, rfl, by decide, Or.inl ⟨"ContractTester$State", by decide +kernel, Or.inl rfl⟩, by decide +kernel, by decide +kernel, rfl⟩
theorem fX10_assign_13 : FL wsX10_assign RX10 13 12 1 .int false := ⟨_, rfl, by decide, Or.inl ⟨"ContractTester$State", by decide +kernel, Or.inl rfl⟩, by decide +kernel, by decide +kernel, rfl⟩
theorem fX10_assign_16 : FL wsX10_assign RX10 16 12 2 .int false := ⟨_, rfl, by decide, Or.inl ⟨"ContractTester$State", by decide +kernel, Or.inl rfl⟩, by decide +kernel, by decide +kernel, rfl⟩
set_option maxHeartbeats 4000000 in
set_option maxRecDepth 100000 in
theorem c_X10_assign (l : Launch) (G : GG) {h : Hp} {a : Nat} {s : St} {f v : Int32} (hA : StAt h a s) : Con l G yX10_assign wsX10_assign 0 0 0 0 [.ref a, .int f, .int v] h (pV (fun h2 => ∃ k : Nat, k < 3 ∧ h2 = Hput h a k (.int v) ∧ StAt h2 a (setF s f v))) := by
  refine Con.of (cc := cX10_assign) (nL := 3) (ret := none) (by decide) rfl rfl rfl rfl (fun Γ hG hl X Y9 => ?_)
  subst hG
  subst hl
  obtain ⟨k0, k1, k2, k3⟩ := hA
  refine V.iload_n X dX10_assign_0 rfl ?_
  by_cases f0 : f = 0
  · refine V.lookup (off := 27) 28 X dX10_assign_1 rfl (ls2_a (by rw [f0]; decide)) (by decide) ?_
    refine V.aload_n X dX10_assign_28 rfl ?_
    refine V.iload_n X dX10_assign_29 rfl ?_
    refine V.putf X fX10_assign_7 dX10_assign_30 (by assumption) rfl rfl ?_
    refine V.goto 49 X dX10_assign_33 (by decide) ?_
    exact V.vret X Y9 dX10_assign_49 ⟨rfl, _, by decide, rfl, by simp [StAt, Hk_put, Hv_put, setF, *]⟩ (Nat.le_of_ble_eq_true rfl) (Nat.le_of_ble_eq_true rfl)
  · by_cases f1 : f = 1
    · refine V.lookup (off := 35) 36 X dX10_assign_1 rfl (ls2_b (by rw [f1]; decide) (by decide)) (by decide) ?_
      refine V.aload_n X dX10_assign_36 rfl ?_
      refine V.iload_n X dX10_assign_37 rfl ?_
      refine V.putf X fX10_assign_13 dX10_assign_38 (by assumption) rfl rfl ?_
      refine V.goto 49 X dX10_assign_41 (by decide) ?_
      exact V.vret X Y9 dX10_assign_49 ⟨rfl, _, by decide, rfl, by simp [StAt, Hk_put, Hv_put, setF, *]⟩ (Nat.le_of_ble_eq_true rfl) (Nat.le_of_ble_eq_true rfl)
    · refine V.lookup (off := 43) 44 X dX10_assign_1 rfl (ls2_d (i32_ne (by decide) f0) (i32_ne (by decide) f1)) (by decide) ?_
      refine V.aload_n X dX10_assign_44 rfl ?_
      refine V.iload_n X dX10_assign_45 rfl ?_
      refine V.putf X fX10_assign_16 dX10_assign_46 (by assumption) rfl rfl ?_
      exact V.vret X Y9 dX10_assign_49 ⟨rfl, _, by decide, rfl, by simp [StAt, Hk_put, Hv_put, setF, *]⟩ (Nat.le_of_ble_eq_true rfl) (Nat.le_of_ble_eq_true rfl)
theorem fX10_copyFrom_7 : FL wsX10_copyFrom RX10 7 12 0 .int false := ⟨_, rfl, by decide, Or.inl ⟨"ContractTester$State", by decide +kernel, Or.inl rfl⟩, by decide +kernel, by decide +kernel, rfl⟩
theorem fX10_copyFrom_13 : FL wsX10_copyFrom RX10 13 12 1 .int false := ⟨_, rfl, by decide, Or.inl ⟨"ContractTester$State", by decide +kernel, Or.inl rfl⟩, by decide +kernel, by decide +kernel, rfl⟩
theorem fX10_copyFrom_16 : FL wsX10_copyFrom RX10 16 12 2 .int false := ⟨_, rfl, by decide, Or.inl ⟨"ContractTester$State", by decide +kernel, Or.inl rfl⟩, by decide +kernel, by decide +kernel, rfl⟩
set_option maxHeartbeats 4000000 in
set_option maxRecDepth 100000 in
theorem c_X10_copyFrom (l : Launch) (G : GG) {h : Hp} {a b : Nat} {s t : St} (hA : StAt h a s) (hB : StAt h b t) : Con l G yX10_copyFrom wsX10_copyFrom 0 0 0 0 [.ref a, .ref b] h (pV (fun h2 => h2 = Hput (Hput (Hput h a 0 (.int t.1)) a 1 (.int t.2.1)) a 2 (.int t.2.2))) := by
  refine Con.of (cc := cX10_copyFrom) (nL := 2) (ret := none) (by decide) rfl rfl rfl rfl (fun Γ hG hl X Y9 => ?_)
  subst hG
  subst hl
  obtain ⟨k0, k1, k2, k3⟩ := hA
  obtain ⟨m0, m1, m2, m3⟩ := hB
  refine V.aload_n X dX10_copyFrom_0 rfl ?_
  refine V.aload_n X dX10_copyFrom_1 rfl ?_
  refine V.getf  X fX10_copyFrom_7 dX10_copyFrom_2 (by assumption) (by assumption) ?_
  refine V.putf X fX10_copyFrom_7 dX10_copyFrom_5 (by assumption) rfl rfl ?_
  refine V.aload_n X dX10_copyFrom_8 rfl ?_
  refine V.aload_n X dX10_copyFrom_9 rfl ?_
  refine V.getf (v := .int t.2.1) X fX10_copyFrom_13 dX10_copyFrom_10 (by assumption) (by rw [Hv_put_k _ _ _ _ (by decide)]; exact m2) ?_
  refine V.putf X fX10_copyFrom_13 dX10_copyFrom_13 (by assumption) rfl rfl ?_
  refine V.aload_n X dX10_copyFrom_16 rfl ?_
  refine V.aload_n X dX10_copyFrom_17 rfl ?_
  refine V.getf (v := .int t.2.2) X fX10_copyFrom_16 dX10_copyFrom_18 (by assumption) (by rw [Hv_put_k _ _ _ _ (by decide), Hv_put_k _ _ _ _ (by decide)]; exact m3) ?_
  refine V.putf X fX10_copyFrom_16 dX10_copyFrom_21 (by assumption) rfl rfl ?_
  exact V.vret X Y9 dX10_copyFrom_24 ⟨rfl, rfl⟩ (Nat.le_of_ble_eq_true rfl) (Nat.le_of_ble_eq_true rfl)
theorem fX10_hasValues_7 : FL wsX10_hasValues RX10 7 12 0 .int false := ⟨_, rfl, by decide, Or.inl ⟨"ContractTester$State", by decide +kernel, Or.inl rfl⟩, by decide +kernel, by decide +kernel, rfl⟩
theorem fX10_hasValues_13 : FL wsX10_hasValues RX10 13 12 1 .int false := ⟨_, rfl, by decide, Or.inl ⟨"ContractTester$State", by decide +kernel, Or.inl rfl⟩, by decide +kernel, by decide +kernel, rfl⟩
theorem fX10_hasValues_16 : FL wsX10_hasValues RX10 16 12 2 .int false := ⟨_, rfl, by decide, Or.inl ⟨"ContractTester$State", by decide +kernel, Or.inl rfl⟩, by decide +kernel, by decide +kernel, rfl⟩
set_option maxHeartbeats 4000000 in
set_option maxRecDepth 100000 in
theorem c_X10_hasValues (l : Launch) (G : GG) {h : Hp} {a : Nat} {s t : St} (hA : StAt h a s) : Con l G yX10_hasValues wsX10_hasValues 0 0 0 0 [.ref a, .int t.1, .int t.2.1, .int t.2.2] h (pI (fun r h2 => r = bI (decide (s = t)) ∧ h2 = h)) := by
  refine Con.of (cc := cX10_hasValues) (nL := 4) (ret := (some .boolean)) (by decide) rfl rfl rfl rfl (fun Γ hG hl X Y9 => ?_)
  subst hG
  subst hl
  obtain ⟨k0, k1, k2, k3⟩ := hA
  obtain ⟨x, y, z⟩ := s
  obtain ⟨x2, y2, z2⟩ := t
  dsimp only at k1 k2 k3
  refine V.aload_n X dX10_hasValues_0 rfl ?_
  refine V.getf  X fX10_hasValues_7 dX10_hasValues_1 (by assumption) (by assumption) ?_
  refine V.iload_n X dX10_hasValues_4 rfl ?_
  refine V.icmp_ne 28 X dX10_hasValues_5 (by decide) (fun c5 => ?_) (fun c5 => ?_)
  · refine V.iconst (v := nI 0) X dX10_hasValues_28 (by decide) ?_
    exact V.bret X Y9 dX10_hasValues_29 (decide ((x, y, z) = (x2, y2, z2))) (by simp [bI, nI_0, *]; try rfl) ⟨rfl, rfl⟩ (Nat.le_of_ble_eq_true rfl) (Nat.le_of_ble_eq_true rfl)
  · refine V.aload_n X dX10_hasValues_8 rfl ?_
    refine V.getf  X fX10_hasValues_13 dX10_hasValues_9 (by assumption) (by assumption) ?_
    refine V.iload_n X dX10_hasValues_12 rfl ?_
    refine V.icmp_ne 28 X dX10_hasValues_13 (by decide) (fun c13 => ?_) (fun c13 => ?_)
    · refine V.iconst (v := nI 0) X dX10_hasValues_28 (by decide) ?_
      exact V.bret X Y9 dX10_hasValues_29 (decide ((x, y, z) = (x2, y2, z2))) (by simp [bI, nI_0, *]; try rfl) ⟨rfl, rfl⟩ (Nat.le_of_ble_eq_true rfl) (Nat.le_of_ble_eq_true rfl)
    · refine V.aload_n X dX10_hasValues_16 rfl ?_
      refine V.getf  X fX10_hasValues_16 dX10_hasValues_17 (by assumption) (by assumption) ?_
      refine V.iload_n X dX10_hasValues_20 rfl ?_
      refine V.icmp_ne 28 X dX10_hasValues_21 (by decide) (fun c21 => ?_) (fun c21 => ?_)
      · refine V.iconst (v := nI 0) X dX10_hasValues_28 (by decide) ?_
        exact V.bret X Y9 dX10_hasValues_29 (decide ((x, y, z) = (x2, y2, z2))) (by simp [bI, nI_0, *]; try rfl) ⟨rfl, rfl⟩ (Nat.le_of_ble_eq_true rfl) (Nat.le_of_ble_eq_true rfl)
      · refine V.iconst (v := nI 1) X dX10_hasValues_24 (by decide) ?_
        refine V.goto 29 X dX10_hasValues_25 (by decide) ?_
        exact V.bret X Y9 dX10_hasValues_29 (decide ((x, y, z) = (x2, y2, z2))) (by simp [bI, nI_0, *]; try rfl) ⟨rfl, rfl⟩ (Nat.le_of_ble_eq_true rfl) (Nat.le_of_ble_eq_true rfl)
theorem fX7_valueIn_9 : FL wsX7_valueIn RX7 9 9 0 .int true := ⟨_, rfl, by decide, Or.inl ⟨"ContractTester$Operand", by decide +kernel, Or.inl rfl⟩, by decide +kernel, by decide +kernel, rfl⟩
theorem fX7_valueIn_18 : FL wsX7_valueIn RX7 18 12 0 .int false := ⟨_, rfl, by decide, Or.inr ⟨"ContractTester", by decide +kernel⟩, by decide +kernel, by decide +kernel, rfl⟩
theorem fX7_valueIn_23 : FL wsX7_valueIn RX7 23 12 1 .int false := ⟨_, rfl, by decide, Or.inr ⟨"ContractTester", by decide +kernel⟩, by decide +kernel, by decide +kernel, rfl⟩
theorem fX7_valueIn_26 : FL wsX7_valueIn RX7 26 12 2 .int false := ⟨_, rfl, by decide, Or.inr ⟨"ContractTester", by decide +kernel⟩, by decide +kernel, by decide +kernel, rfl⟩
theorem fX7_valueIn_15 : FL wsX7_valueIn RX7 15 9 1 .int true := ⟨_, rfl, by decide, Or.inl ⟨"ContractTester$Operand", by decide +kernel, Or.inl rfl⟩, by decide +kernel, by decide +kernel, rfl⟩
set_option maxHeartbeats 4000000 in
set_option maxRecDepth 100000 in
theorem c_X7_valueIn (l : Launch) (G : GG) {P : Nat → Prop} {h : Hp} {o b a : Nat} {q : Opd} {s t : St} (hO : OpAt P h o q) (hB : StAt h b s) (hA : StAt h a t) : Con l G yX7_valueIn wsX7_valueIn 0 0 0 0 [.ref o, .ref b, .ref a] h (pI (fun r h2 => r = opv q s t ∧ h2 = h)) := by
  refine Con.of (cc := cX7_valueIn) (nL := 3) (ret := (some .int)) (by decide) rfl rfl rfl rfl (fun Γ hG hl X Y9 => ?_)
  subst hG
  subst hl
  obtain ⟨kp, k0, k1, k2⟩ := hO
  obtain ⟨m0, m1, m2, m3⟩ := hB
  obtain ⟨n0, n1, n2, n3⟩ := hA
  refine V.aload_n X dX7_valueIn_0 rfl ?_
  refine V.getf  X fX7_valueIn_9 dX7_valueIn_1 (by assumption) (by assumption) ?_
  by_cases f0 : q.1 = 0
  · refine V.tableIn (off := 40) 44 X dX7_valueIn_4 (by rw [f0]; decide) (by rw [f0]; decide) (by rw [f0]; rfl) (by decide) ?_
    refine V.aload_n X dX7_valueIn_44 rfl ?_
    refine V.getf  X fX7_valueIn_18 dX7_valueIn_45 (by assumption) (by assumption) ?_
    exact V.iret X Y9 dX7_valueIn_48 ⟨by simp [opv, *], rfl⟩ (Nat.le_of_ble_eq_true rfl) (Nat.le_of_ble_eq_true rfl)
  by_cases f1 : q.1 = 1
  · refine V.tableIn (off := 45) 49 X dX7_valueIn_4 (by rw [f1]; decide) (by rw [f1]; decide) (by rw [f1]; rfl) (by decide) ?_
    refine V.aload_n X dX7_valueIn_49 rfl ?_
    refine V.getf  X fX7_valueIn_23 dX7_valueIn_50 (by assumption) (by assumption) ?_
    exact V.iret X Y9 dX7_valueIn_53 ⟨by simp [opv, *], rfl⟩ (Nat.le_of_ble_eq_true rfl) (Nat.le_of_ble_eq_true rfl)
  by_cases f2 : q.1 = 2
  · refine V.tableIn (off := 50) 54 X dX7_valueIn_4 (by rw [f2]; decide) (by rw [f2]; decide) (by rw [f2]; rfl) (by decide) ?_
    refine V.aload_n X dX7_valueIn_54 rfl ?_
    refine V.getf  X fX7_valueIn_26 dX7_valueIn_55 (by assumption) (by assumption) ?_
    exact V.iret X Y9 dX7_valueIn_58 ⟨by simp [opv, *], rfl⟩ (Nat.le_of_ble_eq_true rfl) (Nat.le_of_ble_eq_true rfl)
  by_cases f3 : q.1 = 3
  · refine V.tableIn (off := 55) 59 X dX7_valueIn_4 (by rw [f3]; decide) (by rw [f3]; decide) (by rw [f3]; rfl) (by decide) ?_
    refine V.aload_n X dX7_valueIn_59 rfl ?_
    refine V.getf  X fX7_valueIn_18 dX7_valueIn_60 (by assumption) (by assumption) ?_
    exact V.iret X Y9 dX7_valueIn_63 ⟨by simp [opv, *], rfl⟩ (Nat.le_of_ble_eq_true rfl) (Nat.le_of_ble_eq_true rfl)
  by_cases f4 : q.1 = 4
  · refine V.tableIn (off := 60) 64 X dX7_valueIn_4 (by rw [f4]; decide) (by rw [f4]; decide) (by rw [f4]; rfl) (by decide) ?_
    refine V.aload_n X dX7_valueIn_64 rfl ?_
    refine V.getf  X fX7_valueIn_23 dX7_valueIn_65 (by assumption) (by assumption) ?_
    exact V.iret X Y9 dX7_valueIn_68 ⟨by simp [opv, *], rfl⟩ (Nat.le_of_ble_eq_true rfl) (Nat.le_of_ble_eq_true rfl)
  by_cases f5 : q.1 = 5
  · refine V.tableIn (off := 65) 69 X dX7_valueIn_4 (by rw [f5]; decide) (by rw [f5]; decide) (by rw [f5]; rfl) (by decide) ?_
    refine V.aload_n X dX7_valueIn_69 rfl ?_
    refine V.getf  X fX7_valueIn_26 dX7_valueIn_70 (by assumption) (by assumption) ?_
    exact V.iret X Y9 dX7_valueIn_73 ⟨by simp [opv, *], rfl⟩ (Nat.le_of_ble_eq_true rfl) (Nat.le_of_ble_eq_true rfl)
  refine V.tableOut 74 X dX7_valueIn_4 (t6_out f0 f1 f2 f3 f4 f5) (by decide) ?_
  refine V.aload_n X dX7_valueIn_74 rfl ?_
  refine V.getf  X fX7_valueIn_15 dX7_valueIn_75 (by assumption) (by assumption) ?_
  exact V.iret X Y9 dX7_valueIn_78 ⟨by simp [opv, *], rfl⟩ (Nat.le_of_ble_eq_true rfl) (Nat.le_of_ble_eq_true rfl)
theorem fX2_holds_7 : FL wsX2_holds RX2 7 4 0 (.object "ContractTester$Operand") true := ⟨_, rfl, by decide, Or.inl ⟨"ContractTester$Condition", by decide +kernel, Or.inl rfl⟩, by decide +kernel, by decide +kernel, rfl⟩
theorem fX2_holds_17 : FL wsX2_holds RX2 17 4 2 (.object "ContractTester$Operand") true := ⟨_, rfl, by decide, Or.inl ⟨"ContractTester$Condition", by decide +kernel, Or.inl rfl⟩, by decide +kernel, by decide +kernel, rfl⟩
theorem fX2_holds_13 : FL wsX2_holds RX2 13 4 1 .int true := ⟨_, rfl, by decide, Or.inl ⟨"ContractTester$Condition", by decide +kernel, Or.inl rfl⟩, by decide +kernel, by decide +kernel, rfl⟩
set_option maxHeartbeats 4000000 in
set_option maxRecDepth 100000 in
theorem c_X2_holds (l : Launch) (G : GG) {P : Nat → Prop} {h : Hp} {o b a : Nat} {q : Cnd} {s t : St} (hO : CnAt P h o q) (hB : StAt h b s) (hA : StAt h a t) : Con l G yX2_holds wsX2_holds 1 22 0 0 [.ref o, .ref b, .ref a] h (pI (fun r h2 => r = bI (chk q s t) ∧ h2 = h)) := by
  refine Con.of (cc := cX2_holds) (nL := 5) (ret := (some .boolean)) (by decide) rfl rfl rfl rfl (fun Γ hG hl X Y9 => ?_)
  subst hG
  subst hl
  obtain ⟨x, y, kp, k0, k1, k2, k3, ox, oy⟩ := hO
  refine V.aload_n X dX2_holds_0 rfl ?_
  refine V.getf  X fX2_holds_7 dX2_holds_1 (by assumption) (by assumption) ?_
  refine V.aload_n X dX2_holds_4 rfl ?_
  refine V.aload_n X dX2_holds_5 rfl ?_
  refine V.callVi (n := 2) X dX2_holds_6 gX2_holds_X7_valueIn (c_X7_valueIn _ _ ox hB hA) rfl (by decide +kernel) rfl rfl rfl ox.2.1 rfl rfl ⟨Nat.le_of_ble_eq_true rfl, Nat.le_of_ble_eq_true rfl⟩ (fun r6 h6 hp6 => ?_)
  obtain ⟨rfl, e9⟩ := hp6; obtain rfl := e9.symm
  refine V.istore_n X dX2_holds_9 [(0, _), (1, _), (2, _), (3, _)] rfl rfl rfl ?_
  refine V.aload_n X dX2_holds_10 rfl ?_
  refine V.getf  X fX2_holds_17 dX2_holds_11 (by assumption) (by assumption) ?_
  refine V.aload_n X dX2_holds_14 rfl ?_
  refine V.aload_n X dX2_holds_15 rfl ?_
  refine V.callVi (n := 2) X dX2_holds_16 gX2_holds_X7_valueIn (c_X7_valueIn _ _ oy hB hA) rfl (by decide +kernel) rfl rfl rfl oy.2.1 rfl rfl ⟨Nat.le_of_ble_eq_true rfl, Nat.le_of_ble_eq_true rfl⟩ (fun r16 h16 hp16 => ?_)
  obtain ⟨rfl, e9⟩ := hp16; obtain rfl := e9.symm
  refine V.istore X dX2_holds_19 [(0, _), (1, _), (2, _), (3, _), (4, _)] rfl rfl rfl ?_
  refine V.aload_n X dX2_holds_21 rfl ?_
  refine V.getf  X fX2_holds_13 dX2_holds_22 (by assumption) (by assumption) ?_
  by_cases f0 : q.2.1 = 60
  · refine V.lookup (off := 27) 52 X dX2_holds_25 rfl (ls2_a (by rw [f0]; decide)) (by decide) ?_
    refine V.iload_n X dX2_holds_52 rfl ?_
    refine V.iload X dX2_holds_53 rfl ?_
    refine V.icmp_ge 62 X dX2_holds_55 (by decide) (fun c55 => ?_) (fun c55 => ?_)
    · refine V.iconst (v := nI 0) X dX2_holds_62 (by decide) ?_
      exact V.bret X Y9 dX2_holds_63 (chk q s t) (by simp [chk, bI, nI_0, *]; try rfl) ⟨rfl, rfl⟩ (Nat.le_of_ble_eq_true rfl) (Nat.le_of_ble_eq_true rfl)
    · have c55b := Int32.not_le.mp c55
      refine V.iconst (v := nI 1) X dX2_holds_58 (by decide) ?_
      refine V.goto 63 X dX2_holds_59 (by decide) ?_
      exact V.bret X Y9 dX2_holds_63 (chk q s t) (by simp [chk, bI, nI_0, *]; try rfl) ⟨rfl, rfl⟩ (Nat.le_of_ble_eq_true rfl) (Nat.le_of_ble_eq_true rfl)
  · by_cases f1 : q.2.1 = 61
    · refine V.lookup (off := 39) 64 X dX2_holds_25 rfl (ls2_b (by rw [f1]; decide) (by decide)) (by decide) ?_
      refine V.iload_n X dX2_holds_64 rfl ?_
      refine V.iload X dX2_holds_65 rfl ?_
      refine V.icmp_ne 74 X dX2_holds_67 (by decide) (fun c67 => ?_) (fun c67 => ?_)
      · refine V.iconst (v := nI 0) X dX2_holds_74 (by decide) ?_
        exact V.bret X Y9 dX2_holds_75 (chk q s t) (by simp [chk, bI, nI_0, *]; try rfl) ⟨rfl, rfl⟩ (Nat.le_of_ble_eq_true rfl) (Nat.le_of_ble_eq_true rfl)
      · refine V.iconst (v := nI 1) X dX2_holds_70 (by decide) ?_
        refine V.goto 75 X dX2_holds_71 (by decide) ?_
        exact V.bret X Y9 dX2_holds_75 (chk q s t) (by simp [chk, bI, nI_0, *]; try rfl) ⟨rfl, rfl⟩ (Nat.le_of_ble_eq_true rfl) (Nat.le_of_ble_eq_true rfl)
    · refine V.lookup (off := 51) 76 X dX2_holds_25 rfl (ls2_d (i32_ne (by decide) f0) (i32_ne (by decide) f1)) (by decide) ?_
      refine V.iload_n X dX2_holds_76 rfl ?_
      refine V.iload X dX2_holds_77 rfl ?_
      refine V.icmp_le 86 X dX2_holds_79 (by decide) (fun c79 => ?_) (fun c79 => ?_)
      · refine V.iconst (v := nI 0) X dX2_holds_86 (by decide) ?_
        exact V.bret X Y9 dX2_holds_87 (chk q s t) (by simp [chk, bI, nI_0, *]; try rfl) ⟨rfl, rfl⟩ (Nat.le_of_ble_eq_true rfl) (Nat.le_of_ble_eq_true rfl)
      · have c79b := Int32.not_le.mp c79
        refine V.iconst (v := nI 1) X dX2_holds_82 (by decide) ?_
        refine V.goto 87 X dX2_holds_83 (by decide) ?_
        exact V.bret X Y9 dX2_holds_87 (chk q s t) (by simp [chk, bI, nI_0, *]; try rfl) ⟨rfl, rfl⟩ (Nat.le_of_ble_eq_true rfl) (Nat.le_of_ble_eq_true rfl)
theorem fX0_resultIn_13 : FL wsX0_resultIn RX0 13 2 1 (.object "ContractTester$Operand") true := ⟨_, rfl, by decide, Or.inl ⟨"ContractTester$Assignment", by decide +kernel, Or.inl rfl⟩, by decide +kernel, by decide +kernel, rfl⟩
theorem fX0_resultIn_17 : FL wsX0_resultIn RX0 17 2 2 .int true := ⟨_, rfl, by decide, Or.inl ⟨"ContractTester$Assignment", by decide +kernel, Or.inl rfl⟩, by decide +kernel, by decide +kernel, rfl⟩
theorem fX0_resultIn_20 : FL wsX0_resultIn RX0 20 2 3 (.object "ContractTester$Operand") true := ⟨_, rfl, by decide, Or.inl ⟨"ContractTester$Assignment", by decide +kernel, Or.inl rfl⟩, by decide +kernel, by decide +kernel, rfl⟩
set_option maxHeartbeats 4000000 in
set_option maxRecDepth 100000 in
theorem c_X0_resultIn (l : Launch) (G : GG) {P : Nat → Prop} {h : Hp} {o a : Nat} {q : Asg} {t : St} (hO : AsAt P h o q) (hA : StAt h a t) : Con l G yX0_resultIn wsX0_resultIn 1 22 0 0 [.ref o, .ref a] h (pI (fun r h2 => r = asgV q t ∧ h2 = h)) := by
  refine Con.of (cc := cX0_resultIn) (nL := 2) (ret := (some .int)) (by decide) rfl rfl rfl rfl (fun Γ hG hl X Y9 => ?_)
  subst hG
  subst hl
  obtain ⟨x, y, kp, k0, k1, k2, k3, k4, ox, oy⟩ := hO
  refine V.aload_n X dX0_resultIn_0 rfl ?_
  refine V.getf  X fX0_resultIn_13 dX0_resultIn_1 (by assumption) (by assumption) ?_
  refine V.aload_n X dX0_resultIn_4 rfl ?_
  refine V.aload_n X dX0_resultIn_5 rfl ?_
  refine V.callVi (n := 2) X dX0_resultIn_6 gX0_resultIn_X7_valueIn (c_X7_valueIn _ _ ox hA hA) rfl (by decide +kernel) rfl rfl rfl ox.2.1 rfl rfl ⟨Nat.le_of_ble_eq_true rfl, Nat.le_of_ble_eq_true rfl⟩ (fun r6 h6 hp6 => ?_)
  obtain ⟨rfl, e9⟩ := hp6; obtain rfl := e9.symm
  refine V.aload_n X dX0_resultIn_9 rfl ?_
  refine V.getf  X fX0_resultIn_17 dX0_resultIn_10 (by assumption) (by assumption) ?_
  refine V.aload_n X dX0_resultIn_13 rfl ?_
  refine V.getf  X fX0_resultIn_20 dX0_resultIn_14 (by assumption) (by assumption) ?_
  refine V.aload_n X dX0_resultIn_17 rfl ?_
  refine V.aload_n X dX0_resultIn_18 rfl ?_
  refine V.callVi (n := 2) X dX0_resultIn_19 gX0_resultIn_X7_valueIn (c_X7_valueIn _ _ oy hA hA) rfl (by decide +kernel) rfl rfl rfl oy.2.1 rfl rfl ⟨Nat.le_of_ble_eq_true rfl, Nat.le_of_ble_eq_true rfl⟩ (fun r19 h19 hp19 => ?_)
  obtain ⟨rfl, e9⟩ := hp19; obtain rfl := e9.symm
  refine V.imul X dX0_resultIn_22 ?_
  refine V.iadd X dX0_resultIn_23 ?_
  exact V.iret X Y9 dX0_resultIn_24 ⟨rfl, rfl⟩ (Nat.le_of_ble_eq_true rfl) (Nat.le_of_ble_eq_true rfl)
