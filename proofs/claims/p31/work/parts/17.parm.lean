theorem fX7_init_9 : FL wsX7_init RX7 9 9 0 .int true := ⟨_, rfl, by decide, Or.inl ⟨"ContractTester$Operand", by decide +kernel, Or.inl rfl⟩, by decide +kernel, by decide +kernel, rfl⟩
theorem fX7_init_15 : FL wsX7_init RX7 15 9 1 .int true := ⟨_, rfl, by decide, Or.inl ⟨"ContractTester$Operand", by decide +kernel, Or.inl rfl⟩, by decide +kernel, by decide +kernel, rfl⟩
set_option maxHeartbeats 4000000 in
set_option maxRecDepth 100000 in
theorem c_X7_init (l : Launch) (G : GG) {h : Hp} {a : Nat} {x y : Int32} (k0 : Hk h a = some (.inl 9)) : Con l G yX7_init wsX7_init 1 20 0 0 [.ref a, .int x, .int y] h (pV (fun h2 => h2 = Hput (Hput h a 0 (.int x)) a 1 (.int y))) := by
  refine Con.of (cc := cX7_init) (nL := 3) (ret := none) (by decide) rfl rfl rfl rfl (fun Γ hG hl X Y9 => ?_)
  subst hG
  subst hl
  refine V.aload_n X dX7_init_0 rfl ?_
  refine V.objInit X dX7_init_1 (by decide +kernel) (by decide +kernel) (by decide +kernel) rfl ?_
  refine V.aload_n X dX7_init_4 rfl ?_
  refine V.iload_n X dX7_init_5 rfl ?_
  refine V.putF X Y9 rfl fX7_init_9 (fun q hq => by cases hq; rfl) (nest_no (by decide +kernel)) dX7_init_6 (by assumption) rfl rfl ?_
  refine V.aload_n X dX7_init_9 rfl ?_
  refine V.iload_n X dX7_init_10 rfl ?_
  refine V.putF X Y9 rfl fX7_init_15 (fun q hq => by cases hq; rfl) (nest_no (by decide +kernel)) dX7_init_11 (by assumption) rfl rfl ?_
  exact V.vret X Y9 dX7_init_14 ⟨rfl, rfl⟩ (Nat.le_of_ble_eq_true rfl) (Nat.le_of_ble_eq_true rfl)
theorem fX2_init_7 : FL wsX2_init RX2 7 4 0 (.object "ContractTester$Operand") true := ⟨_, rfl, by decide, Or.inl ⟨"ContractTester$Condition", by decide +kernel, Or.inl rfl⟩, by decide +kernel, by decide +kernel, rfl⟩
theorem fX2_init_13 : FL wsX2_init RX2 13 4 1 .int true := ⟨_, rfl, by decide, Or.inl ⟨"ContractTester$Condition", by decide +kernel, Or.inl rfl⟩, by decide +kernel, by decide +kernel, rfl⟩
theorem fX2_init_17 : FL wsX2_init RX2 17 4 2 (.object "ContractTester$Operand") true := ⟨_, rfl, by decide, Or.inl ⟨"ContractTester$Condition", by decide +kernel, Or.inl rfl⟩, by decide +kernel, by decide +kernel, rfl⟩
set_option maxHeartbeats 4000000 in
set_option maxRecDepth 100000 in
theorem c_X2_init (l : Launch) (G : GG) {h : Hp} {a x z : Nat} {y : Int32} (k0 : Hk h a = some (.inl 4)) : Con l G yX2_init wsX2_init 1 20 0 0 [.ref a, .ref x, .int y, .ref z] h (pV (fun h2 => h2 = Hput (Hput (Hput h a 0 (.ref x)) a 1 (.int y)) a 2 (.ref z))) := by
  refine Con.of (cc := cX2_init) (nL := 4) (ret := none) (by decide) rfl rfl rfl rfl (fun Γ hG hl X Y9 => ?_)
  subst hG
  subst hl
  refine V.aload_n X dX2_init_0 rfl ?_
  refine V.objInit X dX2_init_1 (by decide +kernel) (by decide +kernel) (by decide +kernel) rfl ?_
  refine V.aload_n X dX2_init_4 rfl ?_
  refine V.aload_n X dX2_init_5 rfl ?_
  refine V.putF X Y9 rfl fX2_init_7 (fun q hq => by cases hq; rfl) (nest_no (by decide +kernel)) dX2_init_6 (by assumption) rfl rfl ?_
  refine V.aload_n X dX2_init_9 rfl ?_
  refine V.iload_n X dX2_init_10 rfl ?_
  refine V.putF X Y9 rfl fX2_init_13 (fun q hq => by cases hq; rfl) (nest_no (by decide +kernel)) dX2_init_11 (by assumption) rfl rfl ?_
  refine V.aload_n X dX2_init_14 rfl ?_
  refine V.aload_n X dX2_init_15 rfl ?_
  refine V.putF X Y9 rfl fX2_init_17 (fun q hq => by cases hq; rfl) (nest_no (by decide +kernel)) dX2_init_16 (by assumption) rfl rfl ?_
  exact V.vret X Y9 dX2_init_19 ⟨rfl, rfl⟩ (Nat.le_of_ble_eq_true rfl) (Nat.le_of_ble_eq_true rfl)
theorem fX0_init_7 : FL wsX0_init RX0 7 2 0 .int true := ⟨_, rfl, by decide, Or.inl ⟨"ContractTester$Assignment", by decide +kernel, Or.inl rfl⟩, by decide +kernel, by decide +kernel, rfl⟩
theorem fX0_init_13 : FL wsX0_init RX0 13 2 1 (.object "ContractTester$Operand") true := ⟨_, rfl, by decide, Or.inl ⟨"ContractTester$Assignment", by decide +kernel, Or.inl rfl⟩, by decide +kernel, by decide +kernel, rfl⟩
theorem fX0_init_17 : FL wsX0_init RX0 17 2 2 .int true := ⟨_, rfl, by decide, Or.inl ⟨"ContractTester$Assignment", by decide +kernel, Or.inl rfl⟩, by decide +kernel, by decide +kernel, rfl⟩
theorem fX0_init_20 : FL wsX0_init RX0 20 2 3 (.object "ContractTester$Operand") true := ⟨_, rfl, by decide, Or.inl ⟨"ContractTester$Assignment", by decide +kernel, Or.inl rfl⟩, by decide +kernel, by decide +kernel, rfl⟩
set_option maxHeartbeats 4000000 in
set_option maxRecDepth 100000 in
theorem c_X0_init (l : Launch) (G : GG) {h : Hp} {a x z : Nat} {u y : Int32} (k0 : Hk h a = some (.inl 2)) : Con l G yX0_init wsX0_init 1 20 0 0 [.ref a, .int u, .ref x, .int y, .ref z] h (pV (fun h2 => h2 = Hput (Hput (Hput (Hput h a 0 (.int u)) a 1 (.ref x)) a 2 (.int y)) a 3 (.ref z))) := by
  refine Con.of (cc := cX0_init) (nL := 5) (ret := none) (by decide) rfl rfl rfl rfl (fun Γ hG hl X Y9 => ?_)
  subst hG
  subst hl
  refine V.aload_n X dX0_init_0 rfl ?_
  refine V.objInit X dX0_init_1 (by decide +kernel) (by decide +kernel) (by decide +kernel) rfl ?_
  refine V.aload_n X dX0_init_4 rfl ?_
  refine V.iload_n X dX0_init_5 rfl ?_
  refine V.putF X Y9 rfl fX0_init_7 (fun q hq => by cases hq; rfl) (nest_no (by decide +kernel)) dX0_init_6 (by assumption) rfl rfl ?_
  refine V.aload_n X dX0_init_9 rfl ?_
  refine V.aload_n X dX0_init_10 rfl ?_
  refine V.putF X Y9 rfl fX0_init_13 (fun q hq => by cases hq; rfl) (nest_no (by decide +kernel)) dX0_init_11 (by assumption) rfl rfl ?_
  refine V.aload_n X dX0_init_14 rfl ?_
  refine V.iload_n X dX0_init_15 rfl ?_
  refine V.putF X Y9 rfl fX0_init_17 (fun q hq => by cases hq; rfl) (nest_no (by decide +kernel)) dX0_init_16 (by assumption) rfl rfl ?_
  refine V.aload_n X dX0_init_19 rfl ?_
  refine V.aload X dX0_init_20 rfl ?_
  refine V.putF X Y9 rfl fX0_init_20 (fun q hq => by cases hq; rfl) (nest_no (by decide +kernel)) dX0_init_22 (by assumption) rfl rfl ?_
  exact V.vret X Y9 dX0_init_25 ⟨rfl, rfl⟩ (Nat.le_of_ble_eq_true rfl) (Nat.le_of_ble_eq_true rfl)
set_option maxHeartbeats 4000000 in
set_option maxRecDepth 100000 in
theorem c_X10_init (l : Launch) (G : GG) {h : Hp} {a : Nat} : Con l G yX10_init wsX10_init 1 20 0 0 [.ref a] h (pV (fun h2 => h2 = h)) := by
  refine Con.of (cc := cX10_init) (nL := 1) (ret := none) (by decide) rfl rfl rfl rfl (fun Γ hG hl X Y9 => ?_)
  subst hG
  subst hl
  refine V.aload_n X dX10_init_0 rfl ?_
  refine V.objInit X dX10_init_1 (by decide +kernel) (by decide +kernel) (by decide +kernel) rfl ?_
  exact V.vret X Y9 dX10_init_4 ⟨rfl, rfl⟩ (Nat.le_of_ble_eq_true rfl) (Nat.le_of_ble_eq_true rfl)
theorem fX9_init_9 : FL wsX9_init RX9 9 11 0 (.array .int) true := ⟨_, rfl, by decide, Or.inl ⟨"ContractTester$Sequence", by decide +kernel, Or.inl rfl⟩, by decide +kernel, by decide +kernel, rfl⟩
set_option maxHeartbeats 4000000 in
set_option maxRecDepth 100000 in
theorem c_X9_init (l : Launch) (G : GG) {h : Hp} {a : Nat} (k0 : Hk h a = some (.inl 11)) (k1 : Hv h a 1 = .int 0) (hz : Hz h = a + 1) : Con l G yX9_init wsX9_init 1 20 1 8 [.ref a] h (pV (fun h2 => SqAt h2 a [] ∧ Fr (fun q => q = a) h h2 ∧ Hz h2 = a + 2)) := by
  refine Con.of (cc := cX9_init) (nL := 1) (ret := none) (by decide) rfl rfl rfl rfl (fun Γ hG hl X Y9 => ?_)
  subst hG
  subst hl
  refine V.wf (fun w => ?_)
  refine V.aload_n X dX9_init_0 rfl ?_
  refine V.objInit X dX9_init_1 (by decide +kernel) (by decide +kernel) (by decide +kernel) rfl ?_
  refine V.aload_n X dX9_init_4 rfl ?_
  refine V.bipush (v := nI 8) X dX9_init_5 (by decide) ?_
  refine V.newI (N := 8) X dX9_init_7 (by decide +kernel) rfl rfl rfl rfl ?_
  refine V.putF X Y9 rfl fX9_init_9 (fun q hq => by cases hq; rfl) (nest_no (by decide +kernel)) dX9_init_9 (by rw [Hk_new, if_neg (by omega)]; exact k0) rfl rfl ?_
  exact V.vret X Y9 dX9_init_12 ⟨rfl, ⟨by rw [Hk_put, Hk_new, if_neg (by omega)]; exact k0, by rw [Hv_put_at, hz], by rw [Hv_put_k _ _ _ _ (by decide), Hv_new, if_neg (by omega)]; exact k1, by simp, by rw [Hk_put, Hk_new, if_pos hz.symm], fun i hi => by simp at hi⟩, ((Fr.rf (S := fun q => q = a)).thenNew).thenPut (Or.inl rfl), by rw [Hz_put, Hz_new, hz]⟩ (Nat.le_of_ble_eq_true rfl) (Nat.le_of_ble_eq_true rfl)
theorem fX6_init_10 : FL wsX6_init RX6 10 8 0 (.object "java/util/ArrayList") true := ⟨_, rfl, by decide, Or.inl ⟨"ContractTester$Method", by decide +kernel, Or.inl rfl⟩, by decide +kernel, by decide +kernel, rfl⟩
theorem fX6_init_16 : FL wsX6_init RX6 16 8 1 (.object "java/util/ArrayList") true := ⟨_, rfl, by decide, Or.inl ⟨"ContractTester$Method", by decide +kernel, Or.inl rfl⟩, by decide +kernel, by decide +kernel, rfl⟩
theorem fX6_init_19 : FL wsX6_init RX6 19 8 2 (.object "java/util/ArrayList") true := ⟨_, rfl, by decide, Or.inl ⟨"ContractTester$Method", by decide +kernel, Or.inl rfl⟩, by decide +kernel, by decide +kernel, rfl⟩
set_option maxHeartbeats 4000000 in
set_option maxRecDepth 100000 in
theorem c_X6_init (l : Launch) (G : GG) {h : Hp} {a : Nat} (k0 : Hk h a = some (.inl 8)) : Con l G yX6_init wsX6_init 4 80 3 9 [.ref a] h (pV (fun h2 => (Hk h2 a = some (.inl 8) ∧ Hv h2 a 0 = .ref (Hz h) ∧ Hv h2 a 1 = .ref (Hz h + 1) ∧ Hv h2 a 2 = .ref (Hz h + 2)) ∧ (LsAt (fun _ => False) G h2 (Hz h) [] ∧ LsAt (fun _ => False) G h2 (Hz h + 1) [] ∧ LsAt (fun _ => False) G h2 (Hz h + 2) []) ∧ Fr (fun q => q = a) h h2 ∧ Hz h2 = Hz h + 3)) := by
  refine Con.of (cc := cX6_init) (nL := 1) (ret := none) (by decide) rfl rfl rfl rfl (fun Γ hG hl X Y9 => ?_)
  subst hG
  subst hl
  refine V.wf (fun w => ?_)
  have ha := w _ _ k0
  refine V.aload_n X dX6_init_0 rfl ?_
  refine V.objInit X dX6_init_1 (by decide +kernel) (by decide +kernel) (by decide +kernel) rfl ?_
  refine V.aload_n X dX6_init_4 rfl ?_
  refine V.new (ci := 1) X dX6_init_5 rfl (by decide +kernel) (by decide +kernel) (by decide +kernel) (by decide +kernel) tyJx4a65c tyJx4a65c_ok rfl rfl ?_
  refine V.dup X dX6_init_8 rfl ?_
  refine V.callIv (n := 0) X dX6_init_9 gX6_init_Jx4a65c_init_da8c8 (c_Jx4a65c_init_da8c8 _ _ (P := fun _ => False) (by rw [Hk_new, if_pos rfl]) (by rw [Hv_new, if_pos rfl]; rfl)) rfl (by decide +kernel) (by decide +kernel) (by decide +kernel) rfl (by decide +kernel) rfl rfl rfl ⟨Nat.le_of_ble_eq_true rfl, Nat.le_of_ble_eq_true rfl⟩ (fun h9 hp9 => ?_)
  obtain ⟨l9, f9, z9⟩ := hp9
  have F9 : Fr (fun q => q = a) h h9 := ((Fr.rf (S := fun q => q = a)).thenNew).then f9 (fun q hq e => by omega)
  have z9 : Hz h9 = Hz h + 1 := z9
  refine V.wf (fun w9 => ?_)
  refine V.putF X Y9 rfl fX6_init_10 (fun q hq => by cases hq; rfl) (nest_no (by decide +kernel)) dX6_init_12 (F9.k w k0) rfl rfl ?_
  have F12 : Fr (fun q => q = a) h (Hput h9 a 0 (.ref (Hz h))) := F9.thenPut (Or.inl rfl)
  have l12 := l9.kept w9 (Fr.put (S := fun q => q = a) (a := a) (k := 0) (x := .ref (Hz h)) (Or.inl rfl)) (show ¬ Hz h = a by omega) (fun d e => e.elim)
  refine V.aload_n X dX6_init_15 rfl ?_
  refine V.new (ci := 1) X dX6_init_16 rfl (by decide +kernel) (by decide +kernel) (by decide +kernel) (by decide +kernel) tyJx4a65c tyJx4a65c_ok rfl rfl ?_
  refine V.dup X dX6_init_19 rfl ?_
  refine V.callIv (n := 0) X dX6_init_20 gX6_init_Jx4a65c_init_da8c8 (c_Jx4a65c_init_da8c8 _ _ (P := fun _ => False) (by rw [Hk_new, if_pos rfl]) (by rw [Hv_new, if_pos rfl]; rfl)) rfl (by decide +kernel) (by decide +kernel) (by decide +kernel) rfl (by decide +kernel) rfl rfl rfl ⟨Nat.le_of_ble_eq_true rfl, Nat.le_of_ble_eq_true rfl⟩ (fun h20 hp20 => ?_)
  obtain ⟨l20, f20, z20⟩ := hp20
  rw [show Hz (Hput h9 a 0 (.ref (Hz h))) = Hz h + 1 from z9] at l20 f20 ⊢
  have F20 : Fr (fun q => q = a) h h20 := (F12.thenNew).then f20 (fun q hq e => by omega)
  have G20 : Fr (fun q => q = Hz h + 1) (Hput h9 a 0 (.ref (Hz h))) h20 := (Fr.new).tr f20
  have z20 : Hz h20 = Hz h + 2 := by rw [z20, Hz_new, Hz_put, z9]
  have v20 : Hv h20 a 0 = .ref (Hz h) := by rw [G20.2.2 a (by rw [Hz_put]; omega) (by omega), Hv_put_at]
  have l20b := l12.kept w9 G20 (show ¬ Hz h = Hz h + 1 by omega) (fun d e => e.elim)
  refine V.wf (fun w20 => ?_)
  refine V.putF X Y9 rfl fX6_init_16 (fun q hq => by cases hq; rfl) (nest_no (by decide +kernel)) dX6_init_23 (F20.k w k0) rfl rfl ?_
  have F23 : Fr (fun q => q = a) h (Hput h20 a 1 (.ref (Hz h + 1))) := F20.thenPut (Or.inl rfl)
  have P23 := Fr.put (S := fun q => q = a) (h := h20) (a := a) (k := 1) (x := .ref (Hz h + 1)) (Or.inl rfl)
  have l23 := l20b.kept w20 P23 (show ¬ Hz h = a by omega) (fun d e => e.elim)
  have l23b := l20.kept w20 P23 (show ¬ Hz h + 1 = a by omega) (fun d e => e.elim)
  refine V.aload_n X dX6_init_26 rfl ?_
  refine V.new (ci := 1) X dX6_init_27 rfl (by decide +kernel) (by decide +kernel) (by decide +kernel) (by decide +kernel) tyJx4a65c tyJx4a65c_ok rfl rfl ?_
  refine V.dup X dX6_init_30 rfl ?_
  refine V.callIv (n := 0) X dX6_init_31 gX6_init_Jx4a65c_init_da8c8 (c_Jx4a65c_init_da8c8 _ _ (P := fun _ => False) (by rw [Hk_new, if_pos rfl]) (by rw [Hv_new, if_pos rfl]; rfl)) rfl (by decide +kernel) (by decide +kernel) (by decide +kernel) rfl (by decide +kernel) rfl rfl rfl ⟨Nat.le_of_ble_eq_true rfl, Nat.le_of_ble_eq_true rfl⟩ (fun h31 hp31 => ?_)
  obtain ⟨l31, f31, z31⟩ := hp31
  rw [show Hz (Hput h20 a 1 (.ref (Hz h + 1))) = Hz h + 2 from z20] at l31 f31 ⊢
  have F31 : Fr (fun q => q = a) h h31 := (F23.thenNew).then f31 (fun q hq e => by omega)
  have G31 : Fr (fun q => q = Hz h + 2) (Hput h20 a 1 (.ref (Hz h + 1))) h31 := (Fr.new).tr f31
  have z31 : Hz h31 = Hz h + 3 := by rw [z31, Hz_new, Hz_put, z20]
  have v31 : Hv h31 a 0 = .ref (Hz h) := by rw [G31.2.2 a (by rw [Hz_put]; omega) (by omega), Hv_put_k _ _ _ _ (by decide)]; exact v20
  have v31b : Hv h31 a 1 = .ref (Hz h + 1) := by rw [G31.2.2 a (by rw [Hz_put]; omega) (by omega), Hv_put_at]
  have l31b := l23.kept (fun q t z => w20 q t z) G31 (show ¬ Hz h = Hz h + 2 by omega) (fun d e => e.elim)
  have l31c := l23b.kept (fun q t z => w20 q t z) G31 (show ¬ Hz h + 1 = Hz h + 2 by omega) (fun d e => e.elim)
  refine V.wf (fun w31 => ?_)
  refine V.putF X Y9 rfl fX6_init_19 (fun q hq => by cases hq; rfl) (nest_no (by decide +kernel)) dX6_init_34 (F31.k w k0) rfl rfl ?_
  have P34 := Fr.put (S := fun q => q = a) (h := h31) (a := a) (k := 2) (x := .ref (Hz h + 2)) (Or.inl rfl)
  exact V.vret X Y9 dX6_init_37 ⟨rfl, ⟨F31.k w k0, by rw [Hv_put_k _ _ _ _ (by decide)]; exact v31, by rw [Hv_put_k _ _ _ _ (by decide)]; exact v31b, by rw [Hv_put_at]⟩, ⟨l31b.kept w31 P34 (by omega) (fun d e => e.elim), l31c.kept w31 P34 (by omega) (fun d e => e.elim), l31.kept w31 P34 (by omega) (fun d e => e.elim)⟩, F31.thenPut (Or.inl rfl), z31⟩ (Nat.le_of_ble_eq_true rfl) (Nat.le_of_ble_eq_true rfl)
theorem fX8_readOperand_12 : FL wsX8_readOperand RX8 12 10 0 (.object "ContractTester$Lexemes") true := ⟨_, rfl, by decide, Or.inl ⟨"ContractTester$Parser", by decide +kernel, Or.inl rfl⟩, by decide +kernel, by decide +kernel, rfl⟩
set_option maxHeartbeats 4000000 in
set_option maxRecDepth 100000 in
theorem c_readOperand_f (l : Launch) (G : GG) {h : Hp} {p lx n : Nat} {ts r : List Tok} (hP : Hk h p = some (.inl 10)) (hPv : Hv h p 0 = .ref lx) (hA : LxR h lx n ts r)  : Con l G yX8_readOperand wsX8_readOperand 2 43 1 2 [.ref p, .int (nI 0)] h (pR (fun v h2 => Fr (fun q => q = lx) h h2 ∧ ((∃ o r', pOpd false r = (some o, r') ∧ LxR h2 lx n ts r' ∧ ∃ a, v = .ref a ∧ Hz h ≤ a ∧ OpAt (fun q => Hz h ≤ q) h2 a o) ∨ (∃ r', pOpd false r = (none, r') ∧ v = .null ∧ LxR h2 lx n ts r')))) := by
  refine Con.of (cc := cX8_readOperand) (nL := 4) (ret := (some (.object "ContractTester$Operand"))) (by decide) rfl rfl rfl rfl (fun Γ hG hl X Y9 => ?_)
  subst hG
  subst hl
  have hne : ¬ p = lx := fun e => by have := hA.ob; rw [← e, hP] at this; cases this
  have e306 : (if false = true then acc 306 r else none) = none := rfl
  refine V.iload_n X dX8_readOperand_0 rfl ?_
  refine V.if_eq 48 X dX8_readOperand_1 (by decide) (fun c1 => ?_) (fun c1 => absurd rfl c1)
  refine V.aload_n X dX8_readOperand_48 rfl ?_
  refine V.getf  X fX8_readOperand_12 dX8_readOperand_49 hP hPv ?_
  refine V.callVi (n := 0) X dX8_readOperand_52 gX8_readOperand_X5_acceptField (c_X5_acceptField _ _ hA) rfl (by decide +kernel) rfl rfl rfl hA.ob rfl rfl ⟨Nat.le_of_ble_eq_true rfl, Nat.le_of_ble_eq_true rfl⟩ (fun r52 h52 hp52 => ?_)
  rcases hp52 with ⟨f, r1, e1, hf3, rfl, hA1, f1⟩ | ⟨e1, rfl, e9⟩
  rotate_left
  · obtain rfl := e9.symm
    refine V.istore_n X dX8_readOperand_55 [(0, _), (1, _), (2, _)] rfl rfl rfl ?_
    refine V.iload_n X dX8_readOperand_56 rfl ?_
    refine V.sipush (v := -1000) X dX8_readOperand_57 (by decide) ?_
    refine V.icmp_eq 73 X dX8_readOperand_60 (by decide) (fun c60 => ?_) (fun c60 => absurd rfl c60)
    refine V.aload_n X dX8_readOperand_73 rfl ?_
    refine V.getf  X fX8_readOperand_12 dX8_readOperand_74 hP hPv ?_
    refine V.callVi (n := 0) X dX8_readOperand_77 gX8_readOperand_X5_acceptNumber (c_X5_acceptNumber _ _ hA) rfl (by decide +kernel) rfl rfl rfl hA.ob rfl rfl ⟨Nat.le_of_ble_eq_true rfl, Nat.le_of_ble_eq_true rfl⟩ (fun r77 h77 hp77 => ?_)
    rcases hp77 with ⟨v, r1, e2, rfl, hv9, hA1, f1⟩ | ⟨r1, e2, rfl, hA1, f1⟩
    rotate_left
    · refine V.istore_n X dX8_readOperand_80 [(0, _), (1, _), (2, _), (3, _)] rfl rfl rfl ?_
      refine V.iload_n X dX8_readOperand_81 rfl ?_
      refine V.sipush (v := -1000) X dX8_readOperand_82 (by decide) ?_
      refine V.icmp_ne 92 X dX8_readOperand_85 (by decide) (fun c85 => absurd rfl c85) (fun c85 => ?_)
      refine V.null X dX8_readOperand_88 ?_
      refine V.goto 101 X dX8_readOperand_89 (by decide) ?_
      exact V.aret X Y9 (Or.inl ⟨_, rfl⟩) dX8_readOperand_101 (Or.inl rfl) ⟨f1, Or.inr ⟨_, pOpd_x e306 e1 e2, rfl, hA1⟩⟩ (by omega) (by omega)
    refine V.istore_n X dX8_readOperand_80 [(0, _), (1, _), (2, _), (3, _)] rfl rfl rfl ?_
    refine V.iload_n X dX8_readOperand_81 rfl ?_
    refine V.sipush (v := -1000) X dX8_readOperand_82 (by decide) ?_
    refine V.icmp_ne 92 X dX8_readOperand_85 (by decide) (fun c85 => ?_) (fun c85 => absurd c85 hv9)
    refine V.wf (fun w9 => ?_)
    refine V.new (ci := 9) X dX8_readOperand_92 rfl (by decide +kernel) (by decide +kernel) (by decide +kernel) (by decide +kernel) tyX7 tyX7_ok rfl rfl ?_
    refine V.dup X dX8_readOperand_95 rfl ?_
    refine V.iconst (v := -1) X dX8_readOperand_96 (by decide) ?_
    refine V.iload_n X dX8_readOperand_97 rfl ?_
    refine V.callIv (n := 2) X dX8_readOperand_98 gX8_readOperand_X7_init (c_X7_init _ _ (by rw [Hk_new, if_pos rfl])) rfl (by decide +kernel) (by decide +kernel) (by decide +kernel) rfl (by decide +kernel) rfl rfl rfl ⟨Nat.le_of_ble_eq_true rfl, Nat.le_of_ble_eq_true rfl⟩ (fun h98 hp98 => ?_)
    subst hp98
    exact V.aret X Y9 (Or.inl ⟨_, rfl⟩) dX8_readOperand_101 (Or.inr ⟨_, rfl⟩) ⟨((f1).thenNew.thenPut (Or.inr (f1).1)).thenPut (Or.inr (f1).1), Or.inl ⟨_, _, pOpd_n e306 e1 e2, LxR.kept3 hA1 w9, _, rfl, (f1).1, ⟨(f1).1, by rw [Hk_put, Hk_put, Hk_new, if_pos rfl], by rw [Hv_put_k _ _ _ _ (by decide), Hv_put_at], by rw [Hv_put_at]⟩⟩⟩ (Nat.le_of_ble_eq_true rfl) (Nat.le_of_ble_eq_true rfl)
  refine V.istore_n X dX8_readOperand_55 [(0, _), (1, _), (2, _)] rfl rfl rfl ?_
  refine V.iload_n X dX8_readOperand_56 rfl ?_
  refine V.sipush (v := -1000) X dX8_readOperand_57 (by decide) ?_
  refine V.icmp_eq 73 X dX8_readOperand_60 (by decide) (fun c60 => absurd c60 (fld_ne hf3)) (fun c60 => ?_)
  refine V.wf (fun w9 => ?_)
  refine V.new (ci := 9) X dX8_readOperand_63 rfl (by decide +kernel) (by decide +kernel) (by decide +kernel) (by decide +kernel) tyX7 tyX7_ok rfl rfl ?_
  refine V.dup X dX8_readOperand_66 rfl ?_
  refine V.iload_n X dX8_readOperand_67 rfl ?_
  refine V.iconst (v := nI 0) X dX8_readOperand_68 (by decide) ?_
  refine V.callIv (n := 2) X dX8_readOperand_69 gX8_readOperand_X7_init (c_X7_init _ _ (by rw [Hk_new, if_pos rfl])) rfl (by decide +kernel) (by decide +kernel) (by decide +kernel) rfl (by decide +kernel) rfl rfl rfl ⟨Nat.le_of_ble_eq_true rfl, Nat.le_of_ble_eq_true rfl⟩ (fun h69 hp69 => ?_)
  subst hp69
  exact V.aret X Y9 (Or.inl ⟨_, rfl⟩) dX8_readOperand_72 (Or.inr ⟨_, rfl⟩) ⟨((f1).thenNew.thenPut (Or.inr (f1).1)).thenPut (Or.inr (f1).1), Or.inl ⟨_, _, pOpd_f e306 e1, LxR.kept3 hA1 w9, _, rfl, (f1).1, ⟨(f1).1, by rw [Hk_put, Hk_put, Hk_new, if_pos rfl], by rw [Hv_put_k _ _ _ _ (by decide), Hv_put_at], by rw [Hv_put_at]⟩⟩⟩ (Nat.le_of_ble_eq_true rfl) (Nat.le_of_ble_eq_true rfl)
set_option maxHeartbeats 4000000 in
set_option maxRecDepth 100000 in
theorem c_readOperand_t (l : Launch) (G : GG) {h : Hp} {p lx n : Nat} {ts r : List Tok} (hP : Hk h p = some (.inl 10)) (hPv : Hv h p 0 = .ref lx) (hA : LxR h lx n ts r)  : Con l G yX8_readOperand wsX8_readOperand 2 43 1 2 [.ref p, .int (nI 1)] h (pR (fun v h2 => Fr (fun q => q = lx) h h2 ∧ ((∃ o r', pOpd true r = (some o, r') ∧ LxR h2 lx n ts r' ∧ ∃ a, v = .ref a ∧ Hz h ≤ a ∧ OpAt (fun q => Hz h ≤ q) h2 a o) ∨ (∃ r', pOpd true r = (none, r') ∧ v = .null ∧ LxR h2 lx n ts r')))) := by
  refine Con.of (cc := cX8_readOperand) (nL := 4) (ret := (some (.object "ContractTester$Operand"))) (by decide) rfl rfl rfl rfl (fun Γ hG hl X Y9 => ?_)
  subst hG
  subst hl
  have hne : ¬ p = lx := fun e => by have := hA.ob; rw [← e, hP] at this; cases this
  refine V.wf (fun w0 => ?_)
  refine V.iload_n X dX8_readOperand_0 rfl ?_
  refine V.if_eq 48 X dX8_readOperand_1 (by decide) (fun c1 => absurd c1 (by decide)) (fun c1 => ?_)
  refine V.aload_n X dX8_readOperand_4 rfl ?_
  refine V.getf  X fX8_readOperand_12 dX8_readOperand_5 (by assumption) (by assumption) ?_
  refine V.sipush (v := nI 306) X dX8_readOperand_8 (by decide) ?_
  refine V.callVi (n := 1) X dX8_readOperand_11 gX8_readOperand_X5_accept (c_X5_accept _ _ hA (c := 306) (by decide)) rfl (by decide +kernel) rfl rfl rfl hA.ob rfl rfl ⟨Nat.le_of_ble_eq_true rfl, Nat.le_of_ble_eq_true rfl⟩ (fun r11 h11 hp11 => ?_)
  rcases hp11 with ⟨r0, e0, rfl, hA0, f0⟩ | ⟨e0, rfl, e9⟩
  rotate_left
  · obtain rfl := e9.symm
    have e306 : (if true = true then acc 306 r else none) = none := e0
    refine V.if_eq 48 X dX8_readOperand_14 (by decide) (fun c15 => ?_) (fun c15 => absurd rfl c15)
    refine V.aload_n X dX8_readOperand_48 rfl ?_
    refine V.getf  X fX8_readOperand_12 dX8_readOperand_49 hP hPv ?_
    refine V.callVi (n := 0) X dX8_readOperand_52 gX8_readOperand_X5_acceptField (c_X5_acceptField _ _ hA) rfl (by decide +kernel) rfl rfl rfl hA.ob rfl rfl ⟨Nat.le_of_ble_eq_true rfl, Nat.le_of_ble_eq_true rfl⟩ (fun r52 h52 hp52 => ?_)
    rcases hp52 with ⟨f, r1, e1, hf3, rfl, hA1, f1⟩ | ⟨e1, rfl, e9⟩
    rotate_left
    · obtain rfl := e9.symm
      refine V.istore_n X dX8_readOperand_55 [(0, _), (1, _), (2, _)] rfl rfl rfl ?_
      refine V.iload_n X dX8_readOperand_56 rfl ?_
      refine V.sipush (v := -1000) X dX8_readOperand_57 (by decide) ?_
      refine V.icmp_eq 73 X dX8_readOperand_60 (by decide) (fun c60 => ?_) (fun c60 => absurd rfl c60)
      refine V.aload_n X dX8_readOperand_73 rfl ?_
      refine V.getf  X fX8_readOperand_12 dX8_readOperand_74 hP hPv ?_
      refine V.callVi (n := 0) X dX8_readOperand_77 gX8_readOperand_X5_acceptNumber (c_X5_acceptNumber _ _ hA) rfl (by decide +kernel) rfl rfl rfl hA.ob rfl rfl ⟨Nat.le_of_ble_eq_true rfl, Nat.le_of_ble_eq_true rfl⟩ (fun r77 h77 hp77 => ?_)
      rcases hp77 with ⟨v, r1, e2, rfl, hv9, hA1, f1⟩ | ⟨r1, e2, rfl, hA1, f1⟩
      rotate_left
      · refine V.istore_n X dX8_readOperand_80 [(0, _), (1, _), (2, _), (3, _)] rfl rfl rfl ?_
        refine V.iload_n X dX8_readOperand_81 rfl ?_
        refine V.sipush (v := -1000) X dX8_readOperand_82 (by decide) ?_
        refine V.icmp_ne 92 X dX8_readOperand_85 (by decide) (fun c85 => absurd rfl c85) (fun c85 => ?_)
        refine V.null X dX8_readOperand_88 ?_
        refine V.goto 101 X dX8_readOperand_89 (by decide) ?_
        exact V.aret X Y9 (Or.inl ⟨_, rfl⟩) dX8_readOperand_101 (Or.inl rfl) ⟨f1, Or.inr ⟨_, pOpd_x e306 e1 e2, rfl, hA1⟩⟩ (by omega) (by omega)
      refine V.istore_n X dX8_readOperand_80 [(0, _), (1, _), (2, _), (3, _)] rfl rfl rfl ?_
      refine V.iload_n X dX8_readOperand_81 rfl ?_
      refine V.sipush (v := -1000) X dX8_readOperand_82 (by decide) ?_
      refine V.icmp_ne 92 X dX8_readOperand_85 (by decide) (fun c85 => ?_) (fun c85 => absurd c85 hv9)
      refine V.wf (fun w9 => ?_)
      refine V.new (ci := 9) X dX8_readOperand_92 rfl (by decide +kernel) (by decide +kernel) (by decide +kernel) (by decide +kernel) tyX7 tyX7_ok rfl rfl ?_
      refine V.dup X dX8_readOperand_95 rfl ?_
      refine V.iconst (v := -1) X dX8_readOperand_96 (by decide) ?_
      refine V.iload_n X dX8_readOperand_97 rfl ?_
      refine V.callIv (n := 2) X dX8_readOperand_98 gX8_readOperand_X7_init (c_X7_init _ _ (by rw [Hk_new, if_pos rfl])) rfl (by decide +kernel) (by decide +kernel) (by decide +kernel) rfl (by decide +kernel) rfl rfl rfl ⟨Nat.le_of_ble_eq_true rfl, Nat.le_of_ble_eq_true rfl⟩ (fun h98 hp98 => ?_)
      subst hp98
      exact V.aret X Y9 (Or.inl ⟨_, rfl⟩) dX8_readOperand_101 (Or.inr ⟨_, rfl⟩) ⟨((f1).thenNew.thenPut (Or.inr (f1).1)).thenPut (Or.inr (f1).1), Or.inl ⟨_, _, pOpd_n e306 e1 e2, LxR.kept3 hA1 w9, _, rfl, (f1).1, ⟨(f1).1, by rw [Hk_put, Hk_put, Hk_new, if_pos rfl], by rw [Hv_put_k _ _ _ _ (by decide), Hv_put_at], by rw [Hv_put_at]⟩⟩⟩ (Nat.le_of_ble_eq_true rfl) (Nat.le_of_ble_eq_true rfl)
    refine V.istore_n X dX8_readOperand_55 [(0, _), (1, _), (2, _)] rfl rfl rfl ?_
    refine V.iload_n X dX8_readOperand_56 rfl ?_
    refine V.sipush (v := -1000) X dX8_readOperand_57 (by decide) ?_
    refine V.icmp_eq 73 X dX8_readOperand_60 (by decide) (fun c60 => absurd c60 (fld_ne hf3)) (fun c60 => ?_)
    refine V.wf (fun w9 => ?_)
    refine V.new (ci := 9) X dX8_readOperand_63 rfl (by decide +kernel) (by decide +kernel) (by decide +kernel) (by decide +kernel) tyX7 tyX7_ok rfl rfl ?_
    refine V.dup X dX8_readOperand_66 rfl ?_
    refine V.iload_n X dX8_readOperand_67 rfl ?_
    refine V.iconst (v := nI 0) X dX8_readOperand_68 (by decide) ?_
    refine V.callIv (n := 2) X dX8_readOperand_69 gX8_readOperand_X7_init (c_X7_init _ _ (by rw [Hk_new, if_pos rfl])) rfl (by decide +kernel) (by decide +kernel) (by decide +kernel) rfl (by decide +kernel) rfl rfl rfl ⟨Nat.le_of_ble_eq_true rfl, Nat.le_of_ble_eq_true rfl⟩ (fun h69 hp69 => ?_)
    subst hp69
    exact V.aret X Y9 (Or.inl ⟨_, rfl⟩) dX8_readOperand_72 (Or.inr ⟨_, rfl⟩) ⟨((f1).thenNew.thenPut (Or.inr (f1).1)).thenPut (Or.inr (f1).1), Or.inl ⟨_, _, pOpd_f e306 e1, LxR.kept3 hA1 w9, _, rfl, (f1).1, ⟨(f1).1, by rw [Hk_put, Hk_put, Hk_new, if_pos rfl], by rw [Hv_put_k _ _ _ _ (by decide), Hv_put_at], by rw [Hv_put_at]⟩⟩⟩ (Nat.le_of_ble_eq_true rfl) (Nat.le_of_ble_eq_true rfl)
  refine V.if_eq 48 X dX8_readOperand_14 (by decide) (fun c15 => absurd c15 (by decide)) (fun c15 => ?_)
  refine V.wf (fun w => ?_)
  refine V.aload_n X dX8_readOperand_17 rfl ?_
  refine V.getf X fX8_readOperand_12 dX8_readOperand_18 (f0.k w0 hP) (V17 f0 w0 hP hPv hne) ?_
  refine V.callVi (n := 0) X dX8_readOperand_21 gX8_readOperand_X5_acceptField (c_X5_acceptField _ _ hA0) rfl (by decide +kernel) rfl rfl rfl hA0.ob rfl rfl ⟨Nat.le_of_ble_eq_true rfl, Nat.le_of_ble_eq_true rfl⟩ (fun r21 h21 hp21 => ?_)
  rcases hp21 with ⟨f, r1, e1, hf3, rfl, hA1, f1⟩ | ⟨e1, rfl, e9⟩
  rotate_left
  · obtain rfl := e9.symm
    refine V.istore_n X dX8_readOperand_24 [(0, _), (1, _), (2, _)] rfl rfl rfl ?_
    refine V.iload_n X dX8_readOperand_25 rfl ?_
    refine V.sipush (v := -1000) X dX8_readOperand_26 (by decide) ?_
    refine V.icmp_ne 36 X dX8_readOperand_29 (by decide) (fun c60 => absurd rfl c60) (fun c60 => ?_)
    refine V.null X dX8_readOperand_32 ?_
    refine V.goto 47 X dX8_readOperand_33 (by decide) ?_
    exact V.aret X Y9 (Or.inl ⟨_, rfl⟩) dX8_readOperand_47 (Or.inl rfl) ⟨f0, Or.inr ⟨_, pOpd_ox e0 e1, rfl, hA0⟩⟩ (by omega) (by omega)
  have F1 := f0.tr f1
  refine V.istore_n X dX8_readOperand_24 [(0, _), (1, _), (2, _)] rfl rfl rfl ?_
  refine V.iload_n X dX8_readOperand_25 rfl ?_
  refine V.sipush (v := -1000) X dX8_readOperand_26 (by decide) ?_
  refine V.icmp_ne 36 X dX8_readOperand_29 (by decide) (fun c60 => ?_) (fun c60 => absurd c60 (fld_ne hf3))
  refine V.wf (fun w9 => ?_)
  refine V.new (ci := 9) X dX8_readOperand_36 rfl (by decide +kernel) (by decide +kernel) (by decide +kernel) (by decide +kernel) tyX7 tyX7_ok rfl rfl ?_
  refine V.dup X dX8_readOperand_39 rfl ?_
  refine V.iconst (v := nI 3) X dX8_readOperand_40 (by decide) ?_
  refine V.iload_n X dX8_readOperand_41 rfl ?_
  refine V.iadd X dX8_readOperand_42 ?_
  refine V.iconst (v := nI 0) X dX8_readOperand_43 (by decide) ?_
  refine V.callIv (n := 2) X dX8_readOperand_44 gX8_readOperand_X7_init (c_X7_init _ _ (by rw [Hk_new, if_pos rfl])) rfl (by decide +kernel) (by decide +kernel) (by decide +kernel) rfl (by decide +kernel) rfl rfl rfl ⟨Nat.le_of_ble_eq_true rfl, Nat.le_of_ble_eq_true rfl⟩ (fun h44 hp44 => ?_)
  subst hp44
  exact V.aret X Y9 (Or.inl ⟨_, rfl⟩) dX8_readOperand_47 (Or.inr ⟨_, rfl⟩) ⟨((F1).thenNew.thenPut (Or.inr (F1).1)).thenPut (Or.inr (F1).1), Or.inl ⟨_, _, pOpd_o e0 e1, LxR.kept3 hA1 w9, _, rfl, (F1).1, ⟨(F1).1, by rw [Hk_put, Hk_put, Hk_new, if_pos rfl], by rw [Hv_put_k _ _ _ _ (by decide), Hv_put_at], by rw [Hv_put_at]⟩⟩⟩ (Nat.le_of_ble_eq_true rfl) (Nat.le_of_ble_eq_true rfl)
