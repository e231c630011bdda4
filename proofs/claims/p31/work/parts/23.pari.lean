theorem x5_lx {h : Hp} {a : Nat} {d0 d1 d2 : Nat → Value} (k0 : Hk h a = some (.inl 7)) (k3 : Hv h a 3 = .int 0) (k4 : Hv h a 4 = .int 0) (k5 : Hv h a 5 = .int 0) (hz : Hz h = a + 1) : LxAt (Hput (Hnew (Hput (Hnew (Hput (Hnew h (.inr (0, 200)) d0) a 0 (.ref (Hz h))) (.inr (0, 200)) d1) a 1 (.ref (Hz (Hput (Hnew h (.inr (0, 200)) d0) a 0 (.ref (Hz h)))))) (.inr (0, 200)) d2) a 2 (.ref (Hz (Hput (Hnew (Hput (Hnew h (.inr (0, 200)) d0) a 0 (.ref (Hz h))) (.inr (0, 200)) d1) a 1 (.ref (Hz (Hput (Hnew h (.inr (0, 200)) d0) a 0 (.ref (Hz h))))))))) a 0 [] 0 := by
  refine ⟨?_, ?_, ?_, ?_, ?_, ?_, ?_, ?_, ?_, ?_, by simp, by omega, fun i k e => by simp at e⟩
  all_goals simp only [Hk_put, Hz_put, Hk_new, Hz_new, Hv_put, Hv_new, hz]
  all_goals repeat (first | rw [if_neg (by omega)] | rw [if_pos (by omega)] | rw [if_pos trivial] | rw [if_pos ⟨trivial, trivial⟩] | rw [if_neg (by simp)])
  · exact k0
  · exact k3
  · exact k4
  · exact k5
theorem fX5_init_9 : FL wsX5_init RX5 9 7 0 (.array .int) true := ⟨_, rfl, by decide, Or.inl ⟨"ContractTester$Lexemes", by decide +kernel, Or.inl rfl⟩, by decide +kernel, by decide +kernel, rfl⟩
theorem fX5_init_15 : FL wsX5_init RX5 15 7 1 (.array .int) true := ⟨_, rfl, by decide, Or.inl ⟨"ContractTester$Lexemes", by decide +kernel, Or.inl rfl⟩, by decide +kernel, by decide +kernel, rfl⟩
theorem fX5_init_18 : FL wsX5_init RX5 18 7 2 (.array .int) true := ⟨_, rfl, by decide, Or.inl ⟨"ContractTester$Lexemes", by decide +kernel, Or.inl rfl⟩, by decide +kernel, by decide +kernel, rfl⟩
set_option maxHeartbeats 4000000 in
set_option maxRecDepth 100000 in
theorem c_X5_init (l : Launch) (G : GG) {h : Hp} {a : Nat} (k0 : Hk h a = some (.inl 7)) (k3 : Hv h a 3 = .int 0) (k4 : Hv h a 4 = .int 0) (k5 : Hv h a 5 = .int 0) (hz : Hz h = a + 1) : Con l G yX5_init wsX5_init 1 20 3 600 [.ref a] h (pV (fun h2 => LxAt h2 a 0 [] 0 ∧ Fr (fun q => q = a) h h2 ∧ Hz h2 = a + 4)) := by
  refine Con.of (cc := cX5_init) (nL := 1) (ret := none) (by decide) rfl rfl rfl rfl (fun Γ hG hl X Y9 => ?_)
  subst hG
  subst hl
  refine V.wf (fun w => ?_)
  refine V.aload_n X dX5_init_0 rfl ?_
  refine V.objInit X dX5_init_1 (by decide +kernel) (by decide +kernel) (by decide +kernel) rfl ?_
  refine V.aload_n X dX5_init_4 rfl ?_
  refine V.sipush (v := nI 200) X dX5_init_5 (by decide) ?_
  refine V.newI (N := 200) X dX5_init_8 (by decide +kernel) rfl rfl rfl rfl ?_
  refine V.putF X Y9 rfl fX5_init_9 (fun q hq => by cases hq; rfl) (nest_no (by decide +kernel)) dX5_init_10 (by rw [Hk_new, if_neg (by omega)]; exact k0) rfl rfl ?_
  refine V.aload_n X dX5_init_13 rfl ?_
  refine V.sipush (v := nI 200) X dX5_init_14 (by decide) ?_
  refine V.newI (N := 200) X dX5_init_17 (by decide +kernel) rfl rfl rfl rfl ?_
  refine V.putF X Y9 rfl fX5_init_15 (fun q hq => by cases hq; rfl) (nest_no (by decide +kernel)) dX5_init_19 (by rw [Hk_new, Hk_put, Hz_put, Hz_new, if_neg (by omega), Hk_new, if_neg (by omega)]; exact k0) rfl rfl ?_
  refine V.aload_n X dX5_init_22 rfl ?_
  refine V.sipush (v := nI 200) X dX5_init_23 (by decide) ?_
  refine V.newI (N := 200) X dX5_init_26 (by decide +kernel) rfl rfl rfl rfl ?_
  refine V.putF X Y9 rfl fX5_init_18 (fun q hq => by cases hq; rfl) (nest_no (by decide +kernel)) dX5_init_28 (by rw [Hk_new, Hk_put, Hz_put, Hz_new, Hz_put, Hz_new, if_neg (by omega), Hk_new, Hk_put, Hz_put, Hz_new, if_neg (by omega), Hk_new, if_neg (by omega)]; exact k0) rfl rfl ?_
  exact V.vret X Y9 dX5_init_31 ⟨rfl, x5_lx k0 k3 k4 k5 hz, (((((Fr.rf (S := fun q => q = a)).thenNew).thenPut (Or.inl rfl)).thenNew.thenPut (Or.inl rfl)).thenNew.thenPut (Or.inl rfl)), by rw [Hz_put, Hz_new, Hz_put, Hz_new, Hz_put, Hz_new, hz]⟩ (Nat.le_of_ble_eq_true rfl) (Nat.le_of_ble_eq_true rfl)
theorem fX8_init_12 : FL wsX8_init RX8 12 10 0 (.object "ContractTester$Lexemes") true := ⟨_, rfl, by decide, Or.inl ⟨"ContractTester$Parser", by decide +kernel, Or.inl rfl⟩, by decide +kernel, by decide +kernel, rfl⟩
set_option maxHeartbeats 4000000 in
set_option maxRecDepth 100000 in
theorem c_X8_init (l : Launch) (G : GG) {h : Hp} {a : Nat} (k0 : Hk h a = some (.inl 10)) : Con l G yX8_init wsX8_init 2 40 4 606 [.ref a] h (pV (fun h2 => Hk h2 a = some (.inl 10) ∧ Hv h2 a 0 = .ref (Hz h) ∧ LxAt h2 (Hz h) 0 [] 0 ∧ Fr (fun q => q = a) h h2 ∧ Hz h2 = Hz h + 4)) := by
  refine Con.of (cc := cX8_init) (nL := 1) (ret := none) (by decide) rfl rfl rfl rfl (fun Γ hG hl X Y9 => ?_)
  subst hG
  subst hl
  refine V.wf (fun w => ?_)
  have ha := w _ _ k0
  refine V.aload_n X dX8_init_0 rfl ?_
  refine V.objInit X dX8_init_1 (by decide +kernel) (by decide +kernel) (by decide +kernel) rfl ?_
  refine V.aload_n X dX8_init_4 rfl ?_
  refine V.new (ci := 7) X dX8_init_5 rfl (by decide +kernel) (by decide +kernel) (by decide +kernel) (by decide +kernel) tyX5 tyX5_ok rfl rfl ?_
  refine V.dup X dX8_init_8 rfl ?_
  refine V.callINv (n := 0) X dX8_init_9 (host := "ContractTester") gX8_init_X5_init_n11 (c_X5_init _ _ (a := Hz h) (by rw [Hk_new, if_pos rfl]) (by rw [Hv_new, if_pos rfl]; rfl) (by rw [Hv_new, if_pos rfl]; rfl) (by rw [Hv_new, if_pos rfl]; rfl) (Hz_new _ _ _)) rfl (by decide +kernel) (by decide +kernel) (by decide +kernel) rfl (by decide +kernel) rfl rfl rfl ⟨Nat.le_of_ble_eq_true rfl, Nat.le_of_ble_eq_true rfl⟩ (fun h9 hp9 => ?_)
  obtain ⟨l9, f9, z9⟩ := hp9
  have F9 : Fr (fun q => q = a) h h9 := ((Fr.rf (S := fun q => q = a)).thenNew).then f9 (fun q hq e => by omega)
  refine V.wf (fun w9 => ?_)
  refine V.putF X Y9 rfl fX8_init_12 (fun q hq => by cases hq; rfl) (nest_no (by decide +kernel)) dX8_init_12 (F9.k w k0) rfl rfl ?_
  exact V.vret X Y9 dX8_init_15 ⟨rfl, F9.k w k0, by rw [Hv_put_at], l9.kept w9 (Fr.put (S := fun q => q = a) (a := a) (Or.inl rfl)) (fun q e z => by unfold lexS at z; omega), F9.thenPut (Or.inl rfl), z9⟩ (Nat.le_of_ble_eq_true rfl) (Nat.le_of_ble_eq_true rfl)
theorem fX1_init_12 : FL wsX1_init RX1 12 3 0 (.object "ContractTester$State") true := ⟨_, rfl, by decide, Or.inl ⟨"ContractTester$Component", by decide +kernel, Or.inl rfl⟩, by decide +kernel, by decide +kernel, rfl⟩
theorem fX1_init_21 : FL wsX1_init RX1 21 3 1 (.object "java/util/ArrayList") true := ⟨_, rfl, by decide, Or.inl ⟨"ContractTester$Component", by decide +kernel, Or.inl rfl⟩, by decide +kernel, by decide +kernel, rfl⟩
theorem fX1_init_25 : FL wsX1_init RX1 25 3 2 (.object "java/util/ArrayList") true := ⟨_, rfl, by decide, Or.inl ⟨"ContractTester$Component", by decide +kernel, Or.inl rfl⟩, by decide +kernel, by decide +kernel, rfl⟩
set_option maxHeartbeats 4000000 in
set_option maxRecDepth 100000 in
theorem c_X1_init (l : Launch) (G : GG) {h : Hp} {a : Nat} (k0 : Hk h a = some (.inl 3)) : Con l G yX1_init wsX1_init 4 80 3 9 [.ref a] h (pV (fun h2 => (Hk h2 a = some (.inl 3) ∧ Hv h2 a 0 = .ref (Hz h) ∧ Hv h2 a 1 = .ref (Hz h + 1) ∧ Hv h2 a 2 = .ref (Hz h + 2)) ∧ (StAt h2 (Hz h) (nI 0, nI 0, nI 0) ∧ LsAt (fun _ => False) G h2 (Hz h + 1) [] ∧ LsAt (fun _ => False) G h2 (Hz h + 2) []) ∧ Fr (fun q => q = a) h h2 ∧ Hz h2 = Hz h + 3)) := by
  refine Con.of (cc := cX1_init) (nL := 1) (ret := none) (by decide) rfl rfl rfl rfl (fun Γ hG hl X Y9 => ?_)
  subst hG
  subst hl
  refine V.wf (fun w => ?_)
  have ha := w _ _ k0
  refine V.aload_n X dX1_init_0 rfl ?_
  refine V.objInit X dX1_init_1 (by decide +kernel) (by decide +kernel) (by decide +kernel) rfl ?_
  refine V.aload_n X dX1_init_4 rfl ?_
  refine V.new (ci := 12) X dX1_init_5 rfl (by decide +kernel) (by decide +kernel) (by decide +kernel) (by decide +kernel) tyX10 tyX10_ok rfl rfl ?_
  refine V.dup X dX1_init_8 rfl ?_
  refine V.callINv (n := 0) X dX1_init_9 (host := "ContractTester") gX1_init_X10_init_n11 (c_X10_init _ _) rfl (by decide +kernel) (by decide +kernel) (by decide +kernel) rfl (by decide +kernel) rfl rfl rfl ⟨Nat.le_of_ble_eq_true rfl, Nat.le_of_ble_eq_true rfl⟩ (fun h9 hp9 => ?_)
  obtain rfl := hp9.symm
  have F9 : Fr (fun q => q = a) h (Hnew h (.inl 12) (fun k => defaultValue (tyX10 k))) := (Fr.rf (S := fun q => q = a)).thenNew
  have l9 : StAt (Hnew h (.inl 12) (fun k => defaultValue (tyX10 k))) (Hz h) (nI 0, nI 0, nI 0) := ⟨by rw [Hk_new, if_pos rfl], by rw [Hv_new, if_pos rfl]; rfl, by rw [Hv_new, if_pos rfl]; rfl, by rw [Hv_new, if_pos rfl]; rfl⟩
  have z9 : Hz (Hnew h (.inl 12) (fun k => defaultValue (tyX10 k))) = Hz h + 1 := rfl
  refine V.wf (fun w9 => ?_)
  refine V.putF X Y9 rfl fX1_init_12 (fun q hq => by cases hq; rfl) (nest_no (by decide +kernel)) dX1_init_12 (F9.k w k0) rfl rfl ?_
  have F12 : Fr (fun q => q = a) h (Hput (Hnew h (.inl 12) (fun k => defaultValue (tyX10 k))) a 0 (.ref (Hz h))) := F9.thenPut (Or.inl rfl)
  have l12 := l9.kept w9 (Fr.put (S := fun q => q = a) (a := a) (k := 0) (x := .ref (Hz h)) (Or.inl rfl)) (show ¬ Hz h = a by omega)
  refine V.aload_n X dX1_init_15 rfl ?_
  refine V.new (ci := 1) X dX1_init_16 rfl (by decide +kernel) (by decide +kernel) (by decide +kernel) (by decide +kernel) tyJx4a65c tyJx4a65c_ok rfl rfl ?_
  refine V.dup X dX1_init_19 rfl ?_
  refine V.callIv (n := 0) X dX1_init_20 gX1_init_Jx4a65c_init_da8c8 (c_Jx4a65c_init_da8c8 _ _ (P := fun _ => False) (by rw [Hk_new, if_pos rfl]) (by rw [Hv_new, if_pos rfl]; rfl)) rfl (by decide +kernel) (by decide +kernel) (by decide +kernel) rfl (by decide +kernel) rfl rfl rfl ⟨Nat.le_of_ble_eq_true rfl, Nat.le_of_ble_eq_true rfl⟩ (fun h20 hp20 => ?_)
  obtain ⟨l20, f20, z20⟩ := hp20
  rw [show Hz (Hput (Hnew h (.inl 12) (fun k => defaultValue (tyX10 k))) a 0 (.ref (Hz h))) = Hz h + 1 from z9] at l20 f20 ⊢
  have F20 : Fr (fun q => q = a) h h20 := (F12.thenNew).then f20 (fun q hq e => by omega)
  have G20 : Fr (fun q => q = Hz h + 1) (Hput (Hnew h (.inl 12) (fun k => defaultValue (tyX10 k))) a 0 (.ref (Hz h))) h20 := (Fr.new).tr f20
  have z20 : Hz h20 = Hz h + 2 := by rw [z20, Hz_new, Hz_put, z9]
  have v20 : Hv h20 a 0 = .ref (Hz h) := by rw [G20.2.2 a (by rw [Hz_put]; omega) (by omega), Hv_put_at]
  have l20b := l12.kept w9 G20 (show ¬ Hz h = Hz h + 1 by omega)
  refine V.wf (fun w20 => ?_)
  refine V.putF X Y9 rfl fX1_init_21 (fun q hq => by cases hq; rfl) (nest_no (by decide +kernel)) dX1_init_23 (F20.k w k0) rfl rfl ?_
  have F23 : Fr (fun q => q = a) h (Hput h20 a 1 (.ref (Hz h + 1))) := F20.thenPut (Or.inl rfl)
  have P23 := Fr.put (S := fun q => q = a) (h := h20) (a := a) (k := 1) (x := .ref (Hz h + 1)) (Or.inl rfl)
  have l23 := l20b.kept w20 P23 (show ¬ Hz h = a by omega)
  have l23b := l20.kept w20 P23 (show ¬ Hz h + 1 = a by omega) (fun d e => e.elim)
  refine V.aload_n X dX1_init_26 rfl ?_
  refine V.new (ci := 1) X dX1_init_27 rfl (by decide +kernel) (by decide +kernel) (by decide +kernel) (by decide +kernel) tyJx4a65c tyJx4a65c_ok rfl rfl ?_
  refine V.dup X dX1_init_30 rfl ?_
  refine V.callIv (n := 0) X dX1_init_31 gX1_init_Jx4a65c_init_da8c8 (c_Jx4a65c_init_da8c8 _ _ (P := fun _ => False) (by rw [Hk_new, if_pos rfl]) (by rw [Hv_new, if_pos rfl]; rfl)) rfl (by decide +kernel) (by decide +kernel) (by decide +kernel) rfl (by decide +kernel) rfl rfl rfl ⟨Nat.le_of_ble_eq_true rfl, Nat.le_of_ble_eq_true rfl⟩ (fun h31 hp31 => ?_)
  obtain ⟨l31, f31, z31⟩ := hp31
  rw [show Hz (Hput h20 a 1 (.ref (Hz h + 1))) = Hz h + 2 from z20] at l31 f31 ⊢
  have F31 : Fr (fun q => q = a) h h31 := (F23.thenNew).then f31 (fun q hq e => by omega)
  have G31 : Fr (fun q => q = Hz h + 2) (Hput h20 a 1 (.ref (Hz h + 1))) h31 := (Fr.new).tr f31
  have z31 : Hz h31 = Hz h + 3 := by rw [z31, Hz_new, Hz_put, z20]
  have v31 : Hv h31 a 0 = .ref (Hz h) := by rw [G31.2.2 a (by rw [Hz_put]; omega) (by omega), Hv_put_k _ _ _ _ (by decide)]; exact v20
  have v31b : Hv h31 a 1 = .ref (Hz h + 1) := by rw [G31.2.2 a (by rw [Hz_put]; omega) (by omega), Hv_put_at]
  have l31b := l23.kept (fun q t z => w20 q t z) G31 (show ¬ Hz h = Hz h + 2 by omega)
  have l31c := l23b.kept (fun q t z => w20 q t z) G31 (show ¬ Hz h + 1 = Hz h + 2 by omega) (fun d e => e.elim)
  refine V.wf (fun w31 => ?_)
  refine V.putF X Y9 rfl fX1_init_25 (fun q hq => by cases hq; rfl) (nest_no (by decide +kernel)) dX1_init_34 (F31.k w k0) rfl rfl ?_
  have P34 := Fr.put (S := fun q => q = a) (h := h31) (a := a) (k := 2) (x := .ref (Hz h + 2)) (Or.inl rfl)
  exact V.vret X Y9 dX1_init_37 ⟨rfl, ⟨F31.k w k0, by rw [Hv_put_k _ _ _ _ (by decide)]; exact v31, by rw [Hv_put_k _ _ _ _ (by decide)]; exact v31b, by rw [Hv_put_at]⟩, ⟨l31b.kept w31 P34 (by omega), l31c.kept w31 P34 (by omega) (fun d e => e.elim), l31.kept w31 P34 (by omega) (fun d e => e.elim)⟩, F31.thenPut (Or.inl rfl), z31⟩ (Nat.le_of_ble_eq_true rfl) (Nat.le_of_ble_eq_true rfl)
theorem fX8_errorOffset_12 : FL wsX8_errorOffset RX8 12 10 0 (.object "ContractTester$Lexemes") true := ⟨_, rfl, by decide, Or.inl ⟨"ContractTester$Parser", by decide +kernel, Or.inl rfl⟩, by decide +kernel, by decide +kernel, rfl⟩
set_option maxHeartbeats 4000000 in
set_option maxRecDepth 100000 in
theorem c_X8_errorOffset (l : Launch) (G : GG) {h : Hp} {p lx n : Nat} {ts r : List Tok} (hP : Hk h p = some (.inl 10)) (hPv : Hv h p 0 = .ref lx) (hA : LxR h lx n ts r) : Con l G yX8_errorOffset wsX8_errorOffset 1 20 0 0 [.ref p] h (pI (fun x h2 => x = nI (offR n r) ∧ h2 = h)) := by
  refine Con.of (cc := cX8_errorOffset) (nL := 1) (ret := (some .int)) (by decide) rfl rfl rfl rfl (fun Γ hG hl X Y9 => ?_)
  subst hG
  subst hl
  refine V.aload_n X dX8_errorOffset_0 rfl ?_
  refine V.getf  X fX8_errorOffset_12 dX8_errorOffset_1 (by assumption) (by assumption) ?_
  refine V.callVi (n := 0) X dX8_errorOffset_4 gX8_errorOffset_X5_offset (c_X5_offset _ _ hA) rfl (by decide +kernel) rfl rfl rfl hA.ob rfl rfl ⟨Nat.le_of_ble_eq_true rfl, Nat.le_of_ble_eq_true rfl⟩ (fun r4 h4 hp4 => ?_)
  obtain ⟨rfl, e9⟩ := hp4; obtain rfl := e9.symm
  exact V.iret X Y9 dX8_errorOffset_7 ⟨rfl, rfl⟩ (Nat.le_of_ble_eq_true rfl) (Nat.le_of_ble_eq_true rfl)
