theorem fX8_readInitialValue_12 : FL wsX8_readInitialValue RX8 12 10 0 (.object "ContractTester$Lexemes") true := ⟨_, rfl, by decide, Or.inl ⟨"ContractTester$Parser", by decide +kernel, Or.inl rfl⟩, by decide +kernel, by decide +kernel, rfl⟩
theorem fX8_readInitialValue_67 : FL wsX8_readInitialValue RX8 67 3 0 (.object "ContractTester$State") true := ⟨_, rfl, by decide, Or.inr ⟨"ContractTester", by decide +kernel⟩, by decide +kernel, by decide +kernel, rfl⟩
set_option maxHeartbeats 4000000 in
set_option maxRecDepth 100000 in
theorem c_X8_readInitialValue (l : Launch) (G : GG) {h : Hp} {p lx n : Nat} {ts r : List Tok} (hP : Hk h p = some (.inl 10)) (hPv : Hv h p 0 = .ref lx) (hA : LxR h lx n ts r) {c0 i0 : Nat} {s0 : St} (hC : Hk h c0 = some (.inl 3)) (hCv : Hv h c0 0 = .ref i0) (hS : StAt h i0 s0)  : Con l G yX8_readInitialValue wsX8_readInitialValue 2 43 0 0 [.ref p, .ref c0] h (pI (fun x h2 => Fr (fun q => q = lx ∨ q = i0) h h2 ∧ ((∃ f v r', pIni r = (some (f, v), r') ∧ x = 1 ∧ LxR h2 lx n ts r' ∧ StAt h2 i0 (setF s0 (nI f) v)) ∨ (∃ r', pIni r = (none, r') ∧ x = 0 ∧ LxR h2 lx n ts r')))) := by
  refine Con.of (cc := cX8_readInitialValue) (nL := 4) (ret := (some .boolean)) (by decide) rfl rfl rfl rfl (fun Γ hG hl X Y9 => ?_)
  subst hG
  subst hl
  have hne : ¬ p = lx := fun e => by have := hA.ob; rw [← e, hP] at this; cases this
  have hlx := hA.ob
  refine V.wf (fun w => ?_)
  have hil : ¬ i0 = lx := fun e => by have := hA.ob; rw [← e, hS.1] at this; cases this
  have hcl : ¬ c0 = lx := fun e => by have := hA.ob; rw [← e, hC] at this; cases this
  refine V.aload_n X dX8_readInitialValue_0 rfl ?_
  refine V.getf  X fX8_readInitialValue_12 dX8_readInitialValue_1 (by assumption) (by assumption) ?_
  refine V.callVi (n := 0) X dX8_readInitialValue_4 gX8_readInitialValue_X5_acceptField (c_X5_acceptField _ _ hA) rfl (by decide +kernel) rfl rfl rfl hA.ob rfl rfl ⟨Nat.le_of_ble_eq_true rfl, Nat.le_of_ble_eq_true rfl⟩ (fun r4 h4 hp4 => ?_)
  rcases hp4 with ⟨fd, r1, e1, hf3, rfl, hA1, F1⟩ | ⟨e1, rfl, e9⟩
  rotate_left
  · obtain rfl := e9.symm
    refine V.istore_n X dX8_readInitialValue_7 [(0, _), (1, _), (2, _)] rfl rfl rfl ?_
    refine V.iload_n X dX8_readInitialValue_8 rfl ?_
    refine V.sipush (v := -1000) X dX8_readInitialValue_9 (by decide) ?_
    refine V.icmp_ne 17 X dX8_readInitialValue_12 (by decide) (fun c => absurd rfl c) (fun c => ?_)
    refine V.iconst (v := nI 0) X dX8_readInitialValue_15 (by decide) ?_
    exact V.bret X Y9 dX8_readInitialValue_16 false rfl ⟨Fr.rf, Or.inr ⟨_, pIni_x1 e1, rfl, hA⟩⟩ (Nat.le_of_ble_eq_true rfl) (Nat.le_of_ble_eq_true rfl)
  refine V.istore_n X dX8_readInitialValue_7 [(0, _), (1, _), (2, _)] rfl rfl rfl ?_
  refine V.iload_n X dX8_readInitialValue_8 rfl ?_
  refine V.sipush (v := -1000) X dX8_readInitialValue_9 (by decide) ?_
  refine V.icmp_ne 17 X dX8_readInitialValue_12 (by decide) (fun c => ?_) (fun c => absurd c (fld_ne hf3))
  have hP1 := F1.k w hP
  have hPv1 := V17 F1 w hP hPv hne
  refine V.aload_n X dX8_readInitialValue_17 rfl ?_
  refine V.getf  X fX8_readInitialValue_12 dX8_readInitialValue_18 hP1 hPv1 ?_
  refine V.callVi (n := 0) X dX8_readInitialValue_21 gX8_readInitialValue_X5_acceptNumber (c_X5_acceptNumber _ _ hA1) rfl (by decide +kernel) rfl rfl rfl hA1.ob rfl rfl ⟨Nat.le_of_ble_eq_true rfl, Nat.le_of_ble_eq_true rfl⟩ (fun r21 h21 hp21 => ?_)
  rcases hp21 with ⟨vv, r2, e2, rfl, hv9, hA2, f2⟩ | ⟨r2, e2, rfl, hA2, f2⟩
  rotate_left
  · refine V.istore_n X dX8_readInitialValue_24 [(0, _), (1, _), (2, _), (3, _)] rfl rfl rfl ?_
    refine V.iload_n X dX8_readInitialValue_25 rfl ?_
    refine V.sipush (v := -1000) X dX8_readInitialValue_26 (by decide) ?_
    refine V.icmp_ne 34 X dX8_readInitialValue_29 (by decide) (fun c => absurd rfl c) (fun c => ?_)
    refine V.iconst (v := nI 0) X dX8_readInitialValue_32 (by decide) ?_
    exact V.bret X Y9 dX8_readInitialValue_33 false rfl ⟨(F1.tr f2).mono (fun q _ e => Or.inl e), Or.inr ⟨_, pIni_x2 e1 e2, rfl, hA2⟩⟩ (Nat.le_of_ble_eq_true rfl) (Nat.le_of_ble_eq_true rfl)
  have F2 := F1.tr f2
  have hS2 := hS.kept w F2 hil
  refine V.wf (fun w2 => ?_)
  refine V.istore_n X dX8_readInitialValue_24 [(0, _), (1, _), (2, _), (3, _)] rfl rfl rfl ?_
  refine V.iload_n X dX8_readInitialValue_25 rfl ?_
  refine V.sipush (v := -1000) X dX8_readInitialValue_26 (by decide) ?_
  refine V.icmp_ne 34 X dX8_readInitialValue_29 (by decide) (fun c => ?_) (fun c => absurd c hv9)
  refine V.aload_n X dX8_readInitialValue_34 rfl ?_
  refine V.getf  X fX8_readInitialValue_67 dX8_readInitialValue_35 (F2.k w hC) (V17 F2 w hC hCv hcl) ?_
  refine V.iload_n X dX8_readInitialValue_38 rfl ?_
  refine V.iload_n X dX8_readInitialValue_39 rfl ?_
  refine V.callVv (n := 2) X dX8_readInitialValue_40 gX8_readInitialValue_X10_assign (c_X10_assign _ _ hS2) rfl (by decide +kernel) rfl rfl rfl hS2.1 rfl rfl ⟨Nat.le_of_ble_eq_true rfl, Nat.le_of_ble_eq_true rfl⟩ (fun h40 hp40 => ?_)
  obtain ⟨kf, hkf, hq40, hS3⟩ := hp40
  have f40 : Fr (fun q => q = i0) h21 h40 := by rw [hq40]; exact Fr.put (Or.inl rfl)
  have A3 := hA2.keptK w2 f40 (fun q e hk => by rw [e, hS2.1] at hk; cases hk) (fun q e hk => by rw [e, hS2.1] at hk; cases hk)
  refine V.iconst (v := nI 1) X dX8_readInitialValue_43 (by decide) ?_
  exact V.bret X Y9 dX8_readInitialValue_44 true rfl ⟨(F2.mono (fun q _ e => Or.inl e)).then f40 (fun q _ e => Or.inr e), Or.inl ⟨_, _, _, pIni_ok e1 e2, rfl, A3, hS3⟩⟩ (Nat.le_of_ble_eq_true rfl) (Nat.le_of_ble_eq_true rfl)
theorem fX8_readMethod_80 : FL wsX8_readMethod RX8 80 8 0 (.object "java/util/ArrayList") true := ⟨_, rfl, by decide, Or.inr ⟨"ContractTester", by decide +kernel⟩, by decide +kernel, by decide +kernel, rfl⟩
theorem fX8_readMethod_87 : FL wsX8_readMethod RX8 87 8 1 (.object "java/util/ArrayList") true := ⟨_, rfl, by decide, Or.inr ⟨"ContractTester", by decide +kernel⟩, by decide +kernel, by decide +kernel, rfl⟩
theorem fX8_readMethod_93 : FL wsX8_readMethod RX8 93 8 2 (.object "java/util/ArrayList") true := ⟨_, rfl, by decide, Or.inr ⟨"ContractTester", by decide +kernel⟩, by decide +kernel, by decide +kernel, rfl⟩
set_option maxHeartbeats 4000000 in
set_option maxRecDepth 100000 in
theorem c_X8_readMethod (l : Launch) (G : GG) {h : Hp} {p lx n : Nat} {ts r : List Tok} (hP : Hk h p = some (.inl 10)) (hPv : Hv h p 0 = .ref lx) (hA : LxR h lx n ts r) {P : Nat → Prop} {ls : Nat} {es : List Nat} (hL : LsAt P G h ls es) (hlen : es.length < 10) (hPf : ∀ q, Hz h ≤ q → P q)  : Con l G yX8_readMethod wsX8_readMethod 7 156 33 144 [.ref p, .ref ls] h (pI (fun x h2 => Fr (lsS P h lx ls) h h2 ∧ ((∃ c r', pMth r = (some c, r') ∧ x = 1 ∧ LxR h2 lx n ts r' ∧ ∃ e, LsAt P G h2 ls (es ++ [e]) ∧ (∀ b, Hv h2 ls 1 = .ref b → Hv h ls 1 = .ref b ∨ Hz h ≤ b) ∧ MtAt (fun b => Hz h ≤ b ∧ ¬ Hv h2 ls 1 = .ref b) G h2 e c) ∨ (∃ r', pMth r = (none, r') ∧ x = 0 ∧ LxR h2 lx n ts r')))) := by
  refine Con.of (cc := cX8_readMethod) (nL := 3) (ret := (some .boolean)) (by decide) rfl rfl rfl rfl (fun Γ hG hl X Y9 => ?_)
  subst hG
  subst hl
  have hne : ¬ p = lx := fun e => by have := hA.ob; rw [← e, hP] at this; cases this
  have hlx := hA.ob
  refine V.wf (fun w => ?_)
  have hnl : ¬ ls = lx := fun e => by have := hA.ob; rw [← e, hL.1] at this; cases this
  have hpl : ¬ p = ls := fun e => by have := hL.1; rw [← e, hP] at this; cases this
  have hdl : ∀ d, P d → Hk h d = some (.inr (2, 10)) → ¬ d = lx := fun d _ hk e => by have := hA.ob; rw [← e, hk] at this; cases this
  have lp := w _ _ hP
  have ll := w _ _ hlx
  have l1 := w _ _ hL.1
  refine V.wfE X (fun hE => ?_)
  refine V.new (ci := 8) X dX8_readMethod_0 rfl (by decide +kernel) (by decide +kernel) (by decide +kernel) (by decide +kernel) tyX6 tyX6_ok rfl rfl ?_
  refine V.dup X dX8_readMethod_3 rfl ?_
  refine V.callINv (n := 0) X dX8_readMethod_4 (host := "ContractTester") gX8_readMethod_X6_init_n79 (c_X6_init _ _ (by rw [Hk_new, if_pos rfl])) rfl (by decide +kernel) (by decide +kernel) (by decide +kernel) rfl (by decide +kernel) rfl rfl rfl ⟨Nat.le_of_ble_eq_true rfl, Nat.le_of_ble_eq_true rfl⟩ (fun h4 hp4 => ?_)
  obtain ⟨⟨m0, m1, m2, m3⟩, ⟨q1, q2, q3⟩, f4, z4⟩ := hp4
  rw [Hz_new] at m1 m2 m3 q1 q2 q3 z4
  have F4 : Fr (fun _ => False) h h4 := (Fr.new (S := fun _ => False)).then f4 (fun q hq e => by omega)
  have hP1 := F4.k w hP
  have hPv1 : Hv h4 p 0 = .ref lx := by rw [F4.v w hP (fun z => z)]; exact hPv
  have A1 := hA.keptK w F4 (fun q e _ => e.elim) (fun q e _ => e.elim)
  refine V.wf (fun w4 => ?_)
  refine V.astore_n X dX8_readMethod_7 [(0, _), (1, _), (2, _)] rfl rfl rfl ?_
  refine V.aload_n X dX8_readMethod_8 rfl ?_
  refine V.aload_n X dX8_readMethod_9 rfl ?_
  refine V.getf  X fX8_readMethod_80 dX8_readMethod_10 m0 m1 ?_
  refine V.sipush (v := nI 303) X dX8_readMethod_13 (by decide) ?_
  refine V.iconst (v := nI 0) X dX8_readMethod_16 (by decide) ?_
  refine V.callVi (n := 3) X dX8_readMethod_17 gX8_readMethod_X8_readConditions (c_X8_readConditions _ _ false (wd := 303) (by decide) hP1 hPv1 A1 q1.nil) rfl (by decide +kernel) rfl rfl rfl hP1 rfl rfl ⟨Nat.le_of_ble_eq_true rfl, Nat.le_of_ble_eq_true rfl⟩ (fun r17 h17 hp17 => ?_)
  obtain ⟨f17, hq17⟩ := hp17
  have F17 : Fr (fun q => q = lx) h h17 := (F4.mono (fun q _ e => e.elim)).then f17 (fun q hq e => by
    rcases e with e | e
    · exact e
    · omega)
  rcases hq17 with ⟨cs, r1, e1, rfl, A2, es1, L1, le1, E1⟩ | ⟨r1, e1, rfl, A2⟩
  rotate_left
  · refine V.if_eq 49 X dX8_readMethod_20 (by decide) (fun c15 => ?_) (fun c15 => absurd rfl c15)
    refine V.iconst (v := nI 0) X dX8_readMethod_49 (by decide) ?_
    exact V.bret X Y9 dX8_readMethod_50 false rfl ⟨F17.mono (fun q _ e => Or.inl e), Or.inr ⟨_, pMth_x1 e1, rfl, A2⟩⟩ (Nat.le_of_ble_eq_true rfl) (Nat.le_of_ble_eq_true rfl)
  refine V.if_eq 49 X dX8_readMethod_20 (by decide) (fun c15 => absurd c15 (by decide)) (fun c15 => ?_)
  refine V.wf (fun w17 => ?_)
  have g17 := f17.1
  have M17 : Hk h17 (Hz h) = some (.inl 8) := f17.k w4 m0
  have N17 : ∀ k, Hv h17 (Hz h) k = Hv h4 (Hz h) k := f17.v w4 m0 (fun e => by rcases e with e | e <;> omega)
  have B17 := q2.kept w4 f17 (fun e => by rcases e with e | e <;> omega) (fun d e => e.elim)
  have T17 := q3.kept w4 f17 (fun e => by rcases e with e | e <;> omega) (fun d e => e.elim)
  have hP2 := F17.k w hP
  have hPv2 := V17 F17 w hP hPv hne
  refine V.aload_n X dX8_readMethod_23 rfl ?_
  refine V.aload_n X dX8_readMethod_24 rfl ?_
  refine V.getf  X fX8_readMethod_87 dX8_readMethod_25 M17 ((N17 _).trans m2) ?_
  refine V.callVi (n := 1) X dX8_readMethod_28 gX8_readMethod_X8_readAssignments (c_X8_readAssignments _ _ hP2 hPv2 A2 B17.nil) rfl (by decide +kernel) rfl rfl rfl hP2 rfl rfl ⟨Nat.le_of_ble_eq_true rfl, Nat.le_of_ble_eq_true rfl⟩ (fun r28 h28 hp28 => ?_)
  obtain ⟨f28, hq28⟩ := hp28
  have F28 : Fr (fun q => q = lx) h h28 := F17.then f28 (fun q hq e => by
    rcases e with e | e
    · exact e
    · omega)
  rcases hq28 with ⟨as, r2, e2, e2b, rfl, A3, es2, L2, le2, E2⟩ | ⟨r2, e2, rfl, A3⟩
  rotate_left
  · refine V.if_eq 49 X dX8_readMethod_31 (by decide) (fun c15 => ?_) (fun c15 => absurd rfl c15)
    refine V.iconst (v := nI 0) X dX8_readMethod_49 (by decide) ?_
    exact V.bret X Y9 dX8_readMethod_50 false rfl ⟨F28.mono (fun q _ e => Or.inl e), Or.inr ⟨_, pMth_x2 e1 e2, rfl, A3⟩⟩ (Nat.le_of_ble_eq_true rfl) (Nat.le_of_ble_eq_true rfl)
  refine V.if_eq 49 X dX8_readMethod_31 (by decide) (fun c15 => absurd c15 (by decide)) (fun c15 => ?_)
  refine V.wf (fun w28 => ?_)
  have g28 := f28.1
  have M28 : Hk h28 (Hz h) = some (.inl 8) := f28.k w17 M17
  have N28 : ∀ k, Hv h28 (Hz h) k = Hv h4 (Hz h) k := fun k => by rw [f28.v w17 M17 (fun e => by rcases e with e | e <;> omega), N17]
  have T28 := T17.kept w17 f28 (fun e => by rcases e with e | e <;> omega) (fun d e => e.elim)
  have hP3 := F28.k w hP
  have hPv3 := V17 F28 w hP hPv hne
  refine V.aload_n X dX8_readMethod_34 rfl ?_
  refine V.aload_n X dX8_readMethod_35 rfl ?_
  refine V.getf  X fX8_readMethod_93 dX8_readMethod_36 M28 ((N28 _).trans m3) ?_
  refine V.sipush (v := nI 305) X dX8_readMethod_39 (by decide) ?_
  refine V.iconst (v := nI 1) X dX8_readMethod_42 (by decide) ?_
  refine V.callVi (n := 3) X dX8_readMethod_43 gX8_readMethod_X8_readConditions (c_X8_readConditions _ _ true (wd := 305) (by decide) hP3 hPv3 A3 T28.nil) rfl (by decide +kernel) rfl rfl rfl hP3 rfl rfl ⟨Nat.le_of_ble_eq_true rfl, Nat.le_of_ble_eq_true rfl⟩ (fun r43 h43 hp43 => ?_)
  obtain ⟨f43, hq43⟩ := hp43
  have F43 : Fr (fun q => q = lx) h h43 := F28.then f43 (fun q hq e => by
    rcases e with e | e
    · exact e
    · omega)
  rcases hq43 with ⟨cs2, r3, e3, rfl, A4, es3, L3, le3, E3⟩ | ⟨r3, e3, rfl, A4⟩
  rotate_left
  · refine V.if_ne 51 X dX8_readMethod_46 (by decide) (fun c15 => absurd rfl c15) (fun c15 => ?_)
    refine V.iconst (v := nI 0) X dX8_readMethod_49 (by decide) ?_
    exact V.bret X Y9 dX8_readMethod_50 false rfl ⟨F43.mono (fun q _ e => Or.inl e), Or.inr ⟨_, pMth_x3 e1 e2 e2b e3, rfl, A4⟩⟩ (Nat.le_of_ble_eq_true rfl) (Nat.le_of_ble_eq_true rfl)
  refine V.if_ne 51 X dX8_readMethod_46 (by decide) (fun c15 => ?_) (fun c15 => absurd c15 (by decide))
  refine V.wf (fun w43 => ?_)
  have g43 := f43.1
  have M43 : Hk h43 (Hz h) = some (.inl 8) := f43.k w28 M28
  have N43 : ∀ k, Hv h43 (Hz h) k = Hv h4 (Hz h) k := fun k => by rw [f43.v w28 M28 (fun e => by rcases e with e | e <;> omega), N28]
  have f1743 : Fr (fun q => q = lx ∨ q = Hz h + 1 + 1 ∨ q = Hz h + 1 + 2) h17 h43 := (f28.mono (fun q _ e => e.imp (fun z => z) (fun z => Or.inl z))).then f43 (fun q _ e => e.imp (fun z => z) (fun z => Or.inr z))
  have S1 := lstC (P' := fun q => Hz h ≤ q) L1 le1 E1 w17 f1743 (fun e => by rcases e with e | e | e <;> omega) (fun q z e => by rcases e with e | e | e <;> omega) (by omega) (fun q z => by omega)
  have S2 := lstA (P' := fun q => Hz h ≤ q) L2 le2 E2 w28 f43 (fun e => by rcases e with e | e <;> omega) (fun q z e => by rcases e with e | e <;> omega) (by omega) (fun q z => by omega)
  have S3 := lstC (P' := fun q => Hz h ≤ q) L3 le3 E3 w43 (Fr.rf (S := fun _ => False)) (fun e => e) (fun q z e => e) (by omega) (fun q z => by omega)
  have MM : MtAt (fun q => Hz h ≤ q) (cxG Γ) h43 (Hz h) (cs, as, cs2) := ⟨_, _, _, Nat.le_refl _, M43, by rw [N43]; exact m1, by rw [N43]; exact m2, by rw [N43]; exact m3, S1, S2, S3⟩
  have L43 := hL.kept w F43 hnl hdl
  have V43 : Hv h43 ls 1 = Hv h ls 1 := F43.v w hL.1 hnl 1
  have L43b : LsAt (fun b => P b ∧ (Hv h ls 1 = .ref b ∨ Hz h43 ≤ b)) (cxG Γ) h43 ls es := L43.mono (fun d z _ hv => ⟨z, Or.inl (by rw [← V43]; exact hv)⟩)
  refine V.aload_n X dX8_readMethod_51 rfl ?_
  refine V.aload_n X dX8_readMethod_52 rfl ?_
  refine V.callVi (n := 1) X dX8_readMethod_53 gX8_readMethod_Jx4a65c_add_9ea2d (c_Jx4a65c_add_9ea2d _ _ L43b ⟨hPf _ F43.1, Or.inr (Nat.le_refl _)⟩ hlen M43 (Or.inr (Or.inr rfl))) rfl (by decide +kernel) rfl rfl rfl L43.1 rfl rfl ⟨Nat.le_of_ble_eq_true rfl, Nat.le_of_ble_eq_true rfl⟩ (fun r53 h53 hp53 => ?_)
  obtain ⟨rfl, L53, f53⟩ := hp53
  have F53 : Fr (lsS P h lx ls) h h53 := fr_add w hL hnl F43 (f53.mono (fun q _ e => e.imp (fun z => z) (fun z => ⟨z.1.1, z.2⟩)))
  have s5 : ∀ q t, (q = ls ∨ ((P q ∧ (Hv h ls 1 = .ref q ∨ Hz h43 ≤ q)) ∧ Hk h43 q = some (.inr (2, 10)) ∧ Hv h43 ls 1 = .ref q)) → Hk h43 q = some t → t = .inl 1 ∨ t = .inr (2, 10) := by
    intro q t e hk
    rcases e with rfl | ⟨_, e, _⟩
    · rw [L43.1] at hk; cases hk; exact Or.inl rfl
    · rw [e] at hk; cases hk; exact Or.inr rfl
  have A5 := A4.keptK w43 f53 (fun q e hk => by rcases s5 q _ e hk with z | z <;> cases z) (fun q e hk => by rcases s5 q _ e hk with z | z <;> cases z)
  obtain ⟨dd, ⟨pdd, ndd⟩, vdd, kdd⟩ := L53.row
  have hold : ∀ b, Hv h53 ls 1 = .ref b → Hv h ls 1 = .ref b ∨ Hz h43 ≤ b := fun b hb => by rw [vdd] at hb; cases hb; exact ndd
  have T53 : MtAt (fun b => Hz h ≤ b ∧ ¬ Hv h53 ls 1 = .ref b) (cxG Γ) h53 (Hz h) (cs, as, cs2) := MM.tr (fun a t pa hk => by
    have la := w43 _ _ hk
    have nold : ¬ Hv h ls 1 = .ref a := fun e => by have := hL.old w hE e; omega
    refine ⟨⟨pa, fun e => ?_⟩, f53.k w43 hk, f53.v w43 hk (fun e => ?_)⟩
    · rcases hold a e with e | e
      · exact nold e
      · omega
    · rcases e with e | ⟨-, -, e⟩
      · omega
      · rw [V43] at e; exact nold e)
  refine V.pop X dX8_readMethod_56 rfl ?_
  refine V.iconst (v := nI 1) X dX8_readMethod_57 (by decide) ?_
  exact V.bret X Y9 dX8_readMethod_58 true rfl ⟨F53, Or.inl ⟨_, _, pMth_ok e1 e2 e2b e3, rfl, A5, _, L53.mono (fun d z _ _ => z.1), fun b hb => (hold b hb).imp (fun z => z) (fun z => Nat.le_trans F43.1 z), T53⟩⟩ (Nat.le_of_ble_eq_true rfl) (Nat.le_of_ble_eq_true rfl)
