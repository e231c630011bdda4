theorem c_readOperand (l : Launch) (G : GG) (old : Bool) {h : Hp} {p lx n : Nat} {ts r : List Tok} (hP : Hk h p = some (.inl 10)) (hPv : Hv h p 0 = .ref lx) (hA : LxR h lx n ts r) : Con l G yX8_readOperand wsX8_readOperand 2 43 1 2 [.ref p, .int (nI (bN old))] h (pR (fun v h2 => Fr (fun q => q = lx) h h2 ∧ ((∃ o r', pOpd old r = (some o, r') ∧ LxR h2 lx n ts r' ∧ ∃ a, v = .ref a ∧ Hz h ≤ a ∧ OpAt (fun q => Hz h ≤ q) h2 a o) ∨ (∃ r', pOpd old r = (none, r') ∧ v = .null ∧ LxR h2 lx n ts r')))) := by
  cases old
  · exact c_readOperand_f l G hP hPv hA
  · exact c_readOperand_t l G hP hPv hA
theorem fX8_readRelation_12 : FL wsX8_readRelation RX8 12 10 0 (.object "ContractTester$Lexemes") true := ⟨_, rfl, by decide, Or.inl ⟨"ContractTester$Parser", by decide +kernel, Or.inl rfl⟩, by decide +kernel, by decide +kernel, rfl⟩
set_option maxHeartbeats 4000000 in
set_option maxRecDepth 100000 in
theorem c_X8_readRelation (l : Launch) (G : GG) {h : Hp} {p lx n : Nat} {ts r : List Tok} (hP : Hk h p = some (.inl 10)) (hPv : Hv h p 0 = .ref lx) (hA : LxR h lx n ts r)  : Con l G yX8_readRelation wsX8_readRelation 1 21 0 0 [.ref p] h (pI (fun x h2 => (∃ k r', pRel r = some (k, r') ∧ x = k ∧ ¬ k = -1000 ∧ LxR h2 lx n ts r' ∧ Fr (fun q => q = lx) h h2) ∨ (pRel r = none ∧ x = -1000 ∧ h2 = h))) := by
  refine Con.of (cc := cX8_readRelation) (nL := 1) (ret := (some .int)) (by decide) rfl rfl rfl rfl (fun Γ hG hl X Y9 => ?_)
  subst hG
  subst hl
  refine V.aload_n X dX8_readRelation_0 rfl ?_
  refine V.getf  X fX8_readRelation_12 dX8_readRelation_1 (by assumption) (by assumption) ?_
  refine V.bipush (v := nI 60) X dX8_readRelation_4 (by decide) ?_
  refine V.callVi (n := 1) X dX8_readRelation_6 gX8_readRelation_X5_accept (c_X5_accept _ _ hA (c := 60) (by decide)) rfl (by decide +kernel) rfl rfl rfl hA.ob rfl rfl ⟨Nat.le_of_ble_eq_true rfl, Nat.le_of_ble_eq_true rfl⟩ (fun r6 h6 hp6 => ?_)
  rcases hp6 with ⟨r1, e1, rfl, hA1, f1⟩ | ⟨e1, rfl, e9⟩
  rotate_left
  · obtain rfl := e9.symm
    refine V.if_eq 15 X dX8_readRelation_9 (by decide) (fun c15 => ?_) (fun c15 => absurd rfl c15)
    refine V.aload_n X dX8_readRelation_15 rfl ?_
    refine V.getf  X fX8_readRelation_12 dX8_readRelation_16 (by assumption) (by assumption) ?_
    refine V.bipush (v := nI 61) X dX8_readRelation_19 (by decide) ?_
    refine V.callVi (n := 1) X dX8_readRelation_21 gX8_readRelation_X5_accept (c_X5_accept _ _ hA (c := 61) (by decide)) rfl (by decide +kernel) rfl rfl rfl hA.ob rfl rfl ⟨Nat.le_of_ble_eq_true rfl, Nat.le_of_ble_eq_true rfl⟩ (fun r21 h21 hp21 => ?_)
    rcases hp21 with ⟨r2, e2, rfl, hA2, f2⟩ | ⟨e2, rfl, e9⟩
    rotate_left
    · obtain rfl := e9.symm
      refine V.if_eq 30 X dX8_readRelation_24 (by decide) (fun c15 => ?_) (fun c15 => absurd rfl c15)
      refine V.aload_n X dX8_readRelation_30 rfl ?_
      refine V.getf  X fX8_readRelation_12 dX8_readRelation_31 (by assumption) (by assumption) ?_
      refine V.bipush (v := nI 62) X dX8_readRelation_34 (by decide) ?_
      refine V.callVi (n := 1) X dX8_readRelation_36 gX8_readRelation_X5_accept (c_X5_accept _ _ hA (c := 62) (by decide)) rfl (by decide +kernel) rfl rfl rfl hA.ob rfl rfl ⟨Nat.le_of_ble_eq_true rfl, Nat.le_of_ble_eq_true rfl⟩ (fun r36 h36 hp36 => ?_)
      rcases hp36 with ⟨r3, e3, rfl, hA3, f3⟩ | ⟨e3, rfl, e9⟩
      rotate_left
      · obtain rfl := e9.symm
        refine V.if_eq 47 X dX8_readRelation_39 (by decide) (fun c15 => ?_) (fun c15 => absurd rfl c15)
        refine V.sipush (v := -1000) X dX8_readRelation_47 (by decide) ?_
        exact V.iret X Y9 dX8_readRelation_50 (by first | exact Or.inr ⟨pRel_x e1 e2 e3, rfl, rfl⟩ | exact Or.inl ⟨_, _, pRel_3 e1 e2 e3, rfl, pRel_ne (pRel_3 e1 e2 e3), hA3, f3⟩) (Nat.le_of_ble_eq_true rfl) (Nat.le_of_ble_eq_true rfl)
      refine V.if_eq 47 X dX8_readRelation_39 (by decide) (fun c15 => absurd c15 (by decide)) (fun c15 => ?_)
      refine V.bipush (v := nI 62) X dX8_readRelation_42 (by decide) ?_
      refine V.goto 50 X dX8_readRelation_44 (by decide) ?_
      exact V.iret X Y9 dX8_readRelation_50 (by first | exact Or.inr ⟨pRel_x e1 e2 e3, rfl, rfl⟩ | exact Or.inl ⟨_, _, pRel_3 e1 e2 e3, rfl, pRel_ne (pRel_3 e1 e2 e3), hA3, f3⟩) (Nat.le_of_ble_eq_true rfl) (Nat.le_of_ble_eq_true rfl)
    refine V.if_eq 30 X dX8_readRelation_24 (by decide) (fun c15 => absurd c15 (by decide)) (fun c15 => ?_)
    refine V.bipush (v := nI 61) X dX8_readRelation_27 (by decide) ?_
    exact V.iret X Y9 dX8_readRelation_29 (Or.inl ⟨_, _, pRel_2 e1 e2, rfl, pRel_ne (pRel_2 e1 e2), hA2, f2⟩) (Nat.le_of_ble_eq_true rfl) (Nat.le_of_ble_eq_true rfl)
  refine V.if_eq 15 X dX8_readRelation_9 (by decide) (fun c15 => absurd c15 (by decide)) (fun c15 => ?_)
  refine V.bipush (v := nI 60) X dX8_readRelation_12 (by decide) ?_
  exact V.iret X Y9 dX8_readRelation_14 (Or.inl ⟨_, _, pRel_1 e1, rfl, pRel_ne (pRel_1 e1), hA1, f1⟩) (Nat.le_of_ble_eq_true rfl) (Nat.le_of_ble_eq_true rfl)
theorem fX8_readSign_12 : FL wsX8_readSign RX8 12 10 0 (.object "ContractTester$Lexemes") true := ⟨_, rfl, by decide, Or.inl ⟨"ContractTester$Parser", by decide +kernel, Or.inl rfl⟩, by decide +kernel, by decide +kernel, rfl⟩
set_option maxHeartbeats 4000000 in
set_option maxRecDepth 100000 in
theorem c_X8_readSign (l : Launch) (G : GG) {h : Hp} {p lx n : Nat} {ts r : List Tok} (hP : Hk h p = some (.inl 10)) (hPv : Hv h p 0 = .ref lx) (hA : LxR h lx n ts r)  : Con l G yX8_readSign wsX8_readSign 1 21 0 0 [.ref p] h (pI (fun x h2 => x = (pSgn r).1 ∧ LxR h2 lx n ts (pSgn r).2 ∧ Fr (fun q => q = lx) h h2)) := by
  refine Con.of (cc := cX8_readSign) (nL := 1) (ret := (some .int)) (by decide) rfl rfl rfl rfl (fun Γ hG hl X Y9 => ?_)
  subst hG
  subst hl
  refine V.aload_n X dX8_readSign_0 rfl ?_
  refine V.getf  X fX8_readSign_12 dX8_readSign_1 (by assumption) (by assumption) ?_
  refine V.bipush (v := nI 43) X dX8_readSign_4 (by decide) ?_
  refine V.callVi (n := 1) X dX8_readSign_6 gX8_readSign_X5_accept (c_X5_accept _ _ hA (c := 43) (by decide)) rfl (by decide +kernel) rfl rfl rfl hA.ob rfl rfl ⟨Nat.le_of_ble_eq_true rfl, Nat.le_of_ble_eq_true rfl⟩ (fun r6 h6 hp6 => ?_)
  rcases hp6 with ⟨r1, e1, rfl, hA1, f1⟩ | ⟨e1, rfl, e9⟩
  rotate_left
  · obtain rfl := e9.symm
    refine V.if_eq 14 X dX8_readSign_9 (by decide) (fun c15 => ?_) (fun c15 => absurd rfl c15)
    refine V.aload_n X dX8_readSign_14 rfl ?_
    refine V.getf  X fX8_readSign_12 dX8_readSign_15 (by assumption) (by assumption) ?_
    refine V.bipush (v := nI 45) X dX8_readSign_18 (by decide) ?_
    refine V.callVi (n := 1) X dX8_readSign_20 gX8_readSign_X5_accept (c_X5_accept _ _ hA (c := 45) (by decide)) rfl (by decide +kernel) rfl rfl rfl hA.ob rfl rfl ⟨Nat.le_of_ble_eq_true rfl, Nat.le_of_ble_eq_true rfl⟩ (fun r20 h20 hp20 => ?_)
    rcases hp20 with ⟨r2, e2, rfl, hA2, f2⟩ | ⟨e2, rfl, e9⟩
    rotate_left
    · obtain rfl := e9.symm
      refine V.if_eq 30 X dX8_readSign_23 (by decide) (fun c15 => ?_) (fun c15 => absurd rfl c15)
      refine V.iconst (v := nI 0) X dX8_readSign_30 (by decide) ?_
      exact V.iret X Y9 dX8_readSign_31 (by first | exact ⟨by rw [pSgn_x e1 e2], by rw [pSgn_x e1 e2]; exact hA, Fr.rf⟩ | exact ⟨by rw [pSgn_2 e1 e2], by rw [pSgn_2 e1 e2]; exact hA2, f2⟩) (Nat.le_of_ble_eq_true rfl) (Nat.le_of_ble_eq_true rfl)
    refine V.if_eq 30 X dX8_readSign_23 (by decide) (fun c15 => absurd c15 (by decide)) (fun c15 => ?_)
    refine V.iconst (v := -1) X dX8_readSign_26 (by decide) ?_
    refine V.goto 31 X dX8_readSign_27 (by decide) ?_
    exact V.iret X Y9 dX8_readSign_31 (by first | exact ⟨by rw [pSgn_x e1 e2], by rw [pSgn_x e1 e2]; exact hA, Fr.rf⟩ | exact ⟨by rw [pSgn_2 e1 e2], by rw [pSgn_2 e1 e2]; exact hA2, f2⟩) (Nat.le_of_ble_eq_true rfl) (Nat.le_of_ble_eq_true rfl)
  refine V.if_eq 14 X dX8_readSign_9 (by decide) (fun c15 => absurd c15 (by decide)) (fun c15 => ?_)
  refine V.iconst (v := nI 1) X dX8_readSign_12 (by decide) ?_
  exact V.iret X Y9 dX8_readSign_13 ⟨by rw [pSgn_1 e1], by rw [pSgn_1 e1]; exact hA1, f1⟩ (Nat.le_of_ble_eq_true rfl) (Nat.le_of_ble_eq_true rfl)
set_option maxHeartbeats 4000000 in
set_option maxRecDepth 100000 in
theorem c_X8_readCondition (l : Launch) (G : GG) (old : Bool) {h : Hp} {p lx n : Nat} {ts r : List Tok} (hP : Hk h p = some (.inl 10)) (hPv : Hv h p 0 = .ref lx) (hA : LxR h lx n ts r) {P : Nat → Prop} {ls : Nat} {es : List Nat} (hL : LsAt P G h ls es) (hlen : es.length < 10) (hPf : ∀ q, Hz h ≤ q → P q)  : Con l G yX8_readCondition wsX8_readCondition 5 107 4 17 [.ref p, .ref ls, .int (nI (bN old))] h (pI (fun x h2 => Fr (lsS P h lx ls) h h2 ∧ ((∃ c r', pCnd old r = (some c, r') ∧ x = 1 ∧ LxR h2 lx n ts r' ∧ ∃ e, LsAt P G h2 ls (es ++ [e]) ∧ CnAt (fun q => Hz h ≤ q) h2 e c) ∨ (∃ r', pCnd old r = (none, r') ∧ x = 0 ∧ LxR h2 lx n ts r')))) := by
  refine Con.of (cc := cX8_readCondition) (nL := 6) (ret := (some .boolean)) (by decide) rfl rfl rfl rfl (fun Γ hG hl X Y9 => ?_)
  subst hG
  subst hl
  have hne : ¬ p = lx := fun e => by have := hA.ob; rw [← e, hP] at this; cases this
  have hnl : ¬ ls = lx := fun e => by have := hA.ob; rw [← e, hL.1] at this; cases this
  have hdl : ∀ d, P d → Hk h d = some (.inr (2, 10)) → ¬ d = lx := fun d _ hk e => by have := hA.ob; rw [← e, hk] at this; cases this
  have hlx := hA.ob
  refine V.wf (fun w => ?_)
  refine V.aload_n X dX8_readCondition_0 rfl ?_
  refine V.iload_n X dX8_readCondition_1 rfl ?_
  refine V.callVr (n := 1) X dX8_readCondition_2 gX8_readCondition_X8_readOperand (c_readOperand _ _ old hP hPv hA) rfl (by decide +kernel) rfl rfl rfl hP rfl rfl ⟨Nat.le_of_ble_eq_true rfl, Nat.le_of_ble_eq_true rfl⟩ (fun r2 h2 hp2 => ?_)
  obtain ⟨hv2, F2, hq2⟩ := hp2
  refine V.wf (fun w2 => ?_)
  rcases hq2 with ⟨o1, r1, e1, hA1, a1, rfl, ha1, hO1⟩ | ⟨r1, e1, rfl, hA1⟩
  rotate_left
  · refine V.astoreN_n X dX8_readCondition_5 [(0, _), (1, _), (2, _), (3, _)] rfl rfl rfl ?_
    refine V.aload_nN X dX8_readCondition_6 rfl ?_
    refine V.ifnonnullN X dX8_readCondition_7 ?_
    refine V.iconst (v := nI 0) X dX8_readCondition_10 (by decide) ?_
    exact V.bret X Y9 dX8_readCondition_11 false rfl ⟨F2.mono (fun q _ e => Or.inl e), Or.inr ⟨_, pCnd_x1 e1, rfl, hA1⟩⟩ (Nat.le_of_ble_eq_true rfl) (Nat.le_of_ble_eq_true rfl)
  refine V.astore_n X dX8_readCondition_5 [(0, _), (1, _), (2, _), (3, _)] rfl rfl rfl ?_
  refine V.aload_n X dX8_readCondition_6 rfl ?_
  refine V.ifnonnull 12 X dX8_readCondition_7 (by decide) ?_
  refine V.aload_n X dX8_readCondition_12 rfl ?_
  refine V.callVi (n := 0) X dX8_readCondition_13 gX8_readCondition_X8_readRelation (c_X8_readRelation _ _ (F2.k w hP) (V17 F2 w hP hPv hne) hA1) rfl (by decide +kernel) rfl rfl rfl (F2.k w hP) rfl rfl ⟨Nat.le_of_ble_eq_true rfl, Nat.le_of_ble_eq_true rfl⟩ (fun r13 h13 hp13 => ?_)
  rcases hp13 with ⟨k, r2, e2, rfl, hk9, hA2, f13⟩ | ⟨e2, rfl, e9⟩
  rotate_left
  · obtain rfl := e9.symm
    refine V.istore X dX8_readCondition_16 [(0, _), (1, _), (2, _), (3, _), (4, _)] rfl rfl rfl ?_
    refine V.iload X dX8_readCondition_18 rfl ?_
    refine V.sipush (v := -1000) X dX8_readCondition_20 (by decide) ?_
    refine V.icmp_ne 28 X dX8_readCondition_23 (by decide) (fun c => absurd rfl c) (fun c => ?_)
    refine V.iconst (v := nI 0) X dX8_readCondition_26 (by decide) ?_
    exact V.bret X Y9 dX8_readCondition_27 false rfl ⟨F2.mono (fun q _ e => Or.inl e), Or.inr ⟨_, pCnd_x2 e1 e2, rfl, hA1⟩⟩ (Nat.le_of_ble_eq_true rfl) (Nat.le_of_ble_eq_true rfl)
  have F3 := F2.tr f13
  refine V.istore X dX8_readCondition_16 [(0, _), (1, _), (2, _), (3, _), (4, _)] rfl rfl rfl ?_
  refine V.iload X dX8_readCondition_18 rfl ?_
  refine V.sipush (v := -1000) X dX8_readCondition_20 (by decide) ?_
  refine V.icmp_ne 28 X dX8_readCondition_23 (by decide) (fun c => ?_) (fun c => absurd c hk9)
  refine V.aload_n X dX8_readCondition_28 rfl ?_
  refine V.iload_n X dX8_readCondition_29 rfl ?_
  refine V.callVr (n := 1) X dX8_readCondition_30 gX8_readCondition_X8_readOperand (c_readOperand _ _ old (F3.k w hP) (V17 F3 w hP hPv hne) hA2) rfl (by decide +kernel) rfl rfl rfl (F3.k w hP) rfl rfl ⟨Nat.le_of_ble_eq_true rfl, Nat.le_of_ble_eq_true rfl⟩ (fun r30 h30 hp30 => ?_)
  obtain ⟨hv30, f30, hq30⟩ := hp30
  have F4 := F3.tr f30
  have F24 := f13.tr f30
  refine V.wf (fun w4 => ?_)
  rcases hq30 with ⟨o2, r3, e3, hA3, a2, rfl, ha2, hO2⟩ | ⟨r3, e3, rfl, hA3⟩
  rotate_left
  · refine V.astoreN X dX8_readCondition_33 [(0, _), (1, _), (2, _), (3, _), (4, _), (5, _)] rfl rfl rfl ?_
    refine V.aloadN X dX8_readCondition_35 rfl ?_
    refine V.ifnonnullN X dX8_readCondition_37 ?_
    refine V.iconst (v := nI 0) X dX8_readCondition_40 (by decide) ?_
    exact V.bret X Y9 dX8_readCondition_41 false rfl ⟨F4.mono (fun q _ e => Or.inl e), Or.inr ⟨_, pCnd_x3 e1 e2 e3, rfl, hA3⟩⟩ (Nat.le_of_ble_eq_true rfl) (Nat.le_of_ble_eq_true rfl)
  refine V.astore X dX8_readCondition_33 [(0, _), (1, _), (2, _), (3, _), (4, _), (5, _)] rfl rfl rfl ?_
  refine V.aload X dX8_readCondition_35 rfl ?_
  refine V.ifnonnull 42 X dX8_readCondition_37 (by decide) ?_
  refine V.aload_n X dX8_readCondition_42 rfl ?_
  refine V.new (ci := 4) X dX8_readCondition_43 rfl (by decide +kernel) (by decide +kernel) (by decide +kernel) (by decide +kernel) tyX2 tyX2_ok rfl rfl ?_
  refine V.dup X dX8_readCondition_46 rfl ?_
  refine V.aload_n X dX8_readCondition_47 rfl ?_
  refine V.iload X dX8_readCondition_48 rfl ?_
  refine V.aload X dX8_readCondition_50 rfl ?_
  refine V.callIv (n := 3) X dX8_readCondition_52 gX8_readCondition_X2_init (c_X2_init _ _ (by rw [Hk_new, if_pos rfl])) rfl (by decide +kernel) (by decide +kernel) (by decide +kernel) rfl (by decide +kernel) rfl rfl rfl ⟨Nat.le_of_ble_eq_true rfl, Nat.le_of_ble_eq_true rfl⟩ (fun h52 hp52 => ?_)
  have G5 : Fr (fun _ => False) h30 h52 := by rw [hp52]; exact (((Fr.rf.thenNew).thenPut (Or.inr (Nat.le_refl _))).thenPut (Or.inr (Nat.le_refl _))).thenPut (Or.inr (Nat.le_refl _))
  have F5 : Fr (fun q => q = lx) h h52 := F4.then G5 (fun q _ e => e.elim)
  have hL5 := hL.kept w F5 hnl hdl
  have k5 : Hk h52 (Hz h30) = some (.inl 4) := by rw [hp52, Hk_put, Hk_put, Hk_put, Hk_new, if_pos rfl]
  have F25 : Fr (fun q => q = lx) h2 h52 := F24.then G5 (fun q _ e => e.elim)
  have lx2 := F2.k w hlx
  have O1 := hO1.tr (trE_of (P' := fun q => Hz h ≤ q) w2 F25 (fun q t e hk => by rw [e, lx2] at hk; cases hk; exact Or.inl rfl) (fun q z => z))
  have O2 := hO2.tr (trE_of (P' := fun q => Hz h ≤ q) w4 G5 (fun q t e hk => e.elim) (fun q z => Nat.le_trans F3.1 z))
  have C5 : CnAt (fun q => Hz h ≤ q) h52 (Hz h30) (o1, r13, o2) := ⟨a1, a2, F4.1, k5, by rw [hp52, Hv_put_k _ _ _ _ (by decide), Hv_put_k _ _ _ _ (by decide), Hv_put_at], by rw [hp52, Hv_put_k _ _ _ _ (by decide), Hv_put_at], by rw [hp52, Hv_put_at], O1, O2⟩
  have A5 := hA3.keptK w4 G5 (fun q e _ => e.elim) (fun q e _ => e.elim)
  refine V.wf (fun w5 => ?_)
  refine V.callVi (n := 1) X dX8_readCondition_55 gX8_readCondition_Jx4a65c_add_9ea2d (c_Jx4a65c_add_9ea2d _ _ hL5 (hPf _ F5.1) hlen k5 (Or.inr (Or.inl rfl))) rfl (by decide +kernel) rfl rfl rfl hL5.1 rfl rfl ⟨Nat.le_of_ble_eq_true rfl, Nat.le_of_ble_eq_true rfl⟩ (fun r55 h55 hp55 => ?_)
  obtain ⟨rfl, hL6, f55⟩ := hp55
  have s5 : ∀ q t, (q = ls ∨ (P q ∧ Hk h52 q = some (.inr (2, 10)) ∧ Hv h52 ls 1 = .ref q)) → Hk h52 q = some t → t = .inl 1 ∨ t = .inr (2, 10) := by
    intro q t e hk
    rcases e with rfl | ⟨_, e, _⟩
    · rw [hL5.1] at hk; cases hk; exact Or.inl rfl
    · rw [e] at hk; cases hk; exact Or.inr rfl
  have A6 := A5.keptK w5 f55 (fun q e hk => by rcases s5 q _ e hk with z | z <;> cases z) (fun q e hk => by rcases s5 q _ e hk with z | z <;> cases z)
  have C6 := C5.tr (trE_of (P' := fun q => Hz h ≤ q) w5 f55 (fun q t e hk => Or.inr ((s5 q t e hk).imp (fun z => z) (fun z => Or.inl z))) (fun q z => z))
  refine V.pop X dX8_readCondition_58 rfl ?_
  refine V.iconst (v := nI 1) X dX8_readCondition_59 (by decide) ?_
  exact V.bret X Y9 dX8_readCondition_60 true rfl ⟨fr_add w hL hnl F5 f55, Or.inl ⟨_, _, pCnd_ok e1 e2 e3, rfl, A6, _, hL6, C6⟩⟩ (Nat.le_of_ble_eq_true rfl) (Nat.le_of_ble_eq_true rfl)
