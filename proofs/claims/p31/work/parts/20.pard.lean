theorem fX8_readConditions_12 : FL wsX8_readConditions RX8 12 10 0 (.object "ContractTester$Lexemes") true := ⟨_, rfl, by decide, Or.inl ⟨"ContractTester$Parser", by decide +kernel, Or.inl rfl⟩, by decide +kernel, by decide +kernel, rfl⟩
set_option maxHeartbeats 4000000 in
set_option maxRecDepth 100000 in
theorem c_X8_readConditions (l : Launch) (G : GG) (old : Bool) {wd : Nat} (hwd : wd < 2 ^ 31) {h : Hp} {p lx n : Nat} {ts r : List Tok} (hP : Hk h p = some (.inl 10)) (hPv : Hv h p 0 = .ref lx) (hA : LxR h lx n ts r) {ls : Nat} (hL : LsAt (fun q => Hz h ≤ q) G h ls [])  : Con l G yX8_readConditions wsX8_readConditions 6 132 8 34 [.ref p, .ref ls, .int (nI wd), .int (nI (bN old))] h (pI (fun x h2 => Fr (fun q => q = lx ∨ q = ls) h h2 ∧ ((∃ cs r', pCnds wd old 2 [] r = (some cs, r') ∧ x = 1 ∧ LxR h2 lx n ts r' ∧ ∃ es, LsAt (fun q => Hz h ≤ q) G h2 ls es ∧ es.length = cs.length ∧ ∀ (i : Nat) (c : Cnd), cs[i]? = some c → CnAt (fun q => Hz h ≤ q) h2 (es.getD i 0) c) ∨ (∃ r', pCnds wd old 2 [] r = (none, r') ∧ x = 0 ∧ LxR h2 lx n ts r')))) := by
  refine Con.of (cc := cX8_readConditions) (nL := 5) (ret := (some .boolean)) (by decide) rfl rfl rfl rfl (fun Γ hG hl X Y9 => ?_)
  subst hG
  subst hl
  have hne : ¬ p = lx := fun e => by have := hA.ob; rw [← e, hP] at this; cases this
  have hnl : ¬ ls = lx := fun e => by have := hA.ob; rw [← e, hL.1] at this; cases this
  have hlx := hA.ob
  have hpl : ¬ p = ls := fun e => by have := hL.1; rw [← e, hP] at this; cases this
  refine V.wf (fun w => ?_)
  have loop : ∀ (m j : Nat) (cs : List Cnd) (es : List Nat) (r1 : List Tok) (h1 : Hp), j + m = 2 → pCnds wd old m cs r1 = pCnds wd old 2 [] r → es.length = cs.length → cs.length = j → Fr (fun q => q = lx ∨ q = ls) h h1 → LxR h1 lx n ts r1 → LsAt (fun q => Hz h ≤ q) (cxG Γ) h1 ls es → (∀ (i : Nat) (c : Cnd), cs[i]? = some c → CnAt (fun q => Hz h ≤ q) h1 (es.getD i 0) c) → V Γ (4 * j) (17 * j) 3 [(0, .ref p), (1, .ref ls), (2, .int (nI wd)), (3, .int (nI (bN old))), (4, .int (nI j))] [] h1 := by
    intro m
    induction m with
    | zero =>
      intro j cs es r1 h1 g1 g2 g3 g4 pF pA pL pE
      have ej : j = 2 := by omega
      subst ej
      have e0 : pCnds wd old 2 [] r = (some cs, r1) := g2.symm
      refine V.iload X dX8_readConditions_3 rfl ?_
      refine V.iconst (v := nI 2) X dX8_readConditions_5 (by decide) ?_
      refine V.icmp_ge 37 X dX8_readConditions_6 (by decide) (fun c6 => ?_) (fun c6 => absurd (by decide) c6)
      refine V.iconst (v := nI 1) X dX8_readConditions_37 (by decide) ?_
      exact V.bret X Y9 dX8_readConditions_38 true rfl ⟨pF, Or.inl ⟨_, _, e0, rfl, pA, es, pL, g3, pE⟩⟩ (Nat.le_of_ble_eq_true rfl) (Nat.le_of_ble_eq_true rfl)
    | succ m ih =>
      intro j cs es r1 h1 g1 g2 g3 g4 pF pA pL pE
      refine V.wf (fun w1 => ?_)
      have hP1 := pF.k w hP
      have hPv1 : Hv h1 p 0 = .ref lx := by
        rw [pF.v w hP (fun z => z.elim hne hpl)]
        exact hPv
      unfold pCnds at g2
      refine V.iload X dX8_readConditions_3 rfl ?_
      refine V.iconst (v := nI 2) X dX8_readConditions_5 (by decide) ?_
      refine V.icmp_ge 37 X dX8_readConditions_6 (by decide) (fun c6 => absurd c6 (nI_nle9 (show j < 2 by omega) (by omega))) (fun c6 => ?_)
      refine V.aload_n X dX8_readConditions_9 rfl ?_
      refine V.getf  X fX8_readConditions_12 dX8_readConditions_10 hP1 hPv1 ?_
      refine V.iload_n X dX8_readConditions_13 rfl ?_
      refine V.callVi (n := 1) X dX8_readConditions_14 gX8_readConditions_X5_accept (c_X5_accept _ _ pA (c := wd) hwd) rfl (by decide +kernel) rfl rfl rfl pA.ob rfl rfl ⟨by omega, by omega⟩ (fun r14 h14 hp14 => ?_)
      rcases hp14 with ⟨r2, e2, rfl, hA2, fA⟩ | ⟨e2, rfl, e9⟩
      rotate_left
      · obtain rfl := e9.symm
        refine V.if_eq 37 X dX8_readConditions_17 (by decide) (fun c15 => ?_) (fun c15 => absurd rfl c15)
        rw [e2] at g2
        have e0 : pCnds wd old 2 [] r = (some cs, r1) := g2.symm
        refine V.iconst (v := nI 1) X dX8_readConditions_37 (by decide) ?_
        exact V.bret X Y9 dX8_readConditions_38 true rfl ⟨pF, Or.inl ⟨_, _, e0, rfl, pA, es, pL, g3, pE⟩⟩ (by omega) (by omega)
      refine V.if_eq 37 X dX8_readConditions_17 (by decide) (fun c15 => absurd c15 (by decide)) (fun c15 => ?_)
      rw [e2] at g2
      dsimp only at g2
      refine V.wf (fun w12 => ?_)
      have hP2 := fA.k w1 hP1
      have hPv2 := V17 fA w1 hP1 hPv1 hne
      have hlx2 := hA2.ob
      have pL2 := pL.kept w1 fA hnl (fun d _ hk e => by have := pA.ob; rw [← e, hk] at this; cases this)
      have pE2 : ∀ (i : Nat) (c : Cnd), cs[i]? = some c → CnAt (fun q => Hz h ≤ q) h14 (es.getD i 0) c := fun i c hc => (pE i c hc).tr (trE_of (P' := fun q => Hz h ≤ q) w1 fA (fun q t z hk => by rw [z, pA.ob] at hk; cases hk; exact Or.inl rfl) (fun q z => z))
      refine V.aload_n X dX8_readConditions_20 rfl ?_
      refine V.aload_n X dX8_readConditions_21 rfl ?_
      refine V.iload_n X dX8_readConditions_22 rfl ?_
      refine V.callVi (n := 2) X dX8_readConditions_23 gX8_readConditions_X8_readCondition (c_X8_readCondition _ _ old hP2 hPv2 hA2 pL2 (by omega) (fun q z => Nat.le_trans (Nat.le_trans pF.1 fA.1) z)) rfl (by decide +kernel) rfl rfl rfl hP2 rfl rfl ⟨by omega, by omega⟩ (fun r23 h23 hp23 => ?_)
      obtain ⟨f23, hq23⟩ := hp23
      rcases hq23 with ⟨cd, r3, e3, rfl, hA3, en3, hL3, hC3⟩ | ⟨r3, e3, rfl, hA3⟩
      rotate_left
      · rw [e3] at g2
        have e0 : pCnds wd old 2 [] r = (none, r3) := g2.symm
        refine V.if_ne 31 X dX8_readConditions_26 (by decide) (fun c15 => absurd rfl c15) (fun c15 => ?_)
        refine V.iconst (v := nI 0) X dX8_readConditions_29 (by decide) ?_
        exact V.bret X Y9 dX8_readConditions_30 false rfl ⟨(pF.then fA (fun q hq z => Or.inl z)).then f23 (fun q hq z => by
          rcases z with z | z | ⟨z, -, -⟩
          · exact Or.inl z
          · exact Or.inr z
          · exact absurd z (by omega)), Or.inr ⟨_, e0, rfl, hA3⟩⟩ (by omega) (by omega)
      rw [e3] at g2
      dsimp only at g2
      replace pE := pE2
      replace pF := pF.then fA (fun q hq z => Or.inl z)
      refine V.if_ne 31 X dX8_readConditions_26 (by decide) (fun c15 => ?_) (fun c15 => absurd c15 (by decide))
      refine V.iinc (v := nI (j + 1)) X dX8_readConditions_31 [(0, _), (1, _), (2, _), (3, _), (4, _)] rfl (nI_1 j) rfl rfl rfl ?_
      refine V.goto 3 X dX8_readConditions_34 (by decide) ?_
      refine V.widen (4 * (j + 1)) (17 * (j + 1)) (by omega) (by omega) ?_
      exact ih (j + 1) (cs ++ [cd]) _ r3 _ (by omega) g2 (by simp; omega) (by simp; omega) (pF.then f23 (fun q hq z => by
        rcases z with z | z | ⟨z, -, -⟩
        · exact Or.inl z
        · exact Or.inr z
        · exact absurd z (by omega))) hA3 hL3 (fun i c hc => by
        by_cases hi : i < cs.length
        · rw [List.getElem?_append_left hi] at hc
          rw [getD_snoc_lt (by omega)]
          exact (pE i c hc).tr (trE_of (P' := fun q => Hz h ≤ q) w12 f23 (fun q t z hk => by
            rcases z with z | z | ⟨-, z, -⟩
            · rw [z, hlx2] at hk; cases hk; exact Or.inl rfl
            · rw [z, pL2.1] at hk; cases hk; exact Or.inr (Or.inl rfl)
            · rw [z] at hk; cases hk; exact Or.inr (Or.inr (Or.inl rfl))) (fun q z => z))
        · have hl := (List.getElem?_eq_some_iff.mp hc).1
          simp at hl
          have he : i = cs.length := by omega
          subst he
          rw [List.getElem?_append_right (Nat.le_refl _), Nat.sub_self] at hc
          cases hc
          rw [← g3, getD_snoc_at]
          exact hC3.tr (fun a t _ pa hk => ⟨Nat.le_trans pF.1 pa, hk, fun _ => rfl⟩))
  refine V.iconst (v := nI 0) X dX8_readConditions_0 (by decide) ?_
  refine V.istore X dX8_readConditions_1 [(0, _), (1, _), (2, _), (3, _), (4, _)] rfl rfl rfl ?_
  exact loop 2 0 [] [] r h rfl rfl rfl rfl Fr.rf hA hL (fun i c hc => by simp at hc)
theorem fX8_readAssignment_12 : FL wsX8_readAssignment RX8 12 10 0 (.object "ContractTester$Lexemes") true := ⟨_, rfl, by decide, Or.inl ⟨"ContractTester$Parser", by decide +kernel, Or.inl rfl⟩, by decide +kernel, by decide +kernel, rfl⟩
set_option maxHeartbeats 4000000 in
set_option maxRecDepth 100000 in
theorem c_X8_readAssignment (l : Launch) (G : GG) {h : Hp} {p lx n : Nat} {ts r : List Tok} (hP : Hk h p = some (.inl 10)) (hPv : Hv h p 0 = .ref lx) (hA : LxR h lx n ts r) {P : Nat → Prop} {ls : Nat} {es : List Nat} (hL : LsAt P G h ls es) (hlen : es.length < 10) (hPf : ∀ q, Hz h ≤ q → P q)  : Con l G yX8_readAssignment wsX8_readAssignment 5 107 4 18 [.ref p, .ref ls] h (pI (fun x h2 => Fr (lsS P h lx ls) h h2 ∧ ((∃ c r', pAsg r = (some c, r') ∧ x = 1 ∧ LxR h2 lx n ts r' ∧ ∃ e, LsAt P G h2 ls (es ++ [e]) ∧ AsAt (fun q => Hz h ≤ q) h2 e c) ∨ (∃ r', pAsg r = (none, r') ∧ x = 0 ∧ LxR h2 lx n ts r')))) := by
  refine Con.of (cc := cX8_readAssignment) (nL := 6) (ret := (some .boolean)) (by decide) rfl rfl rfl rfl (fun Γ hG hl X Y9 => ?_)
  subst hG
  subst hl
  have hne : ¬ p = lx := fun e => by have := hA.ob; rw [← e, hP] at this; cases this
  have hnl : ¬ ls = lx := fun e => by have := hA.ob; rw [← e, hL.1] at this; cases this
  have hdl : ∀ d, P d → Hk h d = some (.inr (2, 10)) → ¬ d = lx := fun d _ hk e => by have := hA.ob; rw [← e, hk] at this; cases this
  have hlx := hA.ob
  refine V.wf (fun w => ?_)
  refine V.aload_n X dX8_readAssignment_0 rfl ?_
  refine V.getf  X fX8_readAssignment_12 dX8_readAssignment_1 (by assumption) (by assumption) ?_
  refine V.callVi (n := 0) X dX8_readAssignment_4 gX8_readAssignment_X5_acceptField (c_X5_acceptField _ _ hA) rfl (by decide +kernel) rfl rfl rfl hA.ob rfl rfl ⟨Nat.le_of_ble_eq_true rfl, Nat.le_of_ble_eq_true rfl⟩ (fun r4 h4 hp4 => ?_)
  rcases hp4 with ⟨fd, r1, e1, hf3, rfl, hA1, F1⟩ | ⟨e1, rfl, e9⟩
  rotate_left
  · obtain rfl := e9.symm
    refine V.istore_n X dX8_readAssignment_7 [(0, _), (1, _), (2, _)] rfl rfl rfl ?_
    refine V.iload_n X dX8_readAssignment_8 rfl ?_
    refine V.sipush (v := -1000) X dX8_readAssignment_9 (by decide) ?_
    refine V.icmp_eq 27 X dX8_readAssignment_12 (by decide) (fun c => ?_) (fun c => absurd rfl c)
    refine V.iconst (v := nI 0) X dX8_readAssignment_27 (by decide) ?_
    exact V.bret X Y9 dX8_readAssignment_28 false rfl ⟨Fr.rf, Or.inr ⟨_, pAsg_x1 e1, rfl, hA⟩⟩ (Nat.le_of_ble_eq_true rfl) (Nat.le_of_ble_eq_true rfl)
  refine V.wf (fun w1 => ?_)
  refine V.istore_n X dX8_readAssignment_7 [(0, _), (1, _), (2, _)] rfl rfl rfl ?_
  refine V.iload_n X dX8_readAssignment_8 rfl ?_
  refine V.sipush (v := -1000) X dX8_readAssignment_9 (by decide) ?_
  refine V.icmp_eq 27 X dX8_readAssignment_12 (by decide) (fun c => absurd c (fld_ne hf3)) (fun c => ?_)
  have hP1 := F1.k w hP
  have hPv1 := V17 F1 w hP hPv hne
  refine V.aload_n X dX8_readAssignment_15 rfl ?_
  refine V.getf  X fX8_readAssignment_12 dX8_readAssignment_16 hP1 hPv1 ?_
  refine V.bipush (v := nI 61) X dX8_readAssignment_19 (by decide) ?_
  refine V.callVi (n := 1) X dX8_readAssignment_21 gX8_readAssignment_X5_accept (c_X5_accept _ _ hA1 (c := 61) (by decide)) rfl (by decide +kernel) rfl rfl rfl hA1.ob rfl rfl ⟨Nat.le_of_ble_eq_true rfl, Nat.le_of_ble_eq_true rfl⟩ (fun r21 h21 hp21 => ?_)
  rcases hp21 with ⟨r2, e2, rfl, hA2, fA⟩ | ⟨e2, rfl, e9⟩
  rotate_left
  · obtain rfl := e9.symm
    refine V.if_ne 29 X dX8_readAssignment_24 (by decide) (fun c15 => absurd rfl c15) (fun c15 => ?_)
    refine V.iconst (v := nI 0) X dX8_readAssignment_27 (by decide) ?_
    exact V.bret X Y9 dX8_readAssignment_28 false rfl ⟨F1.mono (fun q _ e => Or.inl e), Or.inr ⟨_, pAsg_x2 e1 e2, rfl, hA1⟩⟩ (Nat.le_of_ble_eq_true rfl) (Nat.le_of_ble_eq_true rfl)
  refine V.if_ne 29 X dX8_readAssignment_24 (by decide) (fun c15 => ?_) (fun c15 => absurd c15 (by decide))
  have F2 := F1.tr fA
  refine V.wf (fun w2 => ?_)
  have hP2 := F2.k w hP
  have hPv2 := V17 F2 w hP hPv hne
  refine V.aload_n X dX8_readAssignment_29 rfl ?_
  refine V.iconst (v := nI 0) X dX8_readAssignment_30 (by decide) ?_
  refine V.callVr (n := 1) X dX8_readAssignment_31 gX8_readAssignment_X8_readOperand (c_readOperand _ _ false hP2 hPv2 hA2) rfl (by decide +kernel) rfl rfl rfl hP2 rfl rfl ⟨Nat.le_of_ble_eq_true rfl, Nat.le_of_ble_eq_true rfl⟩ (fun r31 h31 hp31 => ?_)
  obtain ⟨hv31, f31, hq31⟩ := hp31
  refine V.wf (fun w3 => ?_)
  have F3 := F2.tr f31
  rcases hq31 with ⟨o1, r3, e3, hA3, a1, rfl, ha1, hO1⟩ | ⟨r3, e3, rfl, hA3⟩
  rotate_left
  · refine V.astoreN_n X dX8_readAssignment_34 [(0, _), (1, _), (2, _), (3, _)] rfl rfl rfl ?_
    refine V.aload_nN X dX8_readAssignment_35 rfl ?_
    refine V.ifnonnullN X dX8_readAssignment_36 ?_
    refine V.iconst (v := nI 0) X dX8_readAssignment_39 (by decide) ?_
    exact V.bret X Y9 dX8_readAssignment_40 false rfl ⟨F3.mono (fun q _ e => Or.inl e), Or.inr ⟨_, pAsg_x3 e1 e2 e3, rfl, hA3⟩⟩ (Nat.le_of_ble_eq_true rfl) (Nat.le_of_ble_eq_true rfl)
  refine V.astore_n X dX8_readAssignment_34 [(0, _), (1, _), (2, _), (3, _)] rfl rfl rfl ?_
  refine V.aload_n X dX8_readAssignment_35 rfl ?_
  refine V.ifnonnull 41 X dX8_readAssignment_36 (by decide) ?_
  refine V.aload_n X dX8_readAssignment_41 rfl ?_
  refine V.callVi (n := 0) X dX8_readAssignment_42 gX8_readAssignment_X8_readSign (c_X8_readSign _ _ (F3.k w hP) (V17 F3 w hP hPv hne) hA3) rfl (by decide +kernel) rfl rfl rfl (F3.k w hP) rfl rfl ⟨Nat.le_of_ble_eq_true rfl, Nat.le_of_ble_eq_true rfl⟩ (fun r42 h42 hp42 => ?_)
  obtain ⟨rfl, hA4, f42⟩ := hp42
  have F4 := F3.tr f42
  refine V.wf (fun w4 => ?_)
  have O1 := hO1.tr (trE_of (P' := fun q => Hz h ≤ q) w3 f42 (fun q t e hk => by rw [e, F3.k w hlx] at hk; cases hk; exact Or.inl rfl) (fun q z => Nat.le_trans F2.1 z))
  refine V.istore X dX8_readAssignment_45 [(0, _), (1, _), (2, _), (3, _), (4, _)] rfl rfl rfl ?_
  refine V.iload X dX8_readAssignment_47 rfl ?_
  refine V.if_ne 56 X dX8_readAssignment_49 (by decide) (fun c49 => ?_) (fun c49 => ?_)
  · refine V.aload_n X dX8_readAssignment_56 rfl ?_
    refine V.iconst (v := nI 0) X dX8_readAssignment_57 (by decide) ?_
    refine V.callVr (n := 1) X dX8_readAssignment_58 gX8_readAssignment_X8_readOperand (c_readOperand _ _ false (F4.k w hP) (V17 F4 w hP hPv hne) hA4) rfl (by decide +kernel) rfl rfl rfl (F4.k w hP) rfl rfl ⟨Nat.le_of_ble_eq_true rfl, Nat.le_of_ble_eq_true rfl⟩ (fun r58 h58 hp58 => ?_)
    obtain ⟨hv58, f58, hq58⟩ := hp58
    refine V.wf (fun w9 => ?_)
    have F9 := F4.tr f58
    replace O1 := O1.tr (trE_of (P' := fun q => Hz h ≤ q) w4 f58 (fun q t e hk => by rw [e, F4.k w hlx] at hk; cases hk; exact Or.inl rfl) (fun q z => z))
    rcases hq58 with ⟨o2, r5, e5, A9, a2, rfl, ha2, hO2⟩ | ⟨r5, e5, rfl, hA5⟩
    rotate_left
    · refine V.astoreN X dX8_readAssignment_61 [(0, _), (1, _), (2, _), (3, _), (4, _), (5, _)] rfl rfl rfl ?_
      refine V.aloadN X dX8_readAssignment_63 rfl ?_
      refine V.ifnonnullN X dX8_readAssignment_65 ?_
      refine V.iconst (v := nI 0) X dX8_readAssignment_68 (by decide) ?_
      exact V.bret X Y9 dX8_readAssignment_69 false rfl ⟨F9.mono (fun q _ e => Or.inl e), Or.inr ⟨_, pAsg_x4 e1 e2 e3 c49 e5, rfl, hA5⟩⟩ (Nat.le_of_ble_eq_true rfl) (Nat.le_of_ble_eq_true rfl)
    have efin := pAsg_ok2 e1 e2 e3 c49 e5
    have O9 := hO2.tr (P' := fun q => Hz h ≤ q) (fun a t _ pa hk => ⟨Nat.le_trans F4.1 pa, hk, fun _ => rfl⟩)
    refine V.astore X dX8_readAssignment_61 [(0, _), (1, _), (2, _), (3, _), (4, _), (5, _)] rfl rfl rfl ?_
    refine V.aload X dX8_readAssignment_63 rfl ?_
    refine V.ifnonnull 70 X dX8_readAssignment_65 (by decide) ?_
    refine V.aload_n X dX8_readAssignment_70 rfl ?_
    refine V.new (ci := 2) X dX8_readAssignment_71 rfl (by decide +kernel) (by decide +kernel) (by decide +kernel) (by decide +kernel) tyX0 tyX0_ok rfl rfl ?_
    refine V.dup X dX8_readAssignment_74 rfl ?_
    refine V.iload_n X dX8_readAssignment_75 rfl ?_
    refine V.aload_n X dX8_readAssignment_76 rfl ?_
    refine V.iload X dX8_readAssignment_77 rfl ?_
    refine V.aload X dX8_readAssignment_79 rfl ?_
    refine V.callIv (n := 4) X dX8_readAssignment_81 gX8_readAssignment_X0_init (c_X0_init _ _ (by rw [Hk_new, if_pos rfl])) rfl (by decide +kernel) (by decide +kernel) (by decide +kernel) rfl (by decide +kernel) rfl rfl rfl ⟨Nat.le_of_ble_eq_true rfl, Nat.le_of_ble_eq_true rfl⟩ (fun h81 hp81 => ?_)
    obtain ⟨G6, k6, v0, v1, v2, v3⟩ := new4 hp81
    have F6 : Fr (fun q => q = lx) h h81 := F9.then G6 (fun q _ e => e.elim)
    have hL6 := hL.kept w F6 hnl hdl
    have u6 : TrE (fun q => Hz h ≤ q) (fun q => Hz h ≤ q) _ h81 := trE_of w9 G6 (fun q t e hk => e.elim) (fun q z => z)
    have A6 := A9.keptK w9 G6 (fun q e _ => e.elim) (fun q e _ => e.elim)
    have C6 : AsAt (fun q => Hz h ≤ q) h81 _ (nI fd, o1, (pSgn r3).1, _) := ⟨_, _, F9.1, k6, v0, v1, v2, v3, O1.tr u6, O9.tr u6⟩
    refine V.wf (fun w6 => ?_)
    refine V.callVi (n := 1) X dX8_readAssignment_84 gX8_readAssignment_Jx4a65c_add_9ea2d (c_Jx4a65c_add_9ea2d _ _ hL6 (hPf _ F6.1) hlen k6 (Or.inl rfl)) rfl (by decide +kernel) rfl rfl rfl hL6.1 rfl rfl ⟨Nat.le_of_ble_eq_true rfl, Nat.le_of_ble_eq_true rfl⟩ (fun r84 h84 hp84 => ?_)
    obtain ⟨rfl, hL7, f84⟩ := hp84
    have s5 : ∀ q t, (q = ls ∨ (P q ∧ Hk h81 q = some (.inr (2, 10)) ∧ Hv h81 ls 1 = .ref q)) → Hk h81 q = some t → t = .inl 1 ∨ t = .inr (2, 10) := by
      intro q t e hk
      rcases e with rfl | ⟨_, e, _⟩
      · rw [hL6.1] at hk; cases hk; exact Or.inl rfl
      · rw [e] at hk; cases hk; exact Or.inr rfl
    have A7 := A6.keptK w6 f84 (fun q e hk => by rcases s5 q _ e hk with z | z <;> cases z) (fun q e hk => by rcases s5 q _ e hk with z | z <;> cases z)
    have C7 := C6.tr (trE_of (P' := fun q => Hz h ≤ q) w6 f84 (fun q t e hk => Or.inr ((s5 q t e hk).imp (fun z => z) (fun z => Or.inl z))) (fun q z => z))
    refine V.pop X dX8_readAssignment_87 rfl ?_
    refine V.iconst (v := nI 1) X dX8_readAssignment_88 (by decide) ?_
    exact V.bret X Y9 dX8_readAssignment_89 true rfl ⟨fr_add w hL hnl F6 f84, Or.inl ⟨_, _, efin, rfl, A7, _, hL7, C7⟩⟩ (Nat.le_of_ble_eq_true rfl) (Nat.le_of_ble_eq_true rfl)
  · have efin := pAsg_ok1 e1 e2 e3 c49
    have O9 := O1
    have A9 := hA4
    have F9 := F4
    have w9 := w4
    refine V.aload_n X dX8_readAssignment_52 rfl ?_
    refine V.goto 61 X dX8_readAssignment_53 (by decide) ?_
    refine V.astore X dX8_readAssignment_61 [(0, _), (1, _), (2, _), (3, _), (4, _), (5, _)] rfl rfl rfl ?_
    refine V.aload X dX8_readAssignment_63 rfl ?_
    refine V.ifnonnull 70 X dX8_readAssignment_65 (by decide) ?_
    refine V.aload_n X dX8_readAssignment_70 rfl ?_
    refine V.new (ci := 2) X dX8_readAssignment_71 rfl (by decide +kernel) (by decide +kernel) (by decide +kernel) (by decide +kernel) tyX0 tyX0_ok rfl rfl ?_
    refine V.dup X dX8_readAssignment_74 rfl ?_
    refine V.iload_n X dX8_readAssignment_75 rfl ?_
    refine V.aload_n X dX8_readAssignment_76 rfl ?_
    refine V.iload X dX8_readAssignment_77 rfl ?_
    refine V.aload X dX8_readAssignment_79 rfl ?_
    refine V.callIv (n := 4) X dX8_readAssignment_81 gX8_readAssignment_X0_init (c_X0_init _ _ (by rw [Hk_new, if_pos rfl])) rfl (by decide +kernel) (by decide +kernel) (by decide +kernel) rfl (by decide +kernel) rfl rfl rfl ⟨Nat.le_of_ble_eq_true rfl, Nat.le_of_ble_eq_true rfl⟩ (fun h81 hp81 => ?_)
    obtain ⟨G6, k6, v0, v1, v2, v3⟩ := new4 hp81
    have F6 : Fr (fun q => q = lx) h h81 := F9.then G6 (fun q _ e => e.elim)
    have hL6 := hL.kept w F6 hnl hdl
    have u6 : TrE (fun q => Hz h ≤ q) (fun q => Hz h ≤ q) _ h81 := trE_of w9 G6 (fun q t e hk => e.elim) (fun q z => z)
    have A6 := A9.keptK w9 G6 (fun q e _ => e.elim) (fun q e _ => e.elim)
    have C6 : AsAt (fun q => Hz h ≤ q) h81 _ (nI fd, o1, (pSgn r3).1, _) := ⟨_, _, F9.1, k6, v0, v1, v2, v3, O1.tr u6, O9.tr u6⟩
    refine V.wf (fun w6 => ?_)
    refine V.callVi (n := 1) X dX8_readAssignment_84 gX8_readAssignment_Jx4a65c_add_9ea2d (c_Jx4a65c_add_9ea2d _ _ hL6 (hPf _ F6.1) hlen k6 (Or.inl rfl)) rfl (by decide +kernel) rfl rfl rfl hL6.1 rfl rfl ⟨Nat.le_of_ble_eq_true rfl, Nat.le_of_ble_eq_true rfl⟩ (fun r84 h84 hp84 => ?_)
    obtain ⟨rfl, hL7, f84⟩ := hp84
    have s5 : ∀ q t, (q = ls ∨ (P q ∧ Hk h81 q = some (.inr (2, 10)) ∧ Hv h81 ls 1 = .ref q)) → Hk h81 q = some t → t = .inl 1 ∨ t = .inr (2, 10) := by
      intro q t e hk
      rcases e with rfl | ⟨_, e, _⟩
      · rw [hL6.1] at hk; cases hk; exact Or.inl rfl
      · rw [e] at hk; cases hk; exact Or.inr rfl
    have A7 := A6.keptK w6 f84 (fun q e hk => by rcases s5 q _ e hk with z | z <;> cases z) (fun q e hk => by rcases s5 q _ e hk with z | z <;> cases z)
    have C7 := C6.tr (trE_of (P' := fun q => Hz h ≤ q) w6 f84 (fun q t e hk => Or.inr ((s5 q t e hk).imp (fun z => z) (fun z => Or.inl z))) (fun q z => z))
    refine V.pop X dX8_readAssignment_87 rfl ?_
    refine V.iconst (v := nI 1) X dX8_readAssignment_88 (by decide) ?_
    exact V.bret X Y9 dX8_readAssignment_89 true rfl ⟨fr_add w hL hnl F6 f84, Or.inl ⟨_, _, efin, rfl, A7, _, hL7, C7⟩⟩ (Nat.le_of_ble_eq_true rfl) (Nat.le_of_ble_eq_true rfl)
theorem fX8_readAssignments_12 : FL wsX8_readAssignments RX8 12 10 0 (.object "ContractTester$Lexemes") true := ⟨_, rfl, by decide, Or.inl ⟨"ContractTester$Parser", by decide +kernel, Or.inl rfl⟩, by decide +kernel, by decide +kernel, rfl⟩
set_option maxHeartbeats 4000000 in
set_option maxRecDepth 100000 in
theorem c_X8_readAssignments (l : Launch) (G : GG) {h : Hp} {p lx n : Nat} {ts r : List Tok} (hP : Hk h p = some (.inl 10)) (hPv : Hv h p 0 = .ref lx) (hA : LxR h lx n ts r) {ls : Nat} (hL : LsAt (fun q => Hz h ≤ q) G h ls [])  : Con l G yX8_readAssignments wsX8_readAssignments 6 132 12 54 [.ref p, .ref ls] h (pI (fun x h2 => Fr (fun q => q = lx ∨ q = ls) h h2 ∧ ((∃ cs r', pAsgs 3 [] r = (some cs, r') ∧ cs.isEmpty = false ∧ x = 1 ∧ LxR h2 lx n ts r' ∧ ∃ es, LsAt (fun q => Hz h ≤ q) G h2 ls es ∧ es.length = cs.length ∧ ∀ (i : Nat) (c : Asg), cs[i]? = some c → AsAt (fun q => Hz h ≤ q) h2 (es.getD i 0) c) ∨ (∃ r', (pAsgs 3 [] r = (none, r') ∨ pAsgs 3 [] r = (some [], r')) ∧ x = 0 ∧ LxR h2 lx n ts r')))) := by
  refine Con.of (cc := cX8_readAssignments) (nL := 3) (ret := (some .boolean)) (by decide) rfl rfl rfl rfl (fun Γ hG hl X Y9 => ?_)
  subst hG
  subst hl
  have hne : ¬ p = lx := fun e => by have := hA.ob; rw [← e, hP] at this; cases this
  have hnl : ¬ ls = lx := fun e => by have := hA.ob; rw [← e, hL.1] at this; cases this
  have hlx := hA.ob
  have hpl : ¬ p = ls := fun e => by have := hL.1; rw [← e, hP] at this; cases this
  refine V.wf (fun w => ?_)
  have fin : ∀ (m j : Nat) (cs : List Asg) (es : List Nat) (r1 : List Tok) (h1 : Hp), j ≤ 3 → pAsgs 3 [] r = (some cs, r1) → es.length = cs.length → Fr (fun q => q = lx ∨ q = ls) h h1 → LxR h1 lx n ts r1 → LsAt (fun q => Hz h ≤ q) (cxG Γ) h1 ls es → (∀ (i : Nat) (c : Asg), cs[i]? = some c → AsAt (fun q => Hz h ≤ q) h1 (es.getD i 0) c) → V Γ (4 * j) (18 * j) 36 [(0, .ref p), (1, .ref ls), (2, .int (nI j))] [] h1 := by
    intro m j cs es r1 h1 gj e0 g3 pF pA pL pE
    have gl := pL.len
    refine V.aload_n X dX8_readAssignments_36 rfl ?_
    refine V.callVi (n := 0) X dX8_readAssignments_37 gX8_readAssignments_Jx4a65c_isEmpty_aae02 (c_Jx4a65c_isEmpty_aae02 _ _ pL) rfl (by decide +kernel) rfl rfl rfl pL.1 rfl rfl ⟨by omega, by omega⟩ (fun r37 h37 hp37 => ?_)
    obtain ⟨rfl, e9⟩ := hp37; obtain rfl := e9.symm
    refine V.if_ne 47 X dX8_readAssignments_40 (by decide) (fun c40 => ?_) (fun c40 => ?_)
    · have hem := bI_ne c40
      have hes : es = [] := by simpa using hem
      have hcs : cs = [] := List.eq_nil_of_length_eq_zero (by rw [← g3, hes]; rfl)
      subst hcs
      refine V.iconst (v := nI 0) X dX8_readAssignments_47 (by decide) ?_
      exact V.bret X Y9 dX8_readAssignments_48 false rfl ⟨pF, Or.inr ⟨_, Or.inr e0, rfl, pA⟩⟩ (by omega) (by omega)
    · have hem := bI_eq (b := es.isEmpty) (by simpa using c40)
      have hcs : cs.isEmpty = false := by
        cases cs with
        | nil => rw [List.eq_nil_of_length_eq_zero g3] at hem; cases hem
        | cons a b => rfl
      refine V.iconst (v := nI 1) X dX8_readAssignments_43 (by decide) ?_
      refine V.goto 48 X dX8_readAssignments_44 (by decide) ?_
      exact V.bret X Y9 dX8_readAssignments_48 true rfl ⟨pF, Or.inl ⟨_, _, e0, hcs, rfl, pA, es, pL, g3, pE⟩⟩ (by omega) (by omega)
  have loop : ∀ (m j : Nat) (cs : List Asg) (es : List Nat) (r1 : List Tok) (h1 : Hp), j + m = 3 → pAsgs m cs r1 = pAsgs 3 [] r → es.length = cs.length → cs.length = j → Fr (fun q => q = lx ∨ q = ls) h h1 → LxR h1 lx n ts r1 → LsAt (fun q => Hz h ≤ q) (cxG Γ) h1 ls es → (∀ (i : Nat) (c : Asg), cs[i]? = some c → AsAt (fun q => Hz h ≤ q) h1 (es.getD i 0) c) → V Γ (4 * j) (18 * j) 2 [(0, .ref p), (1, .ref ls), (2, .int (nI j))] [] h1 := by
    intro m
    induction m with
    | zero =>
      intro j cs es r1 h1 g1 g2 g3 g4 pF pA pL pE
      have ej : j = 3 := by omega
      subst ej
      have e0 : pAsgs 3 [] r = (some cs, r1) := g2.symm
      refine V.iload_n X dX8_readAssignments_2 rfl ?_
      refine V.iconst (v := nI 3) X dX8_readAssignments_3 (by decide) ?_
      refine V.icmp_ge 36 X dX8_readAssignments_4 (by decide) (fun c4 => ?_) (fun c4 => absurd (by decide) c4)
      exact fin 0 3 cs es r1 h1 (by decide) e0 g3 pF pA pL pE
    | succ m ih =>
      intro j cs es r1 h1 g1 g2 g3 g4 pF pA pL pE
      refine V.wf (fun w1 => ?_)
      have hP1 := pF.k w hP
      have hPv1 : Hv h1 p 0 = .ref lx := by
        rw [pF.v w hP (fun z => z.elim hne hpl)]
        exact hPv
      unfold pAsgs at g2
      refine V.iload_n X dX8_readAssignments_2 rfl ?_
      refine V.iconst (v := nI 3) X dX8_readAssignments_3 (by decide) ?_
      refine V.icmp_ge 36 X dX8_readAssignments_4 (by decide) (fun c4 => absurd c4 (nI_nle9 (show j < 3 by omega) (by omega))) (fun c4 => ?_)
      refine V.aload_n X dX8_readAssignments_7 rfl ?_
      refine V.getf  X fX8_readAssignments_12 dX8_readAssignments_8 hP1 hPv1 ?_
      refine V.sipush (v := nI 304) X dX8_readAssignments_11 (by decide) ?_
      refine V.callVi (n := 1) X dX8_readAssignments_14 gX8_readAssignments_X5_accept (c_X5_accept _ _ pA (c := 304) (by decide)) rfl (by decide +kernel) rfl rfl rfl pA.ob rfl rfl ⟨by omega, by omega⟩ (fun r14 h14 hp14 => ?_)
      rcases hp14 with ⟨r2, e2, rfl, hA2, fA⟩ | ⟨e2, rfl, e9⟩
      rotate_left
      · obtain rfl := e9.symm
        refine V.if_eq 36 X dX8_readAssignments_17 (by decide) (fun c15 => ?_) (fun c15 => absurd rfl c15)
        rw [e2] at g2
        have e0 : pAsgs 3 [] r = (some cs, r1) := g2.symm
        exact fin 0 j cs es r1 h1 (by omega) e0 g3 pF pA pL pE
      refine V.if_eq 36 X dX8_readAssignments_17 (by decide) (fun c15 => absurd c15 (by decide)) (fun c15 => ?_)
      rw [e2] at g2
      dsimp only at g2
      refine V.wf (fun w12 => ?_)
      have hP2 := fA.k w1 hP1
      have hPv2 := V17 fA w1 hP1 hPv1 hne
      have hlx2 := hA2.ob
      have pL2 := pL.kept w1 fA hnl (fun d _ hk e => by have := pA.ob; rw [← e, hk] at this; cases this)
      have pE2 : ∀ (i : Nat) (c : Asg), cs[i]? = some c → AsAt (fun q => Hz h ≤ q) h14 (es.getD i 0) c := fun i c hc => (pE i c hc).tr (trE_of (P' := fun q => Hz h ≤ q) w1 fA (fun q t z hk => by rw [z, pA.ob] at hk; cases hk; exact Or.inl rfl) (fun q z => z))
      refine V.aload_n X dX8_readAssignments_20 rfl ?_
      refine V.aload_n X dX8_readAssignments_21 rfl ?_
      refine V.callVi (n := 1) X dX8_readAssignments_22 gX8_readAssignments_X8_readAssignment (c_X8_readAssignment _ _ hP2 hPv2 hA2 pL2 (by omega) (fun q z => Nat.le_trans (Nat.le_trans pF.1 fA.1) z)) rfl (by decide +kernel) rfl rfl rfl hP2 rfl rfl ⟨by omega, by omega⟩ (fun r22 h22 hp22 => ?_)
      obtain ⟨f23, hq23⟩ := hp22
      rcases hq23 with ⟨cd, r3, e3, rfl, hA3, en3, hL3, hC3⟩ | ⟨r3, e3, rfl, hA3⟩
      rotate_left
      · rw [e3] at g2
        have e0 : pAsgs 3 [] r = (none, r3) := g2.symm
        refine V.if_ne 30 X dX8_readAssignments_25 (by decide) (fun c15 => absurd rfl c15) (fun c15 => ?_)
        refine V.iconst (v := nI 0) X dX8_readAssignments_28 (by decide) ?_
        exact V.bret X Y9 dX8_readAssignments_29 false rfl ⟨(pF.then fA (fun q hq z => Or.inl z)).then f23 (fun q hq z => by
          rcases z with z | z | ⟨z, -, -⟩
          · exact Or.inl z
          · exact Or.inr z
          · exact absurd z (by omega)), Or.inr ⟨_, Or.inl e0, rfl, hA3⟩⟩ (by omega) (by omega)
      rw [e3] at g2
      dsimp only at g2
      replace pE := pE2
      replace pF := pF.then fA (fun q hq z => Or.inl z)
      refine V.if_ne 30 X dX8_readAssignments_25 (by decide) (fun c15 => ?_) (fun c15 => absurd c15 (by decide))
      refine V.iinc (v := nI (j + 1)) X dX8_readAssignments_30 [(0, _), (1, _), (2, _)] rfl (nI_1 j) rfl rfl rfl ?_
      refine V.goto 2 X dX8_readAssignments_33 (by decide) ?_
      refine V.widen (4 * (j + 1)) (18 * (j + 1)) (by omega) (by omega) ?_
      exact ih (j + 1) (cs ++ [cd]) _ r3 _ (by omega) g2 (by simp; omega) (by simp; omega) (pF.then f23 (fun q hq z => by
        rcases z with z | z | ⟨z, -, -⟩
        · exact Or.inl z
        · exact Or.inr z
        · exact absurd z (by omega))) hA3 hL3 (fun i c hc => by
        by_cases hi : i < cs.length
        · rw [List.getElem?_append_left hi] at hc
          rw [getD_snoc_lt (by omega)]
          exact (pE i c hc).tr (trE_of (P' := fun q => Hz h ≤ q) w12 f23 (fun q t z hk => by
            rcases z with z | z | ⟨-, z, -⟩
            · rw [z, hlx2] at hk; cases hk; exact Or.inl rfl
            · rw [z, pL2.1] at hk; cases hk; exact Or.inr (Or.inl rfl)
            · rw [z] at hk; cases hk; exact Or.inr (Or.inr (Or.inl rfl))) (fun q z => z))
        · have hl := (List.getElem?_eq_some_iff.mp hc).1
          simp at hl
          have he : i = cs.length := by omega
          subst he
          rw [List.getElem?_append_right (Nat.le_refl _), Nat.sub_self] at hc
          cases hc
          rw [← g3, getD_snoc_at]
          exact hC3.tr (fun a t _ pa hk => ⟨Nat.le_trans pF.1 pa, hk, fun _ => rfl⟩))
  refine V.iconst (v := nI 0) X dX8_readAssignments_0 (by decide) ?_
  refine V.istore_n X dX8_readAssignments_1 [(0, _), (1, _), (2, _)] rfl rfl rfl ?_
  exact loop 3 0 [] [] r h rfl rfl rfl rfl Fr.rf hA hL (fun i c hc => by simp at hc)
