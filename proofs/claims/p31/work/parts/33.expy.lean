theorem fX3_processFirstOpenPair_34 : FL wsX3_processFirstOpenPair RX3 34 5 4 (.array .int) true := ⟨_, rfl, by decide, Or.inl ⟨"ContractTester$Exploration", by decide +kernel, Or.inl rfl⟩, by decide +kernel, by decide +kernel, rfl⟩
theorem fX3_processFirstOpenPair_12 : FL wsX3_processFirstOpenPair RX3 12 5 0 (.object "ContractTester$Component") false := ⟨_, rfl, by decide, Or.inl ⟨"ContractTester$Exploration", by decide +kernel, Or.inl rfl⟩, by decide +kernel, by decide +kernel, rfl⟩
theorem fX3_processFirstOpenPair_30 : FL wsX3_processFirstOpenPair RX3 30 5 3 (.array (.object "ContractTester$State")) true := ⟨_, rfl, by decide, Or.inl ⟨"ContractTester$Exploration", by decide +kernel, Or.inl rfl⟩, by decide +kernel, by decide +kernel, rfl⟩
theorem fX3_processFirstOpenPair_45 : FL wsX3_processFirstOpenPair RX3 45 5 12 (.object "ContractTester$State") true := ⟨_, rfl, by decide, Or.inl ⟨"ContractTester$Exploration", by decide +kernel, Or.inl rfl⟩, by decide +kernel, by decide +kernel, rfl⟩
theorem fX3_processFirstOpenPair_24 : FL wsX3_processFirstOpenPair RX3 24 5 2 (.array (.object "ContractTester$Sequence")) true := ⟨_, rfl, by decide, Or.inl ⟨"ContractTester$Exploration", by decide +kernel, Or.inl rfl⟩, by decide +kernel, by decide +kernel, rfl⟩
theorem fX3_processFirstOpenPair_63 : FL wsX3_processFirstOpenPair RX3 63 5 9 .int false := ⟨_, rfl, by decide, Or.inl ⟨"ContractTester$Exploration", by decide +kernel, Or.inl rfl⟩, by decide +kernel, by decide +kernel, rfl⟩
set_option maxHeartbeats 4000000 in
set_option maxRecDepth 100000 in
theorem c_X3_processFirstOpenPair (l : Launch) (G : GG) {h : Hp} {E : Nat} {r : Xr} {rs : St} (hX : XlAt h E r rs) {P : Nat → Prop} {o : Nat} {c : Cmp} (hO : Hv h E 0 = .ref o) (hC : CpAt P G h o c) (hr : XOk c r) (hPx : ∀ q, P q → ¬ XS E q) : Con l G yX3_processFirstOpenPair wsX3_processFirstOpenPair 5 114 0 0 [.ref E] h (pI (fun y h2 => (fos c r 40 0 = none ∧ y = 0 ∧ h2 = h) ∨ ∃ i s9, fos c r 40 0 = some i ∧ y = 1 ∧ XlAt h2 E (stp c r i) s9 ∧ Fr (XS E) h h2 ∧ Hv h2 E 0 = .ref o)) := by
  refine Con.of (cc := cX3_processFirstOpenPair) (nL := 4) (ret := (some .boolean)) (by decide) rfl rfl rfl rfl (fun Γ hG hl X Y9 => ?_)
  subst hG
  subst hl
  refine V.wf (fun w => ?_)
  obtain ⟨⟨a0, a1, a2, a3⟩, n, pq, pg, sr⟩ := id hX
  have hlen := hC.len
  have hpc := hr.2.1
  have hmx := hr.1
  refine V.aload_n X dX3_processFirstOpenPair_0 rfl ?_
  refine V.callVi (n := 0) X dX3_processFirstOpenPair_1 gX3_processFirstOpenPair_X3_firstOpenSequence (c_X3_firstOpenSequence _ _ hX hO hC hr) rfl (by decide +kernel) rfl rfl rfl a0.1 rfl rfl ⟨Nat.le_of_ble_eq_true rfl, Nat.le_of_ble_eq_true rfl⟩ (fun r1 h1 hp1 => ?_)
  obtain ⟨rfl, e9⟩ := hp1; obtain rfl := e9.symm
  refine V.istore_n X dX3_processFirstOpenPair_4 [(0, _), (1, _)] rfl rfl rfl ?_
  refine V.aload_n X dX3_processFirstOpenPair_5 rfl ?_
  refine V.iload_n X dX3_processFirstOpenPair_6 rfl ?_
  refine V.callVi (n := 1) X dX3_processFirstOpenPair_7 gX3_processFirstOpenPair_X3_hasSequence (c_X3_hasSequence _ _ hX hpc.2) rfl (by decide +kernel) rfl rfl rfl a0.1 rfl rfl ⟨Nat.le_of_ble_eq_true rfl, Nat.le_of_ble_eq_true rfl⟩ (fun r7 h7 hp7 => ?_)
  obtain ⟨rfl, e9⟩ := hp7; obtain rfl := e9.symm
  refine V.if_ne 15 X dX3_processFirstOpenPair_10 (by decide) (fun c10 => ?_) (fun c10 => ?_)
  · obtain ⟨i, hf⟩ := fos_yes (bI_ne c10)
    have hl := fos_lt _ _ _ hf
    have ho := opn_pos hl.2
    have hi : i < 40 := by omega
    have hl8 : (xsq r i).length < 8 := by omega
    obtain ⟨q1, q2, q3⟩ := pq i hi
    rw [show oI (fos c r 40 0) = nI i by rw [hf]; rfl]
    have hv4 : verd c (xpr r i) (xss r i) ≤ 4 := verd_le
    refine V.aload_n X dX3_processFirstOpenPair_15 rfl ?_
    refine V.getf  X fX3_processFirstOpenPair_34 dX3_processFirstOpenPair_16 a0.1 a0.2.2.2.1 ?_
    refine V.iload_n X dX3_processFirstOpenPair_19 rfl ?_
    refine V.iald (j := _)  X dX3_processFirstOpenPair_20 a1.2.2.1 rfl (by omega) (by omega) q3 ?_
    refine V.istore_n X dX3_processFirstOpenPair_21 [(0, _), (1, _), (2, _)] rfl rfl rfl ?_
    refine V.aload_n X dX3_processFirstOpenPair_22 rfl ?_
    refine V.getf  X fX3_processFirstOpenPair_34 dX3_processFirstOpenPair_23 a0.1 a0.2.2.2.1 ?_
    refine V.iload_n X dX3_processFirstOpenPair_26 rfl ?_
    refine V.dup2 X dX3_processFirstOpenPair_27 rfl rfl ?_
    refine V.iald (j := _)  X dX3_processFirstOpenPair_28 a1.2.2.1 rfl (by omega) (by omega) q3 ?_
    refine V.iconst (v := nI 1) X dX3_processFirstOpenPair_29 (by decide) ?_
    refine V.iadd X dX3_processFirstOpenPair_30 ?_
    rw [nI_add]
    refine V.iast (j := _) X dX3_processFirstOpenPair_31 a1.2.2.1 rfl (by omega) (by omega) ?_
    have f31 : Fr (fun q => q = E + 7) h (Hput h (E + 7) i (.int (nI (xpr r i + 1)))) := Fr.put (Or.inl rfl)
    have X31 : XlAt (Hput h (E + 7) i (.int (nI (xpr r i + 1)))) E (stpA c r i) rs := hX.setQ w f31 hi (fun q e => by omega) (fun j hj => Hv_put_k _ _ _ _ hj) rfl (fun j hj => ⟨rfl, rfl, fup_ne hj⟩) rfl rfl ⟨q1.kept w f31 (by omega) (by omega), q2.kept w f31 (by omega), by
        show Hv _ _ _ = .int (nI (fup (xpr r) i (xpr r i + 1) i))
        rw [fup_at, Hv_put_at]⟩
    have O31 : Hv (Hput h (E + 7) i (.int (nI (xpr r i + 1)))) E 0 = .ref o := by rw [Hv_put_a _ _ _ _ (by omega)]; exact hO
    have C31 : CpAt P (cxG Γ) (Hput h (E + 7) i (.int (nI (xpr r i + 1)))) o c := hC.un (f31.un w (fun q hq e => hPx q hq (Or.inr (by omega))))
    have A31 := X31.1
    have w31 : WF (Hput h (E + 7) i (.int (nI (xpr r i + 1)))) := fun q t z => w q t z
    refine V.aload_n X dX3_processFirstOpenPair_32 rfl ?_
    refine V.getf  X fX3_processFirstOpenPair_12 dX3_processFirstOpenPair_33 A31.1.1 O31 ?_
    refine V.iload_n X dX3_processFirstOpenPair_36 rfl ?_
    refine V.aload_n X dX3_processFirstOpenPair_37 rfl ?_
    refine V.getf  X fX3_processFirstOpenPair_30 dX3_processFirstOpenPair_38 A31.1.1 A31.1.2.2.1 ?_
    refine V.iload_n X dX3_processFirstOpenPair_41 rfl ?_
    refine V.aald (j := _)  X dX3_processFirstOpenPair_42 A31.2.1.2.1 rfl rfl (by omega) (by omega) (A31.2.2.1 i hi).2 ?_
    refine V.aload_n X dX3_processFirstOpenPair_43 rfl ?_
    refine V.getf  X fX3_processFirstOpenPair_45 dX3_processFirstOpenPair_44 A31.1.1 A31.1.2.2.2.2.2.2 ?_
    refine V.callVi (n := 3) X dX3_processFirstOpenPair_47 gX3_processFirstOpenPair_X1_verdictOfCall (c_X1_verdictOfCall _ _ C31 (q2.kept w f31 (by omega)) X31.2.2.2.2 (fun z => hPx _ z (Or.inr (by omega))) (by omega) (by omega)) rfl (by decide +kernel) rfl rfl rfl C31.k rfl rfl ⟨Nat.le_of_ble_eq_true rfl, Nat.le_of_ble_eq_true rfl⟩ (fun r47 h47 hp47 => ?_)
    obtain ⟨rfl, f47, s9, st47, hn47⟩ := hp47
    have X47 : XlAt h47 E (stpA c r i) s9 := X31.setR w31 f47 st47
    have F47 : Fr (XS E) h h47 := (f31.mono (fun q _ e => Or.inr (by omega))).then f47 (fun q _ e => Or.inr (by omega))
    have O47 : Hv h47 E 0 = .ref o := by rw [f47.v w31 A31.1.1 (by omega)]; exact O31
    have A47 := X47.1
    refine V.wf (fun w47 => ?_)
    refine V.istore_n X dX3_processFirstOpenPair_50 [(0, _), (1, _), (2, _), (3, _)] rfl rfl rfl ?_
    refine V.iload_n X dX3_processFirstOpenPair_51 rfl ?_
    refine V.iconst (v := nI 1) X dX3_processFirstOpenPair_52 (by decide) ?_
    refine V.icmp_ne 69 X dX3_processFirstOpenPair_53 (by decide) (fun c53 => ?_) (fun c53 => ?_)
    · rw [nI_eq (by omega) (by omega)] at c53
      refine V.iload_n X dX3_processFirstOpenPair_69 rfl ?_
      refine V.if_ne 87 X dX3_processFirstOpenPair_70 (by decide) (fun c70 => ?_) (fun c70 => ?_)
      · have hz : ¬ verd c (xpr r i) (xss r i) = 0 := fun z => c70 (by rw [z]; rfl)
        have ea : stp c r i = addF (stpA c r i) (xsq r i) (xpr r i) (verd c (xpr r i) (xss r i)) := by
          unfold stp
          rw [if_neg c53, if_neg hz]
        refine V.aload_n X dX3_processFirstOpenPair_87 rfl ?_
        refine V.aload_n X dX3_processFirstOpenPair_88 rfl ?_
        refine V.getf  X fX3_processFirstOpenPair_24 dX3_processFirstOpenPair_89 A47.1.1 A47.1.2.1 ?_
        refine V.iload_n X dX3_processFirstOpenPair_92 rfl ?_
        refine V.aald (j := _)  X dX3_processFirstOpenPair_93 A47.2.1.1 rfl rfl (by omega) (by omega) (A47.2.2.1 i hi).1 ?_
        refine V.iload_n X dX3_processFirstOpenPair_94 rfl ?_
        refine V.iload_n X dX3_processFirstOpenPair_95 rfl ?_
        refine V.callVv (n := 3) X dX3_processFirstOpenPair_96 gX3_processFirstOpenPair_X3_addFailure (c_X3_addFailure _ _ X47 (m := xpr r i) (v := verd c (xpr r i) (xss r i)) hi hl8 hr.2.2.1) rfl (by decide +kernel) rfl rfl rfl A47.1.1 rfl rfl ⟨Nat.le_of_ble_eq_true rfl, Nat.le_of_ble_eq_true rfl⟩ (fun h96 hp96 => ?_)
        obtain ⟨x96, f96, o96⟩ := hp96
        have hfin : XlAt h96 E (stp c r i) s9 ∧ Fr (XS E) h h96 ∧ Hv h96 E 0 = .ref o := ⟨by rw [ea]; exact x96, F47.tr f96, o96.trans O47⟩
        refine V.iconst (v := nI 1) X dX3_processFirstOpenPair_99 (by decide) ?_
        exact V.bret X Y9 dX3_processFirstOpenPair_100 true rfl (Or.inr ⟨i, _, hf, rfl, hfin.1, hfin.2.1, hfin.2.2⟩) (Nat.le_of_ble_eq_true rfl) (Nat.le_of_ble_eq_true rfl)
      · have hz : verd c (xpr r i) (xss r i) = 0 := by
          rcases Nat.eq_zero_or_pos (verd c (xpr r i) (xss r i)) with z | z
          · exact z
          · exact absurd c70 (nI_ne0 z (by omega))
        have ea : stp c r i = addR (stpA c r i) (xsq r i) (xpr r i) (nxt c (xpr r i) (xss r i)) := by
          unfold stp
          rw [if_neg (by omega), if_pos hz]
        obtain rfl := hn47 hz
        refine V.aload_n X dX3_processFirstOpenPair_73 rfl ?_
        refine V.aload_n X dX3_processFirstOpenPair_74 rfl ?_
        refine V.getf  X fX3_processFirstOpenPair_24 dX3_processFirstOpenPair_75 A47.1.1 A47.1.2.1 ?_
        refine V.iload_n X dX3_processFirstOpenPair_78 rfl ?_
        refine V.aald (j := _)  X dX3_processFirstOpenPair_79 A47.2.1.1 rfl rfl (by omega) (by omega) (A47.2.2.1 i hi).1 ?_
        refine V.iload_n X dX3_processFirstOpenPair_80 rfl ?_
        refine V.callVv (n := 2) X dX3_processFirstOpenPair_81 gX3_processFirstOpenPair_X3_addReached (c_X3_addReached _ _ X47 (m := xpr r i) hi hl8 ⟨ho.1, hpc.2⟩) rfl (by decide +kernel) rfl rfl rfl A47.1.1 rfl rfl ⟨Nat.le_of_ble_eq_true rfl, Nat.le_of_ble_eq_true rfl⟩ (fun h81 hp81 => ?_)
        obtain ⟨x81, f81, o81⟩ := hp81
        have hfin : XlAt h81 E (stp c r i) _ ∧ Fr (XS E) h h81 ∧ Hv h81 E 0 = .ref o := ⟨by rw [ea]; exact x81, F47.tr f81, o81.trans O47⟩
        refine V.goto 99 X dX3_processFirstOpenPair_84 (by decide) ?_
        refine V.iconst (v := nI 1) X dX3_processFirstOpenPair_99 (by decide) ?_
        exact V.bret X Y9 dX3_processFirstOpenPair_100 true rfl (Or.inr ⟨i, _, hf, rfl, hfin.1, hfin.2.1, hfin.2.2⟩) (Nat.le_of_ble_eq_true rfl) (Nat.le_of_ble_eq_true rfl)
    · rw [nI_eq (by omega) (by omega)] at c53
      have ea : stp c r i = ((xmx r, xpc r, xfl r, xsk r + 1, xrd r, xdr r), (stpA c r i).2) := if_pos (by simpa using c53)
      have v47 : Hv h47 E 9 = .int (nI (xsk r)) := X47.2.1.2.2.2.1
      refine V.aload_n X dX3_processFirstOpenPair_56 rfl ?_
      refine V.dup X dX3_processFirstOpenPair_57 rfl ?_
      refine V.getf  X fX3_processFirstOpenPair_63 dX3_processFirstOpenPair_58 A47.1.1 v47 ?_
      refine V.iconst (v := nI 1) X dX3_processFirstOpenPair_61 (by decide) ?_
      refine V.iadd X dX3_processFirstOpenPair_62 ?_
      rw [nI_add]
      refine V.putf X fX3_processFirstOpenPair_63 dX3_processFirstOpenPair_63 A47.1.1 rfl rfl ?_
      have hfin : XlAt (Hput h47 E 9 (.int (nI (xsk r + 1)))) E (stp c r i) s9 ∧ Fr (XS E) h (Hput h47 E 9 (.int (nI (xsk r + 1)))) ∧ Hv (Hput h47 E 9 (.int (nI (xsk r + 1)))) E 0 = .ref o := ⟨by rw [ea]; exact X47.put9 w47, F47.thenPut (Or.inl (Or.inl rfl)), by rw [Hv_put_k _ _ _ _ (by decide)]; exact O47⟩
      refine V.goto 99 X dX3_processFirstOpenPair_66 (by decide) ?_
      refine V.iconst (v := nI 1) X dX3_processFirstOpenPair_99 (by decide) ?_
      exact V.bret X Y9 dX3_processFirstOpenPair_100 true rfl (Or.inr ⟨i, _, hf, rfl, hfin.1, hfin.2.1, hfin.2.2⟩) (Nat.le_of_ble_eq_true rfl) (Nat.le_of_ble_eq_true rfl)
  · have hf : fos c r 40 0 = none := fos_no hpc.2 (bI_eq (by simpa using c10))
    refine V.iconst (v := nI 0) X dX3_processFirstOpenPair_13 (by decide) ?_
    exact V.bret X Y9 dX3_processFirstOpenPair_14 false rfl (Or.inl ⟨hf, rfl, rfl⟩) (Nat.le_of_ble_eq_true rfl) (Nat.le_of_ble_eq_true rfl)
theorem fX3_copyFrom_60 : FL wsX3_copyFrom RX3 60 5 8 .int false := ⟨_, rfl, by decide, Or.inl ⟨"ContractTester$Exploration", by decide +kernel, Or.inl rfl⟩, by decide +kernel, by decide +kernel, rfl⟩
theorem fX3_copyFrom_63 : FL wsX3_copyFrom RX3 63 5 9 .int false := ⟨_, rfl, by decide, Or.inl ⟨"ContractTester$Exploration", by decide +kernel, Or.inl rfl⟩, by decide +kernel, by decide +kernel, rfl⟩
theorem fX3_copyFrom_66 : FL wsX3_copyFrom RX3 66 5 10 .int false := ⟨_, rfl, by decide, Or.inl ⟨"ContractTester$Exploration", by decide +kernel, Or.inl rfl⟩, by decide +kernel, by decide +kernel, rfl⟩
theorem fX3_copyFrom_69 : FL wsX3_copyFrom RX3 69 5 11 .int false := ⟨_, rfl, by decide, Or.inl ⟨"ContractTester$Exploration", by decide +kernel, Or.inl rfl⟩, by decide +kernel, by decide +kernel, rfl⟩
theorem fX3_copyFrom_38 : FL wsX3_copyFrom RX3 38 5 6 (.array (.object "ContractTester$Sequence")) true := ⟨_, rfl, by decide, Or.inl ⟨"ContractTester$Exploration", by decide +kernel, Or.inl rfl⟩, by decide +kernel, by decide +kernel, rfl⟩
theorem fX3_copyFrom_41 : FL wsX3_copyFrom RX3 41 5 7 (.array .int) true := ⟨_, rfl, by decide, Or.inl ⟨"ContractTester$Exploration", by decide +kernel, Or.inl rfl⟩, by decide +kernel, by decide +kernel, rfl⟩
theorem fX3_copyFrom_50 : FL wsX3_copyFrom RX3 50 5 5 .int false := ⟨_, rfl, by decide, Or.inl ⟨"ContractTester$Exploration", by decide +kernel, Or.inl rfl⟩, by decide +kernel, by decide +kernel, rfl⟩
theorem fX3_copyFrom_24 : FL wsX3_copyFrom RX3 24 5 2 (.array (.object "ContractTester$Sequence")) true := ⟨_, rfl, by decide, Or.inl ⟨"ContractTester$Exploration", by decide +kernel, Or.inl rfl⟩, by decide +kernel, by decide +kernel, rfl⟩
theorem fX3_copyFrom_30 : FL wsX3_copyFrom RX3 30 5 3 (.array (.object "ContractTester$State")) true := ⟨_, rfl, by decide, Or.inl ⟨"ContractTester$Exploration", by decide +kernel, Or.inl rfl⟩, by decide +kernel, by decide +kernel, rfl⟩
theorem fX3_copyFrom_34 : FL wsX3_copyFrom RX3 34 5 4 (.array .int) true := ⟨_, rfl, by decide, Or.inl ⟨"ContractTester$Exploration", by decide +kernel, Or.inl rfl⟩, by decide +kernel, by decide +kernel, rfl⟩
theorem fX3_copyFrom_12 : FL wsX3_copyFrom RX3 12 5 0 (.object "ContractTester$Component") false := ⟨_, rfl, by decide, Or.inl ⟨"ContractTester$Exploration", by decide +kernel, Or.inl rfl⟩, by decide +kernel, by decide +kernel, rfl⟩
theorem fX3_copyFrom_18 : FL wsX3_copyFrom RX3 18 5 1 .int false := ⟨_, rfl, by decide, Or.inl ⟨"ContractTester$Exploration", by decide +kernel, Or.inl rfl⟩, by decide +kernel, by decide +kernel, rfl⟩
set_option maxHeartbeats 4000000 in
set_option maxRecDepth 100000 in
theorem c_X3_copyFrom (l : Launch) (G : GG) {h : Hp} {E : Nat} {r : Xr} {rs : St} (hX : XlAt h E r rs) {E2 : Nat} {r2 : Xr} {rs2 : St} (hX2 : XlAt h E2 r2 rs2) {o2 : Nat} (hO2 : Hv h E2 0 = .ref o2) (hd : E + 171 ≤ E2 ∨ E2 + 171 ≤ E) : Con l G yX3_copyFrom wsX3_copyFrom 3 65 0 0 [.ref E, .ref E2] h (pV (fun h2 => XlAt h2 E r2 rs ∧ Fr (XS E) h h2 ∧ Hv h2 E 0 = .ref o2)) := by
  refine Con.of (cc := cX3_copyFrom) (nL := 3) (ret := none) (by decide) rfl rfl rfl rfl (fun Γ hG hl X Y9 => ?_)
  subst hG
  subst hl
  refine V.wf (fun w => ?_)
  have hdis : ∀ q, XS E q → ¬ XS E2 q := fun q z z2 => by unfold XS at z z2; omega
  have loop2 : ∀ (m j : Nat) (h1 : Hp), j + m = 20 → XlAt h1 E (mixF (xmx r2, xpc r2, xfl r, xsk r, xrd r, xdr r) r2 r j) rs → Fr (XS E) h h1 → Hv h1 E 0 = .ref o2 → V Γ 0 0 82 [(0, .ref E), (1, .ref E2), (2, .int (nI j))] [] h1 := by
    intro m
    induction m with
    | zero =>
      intro j h1 g1 pX pF pO
      have ej : j = 20 := by omega
      subst ej
      refine V.wf (fun w1 => ?_)
      have hA1 := pX.1
      have hX21 := hX2.kept w pF hdis
      have hB1 := hX21.1
      have hN2 := hX21.2.1
      refine V.iload_n X dX3_copyFrom_82 rfl ?_
      refine V.bipush (v := nI 20) X dX3_copyFrom_83 (by decide) ?_
      refine V.icmp_ge 121 X dX3_copyFrom_85 (by decide) (fun c85 => ?_) (fun c85 => absurd (by decide) c85)
      refine V.aload_n X dX3_copyFrom_121 rfl ?_
      refine V.aload_n X dX3_copyFrom_122 rfl ?_
      refine V.getf  X fX3_copyFrom_60 dX3_copyFrom_123 hB1.1.1 hN2.2.2.1 ?_
      refine V.putf X fX3_copyFrom_60 dX3_copyFrom_126 hA1.1.1 rfl rfl ?_
      have y8 := pX.put8 w1 (v := xfl r2)
      have b8 := hX21.kept w1 (Fr.put (S := XS E) (h := h1) (a := E) (k := 8) (x := .int (nI (xfl r2))) (Or.inl (Or.inl rfl))) hdis
      have m8 := b8.2.1
      refine V.aload_n X dX3_copyFrom_129 rfl ?_
      refine V.aload_n X dX3_copyFrom_130 rfl ?_
      refine V.getf  X fX3_copyFrom_63 dX3_copyFrom_131 b8.1.1.1 m8.2.2.2.1 ?_
      refine V.putf X fX3_copyFrom_63 dX3_copyFrom_134 y8.1.1.1 rfl rfl ?_
      have y9 := y8.put9 (fun q t z => w1 q t z) (v := xsk r2)
      have b9 := b8.kept (fun q t z => w1 q t z) (Fr.put (S := XS E) (a := E) (k := 9) (x := .int (nI (xsk r2))) (Or.inl (Or.inl rfl))) hdis
      have m9 := b9.2.1
      refine V.aload_n X dX3_copyFrom_137 rfl ?_
      refine V.aload_n X dX3_copyFrom_138 rfl ?_
      refine V.getf  X fX3_copyFrom_66 dX3_copyFrom_139 b9.1.1.1 m9.2.2.2.2.1 ?_
      refine V.putf X fX3_copyFrom_66 dX3_copyFrom_142 y9.1.1.1 rfl rfl ?_
      have y10 := y9.put10 (fun q t z => w1 q t z) (v := xrd r2)
      have b10 := b9.kept (fun q t z => w1 q t z) (Fr.put (S := XS E) (a := E) (k := 10) (x := .int (nI (xrd r2))) (Or.inl (Or.inl rfl))) hdis
      have m10 := b10.2.1
      refine V.aload_n X dX3_copyFrom_145 rfl ?_
      refine V.aload_n X dX3_copyFrom_146 rfl ?_
      refine V.getf  X fX3_copyFrom_69 dX3_copyFrom_147 b10.1.1.1 m10.2.2.2.2.2 ?_
      refine V.putf X fX3_copyFrom_69 dX3_copyFrom_150 y10.1.1.1 rfl rfl ?_
      have y11 := y10.put11 (fun q t z => w1 q t z) (v := xdr r2)
      exact V.vret X Y9 dX3_copyFrom_153 ⟨rfl, y11.ext rfl (fun i hi => ⟨(mix_lt hi).symm, (mix_lt hi).symm, (mix_lt hi).symm⟩) (fun j hj => ⟨(mix_lt hj).symm, (mix_lt hj).symm⟩), (((pF.thenPut (Or.inl (Or.inl rfl))).thenPut (Or.inl (Or.inl rfl))).thenPut (Or.inl (Or.inl rfl))).thenPut (Or.inl (Or.inl rfl)), by rw [Hv_put_k _ _ _ _ (by decide), Hv_put_k _ _ _ _ (by decide), Hv_put_k _ _ _ _ (by decide), Hv_put_k _ _ _ _ (by decide)]; exact pO⟩ (Nat.le_of_ble_eq_true rfl) (Nat.le_of_ble_eq_true rfl)
    | succ m ih =>
      intro j h1 g1 pX pF pO
      refine V.wf (fun w1 => ?_)
      have hA1 := pX.1
      have hX21 := hX2.kept w pF hdis
      have hB1 := hX21.1
      have hj : j < 20 := by omega
      refine V.iload_n X dX3_copyFrom_82 rfl ?_
      refine V.bipush (v := nI 20) X dX3_copyFrom_83 (by decide) ?_
      refine V.icmp_ge 121 X dX3_copyFrom_85 (by decide) (fun c85 => absurd c85 (nI_nle9 hj (by omega))) (fun c85 => ?_)
      refine V.aload_n X dX3_copyFrom_88 rfl ?_
      refine V.getf  X fX3_copyFrom_38 dX3_copyFrom_89 hA1.1.1 hA1.1.2.2.2.2.1 ?_
      refine V.iload_n X dX3_copyFrom_92 rfl ?_
      refine V.aald (j := _)  X dX3_copyFrom_93 hA1.2.1.2.2.2.1 rfl rfl (by omega) (by omega) (hA1.2.2.2 j hj) ?_
      refine V.aload_n X dX3_copyFrom_94 rfl ?_
      refine V.getf  X fX3_copyFrom_38 dX3_copyFrom_95 hB1.1.1 hB1.1.2.2.2.2.1 ?_
      refine V.iload_n X dX3_copyFrom_98 rfl ?_
      refine V.aald (j := _)  X dX3_copyFrom_99 hB1.2.1.2.2.2.1 rfl rfl (by omega) (by omega) (hB1.2.2.2 j hj) ?_
      refine V.callVv (n := 1) X dX3_copyFrom_100 gX3_copyFrom_X9_copyFrom (c_X9_copyFrom _ _ (pX.2.2.2.1 j hj).1 (hX21.2.2.2.1 j hj).1 (by omega)) rfl (by decide +kernel) rfl rfl rfl (pX.2.2.2.1 j hj).1.1 rfl rfl ⟨Nat.le_of_ble_eq_true rfl, Nat.le_of_ble_eq_true rfl⟩ (fun h100 hp100 => ?_)
      obtain ⟨s100, f100⟩ := hp100
      have A100 := hA1.kept w1 f100 (by omega) (by omega) (by omega) (by omega)
      have B100 := hX21.kept w1 f100 (fun q e z => by unfold XS at z; omega)
      refine V.wf (fun w100 => ?_)
      refine V.aload_n X dX3_copyFrom_103 rfl ?_
      refine V.getf  X fX3_copyFrom_41 dX3_copyFrom_104 A100.1.1 A100.1.2.2.2.2.2.1 ?_
      refine V.iload_n X dX3_copyFrom_107 rfl ?_
      refine V.aload_n X dX3_copyFrom_108 rfl ?_
      refine V.getf  X fX3_copyFrom_41 dX3_copyFrom_109 B100.1.1.1 B100.1.1.2.2.2.2.2.1 ?_
      refine V.iload_n X dX3_copyFrom_112 rfl ?_
      refine V.iald (j := _)  X dX3_copyFrom_113 B100.1.2.1.2.2.2.2 rfl (by omega) (by omega) (B100.2.2.2.1 j hj).2 ?_
      refine V.iast (j := _) X dX3_copyFrom_114 A100.2.1.2.2.2.2 rfl (by omega) (by omega) ?_
      have f114 : Fr (fun q => q = E + 131 + 2 * j ∨ q = E + 131 + 2 * j + 1 ∨ q = E + 9) h1 (Hput h100 (E + 9) j (.int (nI (xvd r2 j)))) := (f100.mono (fun q _ e => e.imp (fun z => z) (fun z => Or.inl z))).thenPut (Or.inl (Or.inr (Or.inr rfl)))
      have x114 : XlAt (Hput h100 (E + 9) j (.int (nI (xvd r2 j)))) E (mixF (xmx r2, xpc r2, xfl r, xsk r, xrd r, xdr r) r2 r (j + 1)) rs := pX.setF w1 f114 hj (fun q e => e) (fun k hk => by rw [Hv_put_k _ _ _ _ hk, f100.v w1 hA1.2.1.2.2.2.2 (by omega)]) rfl rfl rfl rfl (fun k hk => ⟨mix_ne hk, mix_ne hk⟩) ⟨by
          show SqAt _ _ (mix (xfs r2) (xfs r) (j + 1) j)
          rw [mix_at]
          exact s100.kept w100 (Fr.put (S := fun q => q = E + 9) (Or.inl rfl)) (by omega) (by omega), by
          show Hv _ _ _ = .int (nI (mix (xvd r2) (xvd r) (j + 1) j))
          rw [mix_at, Hv_put_at]⟩
      refine V.iinc (v := nI (j + 1)) X dX3_copyFrom_115 [(0, _), (1, _), (2, _)] rfl (nI_1 j) rfl rfl rfl ?_
      refine V.goto 82 X dX3_copyFrom_118 (by decide) ?_
      exact ih (j + 1) _ (by omega) x114 (pF.then f114 (fun q _ e => Or.inr (by omega))) (by rw [f114.v w1 hA1.1.1 (by omega)]; exact pO)
  have loop1 : ∀ (m j : Nat) (h1 : Hp), j + m = 40 → XlAt h1 E (mixQ (xmx r2, xpc r, xfl r, xsk r, xrd r, xdr r) r2 r j) rs → Fr (XS E) h h1 → Hv h1 E 0 = .ref o2 → V Γ 0 0 18 [(0, .ref E), (1, .ref E2), (2, .int (nI j))] [] h1 := by
    intro m
    induction m with
    | zero =>
      intro j h1 g1 pX pF pO
      have ej : j = 40 := by omega
      subst ej
      refine V.wf (fun w1 => ?_)
      have hA1 := pX.1
      have hX21 := hX2.kept w pF hdis
      have hB1 := hX21.1
      have hN2 := hX21.2.1
      refine V.iload_n X dX3_copyFrom_18 rfl ?_
      refine V.bipush (v := nI 40) X dX3_copyFrom_19 (by decide) ?_
      refine V.icmp_ge 72 X dX3_copyFrom_21 (by decide) (fun c21 => ?_) (fun c21 => absurd (by decide) c21)
      refine V.aload_n X dX3_copyFrom_72 rfl ?_
      refine V.aload_n X dX3_copyFrom_73 rfl ?_
      refine V.getf  X fX3_copyFrom_50 dX3_copyFrom_74 hB1.1.1 hN2.2.1 ?_
      refine V.putf X fX3_copyFrom_50 dX3_copyFrom_77 hA1.1.1 rfl rfl ?_
      have y5 := pX.put5 w1 (v := xpc r2)
      refine V.iconst (v := nI 0) X dX3_copyFrom_80 (by decide) ?_
      refine V.istore_n X dX3_copyFrom_81 [(0, _), (1, _), (2, _)] rfl rfl rfl ?_
      exact loop2 20 0 _ rfl (y5.ext rfl (fun i hi => ⟨rfl, rfl, rfl⟩) (fun j hj => ⟨mix_0 (f := xfs r2), mix_0 (f := xvd r2)⟩)) (pF.thenPut (Or.inl (Or.inl rfl))) (by rw [Hv_put_k _ _ _ _ (by decide)]; exact pO)
    | succ m ih =>
      intro j h1 g1 pX pF pO
      refine V.wf (fun w1 => ?_)
      have hA1 := pX.1
      have hX21 := hX2.kept w pF hdis
      have hB1 := hX21.1
      have hj : j < 40 := by omega
      refine V.iload_n X dX3_copyFrom_18 rfl ?_
      refine V.bipush (v := nI 40) X dX3_copyFrom_19 (by decide) ?_
      refine V.icmp_ge 72 X dX3_copyFrom_21 (by decide) (fun c21 => absurd c21 (nI_nle9 hj (by omega))) (fun c21 => ?_)
      refine V.aload_n X dX3_copyFrom_24 rfl ?_
      refine V.getf  X fX3_copyFrom_24 dX3_copyFrom_25 hA1.1.1 hA1.1.2.1 ?_
      refine V.iload_n X dX3_copyFrom_28 rfl ?_
      refine V.aald (j := _)  X dX3_copyFrom_29 hA1.2.1.1 rfl rfl (by omega) (by omega) (hA1.2.2.1 j hj).1 ?_
      refine V.aload_n X dX3_copyFrom_30 rfl ?_
      refine V.getf  X fX3_copyFrom_24 dX3_copyFrom_31 hB1.1.1 hB1.1.2.1 ?_
      refine V.iload_n X dX3_copyFrom_34 rfl ?_
      refine V.aald (j := _)  X dX3_copyFrom_35 hB1.2.1.1 rfl rfl (by omega) (by omega) (hB1.2.2.1 j hj).1 ?_
      refine V.callVv (n := 1) X dX3_copyFrom_36 gX3_copyFrom_X9_copyFrom (c_X9_copyFrom _ _ (pX.2.2.1 j hj).1 (hX21.2.2.1 j hj).1 (by omega)) rfl (by decide +kernel) rfl rfl rfl (pX.2.2.1 j hj).1.1 rfl rfl ⟨Nat.le_of_ble_eq_true rfl, Nat.le_of_ble_eq_true rfl⟩ (fun h36 hp36 => ?_)
      obtain ⟨s36, f36⟩ := hp36
      have A36 := hA1.kept w1 f36 (by omega) (by omega) (by omega) (by omega)
      have B36 := hX21.kept w1 f36 (fun q e z => by unfold XS at z; omega)
      have t36 := (pX.2.2.1 j hj).2.1.kept w1 f36 (by omega)
      refine V.wf (fun w36 => ?_)
      refine V.aload_n X dX3_copyFrom_39 rfl ?_
      refine V.getf  X fX3_copyFrom_30 dX3_copyFrom_40 A36.1.1 A36.1.2.2.1 ?_
      refine V.iload_n X dX3_copyFrom_43 rfl ?_
      refine V.aald (j := _)  X dX3_copyFrom_44 A36.2.1.2.1 rfl rfl (by omega) (by omega) (A36.2.2.1 j hj).2 ?_
      refine V.aload_n X dX3_copyFrom_45 rfl ?_
      refine V.getf  X fX3_copyFrom_30 dX3_copyFrom_46 B36.1.1.1 B36.1.1.2.2.1 ?_
      refine V.iload_n X dX3_copyFrom_49 rfl ?_
      refine V.aald (j := _)  X dX3_copyFrom_50 B36.1.2.1.2.1 rfl rfl (by omega) (by omega) (B36.1.2.2.1 j hj).2 ?_
      refine V.callVv (n := 1) X dX3_copyFrom_51 gX3_copyFrom_X10_copyFrom (c_X10_copyFrom _ _ t36 (B36.2.2.1 j hj).2.1) rfl (by decide +kernel) rfl rfl rfl t36.1 rfl rfl ⟨Nat.le_of_ble_eq_true rfl, Nat.le_of_ble_eq_true rfl⟩ (fun h51 hp51 => ?_)
      have f51 : Fr (fun q => q = E + 13 + 3 * j) h36 h51 := by rw [hp51]; exact ((Fr.put (S := fun q => q = E + 13 + 3 * j) (Or.inl rfl)).thenPut (Or.inl rfl)).thenPut (Or.inl rfl)
      have s51 : StAt h51 (E + 13 + 3 * j) (xss r2 j) := by rw [hp51]; exact ⟨t36.1, by simp [Hv_put], by simp [Hv_put], by simp [Hv_put]⟩
      have c51 := s36.kept w36 f51 (by omega) (by omega)
      have A51 := A36.kept w36 f51 (by omega) (by omega) (by omega) (by omega)
      have B51 := B36.kept w36 f51 (fun q e z => by unfold XS at z; omega)
      refine V.wf (fun w51 => ?_)
      refine V.aload_n X dX3_copyFrom_54 rfl ?_
      refine V.getf  X fX3_copyFrom_34 dX3_copyFrom_55 A51.1.1 A51.1.2.2.2.1 ?_
      refine V.iload_n X dX3_copyFrom_58 rfl ?_
      refine V.aload_n X dX3_copyFrom_59 rfl ?_
      refine V.getf  X fX3_copyFrom_34 dX3_copyFrom_60 B51.1.1.1 B51.1.1.2.2.2.1 ?_
      refine V.iload_n X dX3_copyFrom_63 rfl ?_
      refine V.iald (j := _)  X dX3_copyFrom_64 B51.1.2.1.2.2.1 rfl (by omega) (by omega) (B51.2.2.1 j hj).2.2 ?_
      refine V.iast (j := _) X dX3_copyFrom_65 A51.2.1.2.2.1 rfl (by omega) (by omega) ?_
      have F51 : Fr (fun q => q = E + 11 + 3 * j ∨ q = E + 11 + 3 * j + 1 ∨ q = E + 13 + 3 * j ∨ q = E + 7) h1 h51 := (f36.mono (fun q _ e => e.imp (fun z => z) (fun z => Or.inl z))).then f51 (fun q _ e => Or.inr (Or.inr (Or.inl e)))
      have f65 : Fr (fun q => q = E + 11 + 3 * j ∨ q = E + 11 + 3 * j + 1 ∨ q = E + 13 + 3 * j ∨ q = E + 7) h1 (Hput h51 (E + 7) j (.int (nI (xpr r2 j)))) := F51.thenPut (Or.inl (Or.inr (Or.inr (Or.inr rfl))))
      have x65 : XlAt (Hput h51 (E + 7) j (.int (nI (xpr r2 j)))) E (mixQ (xmx r2, xpc r, xfl r, xsk r, xrd r, xdr r) r2 r (j + 1)) rs := pX.setQ w1 f65 hj (fun q e => e) (fun k hk => by rw [Hv_put_k _ _ _ _ hk, f51.v w36 A36.2.1.2.2.1 (by omega), f36.v w1 hA1.2.1.2.2.1 (by omega)]) rfl (fun k hk => ⟨mix_ne hk, mix_ne hk, mix_ne hk⟩) rfl rfl ⟨by
          show SqAt _ _ (mix (xsq r2) (xsq r) (j + 1) j)
          rw [mix_at]
          exact c51.kept w51 (Fr.put (S := fun q => q = E + 7) (Or.inl rfl)) (by omega) (by omega), by
          show StAt _ _ (mix (xss r2) (xss r) (j + 1) j)
          rw [mix_at]
          exact s51.kept w51 (Fr.put (S := fun q => q = E + 7) (Or.inl rfl)) (by omega), by
          show Hv _ _ _ = .int (nI (mix (xpr r2) (xpr r) (j + 1) j))
          rw [mix_at, Hv_put_at]⟩
      refine V.iinc (v := nI (j + 1)) X dX3_copyFrom_66 [(0, _), (1, _), (2, _)] rfl (nI_1 j) rfl rfl rfl ?_
      refine V.goto 18 X dX3_copyFrom_69 (by decide) ?_
      exact ih (j + 1) _ (by omega) x65 (pF.then f65 (fun q _ e => Or.inr (by omega))) (by rw [f65.v w1 hA1.1.1 (by omega)]; exact pO)
  refine V.aload_n X dX3_copyFrom_0 rfl ?_
  refine V.aload_n X dX3_copyFrom_1 rfl ?_
  refine V.getf  X fX3_copyFrom_12 dX3_copyFrom_2 hX2.1.1.1 hO2 ?_
  refine V.putf X fX3_copyFrom_12 dX3_copyFrom_5 hX.1.1.1 rfl rfl ?_
  have y0 := hX.put0 w (x := .ref o2)
  have b0 := hX2.kept w (Fr.put (S := XS E) (h := h) (a := E) (k := 0) (x := .ref o2) (Or.inl (Or.inl rfl))) hdis
  have m0 := b0.2.1
  refine V.aload_n X dX3_copyFrom_8 rfl ?_
  refine V.aload_n X dX3_copyFrom_9 rfl ?_
  refine V.getf  X fX3_copyFrom_18 dX3_copyFrom_10 b0.1.1.1 m0.1 ?_
  refine V.putf X fX3_copyFrom_18 dX3_copyFrom_13 y0.1.1.1 rfl rfl ?_
  have y1 := y0.put1 (fun q t z => w q t z) (v := xmx r2)
  refine V.iconst (v := nI 0) X dX3_copyFrom_16 (by decide) ?_
  refine V.istore_n X dX3_copyFrom_17 [(0, _), (1, _), (2, _)] rfl rfl rfl ?_
  exact loop1 40 0 _ rfl (y1.ext rfl (fun i hi => ⟨mix_0 (f := xsq r2), mix_0 (f := xss r2), mix_0 (f := xpr r2)⟩) (fun j hj => ⟨rfl, rfl⟩)) (((Fr.put (Or.inl (Or.inl rfl)))).thenPut (Or.inl (Or.inl rfl))) (by rw [Hv_put_k _ _ _ _ (by decide), Hv_put_at])
