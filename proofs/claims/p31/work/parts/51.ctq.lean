theorem in_200 {x : Int32} (h0 : ¬ x < nI 1) (h : x ≤ nI 200) : ∃ n, 1 ≤ n ∧ n ≤ 200 ∧ x = nI n := by
  have n0 : ¬ x < 0 := fun e => h0 (Int32.lt_iff_toInt_lt.mpr (by
    have h1 := Int32.lt_iff_toInt_lt.mp e
    have h2 : (0 : Int32).toInt = 0 := by decide
    have h3 : (nI 1).toInt = 1 := by decide
    omega))
  obtain ⟨j, hj, e⟩ := nI_of2 (M := nI 200) (n := 200) (by decide) n0 h
  refine ⟨j, ?_, hj, e⟩
  rcases Nat.eq_zero_or_pos j with z | z
  · exact absurd (by rw [e, z]; decide) h0
  · exact z
theorem stps_n {c : Cmp} {n k : Nat} {r : Xr} (h : fos c r 40 0 = none) : stps c (n + 1) k r = (k, r) := by
  simp [stps, h]
theorem stps_s {c : Cmp} {n k i : Nat} {r : Xr} (h : fos c r 40 0 = some i) : stps c (n + 1) k r = stps c n (k + 1) (stp c r i) := by
  simp [stps, h]
theorem fX11_explore_26 : FL wsX11_explore RX11 26 13 2 (.object "ContractTester$Exploration") true := ⟨_, rfl, by decide, Or.inl ⟨"ContractTester", by decide +kernel, Or.inl rfl⟩, by decide +kernel, by decide +kernel, rfl⟩
theorem fX11_explore_33 : FL wsX11_explore RX11 33 13 3 (.object "ContractTester$History") true := ⟨_, rfl, by decide, Or.inl ⟨"ContractTester", by decide +kernel, Or.inl rfl⟩, by decide +kernel, by decide +kernel, rfl⟩
set_option maxHeartbeats 4000000 in
set_option maxRecDepth 100000 in
theorem c_X11_explore (l : Launch) (G : GG) {h : Hp} {T d : Nat} {t : List Nat} {c : Cmp} {r : Xr} {la k : Nat} {sx : Nat → Cmp × Xr} (hC : CtAt G h T d t c r la k sx) (hr : XOk c r) {z : Int32} : Con l G yX11_explore wsX11_explore 6 137 0 0 [.ref T, .int z] h (pI (fun y2 h2 => ((z < nI 1 ∨ ¬ z ≤ nI 200) ∧ y2 = -1 ∧ h2 = h) ∨ ∃ n, 1 ≤ n ∧ n ≤ 200 ∧ z = nI n ∧ ((fos c r 40 0 = none ∧ y2 = -2 ∧ h2 = h) ∨ (¬ fos c r 40 0 = none ∧ y2 = nI (stps c n 0 r).1 ∧ XOk c (stps c n 0 r).2 ∧ CtAt G h2 T d t c (stps c n 0 r).2 (nxL la) (nxK k) (fup sx (nxL la) (c, r)) ∧ Fr (CtW T d) h h2)))) := by
  refine Con.of (cc := cX11_explore) (nL := 3) (ret := (some .int)) (by decide) rfl rfl rfl rfl (fun Γ hG hl X Y9 => ?_)
  subst hG
  subst hl
  refine V.wf (fun w => ?_)
  obtain ⟨a, b, -, -, x, y, -⟩ := id hC
  obtain ⟨⟨rs0, l0⟩, o0, v0, p0⟩ := id x
  have hlen := p0.len
  have loop : ∀ (n : Nat), 1 ≤ n → n ≤ 200 → z = nI n → ¬ fos c r 40 0 = none → ∀ (m j : Nat) (r1 : Xr) (h1 : Hp), j + m = n → stps c m j r1 = stps c n 0 r → XOk c r1 → CtAt (cxG Γ) h1 T d t c r1 (nxL la) (nxK k) (fup sx (nxL la) (c, r)) → Fr (CtW T d) h h1 → V Γ 0 0 43 [(0, .ref T), (1, .int (nI n)), (2, .int (nI j))] [] h1 := by
    intro n n1 n2 hz hf0 m
    induction m with
    | zero =>
      intro j r1 h1 g1 g2 q1 C1 W1
      have e0 : stps c n 0 r = (j, r1) := g2.symm
      refine V.iload_n X dX11_explore_43 rfl ?_
      refine V.iload_n X dX11_explore_44 rfl ?_
      refine V.icmp_ge 64 X dX11_explore_45 (by decide) (fun c45 => ?_) (fun c45 => absurd (nI_le (show n ≤ j by omega) (by omega)) c45)
      refine V.iload_n X dX11_explore_64 rfl ?_
      exact V.iret X Y9 dX11_explore_65 (Or.inr ⟨n, n1, n2, hz, Or.inr ⟨hf0, by rw [e0], by rw [e0]; exact q1, by rw [e0]; exact C1, W1⟩⟩) (Nat.le_of_ble_eq_true rfl) (Nat.le_of_ble_eq_true rfl)
    | succ m ih =>
      intro j r1 h1 g1 g2 q1 C1 W1
      refine V.wf (fun w1 => ?_)
      obtain ⟨a1, -, -, -, x1, y1, -⟩ := id C1
      obtain ⟨⟨rs1, l1⟩, o1, v1, p1⟩ := id x1
      refine V.iload_n X dX11_explore_43 rfl ?_
      refine V.iload_n X dX11_explore_44 rfl ?_
      refine V.icmp_ge 64 X dX11_explore_45 (by decide) (fun c45 => absurd c45 (nI_nle9 (show j < n by omega) (by omega))) (fun c45 => ?_)
      refine V.aload_n X dX11_explore_48 rfl ?_
      refine V.getf  X fX11_explore_26 dX11_explore_49 a1.1 a1.2.2.2.1 ?_
      refine V.callVi (n := 0) X dX11_explore_52 gX11_explore_X3_processFirstOpenPair (c_X3_processFirstOpenPair _ _ l1 v1 p1 q1 (fun q z => CtP_x z)) rfl (by decide +kernel) rfl rfl rfl l1.1.1.1 rfl rfl ⟨Nat.le_of_ble_eq_true rfl, Nat.le_of_ble_eq_true rfl⟩ (fun r52 h52 hp52 => ?_)
      rcases hp52 with ⟨hf, rfl, e9⟩ | ⟨i, s9, hf, rfl, l52, f52, o52⟩
      · obtain rfl := e9.symm
        refine V.if_eq 64 X dX11_explore_55 (by decide) (fun c15 => ?_) (fun c15 => absurd rfl c15)
        have e0 : stps c n 0 r = (j, r1) := by rw [← g2, stps_n hf]
        refine V.iload_n X dX11_explore_64 rfl ?_
        exact V.iret X Y9 dX11_explore_65 (Or.inr ⟨n, n1, n2, hz, Or.inr ⟨hf0, by rw [e0], by rw [e0]; exact q1, by rw [e0]; exact C1, W1⟩⟩) (Nat.le_of_ble_eq_true rfl) (Nat.le_of_ble_eq_true rfl)
      refine V.if_eq 64 X dX11_explore_55 (by decide) (fun c15 => absurd c15 (by decide)) (fun c15 => ?_)
      have y52 := y1.kept w1 f52 (fun q e => by have := XS_rng e; omega) (fun q z => CtP_x z)
      have x52 : XcAt (CtP T d) (cxG Γ) h52 (T + 8) c (stp c r1 i) := ⟨⟨_, l52⟩, _, o52, p1.un (f52.un w1 (fun q z => CtP_x z))⟩
      have C52 := C1.xh w1 (f52.mono (fun q _ e => Or.inl e)) x52 y52
      refine V.iinc (v := nI (j + 1)) X dX11_explore_58 [(0, _), (1, _), (2, _)] rfl (nI_1 j) rfl rfl rfl ?_
      refine V.goto 43 X dX11_explore_61 (by decide) ?_
      exact ih (j + 1) _ _ (by omega) (by rw [← stps_s hf]; exact g2) (q1.st_p (fos_lt _ _ _ hf).2) C52 (W1.tr (fr_xh (f52.mono (fun q _ e => Or.inl e))))
  refine V.iload_n X dX11_explore_0 rfl ?_
  refine V.iconst (v := nI 1) X dX11_explore_1 (by decide) ?_
  refine V.icmp_lt 12 X dX11_explore_2 (by decide) (fun c2 => ?_) (fun c2 => ?_)
  · have e0 : z < nI 1 ∨ ¬ z ≤ nI 200 := Or.inl c2
    refine V.iconst (v := -1) X dX11_explore_12 (by decide) ?_
    exact V.iret X Y9 dX11_explore_13 (Or.inl ⟨e0, rfl, rfl⟩) (Nat.le_of_ble_eq_true rfl) (Nat.le_of_ble_eq_true rfl)
  · refine V.iload_n X dX11_explore_5 rfl ?_
    refine V.sipush (v := nI 200) X dX11_explore_6 (by decide) ?_
    refine V.icmp_le 14 X dX11_explore_9 (by decide) (fun c9 => ?_) (fun c9 => ?_)
    · obtain ⟨n, n1, n2, hz⟩ := in_200 c2 c9
      refine V.aload_n X dX11_explore_14 rfl ?_
      refine V.getf  X fX11_explore_26 dX11_explore_15 a.1 a.2.2.2.1 ?_
      refine V.callVi (n := 0) X dX11_explore_18 gX11_explore_X3_firstOpenSequence (c_X3_firstOpenSequence _ _ l0 v0 p0 hr) rfl (by decide +kernel) rfl rfl rfl l0.1.1.1 rfl rfl ⟨Nat.le_of_ble_eq_true rfl, Nat.le_of_ble_eq_true rfl⟩ (fun r18 h18 hp18 => ?_)
      obtain ⟨rfl, e9⟩ := hp18; obtain rfl := e9.symm
      refine V.sipush (v := -1000) X dX11_explore_21 (by decide) ?_
      refine V.icmp_ne 30 X dX11_explore_24 (by decide) (fun c24 => ?_) (fun c24 => ?_)
      · have hf : ¬ fos c r 40 0 = none := fun e => c24 (by rw [e]; rfl)
        refine V.aload_n X dX11_explore_30 rfl ?_
        refine V.getf  X fX11_explore_33 dX11_explore_31 a.1 a.2.2.2.2 ?_
        refine V.aload_n X dX11_explore_34 rfl ?_
        refine V.getf  X fX11_explore_26 dX11_explore_35 a.1 a.2.2.2.1 ?_
        refine V.callVv (n := 1) X dX11_explore_38 gX11_explore_X4_remember (c_X4_remember _ _ y x (by omega) (fun q z => CtP_h z)) rfl (by decide +kernel) rfl rfl rfl y.1.1 rfl rfl ⟨Nat.le_of_ble_eq_true rfl, Nat.le_of_ble_eq_true rfl⟩ (fun h38 hp38 => ?_)
        obtain ⟨yR, fR⟩ := hp38
        have xR := x.kept w fR (fun q e z => by have := HsS_rng e; have := XS_rng z; omega) (fun q z => CtP_h z)
        have CR := hC.xh w (fR.mono (fun q _ e => Or.inr e)) xR yR
        refine V.iconst (v := nI 0) X dX11_explore_41 (by decide) ?_
        refine V.istore_n X dX11_explore_42 [(0, _), (1, _), (2, _)] rfl rfl rfl ?_
        subst hz
        exact loop n n1 n2 rfl hf n 0 r _ (by omega) rfl hr CR (fr_xh (fR.mono (fun q _ e => Or.inr e)))
      · have hf : fos c r 40 0 = none := oI_none (fun j hj => by have := fos_lt _ _ _ hj; omega) (by simpa using c24)
        refine V.bipush (v := -2) X dX11_explore_27 (by decide) ?_
        exact V.iret X Y9 dX11_explore_29 (Or.inr ⟨n, n1, n2, hz, Or.inl ⟨hf, rfl, rfl⟩⟩) (Nat.le_of_ble_eq_true rfl) (Nat.le_of_ble_eq_true rfl)
    · have e0 : z < nI 1 ∨ ¬ z ≤ nI 200 := Or.inr c9
      refine V.iconst (v := -1) X dX11_explore_12 (by decide) ?_
      exact V.iret X Y9 dX11_explore_13 (Or.inl ⟨e0, rfl, rfl⟩) (Nat.le_of_ble_eq_true rfl) (Nat.le_of_ble_eq_true rfl)
