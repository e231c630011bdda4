theorem in_18 {x : Int32} (h0 : ¬ x < nI 1) (h : x ≤ nI 8) : ∃ n, 1 ≤ n ∧ n ≤ 8 ∧ x = nI n := by
  have n0 : ¬ x < 0 := fun e => h0 (Int32.lt_iff_toInt_lt.mpr (by
    have h1 := Int32.lt_iff_toInt_lt.mp e
    have h2 : (0 : Int32).toInt = 0 := by decide
    have h3 : (nI 1).toInt = 1 := by decide
    omega))
  obtain ⟨j, hj, e⟩ := nI_of2 (M := nI 8) (n := 8) (by decide) n0 h
  refine ⟨j, ?_, hj, e⟩
  rcases Nat.eq_zero_or_pos j with z | z
  · exact absurd (by rw [e, z]; decide) h0
  · exact z
theorem fX11_setMaximumLength_33 : FL wsX11_setMaximumLength RX11 33 13 3 (.object "ContractTester$History") true := ⟨_, rfl, by decide, Or.inl ⟨"ContractTester", by decide +kernel, Or.inl rfl⟩, by decide +kernel, by decide +kernel, rfl⟩
theorem fX11_setMaximumLength_26 : FL wsX11_setMaximumLength RX11 26 13 2 (.object "ContractTester$Exploration") true := ⟨_, rfl, by decide, Or.inl ⟨"ContractTester", by decide +kernel, Or.inl rfl⟩, by decide +kernel, by decide +kernel, rfl⟩
theorem fX11_setMaximumLength_135 : FL wsX11_setMaximumLength RX11 135 5 1 .int false := ⟨_, rfl, by decide, Or.inr ⟨"ContractTester", by decide +kernel⟩, by decide +kernel, by decide +kernel, rfl⟩
set_option maxHeartbeats 4000000 in
set_option maxRecDepth 100000 in
theorem c_X11_setMaximumLength (l : Launch) (G : GG) {h : Hp} {T d : Nat} {t : List Nat} {c : Cmp} {r : Xr} {la k : Nat} {sx : Nat → Cmp × Xr} (hC : CtAt G h T d t c r la k sx) {z : Int32} : Con l G yX11_setMaximumLength wsX11_setMaximumLength 5 108 0 0 [.ref T, .int z] h (pI (fun y2 h2 => ((z < nI 1 ∨ ¬ z ≤ nI 8) ∧ y2 = -1 ∧ h2 = h) ∨ ∃ n, 1 ≤ n ∧ n ≤ 8 ∧ z = nI n ∧ y2 = nI (xmx r) ∧ CtAt G h2 T d t c ((n, xpc r, xfl r, xsk r, xrd r, xdr r), r.2) (nxL la) (nxK k) (fup sx (nxL la) (c, r)) ∧ Fr (CtW T d) h h2)) := by
  refine Con.of (cc := cX11_setMaximumLength) (nL := 3) (ret := (some .int)) (by decide) rfl rfl rfl rfl (fun Γ hG hl X Y9 => ?_)
  subst hG
  subst hl
  refine V.wf (fun w => ?_)
  obtain ⟨a, b, -, -, x, y, -⟩ := id hC
  obtain ⟨⟨rs0, l0⟩, o0, v0, p0⟩ := id x
  refine V.iload_n X dX11_setMaximumLength_0 rfl ?_
  refine V.iconst (v := nI 1) X dX11_setMaximumLength_1 (by decide) ?_
  refine V.icmp_lt 11 X dX11_setMaximumLength_2 (by decide) (fun c2 => ?_) (fun c2 => ?_)
  · have e0 : z < nI 1 ∨ ¬ z ≤ nI 8 := Or.inl c2
    refine V.iconst (v := -1) X dX11_setMaximumLength_11 (by decide) ?_
    exact V.iret X Y9 dX11_setMaximumLength_12 (Or.inl ⟨e0, rfl, rfl⟩) (Nat.le_of_ble_eq_true rfl) (Nat.le_of_ble_eq_true rfl)
  · refine V.iload_n X dX11_setMaximumLength_5 rfl ?_
    refine V.bipush (v := nI 8) X dX11_setMaximumLength_6 (by decide) ?_
    refine V.icmp_le 13 X dX11_setMaximumLength_8 (by decide) (fun c8 => ?_) (fun c8 => ?_)
    · obtain ⟨n, n1, n8, rfl⟩ := in_18 c2 c8
      refine V.aload_n X dX11_setMaximumLength_13 rfl ?_
      refine V.getf  X fX11_setMaximumLength_33 dX11_setMaximumLength_14 a.1 a.2.2.2.2 ?_
      refine V.aload_n X dX11_setMaximumLength_17 rfl ?_
      refine V.getf  X fX11_setMaximumLength_26 dX11_setMaximumLength_18 a.1 a.2.2.2.1 ?_
      refine V.callVv (n := 1) X dX11_setMaximumLength_21 gX11_setMaximumLength_X4_remember (c_X4_remember _ _ y x (by omega) (fun q z => CtP_h z)) rfl (by decide +kernel) rfl rfl rfl y.1.1 rfl rfl ⟨Nat.le_of_ble_eq_true rfl, Nat.le_of_ble_eq_true rfl⟩ (fun h21 hp21 => ?_)
      obtain ⟨yR, fR⟩ := hp21
      have nh : ∀ q, (q < T + 179 ∨ T + 1207 ≤ q) → ¬ HsS (T + 179) q := fun q hq e => by have := HsS_rng e; omega
      have aR := a.kept w fR (nh _ (by omega))
      have xR := x.kept w fR (fun q e z => nh q (by have := XS_rng z; omega) e) (fun q z => CtP_h z)
      obtain ⟨⟨rsR, lR⟩, oR, vR, pR⟩ := xR
      refine V.wf (fun wR => ?_)
      refine V.aload_n X dX11_setMaximumLength_24 rfl ?_
      refine V.getf  X fX11_setMaximumLength_26 dX11_setMaximumLength_25 aR.1 aR.2.2.2.1 ?_
      refine V.getf  X fX11_setMaximumLength_135 dX11_setMaximumLength_28 lR.1.1.1 lR.2.1.1 ?_
      refine V.istore_n X dX11_setMaximumLength_31 [(0, _), (1, _), (2, _)] rfl rfl rfl ?_
      refine V.aload_n X dX11_setMaximumLength_32 rfl ?_
      refine V.getf  X fX11_setMaximumLength_26 dX11_setMaximumLength_33 aR.1 aR.2.2.2.1 ?_
      refine V.iload_n X dX11_setMaximumLength_36 rfl ?_
      refine V.putf X fX11_setMaximumLength_135 dX11_setMaximumLength_37 lR.1.1.1 rfl rfl ?_
      have l37 := lR.put1 wR (v := n)
      have p37 : Fr (fun q => q = T + 8) h21 (Hput h21 (T + 8) 1 (.int (nI n))) := Fr.put (Or.inl rfl)
      have x37 : XcAt (CtP T d) (cxG Γ) (Hput h21 (T + 8) 1 (.int (nI n))) (T + 8) c ((n, xpc r, xfl r, xsk r, xrd r, xdr r), r.2) := ⟨⟨_, l37⟩, _, by rw [Hv_put_k _ _ _ _ (by decide)]; exact vR, pR.un (p37.un wR (fun q z e => CtP_x z (Or.inl e)))⟩
      have y37 := yR.kept wR p37 (fun q e => by omega) (fun q z e => CtP_x z (Or.inl e))
      have F37 : Fr (fun q => XS (T + 8) q ∨ HsS (T + 179) q) h _ := (fR.mono (fun q _ e => Or.inr e)).then p37 (fun q _ e => Or.inl (Or.inl e))
      have C37 := hC.xh w F37 x37 y37
      refine V.iload_n X dX11_setMaximumLength_40 rfl ?_
      exact V.iret X Y9 dX11_setMaximumLength_41 (Or.inr ⟨n, n1, n8, rfl, rfl, C37, fr_xh F37⟩) (Nat.le_of_ble_eq_true rfl) (Nat.le_of_ble_eq_true rfl)
    · have e0 : z < nI 1 ∨ ¬ z ≤ nI 8 := Or.inr c8
      refine V.iconst (v := -1) X dX11_setMaximumLength_11 (by decide) ?_
      exact V.iret X Y9 dX11_setMaximumLength_12 (Or.inl ⟨e0, rfl, rfl⟩) (Nat.le_of_ble_eq_true rfl) (Nat.le_of_ble_eq_true rfl)
theorem fX11_reset_26 : FL wsX11_reset RX11 26 13 2 (.object "ContractTester$Exploration") true := ⟨_, rfl, by decide, Or.inl ⟨"ContractTester", by decide +kernel, Or.inl rfl⟩, by decide +kernel, by decide +kernel, rfl⟩
theorem fX11_reset_33 : FL wsX11_reset RX11 33 13 3 (.object "ContractTester$History") true := ⟨_, rfl, by decide, Or.inl ⟨"ContractTester", by decide +kernel, Or.inl rfl⟩, by decide +kernel, by decide +kernel, rfl⟩
theorem fX11_reset_149 : FL wsX11_reset RX11 149 5 5 .int false := ⟨_, rfl, by decide, Or.inr ⟨"ContractTester", by decide +kernel⟩, by decide +kernel, by decide +kernel, rfl⟩
set_option maxHeartbeats 4000000 in
set_option maxRecDepth 100000 in
theorem c_X11_reset (l : Launch) (G : GG) {h : Hp} {T d : Nat} {t : List Nat} {c : Cmp} {r : Xr} {la k : Nat} {sx : Nat → Cmp × Xr} (hC : CtAt G h T d t c r la k sx) (hr : XOk c r) : Con l G yX11_reset wsX11_reset 5 108 0 0 [.ref T] h (pI (fun y2 h2 => (hpp r 40 0 = false ∧ y2 = -2 ∧ h2 = h) ∨ (hpp r 40 0 = true ∧ y2 = nI (xpc r) ∧ CtAt G h2 T d t c (rst c r) (nxL la) (nxK k) (fup sx (nxL la) (c, r)) ∧ Fr (CtW T d) h h2))) := by
  refine Con.of (cc := cX11_reset) (nL := 2) (ret := (some .int)) (by decide) rfl rfl rfl rfl (fun Γ hG hl X Y9 => ?_)
  subst hG
  subst hl
  refine V.wf (fun w => ?_)
  obtain ⟨a, b, -, -, x, y, -⟩ := id hC
  obtain ⟨⟨rs0, l0⟩, o0, v0, p0⟩ := id x
  have hlen := p0.len
  refine V.aload_n X dX11_reset_0 rfl ?_
  refine V.getf  X fX11_reset_26 dX11_reset_1 a.1 a.2.2.2.1 ?_
  refine V.callVi (n := 0) X dX11_reset_4 gX11_reset_X3_hasProcessedPair (c_X3_hasProcessedPair _ _ l0 (N := c.2.2.length) (by omega) hr.2.1.2 hr.2.2.2.2) rfl (by decide +kernel) rfl rfl rfl l0.1.1.1 rfl rfl ⟨Nat.le_of_ble_eq_true rfl, Nat.le_of_ble_eq_true rfl⟩ (fun r4 h4 hp4 => ?_)
  obtain ⟨rfl, e9⟩ := hp4; obtain rfl := e9.symm
  refine V.if_ne 13 X dX11_reset_7 (by decide) (fun c7 => ?_) (fun c7 => ?_)
  · have e0 : hpp r 40 0 = true := bI_ne c7
    refine V.aload_n X dX11_reset_13 rfl ?_
    refine V.getf  X fX11_reset_33 dX11_reset_14 a.1 a.2.2.2.2 ?_
    refine V.aload_n X dX11_reset_17 rfl ?_
    refine V.getf  X fX11_reset_26 dX11_reset_18 a.1 a.2.2.2.1 ?_
    refine V.callVv (n := 1) X dX11_reset_21 gX11_reset_X4_remember (c_X4_remember _ _ y x (by omega) (fun q z => CtP_h z)) rfl (by decide +kernel) rfl rfl rfl y.1.1 rfl rfl ⟨Nat.le_of_ble_eq_true rfl, Nat.le_of_ble_eq_true rfl⟩ (fun h21 hp21 => ?_)
    obtain ⟨yR, fR⟩ := hp21
    have nh : ∀ q, (q < T + 179 ∨ T + 1207 ≤ q) → ¬ HsS (T + 179) q := fun q hq e => by have := HsS_rng e; omega
    have aR := a.kept w fR (nh _ (by omega))
    have xR := x.kept w fR (fun q e z => nh q (by have := XS_rng z; omega) e) (fun q z => CtP_h z)
    obtain ⟨⟨rsR, lR⟩, oR, vR, pR⟩ := xR
    refine V.wf (fun wR => ?_)
    refine V.aload_n X dX11_reset_24 rfl ?_
    refine V.getf  X fX11_reset_26 dX11_reset_25 aR.1 aR.2.2.2.1 ?_
    refine V.getf  X fX11_reset_149 dX11_reset_28 lR.1.1.1 lR.2.1.2.1 ?_
    refine V.istore_n X dX11_reset_31 [(0, _), (1, _)] rfl rfl rfl ?_
    refine V.aload_n X dX11_reset_32 rfl ?_
    refine V.getf  X fX11_reset_26 dX11_reset_33 aR.1 aR.2.2.2.1 ?_
    refine V.callVv (n := 0) X dX11_reset_36 gX11_reset_X3_restart (c_X3_restart _ _ lR vR pR) rfl (by decide +kernel) rfl rfl rfl lR.1.1.1 rfl rfl ⟨Nat.le_of_ble_eq_true rfl, Nat.le_of_ble_eq_true rfl⟩ (fun h36 hp36 => ?_)
    obtain ⟨l36, f36, o36⟩ := hp36
    have y36 := yR.kept wR f36 (fun q e => by have := XS_rng e; omega) (fun q z => CtP_x z)
    have x36 : XcAt (CtP T d) (cxG Γ) h36 (T + 8) c (rst c r) := ⟨⟨_, l36⟩, _, o36, pR.un (f36.un wR (fun q z => CtP_x z))⟩
    have F36 : Fr (fun q => XS (T + 8) q ∨ HsS (T + 179) q) h _ := (fR.mono (fun q _ e => Or.inr e)).then f36 (fun q _ e => Or.inl e)
    have C36 := hC.xh w F36 x36 y36
    refine V.iload_n X dX11_reset_39 rfl ?_
    exact V.iret X Y9 dX11_reset_40 (Or.inr ⟨e0, rfl, C36, fr_xh F36⟩) (Nat.le_of_ble_eq_true rfl) (Nat.le_of_ble_eq_true rfl)
  · have e0 : hpp r 40 0 = false := bI_eq (by simpa using c7)
    refine V.bipush (v := -2) X dX11_reset_10 (by decide) ?_
    exact V.iret X Y9 dX11_reset_12 (Or.inl ⟨e0, rfl, rfl⟩) (Nat.le_of_ble_eq_true rfl) (Nat.le_of_ble_eq_true rfl)
theorem fX11_undo_33 : FL wsX11_undo RX11 33 13 3 (.object "ContractTester$History") true := ⟨_, rfl, by decide, Or.inl ⟨"ContractTester", by decide +kernel, Or.inl rfl⟩, by decide +kernel, by decide +kernel, rfl⟩
theorem fX11_undo_26 : FL wsX11_undo RX11 26 13 2 (.object "ContractTester$Exploration") true := ⟨_, rfl, by decide, Or.inl ⟨"ContractTester", by decide +kernel, Or.inl rfl⟩, by decide +kernel, by decide +kernel, rfl⟩
set_option maxHeartbeats 4000000 in
set_option maxRecDepth 100000 in
theorem c_X11_undo (l : Launch) (G : GG) {h : Hp} {T d : Nat} {t : List Nat} {c : Cmp} {r : Xr} {la k : Nat} {sx : Nat → Cmp × Xr} (hC : CtAt G h T d t c r la k sx)  : Con l G yX11_undo wsX11_undo 5 108 0 0 [.ref T] h (pI (fun y2 h2 => (k = 0 ∧ y2 = -2 ∧ h2 = h) ∨ (0 < k ∧ y2 = nI (k - 1) ∧ CtAt G h2 T d t (sx la).1 (sx la).2 (pvL la) (k - 1) sx ∧ Fr (CtW T d) h h2))) := by
  refine Con.of (cc := cX11_undo) (nL := 1) (ret := (some .int)) (by decide) rfl rfl rfl rfl (fun Γ hG hl X Y9 => ?_)
  subst hG
  subst hl
  refine V.wf (fun w => ?_)
  obtain ⟨a, b, -, -, x, y, -⟩ := id hC
  obtain ⟨⟨rs0, l0⟩, o0, v0, p0⟩ := id x
  refine V.aload_n X dX11_undo_0 rfl ?_
  refine V.getf  X fX11_undo_33 dX11_undo_1 a.1 a.2.2.2.2 ?_
  refine V.callVi (n := 0) X dX11_undo_4 gX11_undo_X4_isEmpty (c_X4_isEmpty _ _ y) rfl (by decide +kernel) rfl rfl rfl y.1.1 rfl rfl ⟨Nat.le_of_ble_eq_true rfl, Nat.le_of_ble_eq_true rfl⟩ (fun r4 h4 hp4 => ?_)
  obtain ⟨rfl, e9⟩ := hp4; obtain rfl := e9.symm
  refine V.if_eq 13 X dX11_undo_7 (by decide) (fun c7 => ?_) (fun c7 => ?_)
  · have e0 : 0 < k := by
      have := bI_eq c7
      simp at this
      omega
    refine V.aload_n X dX11_undo_13 rfl ?_
    refine V.getf  X fX11_undo_33 dX11_undo_14 a.1 a.2.2.2.2 ?_
    refine V.aload_n X dX11_undo_17 rfl ?_
    refine V.getf  X fX11_undo_26 dX11_undo_18 a.1 a.2.2.2.1 ?_
    refine V.callVi (n := 1) X dX11_undo_21 gX11_undo_X4_restoreLatest (c_X4_restoreLatest _ _ y x (by omega) e0 (fun q z => CtP_x z) (fun z => CtP_h z (Or.inl rfl))) rfl (by decide +kernel) rfl rfl rfl y.1.1 rfl rfl ⟨Nat.le_of_ble_eq_true rfl, Nat.le_of_ble_eq_true rfl⟩ (fun r21 h21 hp21 => ?_)
    obtain ⟨rfl, y21, x21, f21⟩ := hp21
    have F21 : Fr (fun q => XS (T + 8) q ∨ HsS (T + 179) q) h _ := f21.mono (fun q _ e => e.elim (fun z => Or.inr (Or.inl z)) (fun z => Or.inl z))
    have C21 := hC.xh w F21 x21 y21
    exact V.iret X Y9 dX11_undo_24 (Or.inr ⟨e0, rfl, C21, fr_xh F21⟩) (Nat.le_of_ble_eq_true rfl) (Nat.le_of_ble_eq_true rfl)
  · have e0 : k = 0 := by
      have := bI_ne c7
      simpa using this
    refine V.bipush (v := -2) X dX11_undo_10 (by decide) ?_
    exact V.iret X Y9 dX11_undo_12 (Or.inl ⟨e0, rfl, rfl⟩) (Nat.le_of_ble_eq_true rfl) (Nat.le_of_ble_eq_true rfl)
