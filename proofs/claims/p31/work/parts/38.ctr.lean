/-! THE TESTER'S ANSWERS THAT CHANGE NOTHING -/
def atI (x : Int32) (n : Nat) (f : Nat → Int32) (d : Int32) : Int32 := if isIx x n = true then f x.toNatClampNeg else d
theorem atI_no {x d : Int32} {n : Nat} {f : Nat → Int32} (h : isIx x n = false) : atI x n f d = d := by
  unfold atI
  rw [h]
  rfl
theorem atI_yes {d : Int32} {j n : Nat} {f : Nat → Int32} (h : j < n) (hn : n < 2 ^ 31) : atI (nI j) n f d = f j := by
  unfold atI
  rw [isIx_nI (by omega), nI_clamp (by omega)]
  simp [h]
theorem isIx_ex {x : Int32} {n : Nat} (hn : n < 2 ^ 31) (h : isIx x n = true) : ∃ j, j < n ∧ x = nI j := by
  unfold isIx at h
  simp at h
  refine ⟨x.toInt.toNat, by omega, ?_⟩
  refine Int32.toInt_inj.mp ?_
  rw [nI_toInt (by omega)]
  omega
theorem fX11_methodCount_26 : FL wsX11_methodCount RX11 26 13 2 (.object "ContractTester$Exploration") true := ⟨_, rfl, by decide, Or.inl ⟨"ContractTester", by decide +kernel, Or.inl rfl⟩, by decide +kernel, by decide +kernel, rfl⟩
theorem fX11_methodCount_91 : FL wsX11_methodCount RX11 91 5 0 (.object "ContractTester$Component") false := ⟨_, rfl, by decide, Or.inr ⟨"ContractTester", by decide +kernel⟩, by decide +kernel, by decide +kernel, rfl⟩
theorem fX11_methodCount_80 : FL wsX11_methodCount RX11 80 3 2 (.object "java/util/ArrayList") true := ⟨_, rfl, by decide, Or.inr ⟨"ContractTester", by decide +kernel⟩, by decide +kernel, by decide +kernel, rfl⟩
set_option maxHeartbeats 4000000 in
set_option maxRecDepth 100000 in
theorem c_X11_methodCount (l : Launch) (G : GG) {h : Hp} {T E : Nat} (hT : Hk h T = some (.inl 13)) (hT2 : Hv h T 2 = .ref E) {r : Xr} {rs : St} (hX : XlAt h E r rs) {P : Nat → Prop} {o : Nat} {c : Cmp} (hO : Hv h E 0 = .ref o) (hC : CpAt P G h o c)  : Con l G yX11_methodCount wsX11_methodCount 1 20 0 0 [.ref T] h (pI (fun y h2 => y = nI c.2.2.length ∧ h2 = h)) := by
  refine Con.of (cc := cX11_methodCount) (nL := 1) (ret := (some .int)) (by decide) rfl rfl rfl rfl (fun Γ hG hl X Y9 => ?_)
  subst hG
  subst hl
  obtain ⟨⟨a0, a1, a2, a3⟩, n, pq, pg, sr⟩ := id hX
  obtain ⟨xx, yy, zz, hp, hx, k0, k1, k2, k3, k4, k5, p6, es, l6, e6, m6⟩ := id hC
  have hlen := hC.len
  refine V.aload_n X dX11_methodCount_0 rfl ?_
  refine V.getf  X fX11_methodCount_26 dX11_methodCount_1 hT hT2 ?_
  refine V.getf  X fX11_methodCount_91 dX11_methodCount_4 a0.1 hO ?_
  refine V.getf  X fX11_methodCount_80 dX11_methodCount_7 k0 k3 ?_
  refine V.callVi (n := 0) X dX11_methodCount_10 gX11_methodCount_Jx4a65c_size_8abf5 (c_Jx4a65c_size_8abf5 _ _ l6) rfl (by decide +kernel) rfl rfl rfl l6.1 rfl rfl ⟨Nat.le_of_ble_eq_true rfl, Nat.le_of_ble_eq_true rfl⟩ (fun r10 h10 hp10 => ?_)
  obtain ⟨rfl, e9⟩ := hp10; obtain rfl := e9.symm
  rw [e6]
  exact V.iret X Y9 dX11_methodCount_13 ⟨rfl, rfl⟩ (Nat.le_of_ble_eq_true rfl) (Nat.le_of_ble_eq_true rfl)
theorem fX11_complexity_26 : FL wsX11_complexity RX11 26 13 2 (.object "ContractTester$Exploration") true := ⟨_, rfl, by decide, Or.inl ⟨"ContractTester", by decide +kernel, Or.inl rfl⟩, by decide +kernel, by decide +kernel, rfl⟩
theorem fX11_complexity_91 : FL wsX11_complexity RX11 91 5 0 (.object "ContractTester$Component") false := ⟨_, rfl, by decide, Or.inr ⟨"ContractTester", by decide +kernel⟩, by decide +kernel, by decide +kernel, rfl⟩
theorem fX11_complexity_80 : FL wsX11_complexity RX11 80 3 2 (.object "java/util/ArrayList") true := ⟨_, rfl, by decide, Or.inr ⟨"ContractTester", by decide +kernel⟩, by decide +kernel, by decide +kernel, rfl⟩
set_option maxHeartbeats 4000000 in
set_option maxRecDepth 100000 in
theorem c_X11_complexity (l : Launch) (G : GG) {h : Hp} {T E : Nat} (hT : Hk h T = some (.inl 13)) (hT2 : Hv h T 2 = .ref E) {r : Xr} {rs : St} (hX : XlAt h E r rs) {P : Nat → Prop} {o : Nat} {c : Cmp} (hO : Hv h E 0 = .ref o) (hC : CpAt P G h o c) {x : Int32} : Con l G yX11_complexity wsX11_complexity 4 86 0 0 [.ref T, .int x] h (pI (fun y h2 => y = atI x c.2.2.length (fun j => nI (wgt (c.2.2.getD j ([], [], [])))) (-1) ∧ h2 = h)) := by
  refine Con.of (cc := cX11_complexity) (nL := 2) (ret := (some .int)) (by decide) rfl rfl rfl rfl (fun Γ hG hl X Y9 => ?_)
  subst hG
  subst hl
  obtain ⟨⟨a0, a1, a2, a3⟩, n, pq, pg, sr⟩ := id hX
  obtain ⟨xx, yy, zz, hp, hx, k0, k1, k2, k3, k4, k5, p6, es, l6, e6, m6⟩ := id hC
  have hlen := hC.len
  refine V.aload_n X dX11_complexity_0 rfl ?_
  refine V.getf  X fX11_complexity_26 dX11_complexity_1 hT hT2 ?_
  refine V.getf  X fX11_complexity_91 dX11_complexity_4 a0.1 hO ?_
  refine V.iload_n X dX11_complexity_7 rfl ?_
  refine V.callVi (n := 1) X dX11_complexity_8 gX11_complexity_X1_hasMethod (c_X1_hasMethod _ _ hC) rfl (by decide +kernel) rfl rfl rfl k0 rfl rfl ⟨Nat.le_of_ble_eq_true rfl, Nat.le_of_ble_eq_true rfl⟩ (fun r8 h8 hp8 => ?_)
  obtain ⟨rfl, e9⟩ := hp8; obtain rfl := e9.symm
  refine V.if_ne 16 X dX11_complexity_11 (by decide) (fun c11 => ?_) (fun c11 => ?_)
  · obtain ⟨j, hj, rfl⟩ := isIx_ex (by omega) (bI_ne c11)
    obtain ⟨q, hq⟩ := get_some hj
    have hM := m6 j q hq
    have hg : c.2.2.getD j ([], [], []) = q := by rw [List.getD_eq_getElem?_getD, hq]; rfl
    refine V.aload_n X dX11_complexity_16 rfl ?_
    refine V.getf  X fX11_complexity_26 dX11_complexity_17 hT hT2 ?_
    refine V.getf  X fX11_complexity_91 dX11_complexity_20 a0.1 hO ?_
    refine V.getf  X fX11_complexity_80 dX11_complexity_23 k0 k3 ?_
    refine V.iload_n X dX11_complexity_26 rfl ?_
    refine V.callVr (n := 1) X dX11_complexity_27 gX11_complexity_Jx4a65c_get_915e3 (c_Jx4a65c_get_915e3 _ _ l6 (show j < es.length by omega)) rfl (by decide +kernel) rfl rfl rfl l6.1 rfl rfl ⟨Nat.le_of_ble_eq_true rfl, Nat.le_of_ble_eq_true rfl⟩ (fun r27 h27 hp27 => ?_)
    obtain ⟨-, rfl, e9⟩ := hp27; obtain rfl := e9.symm
    refine V.cast (ci := 8) X dX11_complexity_30 (by decide +kernel) hM.k rfl ?_
    refine V.callVi (n := 0) X dX11_complexity_33 gX11_complexity_X6_weight (c_X6_weight _ _ hM) rfl (by decide +kernel) rfl rfl rfl hM.k rfl rfl ⟨Nat.le_of_ble_eq_true rfl, Nat.le_of_ble_eq_true rfl⟩ (fun r33 h33 hp33 => ?_)
    obtain ⟨rfl, e9⟩ := hp33; obtain rfl := e9.symm
    exact V.iret X Y9 dX11_complexity_36 ⟨by rw [atI_yes hj (by omega), hg], rfl⟩ (Nat.le_of_ble_eq_true rfl) (Nat.le_of_ble_eq_true rfl)
  · have hi : isIx x c.2.2.length = false := bI_eq (by simpa using c11)
    refine V.iconst (v := -1) X dX11_complexity_14 (by decide) ?_
    exact V.iret X Y9 dX11_complexity_15 ⟨by rw [atI_no hi], rfl⟩ (Nat.le_of_ble_eq_true rfl) (Nat.le_of_ble_eq_true rfl)
theorem fX11_openPairs_26 : FL wsX11_openPairs RX11 26 13 2 (.object "ContractTester$Exploration") true := ⟨_, rfl, by decide, Or.inl ⟨"ContractTester", by decide +kernel, Or.inl rfl⟩, by decide +kernel, by decide +kernel, rfl⟩
set_option maxHeartbeats 4000000 in
set_option maxRecDepth 100000 in
theorem c_X11_openPairs (l : Launch) (G : GG) {h : Hp} {T E : Nat} (hT : Hk h T = some (.inl 13)) (hT2 : Hv h T 2 = .ref E) {r : Xr} {rs : St} (hX : XlAt h E r rs) {P : Nat → Prop} {o : Nat} {c : Cmp} (hO : Hv h E 0 = .ref o) (hC : CpAt P G h o c) (hr : XOk c r) : Con l G yX11_openPairs wsX11_openPairs 3 64 0 0 [.ref T] h (pI (fun y h2 => y = nI (cop c r 40 0) ∧ h2 = h)) := by
  refine Con.of (cc := cX11_openPairs) (nL := 1) (ret := (some .int)) (by decide) rfl rfl rfl rfl (fun Γ hG hl X Y9 => ?_)
  subst hG
  subst hl
  obtain ⟨⟨a0, a1, a2, a3⟩, n, pq, pg, sr⟩ := id hX
  refine V.aload_n X dX11_openPairs_0 rfl ?_
  refine V.getf  X fX11_openPairs_26 dX11_openPairs_1 hT hT2 ?_
  refine V.callVi (n := 0) X dX11_openPairs_4 gX11_openPairs_X3_countOpenPairs (c_X3_countOpenPairs _ _ hX hO hC hr) rfl (by decide +kernel) rfl rfl rfl a0.1 rfl rfl ⟨Nat.le_of_ble_eq_true rfl, Nat.le_of_ble_eq_true rfl⟩ (fun r4 h4 hp4 => ?_)
  obtain ⟨rfl, e9⟩ := hp4; obtain rfl := e9.symm
  exact V.iret X Y9 dX11_openPairs_7 ⟨rfl, rfl⟩ (Nat.le_of_ble_eq_true rfl) (Nat.le_of_ble_eq_true rfl)
theorem fX11_skippedPairs_26 : FL wsX11_skippedPairs RX11 26 13 2 (.object "ContractTester$Exploration") true := ⟨_, rfl, by decide, Or.inl ⟨"ContractTester", by decide +kernel, Or.inl rfl⟩, by decide +kernel, by decide +kernel, rfl⟩
theorem fX11_skippedPairs_165 : FL wsX11_skippedPairs RX11 165 5 9 .int false := ⟨_, rfl, by decide, Or.inr ⟨"ContractTester", by decide +kernel⟩, by decide +kernel, by decide +kernel, rfl⟩
set_option maxHeartbeats 4000000 in
set_option maxRecDepth 100000 in
theorem c_X11_skippedPairs (l : Launch) (G : GG) {h : Hp} {T E : Nat} (hT : Hk h T = some (.inl 13)) (hT2 : Hv h T 2 = .ref E) {r : Xr} {rs : St} (hX : XlAt h E r rs)  : Con l G yX11_skippedPairs wsX11_skippedPairs 0 0 0 0 [.ref T] h (pI (fun y h2 => y = nI (xsk r) ∧ h2 = h)) := by
  refine Con.of (cc := cX11_skippedPairs) (nL := 1) (ret := (some .int)) (by decide) rfl rfl rfl rfl (fun Γ hG hl X Y9 => ?_)
  subst hG
  subst hl
  obtain ⟨⟨a0, a1, a2, a3⟩, n, pq, pg, sr⟩ := id hX
  refine V.aload_n X dX11_skippedPairs_0 rfl ?_
  refine V.getf  X fX11_skippedPairs_26 dX11_skippedPairs_1 hT hT2 ?_
  refine V.getf  X fX11_skippedPairs_165 dX11_skippedPairs_4 a0.1 n.2.2.2.1 ?_
  exact V.iret X Y9 dX11_skippedPairs_7 ⟨rfl, rfl⟩ (Nat.le_of_ble_eq_true rfl) (Nat.le_of_ble_eq_true rfl)
theorem fX11_redundantPairs_26 : FL wsX11_redundantPairs RX11 26 13 2 (.object "ContractTester$Exploration") true := ⟨_, rfl, by decide, Or.inl ⟨"ContractTester", by decide +kernel, Or.inl rfl⟩, by decide +kernel, by decide +kernel, rfl⟩
theorem fX11_redundantPairs_168 : FL wsX11_redundantPairs RX11 168 5 10 .int false := ⟨_, rfl, by decide, Or.inr ⟨"ContractTester", by decide +kernel⟩, by decide +kernel, by decide +kernel, rfl⟩
set_option maxHeartbeats 4000000 in
set_option maxRecDepth 100000 in
theorem c_X11_redundantPairs (l : Launch) (G : GG) {h : Hp} {T E : Nat} (hT : Hk h T = some (.inl 13)) (hT2 : Hv h T 2 = .ref E) {r : Xr} {rs : St} (hX : XlAt h E r rs)  : Con l G yX11_redundantPairs wsX11_redundantPairs 0 0 0 0 [.ref T] h (pI (fun y h2 => y = nI (xrd r) ∧ h2 = h)) := by
  refine Con.of (cc := cX11_redundantPairs) (nL := 1) (ret := (some .int)) (by decide) rfl rfl rfl rfl (fun Γ hG hl X Y9 => ?_)
  subst hG
  subst hl
  obtain ⟨⟨a0, a1, a2, a3⟩, n, pq, pg, sr⟩ := id hX
  refine V.aload_n X dX11_redundantPairs_0 rfl ?_
  refine V.getf  X fX11_redundantPairs_26 dX11_redundantPairs_1 hT hT2 ?_
  refine V.getf  X fX11_redundantPairs_168 dX11_redundantPairs_4 a0.1 n.2.2.2.2.1 ?_
  exact V.iret X Y9 dX11_redundantPairs_7 ⟨rfl, rfl⟩ (Nat.le_of_ble_eq_true rfl) (Nat.le_of_ble_eq_true rfl)
theorem fX11_droppedPairs_26 : FL wsX11_droppedPairs RX11 26 13 2 (.object "ContractTester$Exploration") true := ⟨_, rfl, by decide, Or.inl ⟨"ContractTester", by decide +kernel, Or.inl rfl⟩, by decide +kernel, by decide +kernel, rfl⟩
theorem fX11_droppedPairs_171 : FL wsX11_droppedPairs RX11 171 5 11 .int false := ⟨_, rfl, by decide, Or.inr ⟨"ContractTester", by decide +kernel⟩, by decide +kernel, by decide +kernel, rfl⟩
set_option maxHeartbeats 4000000 in
set_option maxRecDepth 100000 in
theorem c_X11_droppedPairs (l : Launch) (G : GG) {h : Hp} {T E : Nat} (hT : Hk h T = some (.inl 13)) (hT2 : Hv h T 2 = .ref E) {r : Xr} {rs : St} (hX : XlAt h E r rs)  : Con l G yX11_droppedPairs wsX11_droppedPairs 0 0 0 0 [.ref T] h (pI (fun y h2 => y = nI (xdr r) ∧ h2 = h)) := by
  refine Con.of (cc := cX11_droppedPairs) (nL := 1) (ret := (some .int)) (by decide) rfl rfl rfl rfl (fun Γ hG hl X Y9 => ?_)
  subst hG
  subst hl
  obtain ⟨⟨a0, a1, a2, a3⟩, n, pq, pg, sr⟩ := id hX
  refine V.aload_n X dX11_droppedPairs_0 rfl ?_
  refine V.getf  X fX11_droppedPairs_26 dX11_droppedPairs_1 hT hT2 ?_
  refine V.getf  X fX11_droppedPairs_171 dX11_droppedPairs_4 a0.1 n.2.2.2.2.2 ?_
  exact V.iret X Y9 dX11_droppedPairs_7 ⟨rfl, rfl⟩ (Nat.le_of_ble_eq_true rfl) (Nat.le_of_ble_eq_true rfl)
theorem fX11_poolSize_26 : FL wsX11_poolSize RX11 26 13 2 (.object "ContractTester$Exploration") true := ⟨_, rfl, by decide, Or.inl ⟨"ContractTester", by decide +kernel, Or.inl rfl⟩, by decide +kernel, by decide +kernel, rfl⟩
theorem fX11_poolSize_149 : FL wsX11_poolSize RX11 149 5 5 .int false := ⟨_, rfl, by decide, Or.inr ⟨"ContractTester", by decide +kernel⟩, by decide +kernel, by decide +kernel, rfl⟩
set_option maxHeartbeats 4000000 in
set_option maxRecDepth 100000 in
theorem c_X11_poolSize (l : Launch) (G : GG) {h : Hp} {T E : Nat} (hT : Hk h T = some (.inl 13)) (hT2 : Hv h T 2 = .ref E) {r : Xr} {rs : St} (hX : XlAt h E r rs)  : Con l G yX11_poolSize wsX11_poolSize 0 0 0 0 [.ref T] h (pI (fun y h2 => y = nI (xpc r) ∧ h2 = h)) := by
  refine Con.of (cc := cX11_poolSize) (nL := 1) (ret := (some .int)) (by decide) rfl rfl rfl rfl (fun Γ hG hl X Y9 => ?_)
  subst hG
  subst hl
  obtain ⟨⟨a0, a1, a2, a3⟩, n, pq, pg, sr⟩ := id hX
  refine V.aload_n X dX11_poolSize_0 rfl ?_
  refine V.getf  X fX11_poolSize_26 dX11_poolSize_1 hT hT2 ?_
  refine V.getf  X fX11_poolSize_149 dX11_poolSize_4 a0.1 n.2.1 ?_
  exact V.iret X Y9 dX11_poolSize_7 ⟨rfl, rfl⟩ (Nat.le_of_ble_eq_true rfl) (Nat.le_of_ble_eq_true rfl)
theorem fX11_failureCount_26 : FL wsX11_failureCount RX11 26 13 2 (.object "ContractTester$Exploration") true := ⟨_, rfl, by decide, Or.inl ⟨"ContractTester", by decide +kernel, Or.inl rfl⟩, by decide +kernel, by decide +kernel, rfl⟩
theorem fX11_failureCount_198 : FL wsX11_failureCount RX11 198 5 8 .int false := ⟨_, rfl, by decide, Or.inr ⟨"ContractTester", by decide +kernel⟩, by decide +kernel, by decide +kernel, rfl⟩
set_option maxHeartbeats 4000000 in
set_option maxRecDepth 100000 in
theorem c_X11_failureCount (l : Launch) (G : GG) {h : Hp} {T E : Nat} (hT : Hk h T = some (.inl 13)) (hT2 : Hv h T 2 = .ref E) {r : Xr} {rs : St} (hX : XlAt h E r rs)  : Con l G yX11_failureCount wsX11_failureCount 0 0 0 0 [.ref T] h (pI (fun y h2 => y = nI (xfl r) ∧ h2 = h)) := by
  refine Con.of (cc := cX11_failureCount) (nL := 1) (ret := (some .int)) (by decide) rfl rfl rfl rfl (fun Γ hG hl X Y9 => ?_)
  subst hG
  subst hl
  obtain ⟨⟨a0, a1, a2, a3⟩, n, pq, pg, sr⟩ := id hX
  refine V.aload_n X dX11_failureCount_0 rfl ?_
  refine V.getf  X fX11_failureCount_26 dX11_failureCount_1 hT hT2 ?_
  refine V.getf  X fX11_failureCount_198 dX11_failureCount_4 a0.1 n.2.2.1 ?_
  exact V.iret X Y9 dX11_failureCount_7 ⟨rfl, rfl⟩ (Nat.le_of_ble_eq_true rfl) (Nat.le_of_ble_eq_true rfl)
theorem fX11_sequenceLength_26 : FL wsX11_sequenceLength RX11 26 13 2 (.object "ContractTester$Exploration") true := ⟨_, rfl, by decide, Or.inl ⟨"ContractTester", by decide +kernel, Or.inl rfl⟩, by decide +kernel, by decide +kernel, rfl⟩
theorem fX11_sequenceLength_177 : FL wsX11_sequenceLength RX11 177 5 2 (.array (.object "ContractTester$Sequence")) true := ⟨_, rfl, by decide, Or.inr ⟨"ContractTester", by decide +kernel⟩, by decide +kernel, by decide +kernel, rfl⟩
theorem fX11_sequenceLength_181 : FL wsX11_sequenceLength RX11 181 11 1 .int false := ⟨_, rfl, by decide, Or.inr ⟨"ContractTester", by decide +kernel⟩, by decide +kernel, by decide +kernel, rfl⟩
set_option maxHeartbeats 4000000 in
set_option maxRecDepth 100000 in
theorem c_X11_sequenceLength (l : Launch) (G : GG) {h : Hp} {T E : Nat} (hT : Hk h T = some (.inl 13)) (hT2 : Hv h T 2 = .ref E) {r : Xr} {rs : St} (hX : XlAt h E r rs) (hpc : xpc r ≤ 40) {x : Int32} : Con l G yX11_sequenceLength wsX11_sequenceLength 1 21 0 0 [.ref T, .int x] h (pI (fun y h2 => y = atI x (xpc r) (fun j => nI (xsq r j).length) (-1) ∧ h2 = h)) := by
  refine Con.of (cc := cX11_sequenceLength) (nL := 2) (ret := (some .int)) (by decide) rfl rfl rfl rfl (fun Γ hG hl X Y9 => ?_)
  subst hG
  subst hl
  obtain ⟨⟨a0, a1, a2, a3⟩, n, pq, pg, sr⟩ := id hX
  refine V.aload_n X dX11_sequenceLength_0 rfl ?_
  refine V.getf  X fX11_sequenceLength_26 dX11_sequenceLength_1 hT hT2 ?_
  refine V.iload_n X dX11_sequenceLength_4 rfl ?_
  refine V.callVi (n := 1) X dX11_sequenceLength_5 gX11_sequenceLength_X3_hasSequence (c_X3_hasSequence _ _ hX hpc) rfl (by decide +kernel) rfl rfl rfl a0.1 rfl rfl ⟨Nat.le_of_ble_eq_true rfl, Nat.le_of_ble_eq_true rfl⟩ (fun r5 h5 hp5 => ?_)
  obtain ⟨rfl, e9⟩ := hp5; obtain rfl := e9.symm
  refine V.if_ne 13 X dX11_sequenceLength_8 (by decide) (fun c8 => ?_) (fun c8 => ?_)
  · obtain ⟨j, hj, rfl⟩ := isIx_ex (by omega) (bI_ne c8)
    have hj2 : j < 40 := by omega
    obtain ⟨q1, q2, q3⟩ := pq j hj2
    refine V.aload_n X dX11_sequenceLength_13 rfl ?_
    refine V.getf  X fX11_sequenceLength_26 dX11_sequenceLength_14 hT hT2 ?_
    refine V.getf  X fX11_sequenceLength_177 dX11_sequenceLength_17 a0.1 a0.2.1 ?_
    refine V.iload_n X dX11_sequenceLength_20 rfl ?_
    refine V.aald (j := _)  X dX11_sequenceLength_21 a1.1 rfl rfl (by omega) (by omega) (a2 j hj2).1 ?_
    refine V.getf  X fX11_sequenceLength_181 dX11_sequenceLength_22 q1.1 q1.2.2.1 ?_
    exact V.iret X Y9 dX11_sequenceLength_25 ⟨by rw [atI_yes hj (by omega)], rfl⟩ (Nat.le_of_ble_eq_true rfl) (Nat.le_of_ble_eq_true rfl)
  · have hi : isIx x (xpc r) = false := bI_eq (by simpa using c8)
    refine V.iconst (v := -1) X dX11_sequenceLength_11 (by decide) ?_
    exact V.iret X Y9 dX11_sequenceLength_12 ⟨by rw [atI_no hi], rfl⟩ (Nat.le_of_ble_eq_true rfl) (Nat.le_of_ble_eq_true rfl)
theorem fX11_failureLength_26 : FL wsX11_failureLength RX11 26 13 2 (.object "ContractTester$Exploration") true := ⟨_, rfl, by decide, Or.inl ⟨"ContractTester", by decide +kernel, Or.inl rfl⟩, by decide +kernel, by decide +kernel, rfl⟩
theorem fX11_failureLength_204 : FL wsX11_failureLength RX11 204 5 6 (.array (.object "ContractTester$Sequence")) true := ⟨_, rfl, by decide, Or.inr ⟨"ContractTester", by decide +kernel⟩, by decide +kernel, by decide +kernel, rfl⟩
theorem fX11_failureLength_181 : FL wsX11_failureLength RX11 181 11 1 .int false := ⟨_, rfl, by decide, Or.inr ⟨"ContractTester", by decide +kernel⟩, by decide +kernel, by decide +kernel, rfl⟩
set_option maxHeartbeats 4000000 in
set_option maxRecDepth 100000 in
theorem c_X11_failureLength (l : Launch) (G : GG) {h : Hp} {T E : Nat} (hT : Hk h T = some (.inl 13)) (hT2 : Hv h T 2 = .ref E) {r : Xr} {rs : St} (hX : XlAt h E r rs) (hfl : xfl r ≤ 20) {x : Int32} : Con l G yX11_failureLength wsX11_failureLength 1 21 0 0 [.ref T, .int x] h (pI (fun y h2 => y = atI x (xfl r) (fun j => nI (xfs r j).length) (-1) ∧ h2 = h)) := by
  refine Con.of (cc := cX11_failureLength) (nL := 2) (ret := (some .int)) (by decide) rfl rfl rfl rfl (fun Γ hG hl X Y9 => ?_)
  subst hG
  subst hl
  obtain ⟨⟨a0, a1, a2, a3⟩, n, pq, pg, sr⟩ := id hX
  refine V.aload_n X dX11_failureLength_0 rfl ?_
  refine V.getf  X fX11_failureLength_26 dX11_failureLength_1 hT hT2 ?_
  refine V.iload_n X dX11_failureLength_4 rfl ?_
  refine V.callVi (n := 1) X dX11_failureLength_5 gX11_failureLength_X3_hasFailure (c_X3_hasFailure _ _ hX hfl) rfl (by decide +kernel) rfl rfl rfl a0.1 rfl rfl ⟨Nat.le_of_ble_eq_true rfl, Nat.le_of_ble_eq_true rfl⟩ (fun r5 h5 hp5 => ?_)
  obtain ⟨rfl, e9⟩ := hp5; obtain rfl := e9.symm
  refine V.if_ne 13 X dX11_failureLength_8 (by decide) (fun c8 => ?_) (fun c8 => ?_)
  · obtain ⟨j, hj, rfl⟩ := isIx_ex (by omega) (bI_ne c8)
    have hj2 : j < 20 := by omega
    obtain ⟨q1, q2⟩ := pg j hj2
    refine V.aload_n X dX11_failureLength_13 rfl ?_
    refine V.getf  X fX11_failureLength_26 dX11_failureLength_14 hT hT2 ?_
    refine V.getf  X fX11_failureLength_204 dX11_failureLength_17 a0.1 a0.2.2.2.2.1 ?_
    refine V.iload_n X dX11_failureLength_20 rfl ?_
    refine V.aald (j := _)  X dX11_failureLength_21 a1.2.2.2.1 rfl rfl (by omega) (by omega) (a3 j hj2) ?_
    refine V.getf  X fX11_failureLength_181 dX11_failureLength_22 q1.1 q1.2.2.1 ?_
    exact V.iret X Y9 dX11_failureLength_25 ⟨by rw [atI_yes hj (by omega)], rfl⟩ (Nat.le_of_ble_eq_true rfl) (Nat.le_of_ble_eq_true rfl)
  · have hi : isIx x (xfl r) = false := bI_eq (by simpa using c8)
    refine V.iconst (v := -1) X dX11_failureLength_11 (by decide) ?_
    exact V.iret X Y9 dX11_failureLength_12 ⟨by rw [atI_no hi], rfl⟩ (Nat.le_of_ble_eq_true rfl) (Nat.le_of_ble_eq_true rfl)
theorem fX11_failureVerdict_26 : FL wsX11_failureVerdict RX11 26 13 2 (.object "ContractTester$Exploration") true := ⟨_, rfl, by decide, Or.inl ⟨"ContractTester", by decide +kernel, Or.inl rfl⟩, by decide +kernel, by decide +kernel, rfl⟩
theorem fX11_failureVerdict_207 : FL wsX11_failureVerdict RX11 207 5 7 (.array .int) true := ⟨_, rfl, by decide, Or.inr ⟨"ContractTester", by decide +kernel⟩, by decide +kernel, by decide +kernel, rfl⟩
set_option maxHeartbeats 4000000 in
set_option maxRecDepth 100000 in
theorem c_X11_failureVerdict (l : Launch) (G : GG) {h : Hp} {T E : Nat} (hT : Hk h T = some (.inl 13)) (hT2 : Hv h T 2 = .ref E) {r : Xr} {rs : St} (hX : XlAt h E r rs) (hfl : xfl r ≤ 20) {x : Int32} : Con l G yX11_failureVerdict wsX11_failureVerdict 1 21 0 0 [.ref T, .int x] h (pI (fun y h2 => y = atI x (xfl r) (fun j => nI (xvd r j)) (-1) ∧ h2 = h)) := by
  refine Con.of (cc := cX11_failureVerdict) (nL := 2) (ret := (some .int)) (by decide) rfl rfl rfl rfl (fun Γ hG hl X Y9 => ?_)
  subst hG
  subst hl
  obtain ⟨⟨a0, a1, a2, a3⟩, n, pq, pg, sr⟩ := id hX
  refine V.aload_n X dX11_failureVerdict_0 rfl ?_
  refine V.getf  X fX11_failureVerdict_26 dX11_failureVerdict_1 hT hT2 ?_
  refine V.iload_n X dX11_failureVerdict_4 rfl ?_
  refine V.callVi (n := 1) X dX11_failureVerdict_5 gX11_failureVerdict_X3_hasFailure (c_X3_hasFailure _ _ hX hfl) rfl (by decide +kernel) rfl rfl rfl a0.1 rfl rfl ⟨Nat.le_of_ble_eq_true rfl, Nat.le_of_ble_eq_true rfl⟩ (fun r5 h5 hp5 => ?_)
  obtain ⟨rfl, e9⟩ := hp5; obtain rfl := e9.symm
  refine V.if_ne 13 X dX11_failureVerdict_8 (by decide) (fun c8 => ?_) (fun c8 => ?_)
  · obtain ⟨j, hj, rfl⟩ := isIx_ex (by omega) (bI_ne c8)
    have hj2 : j < 20 := by omega
    obtain ⟨q1, q2⟩ := pg j hj2
    refine V.aload_n X dX11_failureVerdict_13 rfl ?_
    refine V.getf  X fX11_failureVerdict_26 dX11_failureVerdict_14 hT hT2 ?_
    refine V.getf  X fX11_failureVerdict_207 dX11_failureVerdict_17 a0.1 a0.2.2.2.2.2.1 ?_
    refine V.iload_n X dX11_failureVerdict_20 rfl ?_
    refine V.iald (j := _)  X dX11_failureVerdict_21 a1.2.2.2.2 rfl (by omega) (by omega) q2 ?_
    exact V.iret X Y9 dX11_failureVerdict_22 ⟨by rw [atI_yes hj (by omega)], rfl⟩ (Nat.le_of_ble_eq_true rfl) (Nat.le_of_ble_eq_true rfl)
  · have hi : isIx x (xfl r) = false := bI_eq (by simpa using c8)
    refine V.iconst (v := -1) X dX11_failureVerdict_11 (by decide) ?_
    exact V.iret X Y9 dX11_failureVerdict_12 ⟨by rw [atI_no hi], rfl⟩ (Nat.le_of_ble_eq_true rfl) (Nat.le_of_ble_eq_true rfl)
theorem fX11_sequenceCall_26 : FL wsX11_sequenceCall RX11 26 13 2 (.object "ContractTester$Exploration") true := ⟨_, rfl, by decide, Or.inl ⟨"ContractTester", by decide +kernel, Or.inl rfl⟩, by decide +kernel, by decide +kernel, rfl⟩
theorem fX11_sequenceCall_177 : FL wsX11_sequenceCall RX11 177 5 2 (.array (.object "ContractTester$Sequence")) true := ⟨_, rfl, by decide, Or.inr ⟨"ContractTester", by decide +kernel⟩, by decide +kernel, by decide +kernel, rfl⟩
set_option maxHeartbeats 4000000 in
set_option maxRecDepth 100000 in
theorem c_X11_sequenceCall (l : Launch) (G : GG) {h : Hp} {T E : Nat} (hT : Hk h T = some (.inl 13)) (hT2 : Hv h T 2 = .ref E) {r : Xr} {rs : St} (hX : XlAt h E r rs) (hpc : xpc r ≤ 40) {x z : Int32} : Con l G yX11_sequenceCall wsX11_sequenceCall 1 21 0 0 [.ref T, .int x, .int z] h (pI (fun y h2 => y = (if z < 0 then -1 else atI x (xpc r) (fun j => sqV (xsq r j) z) (-1)) ∧ h2 = h)) := by
  refine Con.of (cc := cX11_sequenceCall) (nL := 3) (ret := (some .int)) (by decide) rfl rfl rfl rfl (fun Γ hG hl X Y9 => ?_)
  subst hG
  subst hl
  obtain ⟨⟨a0, a1, a2, a3⟩, n, pq, pg, sr⟩ := id hX
  refine V.aload_n X dX11_sequenceCall_0 rfl ?_
  refine V.getf  X fX11_sequenceCall_26 dX11_sequenceCall_1 hT hT2 ?_
  refine V.iload_n X dX11_sequenceCall_4 rfl ?_
  refine V.callVi (n := 1) X dX11_sequenceCall_5 gX11_sequenceCall_X3_hasSequence (c_X3_hasSequence _ _ hX hpc) rfl (by decide +kernel) rfl rfl rfl a0.1 rfl rfl ⟨Nat.le_of_ble_eq_true rfl, Nat.le_of_ble_eq_true rfl⟩ (fun r5 h5 hp5 => ?_)
  obtain ⟨rfl, e9⟩ := hp5; obtain rfl := e9.symm
  refine V.if_eq 15 X dX11_sequenceCall_8 (by decide) (fun c8 => ?_) (fun c8 => ?_)
  · have hi : isIx x (xpc r) = false := bI_eq c8
    have e0 : (if z < 0 then -1 else atI x (xpc r) (fun j => sqV (xsq r j) z) (-1)) = -1 := by
      rw [atI_no hi]
      split <;> rfl
    refine V.iconst (v := -1) X dX11_sequenceCall_15 (by decide) ?_
    exact V.iret X Y9 dX11_sequenceCall_16 ⟨e0.symm, rfl⟩ (Nat.le_of_ble_eq_true rfl) (Nat.le_of_ble_eq_true rfl)
  · obtain ⟨j, hj, rfl⟩ := isIx_ex (by omega) (bI_ne c8)
    have hj2 : j < 40 := by omega
    obtain ⟨q1, q2, q3⟩ := pq j hj2
    refine V.iload_n X dX11_sequenceCall_11 rfl ?_
    refine V.if_ge 17 X dX11_sequenceCall_12 (by decide) (fun c12 => ?_) (fun c12 => ?_)
    · have hz : ¬ z < 0 := by
        intro e
        have h9 := Int32.lt_iff_toInt_lt.mp e
        have h8 := Int32.le_iff_toInt_le.mp c12
        omega
      refine V.aload_n X dX11_sequenceCall_17 rfl ?_
      refine V.getf  X fX11_sequenceCall_26 dX11_sequenceCall_18 hT hT2 ?_
      refine V.getf  X fX11_sequenceCall_177 dX11_sequenceCall_21 a0.1 a0.2.1 ?_
      refine V.iload_n X dX11_sequenceCall_24 rfl ?_
      refine V.aald (j := _)  X dX11_sequenceCall_25 a1.1 rfl rfl (by omega) (by omega) (a2 j hj2).1 ?_
      refine V.iload_n X dX11_sequenceCall_26 rfl ?_
      refine V.callVi (n := 1) X dX11_sequenceCall_27 gX11_sequenceCall_X9_callAt (c_X9_callAt _ _ q1) rfl (by decide +kernel) rfl rfl rfl q1.1 rfl rfl ⟨Nat.le_of_ble_eq_true rfl, Nat.le_of_ble_eq_true rfl⟩ (fun r27 h27 hp27 => ?_)
      obtain ⟨rfl, e9⟩ := hp27; obtain rfl := e9.symm
      exact V.iret X Y9 dX11_sequenceCall_30 ⟨by rw [if_neg hz, atI_yes hj (by omega)], rfl⟩ (Nat.le_of_ble_eq_true rfl) (Nat.le_of_ble_eq_true rfl)
    · have hz : z < 0 := by
        refine Int32.lt_iff_toInt_lt.mpr ?_
        have h9 : ¬ 0 ≤ z.toInt := fun e => c12 (Int32.le_iff_toInt_le.mpr e)
        have h8 : (0 : Int32).toInt = 0 := by decide
        omega
      have e0 : (if z < 0 then -1 else atI (nI j) (xpc r) (fun j => sqV (xsq r j) z) (-1)) = -1 := if_pos hz
      refine V.iconst (v := -1) X dX11_sequenceCall_15 (by decide) ?_
      exact V.iret X Y9 dX11_sequenceCall_16 ⟨e0.symm, rfl⟩ (Nat.le_of_ble_eq_true rfl) (Nat.le_of_ble_eq_true rfl)
set_option maxHeartbeats 4000000 in
set_option maxRecDepth 100000 in
theorem fX11_findState_26 : FL wsX11_findState RX11 26 13 2 (.object "ContractTester$Exploration") true := ⟨_, rfl, by decide, Or.inl ⟨"ContractTester", by decide +kernel, Or.inl rfl⟩, by decide +kernel, by decide +kernel, rfl⟩
set_option maxHeartbeats 4000000 in
set_option maxRecDepth 100000 in
theorem c_X11_findState (l : Launch) (G : GG) {h : Hp} {T E : Nat} (hT : Hk h T = some (.inl 13)) (hT2 : Hv h T 2 = .ref E) {r : Xr} {rs : St} (hX : XlAt h E r rs) (hpc : xpc r ≤ 40) {t : St} : Con l G yX11_findState wsX11_findState 2 47 0 0 [.ref T, .int t.1, .int t.2.1, .int t.2.2] h (pI (fun y h2 => y = oI (sws r t 40 0) ∧ h2 = h)) := by
  refine Con.of (cc := cX11_findState) (nL := 4) (ret := (some .int)) (by decide) rfl rfl rfl rfl (fun Γ hG hl X Y9 => ?_)
  subst hG
  subst hl
  obtain ⟨⟨a0, a1, a2, a3⟩, n, pq, pg, sr⟩ := id hX
  refine V.aload_n X dX11_findState_0 rfl ?_
  refine V.getf  X fX11_findState_26 dX11_findState_1 hT hT2 ?_
  refine V.iload_n X dX11_findState_4 rfl ?_
  refine V.iload_n X dX11_findState_5 rfl ?_
  refine V.iload_n X dX11_findState_6 rfl ?_
  refine V.callVi (n := 3) X dX11_findState_7 gX11_findState_X3_sequenceWithState (c_X3_sequenceWithState _ _ (t := t) hX hpc) rfl (by decide +kernel) rfl rfl rfl a0.1 rfl rfl ⟨Nat.le_of_ble_eq_true rfl, Nat.le_of_ble_eq_true rfl⟩ (fun r7 h7 hp7 => ?_)
  obtain ⟨rfl, e9⟩ := hp7; obtain rfl := e9.symm
  exact V.iret X Y9 dX11_findState_10 ⟨rfl, rfl⟩ (Nat.le_of_ble_eq_true rfl) (Nat.le_of_ble_eq_true rfl)
