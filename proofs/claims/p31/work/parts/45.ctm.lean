theorem fX11_clearText_10 : FL wsX11_clearText RX11 10 13 0 (.object "java/lang/StringBuilder") true := ⟨_, rfl, by decide, Or.inl ⟨"ContractTester", by decide +kernel, Or.inl rfl⟩, by decide +kernel, by decide +kernel, rfl⟩
set_option maxHeartbeats 4000000 in
set_option maxRecDepth 100000 in
theorem c_X11_clearText (l : Launch) (G : GG) {h : Hp} {T d : Nat} {t : List Nat} {c : Cmp} {r : Xr} {la k : Nat} {sx : Nat → Cmp × Xr} (hC : CtAt G h T d t c r la k sx)  : Con l G yX11_clearText wsX11_clearText 6 132 1 402 [.ref T] h (pI (fun y h2 => y = nI t.length ∧ CtAt G h2 T d [] c r la k sx ∧ Fr (CtW T d) h h2)) := by
  refine Con.of (cc := cX11_clearText) (nL := 2) (ret := (some .int)) (by decide) rfl rfl rfl rfl (fun Γ hG hl X Y9 => ?_)
  subst hG
  subst hl
  refine V.wf (fun w => ?_)
  obtain ⟨a, b, ⟨s, c2, c3⟩, -⟩ := id hC
  refine V.aload_n X dX11_clearText_0 rfl ?_
  refine V.getf  X fX11_clearText_10 dX11_clearText_1 a.1 a.2.1 ?_
  refine V.callVi (n := 0) X dX11_clearText_4 gX11_clearText_J4_length_8abf5 (c_J4_length_8abf5 _ _ s) rfl (by decide +kernel) rfl rfl rfl s.ob rfl rfl ⟨Nat.le_of_ble_eq_true rfl, Nat.le_of_ble_eq_true rfl⟩ (fun r4 h4 hp4 => ?_)
  obtain ⟨rfl, e9⟩ := hp4; obtain rfl := e9.symm
  refine V.istore_n X dX11_clearText_7 [(0, _), (1, _)] rfl rfl rfl ?_
  refine V.aload_n X dX11_clearText_8 rfl ?_
  refine V.getf  X fX11_clearText_10 dX11_clearText_9 a.1 a.2.1 ?_
  refine V.iconst (v := nI 0) X dX11_clearText_12 (by decide) ?_
  refine V.callVv (n := 1) X dX11_clearText_13 gX11_clearText_J4_setLength_d00df (c_J4_setLength_d00df _ _ s) rfl (by decide +kernel) rfl rfl rfl s.ob rfl rfl ⟨Nat.le_of_ble_eq_true rfl, Nat.le_of_ble_eq_true rfl⟩ (fun h13 hp13 => ?_)
  obtain ⟨s13, f13⟩ := hp13
  have C13 := hC.txt w (f13.mono (fun q _ e => Or.inl e)) s13 (by simp) (Or.inl rfl)
  refine V.iload_n X dX11_clearText_16 rfl ?_
  exact V.iret X Y9 dX11_clearText_17 ⟨rfl, C13, fr_lo f13 (fun q e => Or.inl (by omega))⟩ (Nat.le_of_ble_eq_true rfl) (Nat.le_of_ble_eq_true rfl)
theorem i2c_n {n : Nat} (h : n < 256) : ((nI n).toUInt32 % 65536).toInt32 = nI n := by
  have k : ∀ n, n < 256 → ((nI n).toUInt32 % 65536).toInt32 = nI n := by decide +kernel
  exact k n h
theorem isIx_256 {x : Int32} (h0 : ¬ x < 0) (h : x ≤ 255) : ∃ n, n < 256 ∧ x = nI n := by
  obtain ⟨j, hj, e⟩ := nI_of2 (M := 255) (n := 255) (by decide) h0 h
  exact ⟨j, by omega, e⟩
theorem fX11_appendCharacter_10 : FL wsX11_appendCharacter RX11 10 13 0 (.object "java/lang/StringBuilder") true := ⟨_, rfl, by decide, Or.inl ⟨"ContractTester", by decide +kernel, Or.inl rfl⟩, by decide +kernel, by decide +kernel, rfl⟩
set_option maxHeartbeats 4000000 in
set_option maxRecDepth 100000 in
theorem c_X11_appendCharacter (l : Launch) (G : GG) {h : Hp} {T d : Nat} {t : List Nat} {c : Cmp} {r : Xr} {la k : Nat} {sx : Nat → Cmp × Xr} (hC : CtAt G h T d t c r la k sx) {x : Int32} : Con l G yX11_appendCharacter wsX11_appendCharacter 6 132 1 402 [.ref T, .int x] h (pI (fun y h2 => (isIx x 256 = false ∧ y = -1 ∧ h2 = h) ∨ ∃ n, n < 256 ∧ x = nI n ∧ ((¬ t.length < 200 ∧ y = -3 ∧ h2 = h) ∨ (t.length < 200 ∧ y = nI (t.length + 1) ∧ (∃ d2, CtAt G h2 T d2 (t ++ [n]) c r la k sx) ∧ Fr (CtW T d) h h2)))) := by
  refine Con.of (cc := cX11_appendCharacter) (nL := 2) (ret := (some .int)) (by decide) rfl rfl rfl rfl (fun Γ hG hl X Y9 => ?_)
  subst hG
  subst hl
  refine V.wf (fun w => ?_)
  obtain ⟨a, b, ⟨s, c2, c3⟩, -⟩ := id hC
  refine V.iload_n X dX11_appendCharacter_0 rfl ?_
  refine V.if_lt 11 X dX11_appendCharacter_1 (by decide) (fun c1 => ?_) (fun c1 => ?_)
  · have e0 := isIx_neg (n := 256) c1
    refine V.iconst (v := -1) X dX11_appendCharacter_11 (by decide) ?_
    exact V.iret X Y9 dX11_appendCharacter_12 (Or.inl ⟨e0, rfl, rfl⟩) (Nat.le_of_ble_eq_true rfl) (Nat.le_of_ble_eq_true rfl)
  · refine V.iload_n X dX11_appendCharacter_4 rfl ?_
    refine V.sipush (v := nI 255) X dX11_appendCharacter_5 (by decide) ?_
    refine V.icmp_le 13 X dX11_appendCharacter_8 (by decide) (fun c8 => ?_) (fun c8 => ?_)
    · obtain ⟨n, hn, rfl⟩ := isIx_256 c1 c8
      refine V.aload_n X dX11_appendCharacter_13 rfl ?_
      refine V.getf  X fX11_appendCharacter_10 dX11_appendCharacter_14 a.1 a.2.1 ?_
      refine V.callVi (n := 0) X dX11_appendCharacter_17 gX11_appendCharacter_J4_length_8abf5 (c_J4_length_8abf5 _ _ s) rfl (by decide +kernel) rfl rfl rfl s.ob rfl rfl ⟨Nat.le_of_ble_eq_true rfl, Nat.le_of_ble_eq_true rfl⟩ (fun r17 h17 hp17 => ?_)
      obtain ⟨rfl, e9⟩ := hp17; obtain rfl := e9.symm
      refine V.sipush (v := nI 200) X dX11_appendCharacter_20 (by decide) ?_
      refine V.icmp_lt 29 X dX11_appendCharacter_23 (by decide) (fun c23 => ?_) (fun c23 => ?_)
      · rw [nI_ltI (by omega) (by omega)] at c23
        refine V.aload_n X dX11_appendCharacter_29 rfl ?_
        refine V.getf  X fX11_appendCharacter_10 dX11_appendCharacter_30 a.1 a.2.1 ?_
        refine V.iload_n X dX11_appendCharacter_33 rfl ?_
        refine V.i2c (v := nI n) X dX11_appendCharacter_34 (i2c_n hn) ?_
        refine V.callVr (n := 1) X dX11_appendCharacter_35 gX11_appendCharacter_J4_append_cf468 (c_J4_append_cf468 _ _ s c23 hn) rfl (by decide +kernel) rfl rfl rfl s.ob rfl rfl ⟨Nat.le_of_ble_eq_true rfl, Nat.le_of_ble_eq_true rfl⟩ (fun r35 h35 hp35 => ?_)
        obtain ⟨-, rfl, d2, s35, f35, hd35⟩ := hp35
        have C35 := hC.txt w f35 s35 (by simp; omega) hd35
        obtain ⟨a2, -, ⟨s2, -⟩, -⟩ := id C35
        refine V.pop X dX11_appendCharacter_38 rfl ?_
        refine V.aload_n X dX11_appendCharacter_39 rfl ?_
        refine V.getf  X fX11_appendCharacter_10 dX11_appendCharacter_40 a2.1 a2.2.1 ?_
        refine V.callVi (n := 0) X dX11_appendCharacter_43 gX11_appendCharacter_J4_length_8abf5 (c_J4_length_8abf5 _ _ s2) rfl (by decide +kernel) rfl rfl rfl s2.ob rfl rfl ⟨Nat.le_of_ble_eq_true rfl, Nat.le_of_ble_eq_true rfl⟩ (fun r43 h43 hp43 => ?_)
        obtain ⟨rfl, e9⟩ := hp43; obtain rfl := e9.symm
        exact V.iret X Y9 dX11_appendCharacter_46 (Or.inr ⟨n, hn, rfl, Or.inr ⟨c23, by simp, ⟨_, C35⟩, f35.mono (fun q _ e => e.elim (fun z => Or.inl (by omega)) (fun z => Or.inr (Or.inr (Or.inr (Or.inr (Or.inr z))))))⟩⟩) (Nat.le_of_ble_eq_true rfl) (Nat.le_of_ble_eq_true rfl)
      · rw [nI_ltI (by omega) (by omega)] at c23
        refine V.bipush (v := -3) X dX11_appendCharacter_26 (by decide) ?_
        exact V.iret X Y9 dX11_appendCharacter_28 (Or.inr ⟨n, hn, rfl, Or.inl ⟨c23, rfl, rfl⟩⟩) (Nat.le_of_ble_eq_true rfl) (Nat.le_of_ble_eq_true rfl)
    · have e0 : isIx x 256 = false := by
        unfold isIx
        have h9 : ¬ x.toInt ≤ 255 := fun e => c8 (Int32.le_iff_toInt_le.mpr e)
        simp
        omega
      refine V.iconst (v := -1) X dX11_appendCharacter_11 (by decide) ?_
      exact V.iret X Y9 dX11_appendCharacter_12 (Or.inl ⟨e0, rfl, rfl⟩) (Nat.le_of_ble_eq_true rfl) (Nat.le_of_ble_eq_true rfl)
