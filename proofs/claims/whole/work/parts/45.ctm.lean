theorem fX11_clearText_10 : FL wsX11_clearText RX11 10 13 0 (.object "java/lang/StringBuilder") true := ⟨_, rfl, by decide, Or.inl ⟨"ContractTester", by decide +kernel, Or.inl rfl⟩, by decide +kernel, by decide +kernel, rfl⟩
set_option maxHeartbeats 4000000 in
set_option maxRecDepth 100000 in
theorem c_X11_clearText (l : Launch) (G : GG) {h : Hp} {T d : Nat} {t : List Nat} {c : Cmp} {r : Xr} {la k : Nat} {sx : Nat → Cmp × Xr} (hC : CtAt G h T d t c r la k sx)  : Con l G yX11_clearText wsX11_clearText 6 132 1 402 [.ref T] h (pI (fun y h2 => y = nI t.length ∧ CtAt G h2 T d [] c r la k sx)) := by
  refine Con.of (cc := cX11_clearText) (nL := 2) (ret := (some .int)) (by decide) rfl rfl rfl rfl (fun Γ hG hl X Y9 => ?_)
  subst hG
  subst hl
  refine V.wf (fun w => ?_)
  obtain ⟨a, b, ⟨s, c2, c3⟩, -⟩ := id hC
  refine V.aload_n X dX11_clearText_0 rfl ?_
  refine V.getf  X fX11_clearText_10 dX11_clearText_1 a.1 a.2.1 ?_
  refine V.callVi (n := 0) X dX11_clearText_4 gX11_clearText_J4_length_8abf5 (c_J4_length_8abf5 _ _ s) rfl (by decide +kernel) rfl rfl rfl s.ob rfl rfl ⟨Nat.le_of_ble_eq_true rfl, Nat.le_of_ble_eq_true rfl⟩ (fun r4 h4 hp4 => ?_)
  obtain ⟨rfl, e9⟩ := hp4; obtain rfl := e9.symm
  refine V.istore_n X dX11_clearText_7 [(0, _), (1, _)] rfl rfl rfl ?_
  refine V.aload_n X dX11_clearText_8 rfl ?_
  refine V.getf  X fX11_clearText_10 dX11_clearText_9 a.1 a.2.1 ?_
  refine V.iconst (v := nI 0) X dX11_clearText_12 (by decide) ?_
  refine V.callVv (n := 1) X dX11_clearText_13 gX11_clearText_J4_setLength_d00df (c_J4_setLength_d00df _ _ s) rfl (by decide +kernel) rfl rfl rfl s.ob rfl rfl ⟨Nat.le_of_ble_eq_true rfl, Nat.le_of_ble_eq_true rfl⟩ (fun h13 hp13 => ?_)
  obtain ⟨s13, f13⟩ := hp13
  have C13 := hC.txt w (f13.mono (fun q _ e => Or.inl e)) s13 (by simp) (Or.inl rfl)
  refine V.iload_n X dX11_clearText_16 rfl ?_
  exact V.iret X Y9 dX11_clearText_17 ⟨rfl, C13⟩ (Nat.le_of_ble_eq_true rfl) (Nat.le_of_ble_eq_true rfl)
