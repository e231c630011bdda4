theorem CtAt.new {G : GG} {h : Hp} {T d : Nat} {t : List Nat} {c : Cmp} {r : Xr} {l k : Nat} {sx : Nat → Cmp × Xr} (q : CtAt G h T d t c r l k sx) (w : WF h) : ∀ q, Hz h ≤ q → CtP T d q := by
  obtain ⟨a, b, ⟨c1, c3, c4⟩, e, x, y, ys, zs, z⟩ := q
  have hz := w _ _ z.2.2.2.2.2.2.2.1
  obtain ⟨N, -, -, -, -, s5, -⟩ := c1
  have hd := w _ _ s5
  intro q hq e
  unfold CtW at e
  rcases e with e | e | e | e | e | e
  · omega
  · have := XS_rng e; omega
  · have := HsS_rng e; omega
  · omega
  · unfold ZS at e; omega
  · omega
theorem CtAt.grow {G : GG} {h h1 : Hp} {T d : Nat} {t : List Nat} {c : Cmp} {r : Xr} {l k : Nat} {sx : Nat → Cmp × Xr} (q : CtAt G h T d t c r l k sx) (w : WF h) (f : Fr (fun _ => False) h h1) : CtAt G h1 T d t c r l k sx :=
  q.xh w (f.mono (fun _ _ e => e.elim)) (q.2.2.2.2.1.kept w f (fun _ e => e.elim) (fun _ _ e => e)) (q.2.2.2.2.2.1.kept w f (fun _ e => e.elim) (fun _ _ e => e))
theorem fX11_removeMethod_26 : FL wsX11_removeMethod RX11 26 13 2 (.object "ContractTester$Exploration") true := ⟨_, rfl, by decide, Or.inl ⟨"ContractTester", by decide +kernel, Or.inl rfl⟩, by decide +kernel, by decide +kernel, rfl⟩
theorem fX11_removeMethod_91 : FL wsX11_removeMethod RX11 91 5 0 (.object "ContractTester$Component") false := ⟨_, rfl, by decide, Or.inr ⟨"ContractTester", by decide +kernel⟩, by decide +kernel, by decide +kernel, rfl⟩
theorem fX11_removeMethod_80 : FL wsX11_removeMethod RX11 80 3 2 (.object "java/util/ArrayList") true := ⟨_, rfl, by decide, Or.inr ⟨"ContractTester", by decide +kernel⟩, by decide +kernel, by decide +kernel, rfl⟩
set_option maxHeartbeats 4000000 in
set_option maxRecDepth 100000 in
theorem c_X11_removeMethod (l : Launch) (G : GG) {h : Hp} {T d : Nat} {t : List Nat} {c : Cmp} {r : Xr} {la k : Nat} {sx : Nat → Cmp × Xr} (hC : CtAt G h T d t c r la k sx) {z : Int32} : Con l G yX11_removeMethod wsX11_removeMethod 6 130 24 212 [.ref T, .int z] h (pI (fun y2 h2 => (isIx z c.2.2.length = false ∧ y2 = -1 ∧ h2 = h) ∨ ∃ j, j < c.2.2.length ∧ z = nI j ∧ y2 = nI (c.2.2.eraseIdx j).length ∧ CtAt G h2 T d t (c.1, c.2.1, c.2.2.eraseIdx j) (rst (c.1, c.2.1, c.2.2.eraseIdx j) r) (nxL la) (nxK k) (fup sx (nxL la) (c, r)) ∧ Fr (CtW T d) h h2)) := by
  refine Con.of (cc := cX11_removeMethod) (nL := 2) (ret := (some .int)) (by decide) rfl rfl rfl rfl (fun Γ hG hl X Y9 => ?_)
  subst hG
  subst hl
  refine V.wf (fun w => ?_)
  obtain ⟨a, b, -, -, x, y, -⟩ := id hC
  obtain ⟨⟨rs0, l0⟩, o0, v0, p0⟩ := id x
  have hlen := p0.len
  refine V.aload_n X dX11_removeMethod_0 rfl ?_
  refine V.getf  X fX11_removeMethod_26 dX11_removeMethod_1 a.1 a.2.2.2.1 ?_
  refine V.getf  X fX11_removeMethod_91 dX11_removeMethod_4 l0.1.1.1 v0 ?_
  refine V.iload_n X dX11_removeMethod_7 rfl ?_
  refine V.callVi (n := 1) X dX11_removeMethod_8 gX11_removeMethod_X1_hasMethod (c_X1_hasMethod _ _ p0) rfl (by decide +kernel) rfl rfl rfl p0.k rfl rfl ⟨Nat.le_of_ble_eq_true rfl, Nat.le_of_ble_eq_true rfl⟩ (fun r8 h8 hp8 => ?_)
  obtain ⟨rfl, e9⟩ := hp8; obtain rfl := e9.symm
  refine V.if_ne 16 X dX11_removeMethod_11 (by decide) (fun c11 => ?_) (fun c11 => ?_)
  · obtain ⟨j, hj, rfl⟩ := isIx_ex (by omega) (bI_ne c11)
    refine V.aload_n X dX11_removeMethod_16 rfl ?_
    refine V.aload_n X dX11_removeMethod_17 rfl ?_
    refine V.getf  X fX11_removeMethod_26 dX11_removeMethod_18 a.1 a.2.2.2.1 ?_
    refine V.getf  X fX11_removeMethod_91 dX11_removeMethod_21 l0.1.1.1 v0 ?_
    refine V.iload_n X dX11_removeMethod_24 rfl ?_
    refine V.callVr (n := 1) X dX11_removeMethod_25 gX11_removeMethod_X1_withoutMethod (c_X1_withoutMethod _ _ (k := nI j) p0) rfl (by decide +kernel) rfl rfl rfl p0.k rfl rfl ⟨Nat.le_of_ble_eq_true rfl, Nat.le_of_ble_eq_true rfl⟩ (fun r25 h25 hp25 => ?_)
    obtain ⟨-, rfl, f25, ei, em, pC, pi, pm⟩ := hp25
    have ew : wom c.2.2 0 (nI j) = c.2.2.eraseIdx j := by
      have := wom_at c.2.2 0 j (by omega)
      rw [Nat.zero_add] at this
      exact this
    rw [ew] at pm
    have n25 : CpAt (CtP T d) (cxG Γ) h25 (Hz h) (c.1, c.2.1, c.2.2.eraseIdx j) := (pC.cp w f25 pi pm).tr (fun q t z hk => ⟨z.elim (fun z => z) (fun z => hC.new w q z), hk, fun _ => rfl⟩)
    have C25 := hC.grow w f25
    refine V.callVv (n := 1) X dX11_removeMethod_28 gX11_removeMethod_X11_replaceComponent (c_X11_replaceComponent _ _ C25 n25) rfl (by decide +kernel) rfl rfl rfl C25.1.1 rfl rfl ⟨Nat.le_of_ble_eq_true rfl, Nat.le_of_ble_eq_true rfl⟩ (fun h28 hp28 => ?_)
    obtain ⟨C28, f28⟩ := hp28
    obtain ⟨a28, -, -, -, ⟨⟨rs8, l8⟩, o8, v8, p8⟩, -⟩ := id C28
    obtain ⟨xx, yy, zz, hp, hx, k0, k1, k2, k3, k4, k5, p6, es, l6, e6, m6⟩ := id p8
    refine V.aload_n X dX11_removeMethod_31 rfl ?_
    refine V.getf  X fX11_removeMethod_26 dX11_removeMethod_32 a28.1 a28.2.2.2.1 ?_
    refine V.getf  X fX11_removeMethod_91 dX11_removeMethod_35 l8.1.1.1 v8 ?_
    refine V.getf  X fX11_removeMethod_80 dX11_removeMethod_38 k0 k3 ?_
    refine V.callVi (n := 0) X dX11_removeMethod_41 gX11_removeMethod_Jx4a65c_size_8abf5 (c_Jx4a65c_size_8abf5 _ _ l6) rfl (by decide +kernel) rfl rfl rfl l6.1 rfl rfl ⟨Nat.le_of_ble_eq_true rfl, Nat.le_of_ble_eq_true rfl⟩ (fun r41 h41 hp41 => ?_)
    obtain ⟨rfl, e9⟩ := hp41; obtain rfl := e9.symm
    rw [e6]
    exact V.iret X Y9 dX11_removeMethod_44 (Or.inr ⟨j, hj, rfl, rfl, C28, (fr_no f25).tr (fr_xh f28)⟩) (Nat.le_of_ble_eq_true rfl) (Nat.le_of_ble_eq_true rfl)
  · have e0 : isIx z c.2.2.length = false := bI_eq (by simpa using c11)
    refine V.iconst (v := -1) X dX11_removeMethod_14 (by decide) ?_
    exact V.iret X Y9 dX11_removeMethod_15 (Or.inl ⟨e0, rfl, rfl⟩) (Nat.le_of_ble_eq_true rfl) (Nat.le_of_ble_eq_true rfl)
