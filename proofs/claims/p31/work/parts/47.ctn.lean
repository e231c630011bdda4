theorem fX11_replaceComponent_33 : FL wsX11_replaceComponent RX11 33 13 3 (.object "ContractTester$History") true := ⟨_, rfl, by decide, Or.inl ⟨"ContractTester", by decide +kernel, Or.inl rfl⟩, by decide +kernel, by decide +kernel, rfl⟩
theorem fX11_replaceComponent_26 : FL wsX11_replaceComponent RX11 26 13 2 (.object "ContractTester$Exploration") true := ⟨_, rfl, by decide, Or.inl ⟨"ContractTester", by decide +kernel, Or.inl rfl⟩, by decide +kernel, by decide +kernel, rfl⟩
theorem fX11_replaceComponent_91 : FL wsX11_replaceComponent RX11 91 5 0 (.object "ContractTester$Component") false := ⟨_, rfl, by decide, Or.inr ⟨"ContractTester", by decide +kernel⟩, by decide +kernel, by decide +kernel, rfl⟩
set_option maxHeartbeats 4000000 in
set_option maxRecDepth 100000 in
theorem c_X11_replaceComponent (l : Launch) (G : GG) {h : Hp} {T d : Nat} {t : List Nat} {c : Cmp} {r : Xr} {la k : Nat} {sx : Nat → Cmp × Xr} (hC : CtAt G h T d t c r la k sx) {A : Nat} {c2 : Cmp} (hN : CpAt (CtP T d) G h A c2) : Con l G yX11_replaceComponent wsX11_replaceComponent 5 108 0 0 [.ref T, .ref A] h (pV (fun h2 => CtAt G h2 T d t c2 (rst c2 r) (nxL la) (nxK k) (fup sx (nxL la) (c, r)) ∧ Fr (fun q => XS (T + 8) q ∨ HsS (T + 179) q) h h2)) := by
  refine Con.of (cc := cX11_replaceComponent) (nL := 2) (ret := none) (by decide) rfl rfl rfl rfl (fun Γ hG hl X Y9 => ?_)
  subst hG
  subst hl
  refine V.wf (fun w => ?_)
  obtain ⟨a, b, -, -, x, y, -⟩ := id hC
  refine V.aload_n X dX11_replaceComponent_0 rfl ?_
  refine V.getf  X fX11_replaceComponent_33 dX11_replaceComponent_1 a.1 a.2.2.2.2 ?_
  refine V.aload_n X dX11_replaceComponent_4 rfl ?_
  refine V.getf  X fX11_replaceComponent_26 dX11_replaceComponent_5 a.1 a.2.2.2.1 ?_
  refine V.callVv (n := 1) X dX11_replaceComponent_8 gX11_replaceComponent_X4_remember (c_X4_remember _ _ y x (by omega) (fun q z => CtP_h z)) rfl (by decide +kernel) rfl rfl rfl y.1.1 rfl rfl ⟨Nat.le_of_ble_eq_true rfl, Nat.le_of_ble_eq_true rfl⟩ (fun h8 hp8 => ?_)
  obtain ⟨y8, f8⟩ := hp8
  have nh : ∀ q, (q < T + 179 ∨ T + 1207 ≤ q) → ¬ HsS (T + 179) q := fun q hq e => by have := HsS_rng e; omega
  have a8 := a.kept w f8 (nh _ (by omega))
  have x8 := x.kept w f8 (fun q e z => nh q (by have := XS_rng z; omega) e) (fun q z => CtP_h z)
  have n8 := hN.un (f8.un w (fun q z => CtP_h z))
  obtain ⟨⟨rs8, l8⟩, -⟩ := x8
  refine V.wf (fun w8 => ?_)
  refine V.aload_n X dX11_replaceComponent_11 rfl ?_
  refine V.getf  X fX11_replaceComponent_26 dX11_replaceComponent_12 a8.1 a8.2.2.2.1 ?_
  refine V.aload_n X dX11_replaceComponent_15 rfl ?_
  refine V.putf X fX11_replaceComponent_91 dX11_replaceComponent_16 l8.1.1.1 rfl rfl ?_
  have l16 := l8.put0 w8 (x := .ref A)
  have p16 : Fr (fun q => q = T + 8) h8 (Hput h8 (T + 8) 0 (.ref A)) := Fr.put (Or.inl rfl)
  have a16 := a8.kept w8 p16 (by omega)
  have n16 := n8.un (p16.un w8 (fun q z e => CtP_x z (Or.inl e)))
  have w16 : WF (Hput h8 (T + 8) 0 (.ref A)) := fun q t z => w8 q t z
  refine V.aload_n X dX11_replaceComponent_19 rfl ?_
  refine V.getf  X fX11_replaceComponent_26 dX11_replaceComponent_20 a16.1 a16.2.2.2.1 ?_
  refine V.callVv (n := 0) X dX11_replaceComponent_23 gX11_replaceComponent_X3_restart (c_X3_restart _ _ l16 (Hv_put_at _ _ _ _) n16) rfl (by decide +kernel) rfl rfl rfl l16.1.1.1 rfl rfl ⟨Nat.le_of_ble_eq_true rfl, Nat.le_of_ble_eq_true rfl⟩ (fun h23 hp23 => ?_)
  obtain ⟨l23, f23, o23⟩ := hp23
  have g23 : Fr (XS (T + 8)) h8 h23 := (p16.mono (fun q _ e => Or.inl e)).then f23 (fun q _ e => e)
  have y23 := y8.kept w8 g23 (fun q e => by have := XS_rng e; omega) (fun q z => CtP_x z)
  have x23 : XcAt (CtP T d) (cxG Γ) h23 (T + 8) c2 (rst c2 r) := ⟨⟨_, l23⟩, _, o23, n16.un (f23.un w16 (fun q z => CtP_x z))⟩
  have F23 : Fr (fun q => XS (T + 8) q ∨ HsS (T + 179) q) h h23 := (f8.mono (fun q _ e => Or.inr e)).then g23 (fun q _ e => Or.inl e)
  have C23 := hC.xh w F23 x23 y23
  exact V.vret X Y9 dX11_replaceComponent_26 ⟨rfl, C23, F23⟩ (Nat.le_of_ble_eq_true rfl) (Nat.le_of_ble_eq_true rfl)
