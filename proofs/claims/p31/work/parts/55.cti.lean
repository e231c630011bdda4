theorem fX11_init_10 : FL wsX11_init RX11 10 13 0 (.object "java/lang/StringBuilder") true := ⟨_, rfl, by decide, Or.inl ⟨"ContractTester", by decide +kernel, Or.inl rfl⟩, by decide +kernel, by decide +kernel, rfl⟩
theorem fX11_init_19 : FL wsX11_init RX11 19 13 1 (.object "ContractTester$Parser") true := ⟨_, rfl, by decide, Or.inl ⟨"ContractTester", by decide +kernel, Or.inl rfl⟩, by decide +kernel, by decide +kernel, rfl⟩
theorem fX11_init_26 : FL wsX11_init RX11 26 13 2 (.object "ContractTester$Exploration") true := ⟨_, rfl, by decide, Or.inl ⟨"ContractTester", by decide +kernel, Or.inl rfl⟩, by decide +kernel, by decide +kernel, rfl⟩
theorem fX11_init_33 : FL wsX11_init RX11 33 13 3 (.object "ContractTester$History") true := ⟨_, rfl, by decide, Or.inl ⟨"ContractTester", by decide +kernel, Or.inl rfl⟩, by decide +kernel, by decide +kernel, rfl⟩
theorem fX11_init_40 : FL wsX11_init RX11 40 13 4 (.object "ContractTester$State") true := ⟨_, rfl, by decide, Or.inl ⟨"ContractTester", by decide +kernel, Or.inl rfl⟩, by decide +kernel, by decide +kernel, rfl⟩
theorem fX11_init_44 : FL wsX11_init RX11 44 13 5 (.object "ContractTester$State") true := ⟨_, rfl, by decide, Or.inl ⟨"ContractTester", by decide +kernel, Or.inl rfl⟩, by decide +kernel, by decide +kernel, rfl⟩
theorem fX11_init_50 : FL wsX11_init RX11 50 13 6 (.object "ContractTester$Sequence") true := ⟨_, rfl, by decide, Or.inl ⟨"ContractTester", by decide +kernel, Or.inl rfl⟩, by decide +kernel, by decide +kernel, rfl⟩
theorem fX11_init_54 : FL wsX11_init RX11 54 13 7 (.object "ContractTester$Sequence") true := ⟨_, rfl, by decide, Or.inl ⟨"ContractTester", by decide +kernel, Or.inl rfl⟩, by decide +kernel, by decide +kernel, rfl⟩
set_option maxHeartbeats 4000000 in
set_option maxRecDepth 100000 in
theorem c_X11_init (l : Launch) (G : GG) {h : Hp} {T : Nat} (kT : Hk h T = some (.inl 13)) (hz : Hz h = T + 1) : Con l G yX11_init wsX11_init 7 142 1212 7041 [.ref T] h (pV (fun h2 => CtAt G h2 T (T + 2) [] cmp0 x0 0 0 (fun _ => (cmp0, x0)) ∧ Fr (fun q => q = T) h h2 ∧ Hz h2 = T + 1213)) := by
  refine Con.of (cc := cX11_init) (nL := 1) (ret := none) (by decide) rfl rfl rfl rfl (fun Γ hG hl X Y9 => ?_)
  subst hG
  subst hl
  refine V.wf (fun w => ?_)
  refine V.aload_n X dX11_init_0 rfl ?_
  refine V.objInit X dX11_init_1 (by decide +kernel) (by decide +kernel) (by decide +kernel) rfl ?_
  refine V.aload_n X dX11_init_4 rfl ?_
  refine V.new (ci := 0) X dX11_init_5 rfl (by decide +kernel) (by decide +kernel) (by decide +kernel) (by decide +kernel) tyJ4 tyJ4_ok rfl rfl ?_
  refine V.dup X dX11_init_8 rfl ?_
  refine V.callIv (n := 0) X dX11_init_9 gX11_init_J4_init_da8c8 (c_J4_init_da8c8 _ _ (a := Hz h) (by rw [Hk_new, if_pos rfl]) (by rw [Hv_new, if_pos rfl]; rfl)) rfl (by decide +kernel) (by decide +kernel) (by decide +kernel) rfl (by decide +kernel) rfl rfl rfl ⟨Nat.le_of_ble_eq_true rfl, Nat.le_of_ble_eq_true rfl⟩ (fun h9 hp9 => ?_)
  obtain ⟨s0, f0, z0⟩ := hp9
  rw [Hz_new] at s0 z0
  have G0 : Fr (fun _ => False) h h9 := (Fr.new (S := fun _ => False)).then f0 (fun q hq e => by omega)
  refine V.wf (fun wA0 => ?_)
  refine V.putF X Y9 rfl fX11_init_10 (fun q hq => by cases hq; rfl) (nest_no (by decide +kernel)) dX11_init_12 (G0.k w kT) rfl rfl ?_
  have F0 : Fr (fun q => q = T) h (Hput h9 T 0 (.ref (Hz h))) := (G0.mono (fun q _ e => e.elim)).thenPut (Or.inl rfl)
  have Q0 : Fr (fun q => q = T) h9 (Hput h9 T 0 (.ref (Hz h))) := Fr.put (Or.inl rfl)
  have V0 : ∀ j, ¬ j = 0 → Hv (Hput h9 T 0 (.ref (Hz h))) T j = Hv h T j := fun j hj => by rw [Hv_put_k _ _ _ _ hj, G0.v w kT (fun z => z)]
  have U0 : Hv (Hput h9 T 0 (.ref (Hz h))) T 0 = .ref (Hz h) := Hv_put_at _ _ _ _
  have y0 : Hz (Hput h9 T 0 (.ref (Hz h))) = T + 3 := by rw [Hz_put, z0]; omega
  have k0 : Hk (Hput h9 T 0 (.ref (Hz h))) T = some (.inl 13) := G0.k w kT
  generalize (Hput h9 T 0 (.ref (Hz h))) = g0 at F0 Q0 V0 U0 y0 k0 ⊢
  refine V.wf (fun w0 => ?_)
  refine V.aload_n X dX11_init_15 rfl ?_
  refine V.new (ci := 10) X dX11_init_16 rfl (by decide +kernel) (by decide +kernel) (by decide +kernel) (by decide +kernel) tyX8 tyX8_ok rfl rfl ?_
  refine V.dup X dX11_init_19 rfl ?_
  refine V.callINv (n := 0) X dX11_init_20 (host := "ContractTester") gX11_init_X8_init_n18 (c_X8_init _ _ (a := Hz g0) (by rw [Hk_new, if_pos rfl])) rfl (by decide +kernel) (by decide +kernel) (by decide +kernel) rfl (by decide +kernel) rfl rfl rfl ⟨Nat.le_of_ble_eq_true rfl, Nat.le_of_ble_eq_true rfl⟩ (fun h20 hp20 => ?_)
  obtain ⟨m1, n1, l1, f1, z1⟩ := hp20
  rw [Hz_new] at n1 l1 z1
  have G1 : Fr (fun _ => False) g0 h20 := (Fr.new (S := fun _ => False)).then f1 (fun q hq e => by omega)
  refine V.wf (fun wA1 => ?_)
  refine V.putF X Y9 rfl fX11_init_19 (fun q hq => by cases hq; rfl) (nest_no (by decide +kernel)) dX11_init_23 (G1.k w0 k0) rfl rfl ?_
  have F1 : Fr (fun q => q = T) g0 (Hput h20 T 1 (.ref (Hz g0))) := (G1.mono (fun q _ e => e.elim)).thenPut (Or.inl rfl)
  have Q1 : Fr (fun q => q = T) h20 (Hput h20 T 1 (.ref (Hz g0))) := Fr.put (Or.inl rfl)
  have V1 : ∀ j, ¬ j = 1 → Hv (Hput h20 T 1 (.ref (Hz g0))) T j = Hv g0 T j := fun j hj => by rw [Hv_put_k _ _ _ _ hj, G1.v w0 k0 (fun z => z)]
  have U1 : Hv (Hput h20 T 1 (.ref (Hz g0))) T 1 = .ref (Hz g0) := Hv_put_at _ _ _ _
  have y1 : Hz (Hput h20 T 1 (.ref (Hz g0))) = T + 8 := by rw [Hz_put, z1]; omega
  have k1 : Hk (Hput h20 T 1 (.ref (Hz g0))) T = some (.inl 13) := G1.k w0 k0
  generalize (Hput h20 T 1 (.ref (Hz g0))) = g1 at F1 Q1 V1 U1 y1 k1 ⊢
  refine V.wf (fun w1 => ?_)
  refine V.aload_n X dX11_init_26 rfl ?_
  refine V.new (ci := 5) X dX11_init_27 rfl (by decide +kernel) (by decide +kernel) (by decide +kernel) (by decide +kernel) tyX3 tyX3_ok rfl rfl ?_
  refine V.dup X dX11_init_30 rfl ?_
  refine V.callIv (n := 0) X dX11_init_31 gX11_init_X3_init (c_X3_init _ _ (E := Hz g1) (by rw [Hk_new, if_pos rfl]) (fun k hk => by rw [Hv_new, if_pos rfl]; rcases (show k = 8 ∨ k = 9 ∨ k = 10 ∨ k = 11 by omega) with rfl | rfl | rfl | rfl <;> rfl) (Hz_new _ _ _)) rfl (by decide +kernel) (by decide +kernel) (by decide +kernel) rfl (by decide +kernel) rfl rfl rfl ⟨Nat.le_of_ble_eq_true rfl, Nat.le_of_ble_eq_true rfl⟩ (fun h31 hp31 => ?_)
  obtain ⟨x2, o2, c2, f2, z2⟩ := hp31
  have G2 : Fr (fun _ => False) g1 h31 := (Fr.new (S := fun _ => False)).then f2 (fun q hq e => by omega)
  refine V.wf (fun wA2 => ?_)
  refine V.putF X Y9 rfl fX11_init_26 (fun q hq => by cases hq; rfl) (nest_no (by decide +kernel)) dX11_init_34 (G2.k w1 k1) rfl rfl ?_
  have F2 : Fr (fun q => q = T) g1 (Hput h31 T 2 (.ref (Hz g1))) := (G2.mono (fun q _ e => e.elim)).thenPut (Or.inl rfl)
  have Q2 : Fr (fun q => q = T) h31 (Hput h31 T 2 (.ref (Hz g1))) := Fr.put (Or.inl rfl)
  have V2 : ∀ j, ¬ j = 2 → Hv (Hput h31 T 2 (.ref (Hz g1))) T j = Hv g1 T j := fun j hj => by rw [Hv_put_k _ _ _ _ hj, G2.v w1 k1 (fun z => z)]
  have U2 : Hv (Hput h31 T 2 (.ref (Hz g1))) T 2 = .ref (Hz g1) := Hv_put_at _ _ _ _
  have y2 : Hz (Hput h31 T 2 (.ref (Hz g1))) = T + 179 := by rw [Hz_put, z2]; omega
  have k2 : Hk (Hput h31 T 2 (.ref (Hz g1))) T = some (.inl 13) := G2.k w1 k1
  generalize (Hput h31 T 2 (.ref (Hz g1))) = g2 at F2 Q2 V2 U2 y2 k2 ⊢
  refine V.wf (fun w2 => ?_)
  refine V.aload_n X dX11_init_37 rfl ?_
  refine V.new (ci := 6) X dX11_init_38 rfl (by decide +kernel) (by decide +kernel) (by decide +kernel) (by decide +kernel) tyX4 tyX4_ok rfl rfl ?_
  refine V.dup X dX11_init_41 rfl ?_
  refine V.callIv (n := 0) X dX11_init_42 gX11_init_X4_init (c_X4_init _ _ (H := Hz g2) (by rw [Hk_new, if_pos rfl]) (by rw [Hv_new, if_pos rfl]; rfl) (by rw [Hv_new, if_pos rfl]; rfl) (Hz_new _ _ _)) rfl (by decide +kernel) (by decide +kernel) (by decide +kernel) rfl (by decide +kernel) rfl rfl rfl ⟨Nat.le_of_ble_eq_true rfl, Nat.le_of_ble_eq_true rfl⟩ (fun h42 hp42 => ?_)
  obtain ⟨y3h, f3, z3⟩ := hp42
  have G3 : Fr (fun _ => False) g2 h42 := (Fr.new (S := fun _ => False)).then f3 (fun q hq e => by omega)
  refine V.wf (fun wA3 => ?_)
  refine V.putF X Y9 rfl fX11_init_33 (fun q hq => by cases hq; rfl) (nest_no (by decide +kernel)) dX11_init_45 (G3.k w2 k2) rfl rfl ?_
  have F3 : Fr (fun q => q = T) g2 (Hput h42 T 3 (.ref (Hz g2))) := (G3.mono (fun q _ e => e.elim)).thenPut (Or.inl rfl)
  have Q3 : Fr (fun q => q = T) h42 (Hput h42 T 3 (.ref (Hz g2))) := Fr.put (Or.inl rfl)
  have V3 : ∀ j, ¬ j = 3 → Hv (Hput h42 T 3 (.ref (Hz g2))) T j = Hv g2 T j := fun j hj => by rw [Hv_put_k _ _ _ _ hj, G3.v w2 k2 (fun z => z)]
  have U3 : Hv (Hput h42 T 3 (.ref (Hz g2))) T 3 = .ref (Hz g2) := Hv_put_at _ _ _ _
  have y3 : Hz (Hput h42 T 3 (.ref (Hz g2))) = T + 1207 := by rw [Hz_put, z3]; omega
  have k3 : Hk (Hput h42 T 3 (.ref (Hz g2))) T = some (.inl 13) := G3.k w2 k2
  generalize (Hput h42 T 3 (.ref (Hz g2))) = g3 at F3 Q3 V3 U3 y3 k3 ⊢
  refine V.wf (fun w3 => ?_)
  refine V.aload_n X dX11_init_48 rfl ?_
  refine V.new (ci := 12) X dX11_init_49 rfl (by decide +kernel) (by decide +kernel) (by decide +kernel) (by decide +kernel) tyX10 tyX10_ok rfl rfl ?_
  refine V.dup X dX11_init_52 rfl ?_
  refine V.callINv (n := 0) X dX11_init_53 (host := "ContractTester") gX11_init_X10_init_n39 (c_X10_init _ _) rfl (by decide +kernel) (by decide +kernel) (by decide +kernel) rfl (by decide +kernel) rfl rfl rfl ⟨Nat.le_of_ble_eq_true rfl, Nat.le_of_ble_eq_true rfl⟩ (fun h53 hp53 => ?_)
  have f4 : Fr (fun q => q = Hz g3) (Hnew g3 (.inl 12) (fun k => defaultValue (tyX10 k))) h53 := by rw [hp53]; exact Fr.rf
  have z4 : Hz h53 = Hz g3 + 1 := by rw [hp53]; rfl
  have s4 : StAt h53 (Hz g3) (nI 0, nI 0, nI 0) := by rw [hp53]; exact ⟨by rw [Hk_new, if_pos rfl], by rw [Hv_new, if_pos rfl]; rfl, by rw [Hv_new, if_pos rfl]; rfl, by rw [Hv_new, if_pos rfl]; rfl⟩
  clear hp53
  have G4 : Fr (fun _ => False) g3 h53 := (Fr.new (S := fun _ => False)).then f4 (fun q hq e => by omega)
  refine V.wf (fun wA4 => ?_)
  refine V.putF X Y9 rfl fX11_init_40 (fun q hq => by cases hq; rfl) (nest_no (by decide +kernel)) dX11_init_56 (G4.k w3 k3) rfl rfl ?_
  have F4 : Fr (fun q => q = T) g3 (Hput h53 T 4 (.ref (Hz g3))) := (G4.mono (fun q _ e => e.elim)).thenPut (Or.inl rfl)
  have Q4 : Fr (fun q => q = T) h53 (Hput h53 T 4 (.ref (Hz g3))) := Fr.put (Or.inl rfl)
  have V4 : ∀ j, ¬ j = 4 → Hv (Hput h53 T 4 (.ref (Hz g3))) T j = Hv g3 T j := fun j hj => by rw [Hv_put_k _ _ _ _ hj, G4.v w3 k3 (fun z => z)]
  have U4 : Hv (Hput h53 T 4 (.ref (Hz g3))) T 4 = .ref (Hz g3) := Hv_put_at _ _ _ _
  have y4 : Hz (Hput h53 T 4 (.ref (Hz g3))) = T + 1208 := by rw [Hz_put, z4]; omega
  have k4 : Hk (Hput h53 T 4 (.ref (Hz g3))) T = some (.inl 13) := G4.k w3 k3
  generalize (Hput h53 T 4 (.ref (Hz g3))) = g4 at F4 Q4 V4 U4 y4 k4 ⊢
  refine V.wf (fun w4 => ?_)
  refine V.aload_n X dX11_init_59 rfl ?_
  refine V.new (ci := 12) X dX11_init_60 rfl (by decide +kernel) (by decide +kernel) (by decide +kernel) (by decide +kernel) tyX10 tyX10_ok rfl rfl ?_
  refine V.dup X dX11_init_63 rfl ?_
  refine V.callINv (n := 0) X dX11_init_64 (host := "ContractTester") gX11_init_X10_init_n39 (c_X10_init _ _) rfl (by decide +kernel) (by decide +kernel) (by decide +kernel) rfl (by decide +kernel) rfl rfl rfl ⟨Nat.le_of_ble_eq_true rfl, Nat.le_of_ble_eq_true rfl⟩ (fun h64 hp64 => ?_)
  have f5 : Fr (fun q => q = Hz g4) (Hnew g4 (.inl 12) (fun k => defaultValue (tyX10 k))) h64 := by rw [hp64]; exact Fr.rf
  have z5 : Hz h64 = Hz g4 + 1 := by rw [hp64]; rfl
  have s5 : StAt h64 (Hz g4) (nI 0, nI 0, nI 0) := by rw [hp64]; exact ⟨by rw [Hk_new, if_pos rfl], by rw [Hv_new, if_pos rfl]; rfl, by rw [Hv_new, if_pos rfl]; rfl, by rw [Hv_new, if_pos rfl]; rfl⟩
  clear hp64
  have G5 : Fr (fun _ => False) g4 h64 := (Fr.new (S := fun _ => False)).then f5 (fun q hq e => by omega)
  refine V.wf (fun wA5 => ?_)
  refine V.putF X Y9 rfl fX11_init_44 (fun q hq => by cases hq; rfl) (nest_no (by decide +kernel)) dX11_init_67 (G5.k w4 k4) rfl rfl ?_
  have F5 : Fr (fun q => q = T) g4 (Hput h64 T 5 (.ref (Hz g4))) := (G5.mono (fun q _ e => e.elim)).thenPut (Or.inl rfl)
  have Q5 : Fr (fun q => q = T) h64 (Hput h64 T 5 (.ref (Hz g4))) := Fr.put (Or.inl rfl)
  have V5 : ∀ j, ¬ j = 5 → Hv (Hput h64 T 5 (.ref (Hz g4))) T j = Hv g4 T j := fun j hj => by rw [Hv_put_k _ _ _ _ hj, G5.v w4 k4 (fun z => z)]
  have U5 : Hv (Hput h64 T 5 (.ref (Hz g4))) T 5 = .ref (Hz g4) := Hv_put_at _ _ _ _
  have y5 : Hz (Hput h64 T 5 (.ref (Hz g4))) = T + 1209 := by rw [Hz_put, z5]; omega
  have k5 : Hk (Hput h64 T 5 (.ref (Hz g4))) T = some (.inl 13) := G5.k w4 k4
  generalize (Hput h64 T 5 (.ref (Hz g4))) = g5 at F5 Q5 V5 U5 y5 k5 ⊢
  refine V.wf (fun w5 => ?_)
  refine V.aload_n X dX11_init_70 rfl ?_
  refine V.new (ci := 11) X dX11_init_71 rfl (by decide +kernel) (by decide +kernel) (by decide +kernel) (by decide +kernel) tyX9 tyX9_ok rfl rfl ?_
  refine V.dup X dX11_init_74 rfl ?_
  refine V.callINv (n := 0) X dX11_init_75 (host := "ContractTester") gX11_init_X9_init_n49 (c_X9_init _ _ (a := Hz g5) (by rw [Hk_new, if_pos rfl]) (by rw [Hv_new, if_pos rfl]; rfl) (Hz_new _ _ _)) rfl (by decide +kernel) (by decide +kernel) (by decide +kernel) rfl (by decide +kernel) rfl rfl rfl ⟨Nat.le_of_ble_eq_true rfl, Nat.le_of_ble_eq_true rfl⟩ (fun h75 hp75 => ?_)
  obtain ⟨s6, f6, z6⟩ := hp75
  have G6 : Fr (fun _ => False) g5 h75 := (Fr.new (S := fun _ => False)).then f6 (fun q hq e => by omega)
  refine V.wf (fun wA6 => ?_)
  refine V.putF X Y9 rfl fX11_init_50 (fun q hq => by cases hq; rfl) (nest_no (by decide +kernel)) dX11_init_78 (G6.k w5 k5) rfl rfl ?_
  have F6 : Fr (fun q => q = T) g5 (Hput h75 T 6 (.ref (Hz g5))) := (G6.mono (fun q _ e => e.elim)).thenPut (Or.inl rfl)
  have Q6 : Fr (fun q => q = T) h75 (Hput h75 T 6 (.ref (Hz g5))) := Fr.put (Or.inl rfl)
  have V6 : ∀ j, ¬ j = 6 → Hv (Hput h75 T 6 (.ref (Hz g5))) T j = Hv g5 T j := fun j hj => by rw [Hv_put_k _ _ _ _ hj, G6.v w5 k5 (fun z => z)]
  have U6 : Hv (Hput h75 T 6 (.ref (Hz g5))) T 6 = .ref (Hz g5) := Hv_put_at _ _ _ _
  have y6 : Hz (Hput h75 T 6 (.ref (Hz g5))) = T + 1211 := by rw [Hz_put, z6]; omega
  have k6 : Hk (Hput h75 T 6 (.ref (Hz g5))) T = some (.inl 13) := G6.k w5 k5
  generalize (Hput h75 T 6 (.ref (Hz g5))) = g6 at F6 Q6 V6 U6 y6 k6 ⊢
  refine V.wf (fun w6 => ?_)
  refine V.aload_n X dX11_init_81 rfl ?_
  refine V.new (ci := 11) X dX11_init_82 rfl (by decide +kernel) (by decide +kernel) (by decide +kernel) (by decide +kernel) tyX9 tyX9_ok rfl rfl ?_
  refine V.dup X dX11_init_85 rfl ?_
  refine V.callINv (n := 0) X dX11_init_86 (host := "ContractTester") gX11_init_X9_init_n49 (c_X9_init _ _ (a := Hz g6) (by rw [Hk_new, if_pos rfl]) (by rw [Hv_new, if_pos rfl]; rfl) (Hz_new _ _ _)) rfl (by decide +kernel) (by decide +kernel) (by decide +kernel) rfl (by decide +kernel) rfl rfl rfl ⟨Nat.le_of_ble_eq_true rfl, Nat.le_of_ble_eq_true rfl⟩ (fun h86 hp86 => ?_)
  obtain ⟨s7, f7, z7⟩ := hp86
  have G7 : Fr (fun _ => False) g6 h86 := (Fr.new (S := fun _ => False)).then f7 (fun q hq e => by omega)
  refine V.wf (fun wA7 => ?_)
  refine V.putF X Y9 rfl fX11_init_54 (fun q hq => by cases hq; rfl) (nest_no (by decide +kernel)) dX11_init_89 (G7.k w6 k6) rfl rfl ?_
  have F7 : Fr (fun q => q = T) g6 (Hput h86 T 7 (.ref (Hz g6))) := (G7.mono (fun q _ e => e.elim)).thenPut (Or.inl rfl)
  have Q7 : Fr (fun q => q = T) h86 (Hput h86 T 7 (.ref (Hz g6))) := Fr.put (Or.inl rfl)
  have V7 : ∀ j, ¬ j = 7 → Hv (Hput h86 T 7 (.ref (Hz g6))) T j = Hv g6 T j := fun j hj => by rw [Hv_put_k _ _ _ _ hj, G7.v w6 k6 (fun z => z)]
  have U7 : Hv (Hput h86 T 7 (.ref (Hz g6))) T 7 = .ref (Hz g6) := Hv_put_at _ _ _ _
  have y7 : Hz (Hput h86 T 7 (.ref (Hz g6))) = T + 1213 := by rw [Hz_put, z7]; omega
  have k7 : Hk (Hput h86 T 7 (.ref (Hz g6))) T = some (.inl 13) := G7.k w6 k6
  generalize (Hput h86 T 7 (.ref (Hz g6))) = g7 at F7 Q7 V7 U7 y7 k7 ⊢
  refine V.wf (fun w7 => ?_)
  have R6 := F7
  have R5 := F6.tr R6
  have R4 := F5.tr R5
  have R3 := F4.tr R4
  have R2 := F3.tr R3
  have R1 := F2.tr R2
  have R0 := F1.tr R1
  have n0 := Q0.tr R0
  have n1q := Q1.tr R1
  have n2 := Q2.tr R2
  have n3 := Q3.tr R3
  have n4 := Q4.tr R4
  have n5 := Q5.tr R5
  have n6 := Q6.tr R6
  have B0 : SbAt g7 (T + 1) (T + 2) [] := by
    rw [hz] at s0
    exact s0.kept wA0 n0 (by omega) (by omega)
  rw [y0] at m1 n1 l1
  rw [y1] at x2 o2
  have c2 : CpAt (fun q => T + 8 + 1 ≤ q ∧ q ≤ T + 8 + 4) (cxG Γ) h31 (T + 8 + 1) cmp0 := by
    rw [y1] at c2
    exact c2
  rw [y2] at y3h
  rw [y3] at s4
  rw [y4] at s5
  rw [y5] at s6
  rw [y6] at s7
  have l1k := l1.kept wA1 n1q (fun q e z => by unfold lexS at z; omega)
  have X2 : XcAt (CtP T (T + 2)) (cxG Γ) g7 (T + 8) cmp0 x0 := by
    have X2a : XcAt (fun q => T + 8 + 1 ≤ q ∧ q ≤ T + 8 + 4) (cxG Γ) h31 (T + 8) cmp0 x0 := ⟨⟨_, x2⟩, _, o2, c2⟩
    refine (X2a.kept wA2 n2 (fun q e z => by have := XS_rng z; omega) (fun q z e => by omega)).mono (fun q t z _ e => ?_)
    unfold CtW at e
    rcases e with e | e | e | e | e | e
    · omega
    · unfold XS at e; omega
    · have := HsS_rng e; omega
    · omega
    · unfold ZS at e; omega
    · omega
  have Y3 : HsAt (CtP T (T + 2)) (cxG Γ) g7 (T + 179) 0 0 (fun _ => (cmp0, x0)) := by
    refine (y3h.kept wA3 n3 (fun q e => by omega) (fun q z e => by obtain ⟨i, z1, z2, z3⟩ := z; omega)).mono (fun q t z _ e => ?_)
    obtain ⟨i, z1, z2, z3⟩ := z
    unfold CtW at e
    rcases e with e | e | e | e | e | e
    · omega
    · have := XS_rng e; omega
    · rcases e with e | ⟨i2, e1, e2⟩
      · omega
      · unfold XS at e2; omega
    · omega
    · unfold ZS at e; omega
    · omega
  have E0 : Hv g7 T 0 = .ref (T + 1) := (by rw [V7 _ (by decide), V6 _ (by decide), V5 _ (by decide), V4 _ (by decide), V3 _ (by decide), V2 _ (by decide), V1 _ (by decide), U0, hz])
  have E1 : Hv g7 T 1 = .ref (T + 3) := (by rw [V7 _ (by decide), V6 _ (by decide), V5 _ (by decide), V4 _ (by decide), V3 _ (by decide), V2 _ (by decide), U1, y0])
  have E2 : Hv g7 T 2 = .ref (T + 8) := (by rw [V7 _ (by decide), V6 _ (by decide), V5 _ (by decide), V4 _ (by decide), V3 _ (by decide), U2, y1])
  have E3 : Hv g7 T 3 = .ref (T + 179) := (by rw [V7 _ (by decide), V6 _ (by decide), V5 _ (by decide), V4 _ (by decide), U3, y2])
  have E4 : Hv g7 T 4 = .ref (T + 1207) := (by rw [V7 _ (by decide), V6 _ (by decide), V5 _ (by decide), U4, y3])
  have E5 : Hv g7 T 5 = .ref (T + 1208) := (by rw [V7 _ (by decide), V6 _ (by decide), U5, y4])
  have E6 : Hv g7 T 6 = .ref (T + 1209) := (by rw [V7 _ (by decide), U6, y5])
  have E7 : Hv g7 T 7 = .ref (T + 1211) := (by rw [U7, y6])
  have CC : CtAt (cxG Γ) g7 T (T + 2) [] cmp0 x0 0 0 (fun _ => (cmp0, x0)) := ⟨⟨k7, E0, E1, E2, E3⟩, ⟨k7, E4, E5, E6, E7⟩, ⟨B0, Nat.zero_le _, Or.inl rfl⟩, ⟨n1q.k wA1 m1, by rw [n1q.v wA1 m1 (by omega)]; exact n1, _, _, _, l1k⟩, X2, Y3, [], [], ⟨_, s4.kept wA4 n4 (by omega)⟩, ⟨_, s5.kept wA5 n5 (by omega)⟩, s6.kept wA6 n6 (by omega) (by omega), s7.kept wA7 Q7 (by omega) (by omega)⟩
  exact V.vret X Y9 dX11_init_92 ⟨rfl, CC, F0.tr R0, y7⟩ (Nat.le_of_ble_eq_true rfl) (Nat.le_of_ble_eq_true rfl)
