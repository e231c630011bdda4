theorem Hm_self {h : Hp} {M : Nat} {m : Md} (hv : ∀ a k, a < 9 → mvl a k = true → Hv h (M + a) k = .int (m a k)) : Hm h M m = h := by
  have e : (fun b k => if M ≤ b ∧ b < M + 9 ∧ mvl (b - M) k = true then Value.int (m (b - M) k) else h.2.2 b k) = h.2.2 := by
    funext b k
    by_cases c : M ≤ b ∧ b < M + 9 ∧ mvl (b - M) k = true
    · rw [if_pos c]
      have := hv (b - M) k (by omega) c.2.2
      rw [show M + (b - M) = b by omega] at this
      exact this.symm
    · rw [if_neg c]
  show (h.1, h.2.1, _) = h
  rw [e]
  rfl
theorem Hm_hm {h : Hp} {M : Nat} {m m2 : Md} : Hm (Hm h M m) M m2 = Hm h M m2 := by
  have e : (fun b k => if M ≤ b ∧ b < M + 9 ∧ mvl (b - M) k = true then Value.int (m2 (b - M) k) else if M ≤ b ∧ b < M + 9 ∧ mvl (b - M) k = true then Value.int (m (b - M) k) else h.2.2 b k) = fun b k => if M ≤ b ∧ b < M + 9 ∧ mvl (b - M) k = true then Value.int (m2 (b - M) k) else h.2.2 b k := by
    funext b k
    by_cases c : M ≤ b ∧ b < M + 9 ∧ mvl (b - M) k = true
    · rw [if_pos c, if_pos c]
    · rw [if_neg c, if_neg c, if_neg c]
  show (h.1, h.2.1, _) = (h.1, h.2.1, _)
  exact congrArg (fun f => (h.1, h.2.1, f)) e
theorem MdK.hm {h : Hp} {M : Nat} {m : Md} (K : MdK h M) : MdK (Hm h M m) M := ⟨K.1, fun _ hq => Hm_r K hq, K.2.2⟩
theorem Hm_fr {h : Hp} {M : Nat} {m m2 : Md} : Fr (fun q => M ≤ q ∧ q < M + 9) (Hm h M m) (Hm h M m2) := by
  refine ⟨Nat.le_refl _, fun _ _ => rfl, fun a _ ha k => ?_⟩
  show (if M ≤ a ∧ a < M + 9 ∧ mvl (a - M) k = true then Value.int (m2 (a - M) k) else h.2.2 a k) = (if M ≤ a ∧ a < M + 9 ∧ mvl (a - M) k = true then Value.int (m (a - M) k) else h.2.2 a k)
  rw [if_neg (fun z => ha ⟨z.1, z.2.1⟩), if_neg (fun z => ha ⟨z.1, z.2.1⟩)]
/-- the reference stands at M and holds m -/
def MdAt (h : Hp) (M : Nat) (m : Md) : Prop := MdK h M ∧ Hm h M m = h
theorem MdAt.of {h : Hp} {M : Nat} {m m2 : Md} (q : MdAt h M m) : MdAt (Hm h M m2) M m2 := ⟨q.1.hm, Hm_hm⟩
theorem MdAt.kept {S : Nat → Prop} {h h1 : Hp} {M : Nat} {m : Md} (q : MdAt h M m) (w : WF h) (f : Fr S h h1) (n : ∀ a, M ≤ a → a < M + 9 → ¬ S a) : MdAt h1 M m := by
  obtain ⟨⟨k0, r0, a0⟩, e⟩ := q
  have kn : ∀ a, a < 9 → ∃ t, Hk h (M + a) = some t := fun a ha => by
    rcases Nat.eq_zero_or_pos a with z | z
    · subst z; exact ⟨_, k0⟩
    · exact ⟨_, a0 a z ha⟩
  refine ⟨⟨f.k w k0, fun q hq => ?_, fun a h1 h2 => f.k w (a0 a h1 h2)⟩, Hm_self (fun a k ha hk => ?_)⟩
  · rw [f.v w k0 (n M (Nat.le_refl _) (by omega))]
    exact r0 q hq
  · obtain ⟨t, ht⟩ := kn a ha
    rw [f.v w ht (n _ (by omega) (by omega)), ← e]
    exact Hm_v ha hk
theorem stepA {h : Hp} {M k N a : Nat} (w : WF h) (kM : Hk h M = some (.inl 14)) (hz : Hz h = M + a) (ha : 1 ≤ a) : Hk (Hput (Hnew h (.inr (0, N)) (fun _ => .int 0)) M k (.ref (Hz h))) M = some (.inl 14) ∧ Hz (Hput (Hnew h (.inr (0, N)) (fun _ => .int 0)) M k (.ref (Hz h))) = M + (a + 1) ∧ Hk (Hput (Hnew h (.inr (0, N)) (fun _ => .int 0)) M k (.ref (Hz h))) (M + a) = some (.inr (0, N)) ∧ (∀ j, Hv (Hput (Hnew h (.inr (0, N)) (fun _ => .int 0)) M k (.ref (Hz h))) (M + a) j = .int 0) ∧ Hv (Hput (Hnew h (.inr (0, N)) (fun _ => .int 0)) M k (.ref (Hz h))) M k = .ref (M + a) ∧ (∀ j, ¬ j = k → Hv (Hput (Hnew h (.inr (0, N)) (fun _ => .int 0)) M k (.ref (Hz h))) M j = Hv h M j) ∧ Fr (fun q => q = M) h (Hput (Hnew h (.inr (0, N)) (fun _ => .int 0)) M k (.ref (Hz h))) := by
  refine ⟨by rw [Hk_put, Hk_new, if_neg (by omega)]; exact kM, by rw [Hz_put, Hz_new, hz]; rfl, by rw [Hk_put, Hk_new, if_pos hz.symm], fun j => ?_, by rw [Hv_put_at, hz], fun j hj => ?_, (Fr.rf.thenNew).thenPut (Or.inl rfl)⟩
  · rw [Hv_put_a _ _ _ _ (by omega), Hv_new, if_pos hz.symm]
  · rw [Hv_put_k _ _ _ _ hj, Hv_new, if_neg (by omega)]
theorem rst_0 : rst cmp0 x0 = x0 := by
  have e1 : fup (xss x0) 0 cmp0.1 = xss x0 := by
    funext j
    unfold fup
    split <;> rfl
  have e2 : fup (xpr x0) 0 0 = xpr x0 := by
    funext j
    unfold fup
    split <;> rfl
  unfold rst
  rw [e1, e2]
  rfl
theorem MSt_0 (ps : Nat → Cmp × Xr) : MSt (bareM (mput (fun _ _ => 0) 1 272 (nI 5))) [] cmp0 x0 0 ps := by
  have z : ∀ x, x < 272 → bareM (mput (fun _ _ => 0) 1 272 (nI 5)) 1 x = nI 0 := fun x hx => (bareM_o (Or.inr (by omega))).trans ((mput_k (by omega)).trans (by decide))
  have hX : XmR (bareM (mput (fun _ _ => 0) 1 272 (nI 5)) 1) (rst cmp0 x0) := XmR.bare mput_at rfl
  rw [rst_0] at hX
  refine ⟨TxM.nil ((bareM_o (Or.inl (by decide))).trans ((mput_a (by decide)).trans (by decide))), ⟨⟨z 0 (by decide), z 1 (by decide), z 2 (by decide)⟩, z 3 (by decide), z 4 (by decide), fun i x hx => by simp [cmp0] at hx, fun j q hq => by simp [cmp0] at hq⟩, hX, ?_, (bareM_o (Or.inl (by decide))).trans ((mput_a (by decide)).trans (by decide)), by decide, fun j hj => absurd hj (Nat.not_lt_zero j)⟩
  refine ⟨⟨⟨by decide, by decide⟩, ⟨by decide, by decide⟩, by decide, rfl, fun i hi => Nat.zero_le _⟩, ⟨by decide, by decide, fun x hx => by simp [cmp0] at hx, fun x hx => by simp [cmp0] at hx⟩, fun i hi => ⟨by show 0 ≤ 8; decide, rfl, fun x hx => by cases hx⟩, fun j hj => absurd (show j < 0 from hj) (Nat.not_lt_zero j)⟩
theorem fX12_init_7 : FL wsX12_init RX12 7 14 0 (.array .int) true := ⟨_, rfl, by decide, Or.inl ⟨"ContractTesterModel", by decide +kernel, Or.inl rfl⟩, by decide +kernel, by decide +kernel, rfl⟩
theorem fX12_init_13 : FL wsX12_init RX12 13 14 1 (.array .int) true := ⟨_, rfl, by decide, Or.inl ⟨"ContractTesterModel", by decide +kernel, Or.inl rfl⟩, by decide +kernel, by decide +kernel, rfl⟩
theorem fX12_init_16 : FL wsX12_init RX12 16 14 2 (.array .int) true := ⟨_, rfl, by decide, Or.inl ⟨"ContractTesterModel", by decide +kernel, Or.inl rfl⟩, by decide +kernel, by decide +kernel, rfl⟩
theorem fX12_init_19 : FL wsX12_init RX12 19 14 4 (.array .int) true := ⟨_, rfl, by decide, Or.inl ⟨"ContractTesterModel", by decide +kernel, Or.inl rfl⟩, by decide +kernel, by decide +kernel, rfl⟩
theorem fX12_init_22 : FL wsX12_init RX12 22 14 11 (.array .int) true := ⟨_, rfl, by decide, Or.inl ⟨"ContractTesterModel", by decide +kernel, Or.inl rfl⟩, by decide +kernel, by decide +kernel, rfl⟩
theorem fX12_init_25 : FL wsX12_init RX12 25 14 12 (.array .int) true := ⟨_, rfl, by decide, Or.inl ⟨"ContractTesterModel", by decide +kernel, Or.inl rfl⟩, by decide +kernel, by decide +kernel, rfl⟩
theorem fX12_init_28 : FL wsX12_init RX12 28 14 13 (.array .int) true := ⟨_, rfl, by decide, Or.inl ⟨"ContractTesterModel", by decide +kernel, Or.inl rfl⟩, by decide +kernel, by decide +kernel, rfl⟩
theorem fX12_init_31 : FL wsX12_init RX12 31 14 14 (.array .int) true := ⟨_, rfl, by decide, Or.inl ⟨"ContractTesterModel", by decide +kernel, Or.inl rfl⟩, by decide +kernel, by decide +kernel, rfl⟩
set_option maxHeartbeats 4000000 in
set_option maxRecDepth 100000 in
theorem c_X12_init (l : Launch) (G : GG) {h : Hp} {M : Nat} (ps : Nat → Cmp × Xr) (kM : Hk h M = some (.inl 14)) (kd : ∀ k, mfi k = true → Hv h M k = .int 0) (hz : Hz h = M + 1) : Con l G yX12_init wsX12_init 1 40 8 9014 [.ref M] h (pV (fun h2 => ∃ m, MdAt h2 M m ∧ MSt m [] cmp0 x0 0 ps ∧ Fr (fun q => q = M) h h2 ∧ Hz h2 = M + 9)) := by
  refine Con.of (cc := cX12_init) (nL := 1) (ret := none) (by decide) rfl rfl rfl rfl (fun Γ hG hl X Y9 => ?_)
  subst hG
  subst hl
  refine V.wf (fun w => ?_)
  have tail : ∀ (h8 : Hp), MdK h8 M → Hz h8 = M + 9 → (∀ m, Fr (fun q => q = M) h (Hm h8 M m)) → V Γ 8 9014 69 [(0, .ref M)] [] (Hm h8 M (fun _ _ => 0)) := by
    intro h8 K hz8 FF
    refine V.aload_n X dX12_init_69 rfl ?_
    refine V.mgr (k := 0) (a := 1) X K fX12_init_7 dX12_init_70 (by decide) ?_
    refine V.sipush (v := nI 272) X dX12_init_73 (by decide) ?_
    refine V.iconst (v := nI 5) X dX12_init_76 (by decide) ?_
    refine V.mst X K 1 1178  dX12_init_77 rfl rfl (by omega) ?_
    refine V.aload_n X dX12_init_78 rfl ?_
    refine V.callVv (n := 0) X dX12_init_79 gX12_init_X12_bare (c_X12_bare _ _ K) rfl (by decide +kernel) rfl rfl rfl K.1 rfl rfl ⟨Nat.le_of_ble_eq_true rfl, Nat.le_of_ble_eq_true rfl⟩ (fun h79 hp79 => ?_)
    obtain rfl := hp79.symm
    exact V.vret X Y9 dX12_init_82 ⟨rfl, _, ⟨K.hm, Hm_hm⟩, MSt_0 ps, FF _, hz8⟩ (Nat.le_refl _) (Nat.le_refl _)
  refine V.aload_n X dX12_init_0 rfl ?_
  refine V.objInit X dX12_init_1 (by decide +kernel) (by decide +kernel) (by decide +kernel) rfl ?_
  refine V.aload_n X dX12_init_4 rfl ?_
  refine V.sipush (v := nI 1178) X dX12_init_5 (by decide) ?_
  refine V.newI (N := 1178) X dX12_init_8 (by decide +kernel) rfl rfl rfl rfl ?_
  refine V.putF X Y9 rfl fX12_init_7 (fun q hq => by cases hq; rfl) (nest_no (by decide +kernel)) dX12_init_10 (by rw [Hk_new, if_neg (by omega)]; exact kM) rfl rfl ?_
  obtain ⟨k1, z1, q1, c1, u1, v1, F1⟩ := stepA (k := 0) (N := 1178) w kM hz (by decide)
  generalize (Hput (Hnew h (.inr (0, 1178)) (fun _ => .int 0)) M 0 (.ref (Hz h))) = g1 at k1 z1 q1 c1 u1 v1 F1 ⊢
  refine V.wf (fun w1 => ?_)
  refine V.aload_n X dX12_init_13 rfl ?_
  refine V.sipush (v := nI 272) X dX12_init_14 (by decide) ?_
  refine V.newI (N := 272) X dX12_init_17 (by decide +kernel) rfl rfl rfl rfl ?_
  refine V.putF X Y9 rfl fX12_init_13 (fun q hq => by cases hq; rfl) (nest_no (by decide +kernel)) dX12_init_19 (by rw [Hk_new, if_neg (by omega)]; exact k1) rfl rfl ?_
  obtain ⟨k2, z2, q2, c2, u2, v2, F2⟩ := stepA (k := 1) (N := 272) w1 k1 z1 (by decide)
  generalize (Hput (Hnew g1 (.inr (0, 272)) (fun _ => .int 0)) M 1 (.ref (Hz g1))) = g2 at k2 z2 q2 c2 u2 v2 F2 ⊢
  refine V.wf (fun w2 => ?_)
  refine V.aload_n X dX12_init_22 rfl ?_
  refine V.sipush (v := nI 7068) X dX12_init_23 (by decide) ?_
  refine V.newI (N := 7068) X dX12_init_26 (by decide +kernel) rfl rfl rfl rfl ?_
  refine V.putF X Y9 rfl fX12_init_16 (fun q hq => by cases hq; rfl) (nest_no (by decide +kernel)) dX12_init_28 (by rw [Hk_new, if_neg (by omega)]; exact k2) rfl rfl ?_
  obtain ⟨k3, z3, q3, c3, u3, v3, F3⟩ := stepA (k := 2) (N := 7068) w2 k2 z2 (by decide)
  generalize (Hput (Hnew g2 (.inr (0, 7068)) (fun _ => .int 0)) M 2 (.ref (Hz g2))) = g3 at k3 z3 q3 c3 u3 v3 F3 ⊢
  refine V.wf (fun w3 => ?_)
  refine V.aload_n X dX12_init_31 rfl ?_
  refine V.sipush (v := nI 200) X dX12_init_32 (by decide) ?_
  refine V.newI (N := 200) X dX12_init_35 (by decide +kernel) rfl rfl rfl rfl ?_
  refine V.putF X Y9 rfl fX12_init_19 (fun q hq => by cases hq; rfl) (nest_no (by decide +kernel)) dX12_init_37 (by rw [Hk_new, if_neg (by omega)]; exact k3) rfl rfl ?_
  obtain ⟨k4, z4, q4, c4, u4, v4, F4⟩ := stepA (k := 4) (N := 200) w3 k3 z3 (by decide)
  generalize (Hput (Hnew g3 (.inr (0, 200)) (fun _ => .int 0)) M 4 (.ref (Hz g3))) = g4 at k4 z4 q4 c4 u4 v4 F4 ⊢
  refine V.wf (fun w4 => ?_)
  refine V.aload_n X dX12_init_40 rfl ?_
  refine V.iconst (v := nI 3) X dX12_init_41 (by decide) ?_
  refine V.newI (N := 3) X dX12_init_42 (by decide +kernel) rfl rfl rfl rfl ?_
  refine V.putF X Y9 rfl fX12_init_22 (fun q hq => by cases hq; rfl) (nest_no (by decide +kernel)) dX12_init_44 (by rw [Hk_new, if_neg (by omega)]; exact k4) rfl rfl ?_
  obtain ⟨k5, z5, q5, c5, u5, v5, F5⟩ := stepA (k := 11) (N := 3) w4 k4 z4 (by decide)
  generalize (Hput (Hnew g4 (.inr (0, 3)) (fun _ => .int 0)) M 11 (.ref (Hz g4))) = g5 at k5 z5 q5 c5 u5 v5 F5 ⊢
  refine V.wf (fun w5 => ?_)
  refine V.aload_n X dX12_init_47 rfl ?_
  refine V.iconst (v := nI 3) X dX12_init_48 (by decide) ?_
  refine V.newI (N := 3) X dX12_init_49 (by decide +kernel) rfl rfl rfl rfl ?_
  refine V.putF X Y9 rfl fX12_init_25 (fun q hq => by cases hq; rfl) (nest_no (by decide +kernel)) dX12_init_51 (by rw [Hk_new, if_neg (by omega)]; exact k5) rfl rfl ?_
  obtain ⟨k6, z6, q6, c6, u6, v6, F6⟩ := stepA (k := 12) (N := 3) w5 k5 z5 (by decide)
  generalize (Hput (Hnew g5 (.inr (0, 3)) (fun _ => .int 0)) M 12 (.ref (Hz g5))) = g6 at k6 z6 q6 c6 u6 v6 F6 ⊢
  refine V.wf (fun w6 => ?_)
  refine V.aload_n X dX12_init_54 rfl ?_
  refine V.iconst (v := nI 3) X dX12_init_55 (by decide) ?_
  refine V.newI (N := 3) X dX12_init_56 (by decide +kernel) rfl rfl rfl rfl ?_
  refine V.putF X Y9 rfl fX12_init_28 (fun q hq => by cases hq; rfl) (nest_no (by decide +kernel)) dX12_init_58 (by rw [Hk_new, if_neg (by omega)]; exact k6) rfl rfl ?_
  obtain ⟨k7, z7, q7, c7, u7, v7, F7⟩ := stepA (k := 13) (N := 3) w6 k6 z6 (by decide)
  generalize (Hput (Hnew g6 (.inr (0, 3)) (fun _ => .int 0)) M 13 (.ref (Hz g6))) = g7 at k7 z7 q7 c7 u7 v7 F7 ⊢
  refine V.wf (fun w7 => ?_)
  refine V.aload_n X dX12_init_61 rfl ?_
  refine V.bipush (v := nI 9) X dX12_init_62 (by decide) ?_
  refine V.newI (N := 9) X dX12_init_64 (by decide +kernel) rfl rfl rfl rfl ?_
  refine V.putF X Y9 rfl fX12_init_31 (fun q hq => by cases hq; rfl) (nest_no (by decide +kernel)) dX12_init_66 (by rw [Hk_new, if_neg (by omega)]; exact k7) rfl rfl ?_
  obtain ⟨k8, z8, q8, c8, u8, v8, F8⟩ := stepA (k := 14) (N := 9) w7 k7 z7 (by decide)
  generalize (Hput (Hnew g7 (.inr (0, 9)) (fun _ => .int 0)) M 14 (.ref (Hz g7))) = g8 at k8 z8 q8 c8 u8 v8 F8 ⊢
  refine V.wf (fun w8 => ?_)
  have R7 := F8
  have R6 := F7.tr R7
  have R5 := F6.tr R6
  have R4 := F5.tr R5
  have R3 := F4.tr R4
  have R2 := F3.tr R3
  have R1 := F2.tr R2
  have R0 := F1.tr R1
  have e1 : Hv g8 M 0 = .ref (M + 1) := by rw [v8 _ (by decide), v7 _ (by decide), v6 _ (by decide), v5 _ (by decide), v4 _ (by decide), v3 _ (by decide), v2 _ (by decide), u1]
  have e2 : Hv g8 M 1 = .ref (M + 2) := by rw [v8 _ (by decide), v7 _ (by decide), v6 _ (by decide), v5 _ (by decide), v4 _ (by decide), v3 _ (by decide), u2]
  have e3 : Hv g8 M 2 = .ref (M + 3) := by rw [v8 _ (by decide), v7 _ (by decide), v6 _ (by decide), v5 _ (by decide), v4 _ (by decide), u3]
  have e4 : Hv g8 M 4 = .ref (M + 4) := by rw [v8 _ (by decide), v7 _ (by decide), v6 _ (by decide), v5 _ (by decide), u4]
  have e5 : Hv g8 M 11 = .ref (M + 5) := by rw [v8 _ (by decide), v7 _ (by decide), v6 _ (by decide), u5]
  have e6 : Hv g8 M 12 = .ref (M + 6) := by rw [v8 _ (by decide), v7 _ (by decide), u6]
  have e7 : Hv g8 M 13 = .ref (M + 7) := by rw [v8 _ (by decide), u7]
  have e8 : Hv g8 M 14 = .ref (M + 8) := by rw [u8]
  have a1 : Hk g8 (M + 1) = some (.inr (0, 1178)) := R1.k w1 q1
  have a2 : Hk g8 (M + 2) = some (.inr (0, 272)) := R2.k w2 q2
  have a3 : Hk g8 (M + 3) = some (.inr (0, 7068)) := R3.k w3 q3
  have a4 : Hk g8 (M + 4) = some (.inr (0, 200)) := R4.k w4 q4
  have a5 : Hk g8 (M + 5) = some (.inr (0, 3)) := R5.k w5 q5
  have a6 : Hk g8 (M + 6) = some (.inr (0, 3)) := R6.k w6 q6
  have a7 : Hk g8 (M + 7) = some (.inr (0, 3)) := R7.k w7 q7
  have a8 : Hk g8 (M + 8) = some (.inr (0, 9)) := q8
  have b1 : ∀ j, Hv g8 (M + 1) j = .int 0 := fun j => by rw [R1.v w1 q1 (by omega)]; exact c1 j
  have b2 : ∀ j, Hv g8 (M + 2) j = .int 0 := fun j => by rw [R2.v w2 q2 (by omega)]; exact c2 j
  have b3 : ∀ j, Hv g8 (M + 3) j = .int 0 := fun j => by rw [R3.v w3 q3 (by omega)]; exact c3 j
  have b4 : ∀ j, Hv g8 (M + 4) j = .int 0 := fun j => by rw [R4.v w4 q4 (by omega)]; exact c4 j
  have b5 : ∀ j, Hv g8 (M + 5) j = .int 0 := fun j => by rw [R5.v w5 q5 (by omega)]; exact c5 j
  have b6 : ∀ j, Hv g8 (M + 6) j = .int 0 := fun j => by rw [R6.v w6 q6 (by omega)]; exact c6 j
  have b7 : ∀ j, Hv g8 (M + 7) j = .int 0 := fun j => by rw [R7.v w7 q7 (by omega)]; exact c7 j
  have b8 : ∀ j, Hv g8 (M + 8) j = .int 0 := c8
  have KK : MdK g8 M := by
    refine ⟨k8, fun q hq => ?_, fun a h1 h2 => ?_⟩
    · simp only [mrl, List.mem_cons, List.not_mem_nil, or_false] at hq
      rcases hq with rfl | rfl | rfl | rfl | rfl | rfl | rfl | rfl
      · exact e1
      · exact e2
      · exact e3
      · exact e4
      · exact e5
      · exact e6
      · exact e7
      · exact e8
    · rcases (show a = 1 ∨ a = 2 ∨ a = 3 ∨ a = 4 ∨ a = 5 ∨ a = 6 ∨ a = 7 ∨ a = 8 by omega) with rfl | rfl | rfl | rfl | rfl | rfl | rfl | rfl
      · exact a1
      · exact a2
      · exact a3
      · exact a4
      · exact a5
      · exact a6
      · exact a7
      · exact a8
  have SF : Hm g8 M (fun _ _ => 0) = g8 := by
    refine Hm_self (fun a k ha hk => ?_)
    rcases (show a = 0 ∨ a = 1 ∨ a = 2 ∨ a = 3 ∨ a = 4 ∨ a = 5 ∨ a = 6 ∨ a = 7 ∨ a = 8 by omega) with rfl | rfl | rfl | rfl | rfl | rfl | rfl | rfl | rfl
    · have hk : mfi k = true := hk
      show Hv g8 M k = _
      rw [v8 _ (fun e => by rw [e] at hk; cases hk), v7 _ (fun e => by rw [e] at hk; cases hk), v6 _ (fun e => by rw [e] at hk; cases hk), v5 _ (fun e => by rw [e] at hk; cases hk), v4 _ (fun e => by rw [e] at hk; cases hk), v3 _ (fun e => by rw [e] at hk; cases hk), v2 _ (fun e => by rw [e] at hk; cases hk), v1 _ (fun e => by rw [e] at hk; cases hk)]
      exact kd k hk
    · exact b1 k
    · exact b2 k
    · exact b3 k
    · exact b4 k
    · exact b5 k
    · exact b6 k
    · exact b7 k
    · exact b8 k
  have FF : ∀ m, Fr (fun q => q = M) h (Hm g8 M m) := fun m => by
    refine ⟨R0.1, R0.2.1, fun a ha hne k => ?_⟩
    rw [← R0.2.2 a ha hne k]
    exact if_neg (fun z => hne (by omega))
  have l9 := tail g8 KK z8 FF
  rw [SF] at l9
  refine V.widen 8 9014 (by decide) (by decide) ?_
  exact l9
