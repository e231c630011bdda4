theorem fJ5_length_8abf5_79 : FL wsJ5_length_8abf5 RJ5 79 0 3 .int false := ⟨_, rfl, by decide, Or.inl ⟨"java/lang/AbstractStringBuilder", by decide +kernel, Or.inl rfl⟩, by decide +kernel, by decide +kernel, rfl⟩
set_option maxHeartbeats 4000000 in
set_option maxRecDepth 100000 in
theorem c_J5_length_8abf5 (l : Launch) (G : GG) {h : Hp} {a : Nat} {t : List Nat} {d : Nat} (hA : SbAt h a d t) : Con l G yJ5_length_8abf5 wsJ5_length_8abf5 0 0 0 0 [.ref a] h (pI (fun r h2 => r = nI t.length ∧ h2 = h)) := by
  refine Con.of (cc := cJ5_length_8abf5) (nL := 1) (ret := (some .int)) (by decide) rfl rfl rfl rfl (fun Γ hG hl X Y9 => ?_)
  subst hG
  subst hl
  obtain ⟨N, k0, k1, k2, k3, k4⟩ := hA
  refine V.aload_n X dJ5_length_8abf5_0 rfl ?_
  refine V.getf  X fJ5_length_8abf5_79 dJ5_length_8abf5_1 (by assumption) (by assumption) ?_
  exact V.iret X Y9 dJ5_length_8abf5_4 ⟨rfl, rfl⟩ (Nat.le_of_ble_eq_true rfl) (Nat.le_of_ble_eq_true rfl)
set_option maxHeartbeats 4000000 in
set_option maxRecDepth 100000 in
theorem c_J4_length_8abf5 (l : Launch) (G : GG) {h : Hp} {a : Nat} {t : List Nat} {d : Nat} (hA : SbAt h a d t) : Con l G yJ4_length_8abf5 wsJ4_length_8abf5 1 20 0 0 [.ref a] h (pI (fun r h2 => r = nI t.length ∧ h2 = h)) := by
  refine Con.of (cc := cJ4_length_8abf5) (nL := 1) (ret := (some .int)) (by decide) rfl rfl rfl rfl (fun Γ hG hl X Y9 => ?_)
  subst hG
  subst hl
  refine V.aload_n X dJ4_length_8abf5_0 rfl ?_
  refine V.callSUi (n := 0) X dJ4_length_8abf5_1 gJ4_length_8abf5_J5_length_8abf5_s343 (c_J5_length_8abf5 _ _ hA) rfl (by decide +kernel) rfl rfl rfl hA.ob rfl ⟨Nat.le_of_ble_eq_true rfl, Nat.le_of_ble_eq_true rfl⟩ (fun r1 h1 hp1 => ?_)
  obtain ⟨rfl, e9⟩ := hp1; obtain rfl := e9.symm
  exact V.iret X Y9 dJ4_length_8abf5_4 ⟨rfl, rfl⟩ (Nat.le_of_ble_eq_true rfl) (Nat.le_of_ble_eq_true rfl)
set_option maxHeartbeats 4000000 in
set_option maxRecDepth 100000 in
theorem c_J3_checkIndex_n (l : Launch) (G : GG) {h : Hp} {i n : Nat} (hi : i < n) (hn : n < 2 ^ 31) : Con l G yJ3_checkIndex_8e157 wsJ3_checkIndex_8e157 0 0 0 0 [.int (nI i), .int (nI n), .null] h (pI (fun r h2 => r = nI i ∧ h2 = h)) := by
  refine Con.of (cc := cJ3_checkIndex_8e157) (nL := 3) (ret := (some .int)) (by decide) rfl rfl rfl rfl (fun Γ hG hl X Y9 => ?_)
  subst hG
  subst hl
  refine V.iload_n X dJ3_checkIndex_8e157_0 rfl ?_
  refine V.if_lt 9 X dJ3_checkIndex_8e157_1 (by decide) (fun c1 => absurd c1 (nI_pos (by omega))) (fun c1 => ?_)
  refine V.iload_n X dJ3_checkIndex_8e157_4 rfl ?_
  refine V.iload_n X dJ3_checkIndex_8e157_5 rfl ?_
  refine V.icmp_lt 16 X dJ3_checkIndex_8e157_6 (by decide) (fun c6 => ?_) (fun c6 => absurd (nI_lt hi hn) c6)
  refine V.iload_n X dJ3_checkIndex_8e157_16 rfl ?_
  exact V.iret X Y9 dJ3_checkIndex_8e157_17 ⟨rfl, rfl⟩ (Nat.le_of_ble_eq_true rfl) (Nat.le_of_ble_eq_true rfl)
set_option maxHeartbeats 4000000 in
set_option maxRecDepth 100000 in
theorem c_J3_checkIndex_r (l : Launch) (G : GG) {h : Hp} {i n : Nat} {t : Nat} (hi : i < n) (hn : n < 2 ^ 31) : Con l G yJ3_checkIndex_8e157 wsJ3_checkIndex_8e157 0 0 0 0 [.int (nI i), .int (nI n), (.ref t)] h (pI (fun r h2 => r = nI i ∧ h2 = h)) := by
  refine Con.of (cc := cJ3_checkIndex_8e157) (nL := 3) (ret := (some .int)) (by decide) rfl rfl rfl rfl (fun Γ hG hl X Y9 => ?_)
  subst hG
  subst hl
  refine V.iload_n X dJ3_checkIndex_8e157_0 rfl ?_
  refine V.if_lt 9 X dJ3_checkIndex_8e157_1 (by decide) (fun c1 => absurd c1 (nI_pos (by omega))) (fun c1 => ?_)
  refine V.iload_n X dJ3_checkIndex_8e157_4 rfl ?_
  refine V.iload_n X dJ3_checkIndex_8e157_5 rfl ?_
  refine V.icmp_lt 16 X dJ3_checkIndex_8e157_6 (by decide) (fun c6 => ?_) (fun c6 => absurd (nI_lt hi hn) c6)
  refine V.iload_n X dJ3_checkIndex_8e157_16 rfl ?_
  exact V.iret X Y9 dJ3_checkIndex_8e157_17 ⟨rfl, rfl⟩ (Nat.le_of_ble_eq_true rfl) (Nat.le_of_ble_eq_true rfl)
theorem c_J3_checkIndex_8e157 (l : Launch) (G : GG) {h : Hp} {i n : Nat} {v : Value} (hv : v = .null ∨ ∃ t : Nat, v = .ref t) (hi : i < n) (hn : n < 2 ^ 31) : Con l G yJ3_checkIndex_8e157 wsJ3_checkIndex_8e157 0 0 0 0 [.int (nI i), .int (nI n), v] h (pI (fun r h2 => r = nI i ∧ h2 = h)) := by
  rcases hv with rfl | ⟨t, rfl⟩
  · exact c_J3_checkIndex_n l G hi hn
  · exact c_J3_checkIndex_r l G hi hn
set_option maxHeartbeats 4000000 in
set_option maxRecDepth 100000 in
theorem c_J0_checkIndex_df160 (l : Launch) (G : GG) {h : Hp} {i n : Nat} (hi : i < n) (hn : n < 2 ^ 31) : Con l G yJ0_checkIndex_df160 wsJ0_checkIndex_df160 1 22 0 0 [.int (nI i), .int (nI n)] h (pV (fun h2 => h2 = h)) := by
  refine Con.of (cc := cJ0_checkIndex_df160) (nL := 2) (ret := none) (by decide) rfl rfl rfl rfl (fun Γ hG hl X Y9 => ?_)
  subst hG
  subst hl
  refine V.iload_n X dJ0_checkIndex_df160_0 rfl ?_
  refine V.iload_n X dJ0_checkIndex_df160_1 rfl ?_
  refine V.gets (v := gS) X dJ0_checkIndex_df160_2 (fun G s hG => hG.2.2.2.1) (by decide +kernel) ?_
  refine V.callSi (n := 3) X dJ0_checkIndex_df160_5 gJ0_checkIndex_df160_J3_checkIndex_8e157 (c_J3_checkIndex_8e157 _ _ X.gS hi hn) rfl (by decide +kernel) rfl rfl rfl ⟨Nat.le_of_ble_eq_true rfl, Nat.le_of_ble_eq_true rfl⟩ (fun r5 h5 hp5 => ?_)
  obtain ⟨rfl, e9⟩ := hp5; obtain rfl := e9.symm
  refine V.pop X dJ0_checkIndex_df160_8 rfl ?_
  exact V.vret X Y9 dJ0_checkIndex_df160_9 ⟨rfl, rfl⟩ (Nat.le_of_ble_eq_true rfl) (Nat.le_of_ble_eq_true rfl)
set_option maxHeartbeats 4000000 in
set_option maxRecDepth 100000 in
theorem c_J15_checkIndex_7cf53 (l : Launch) (G : GG) {h : Hp} {i n : Nat} (hi : i < n) (hn : n < 2 ^ 31) : Con l G yJ15_checkIndex_7cf53 wsJ15_checkIndex_7cf53 1 22 0 0 [.int (nI i), .int (nI n)] h (pI (fun r h2 => r = nI i ∧ h2 = h)) := by
  refine Con.of (cc := cJ15_checkIndex_7cf53) (nL := 2) (ret := (some .int)) (by decide) rfl rfl rfl rfl (fun Γ hG hl X Y9 => ?_)
  subst hG
  subst hl
  refine V.iload_n X dJ15_checkIndex_7cf53_0 rfl ?_
  refine V.iload_n X dJ15_checkIndex_7cf53_1 rfl ?_
  refine V.null X dJ15_checkIndex_7cf53_2 ?_
  refine V.callSi (n := 3) X dJ15_checkIndex_7cf53_3 gJ15_checkIndex_7cf53_J3_checkIndex_8e157 (c_J3_checkIndex_8e157 _ _ (Or.inl rfl) hi hn) rfl (by decide +kernel) rfl rfl rfl ⟨Nat.le_of_ble_eq_true rfl, Nat.le_of_ble_eq_true rfl⟩ (fun r3 h3 hp3 => ?_)
  obtain ⟨rfl, e9⟩ := hp3; obtain rfl := e9.symm
  exact V.iret X Y9 dJ15_checkIndex_7cf53_6 ⟨rfl, rfl⟩ (Nat.le_of_ble_eq_true rfl) (Nat.le_of_ble_eq_true rfl)
theorem fJ5_charAt_5068e_22 : FL wsJ5_charAt_5068e RJ5 22 0 1 .byte false := ⟨_, rfl, by decide, Or.inl ⟨"java/lang/AbstractStringBuilder", by decide +kernel, Or.inl rfl⟩, by decide +kernel, by decide +kernel, rfl⟩
theorem fJ5_charAt_5068e_15 : FL wsJ5_charAt_5068e RJ5 15 0 0 (.array .byte) false := ⟨_, rfl, by decide, Or.inl ⟨"java/lang/AbstractStringBuilder", by decide +kernel, Or.inl rfl⟩, by decide +kernel, by decide +kernel, rfl⟩
theorem fJ5_charAt_5068e_79 : FL wsJ5_charAt_5068e RJ5 79 0 3 .int false := ⟨_, rfl, by decide, Or.inl ⟨"java/lang/AbstractStringBuilder", by decide +kernel, Or.inl rfl⟩, by decide +kernel, by decide +kernel, rfl⟩
set_option maxHeartbeats 4000000 in
set_option maxRecDepth 100000 in
theorem c_J5_charAt_5068e (l : Launch) (G : GG) {h : Hp} {a : Nat} {t : List Nat} {d i : Nat} (hA : SbAt h a d t) (hi : i < t.length) : Con l G yJ5_charAt_5068e wsJ5_charAt_5068e 2 43 0 0 [.ref a, .int (nI i)] h (fun v h2 => v = some (.int (nI (t.getD i 0))) ∧ h2 = h) := by
  refine Con.of (cc := cJ5_charAt_5068e) (nL := 5) (ret := (some .char)) (by decide) rfl rfl rfl rfl (fun Γ hG hl X Y9 => ?_)
  subst hG
  subst hl
  obtain ⟨N, k0, k1, k2, k3, k4, k5, k6, k7, k8, k9⟩ := hA
  refine V.aload_n X dJ5_charAt_5068e_0 rfl ?_
  refine V.getf  X fJ5_charAt_5068e_22 dJ5_charAt_5068e_1 (by assumption) (by assumption) ?_
  refine V.istore_n X dJ5_charAt_5068e_4 [(0, _), (1, _), (2, _)] rfl rfl rfl ?_
  refine V.aload_n X dJ5_charAt_5068e_5 rfl ?_
  refine V.getf  X fJ5_charAt_5068e_15 dJ5_charAt_5068e_6 (by assumption) (by assumption) ?_
  refine V.astore_n X dJ5_charAt_5068e_9 [(0, _), (1, _), (2, _), (3, _)] rfl rfl rfl ?_
  refine V.aload_n X dJ5_charAt_5068e_10 rfl ?_
  refine V.getf  X fJ5_charAt_5068e_79 dJ5_charAt_5068e_11 (by assumption) (by assumption) ?_
  refine V.aload_n X dJ5_charAt_5068e_14 rfl ?_
  refine V.alen X dJ5_charAt_5068e_15 k4 ?_
  refine V.iload_n X dJ5_charAt_5068e_16 rfl ?_
  refine V.ishr X dJ5_charAt_5068e_17 ?_
  rw [show nI N >>> ((nI 0) &&& 31) = nI N from shr0 N]
  refine V.min X dJ5_charAt_5068e_18 (by decide +kernel) (by decide +kernel) (by decide +kernel) (by decide +kernel) rfl ⟨by omega, by omega⟩ ?_
  rw [if_neg (nI_nlt (by omega) (by omega))]
  refine V.istore X dJ5_charAt_5068e_21 [(0, _), (1, _), (2, _), (3, _), (4, _)] rfl rfl rfl ?_
  refine V.iload_n X dJ5_charAt_5068e_23 rfl ?_
  refine V.iload X dJ5_charAt_5068e_24 rfl ?_
  refine V.callSv (n := 2) X dJ5_charAt_5068e_26 gJ5_charAt_5068e_J0_checkIndex_df160 (c_J0_checkIndex_df160 _ _ hi (by omega)) rfl (by decide +kernel) rfl rfl rfl ⟨Nat.le_of_ble_eq_true rfl, Nat.le_of_ble_eq_true rfl⟩ (fun h26 hp26 => ?_)
  obtain rfl := hp26.symm
  refine V.iload_n X dJ5_charAt_5068e_29 rfl ?_
  refine V.if_ne 42 X dJ5_charAt_5068e_30 (by decide) (fun c30 => absurd nI_0 c30) (fun c30 => ?_)
  refine V.aload_n X dJ5_charAt_5068e_33 rfl ?_
  refine V.iload_n X dJ5_charAt_5068e_34 rfl ?_
  refine V.bald (j := i)  X dJ5_charAt_5068e_35 k4 rfl (by omega) (by omega) (k7 i hi) ?_
  refine V.sipush (v := nI 255) X dJ5_charAt_5068e_36 (by decide) ?_
  refine V.iand X dJ5_charAt_5068e_39 ?_
  refine V.i2c (v := nI (t.getD i 0)) X dJ5_charAt_5068e_40 (sb_c2 (k8 i hi)) ?_
  exact V.zret X Y9 dJ5_charAt_5068e_41 (nar_ch (k8 i hi)) ⟨rfl, rfl⟩ (by omega) (by omega)
set_option maxHeartbeats 4000000 in
set_option maxRecDepth 100000 in
theorem c_J4_charAt_5068e (l : Launch) (G : GG) {h : Hp} {a : Nat} {t : List Nat} {d i : Nat} (hA : SbAt h a d t) (hi : i < t.length) : Con l G yJ4_charAt_5068e wsJ4_charAt_5068e 3 67 0 0 [.ref a, .int (nI i)] h (fun v h2 => v = some (.int (nI (t.getD i 0))) ∧ h2 = h) := by
  refine Con.of (cc := cJ4_charAt_5068e) (nL := 2) (ret := (some .char)) (by decide) rfl rfl rfl rfl (fun Γ hG hl X Y9 => ?_)
  subst hG
  subst hl
  refine V.aload_n X dJ4_charAt_5068e_0 rfl ?_
  refine V.iload_n X dJ4_charAt_5068e_1 rfl ?_
  refine V.callSU (n := 1) X dJ4_charAt_5068e_2 gJ4_charAt_5068e_J5_charAt_5068e_s329 (c_J5_charAt_5068e _ _ hA hi) rfl (by decide +kernel) rfl rfl rfl hA.ob rfl ⟨by omega, by omega⟩ (fun v2 h2 hp2 => ?_)
  obtain ⟨rfl, e9⟩ := hp2; obtain rfl := e9.symm
  exact V.zret X Y9 dJ4_charAt_5068e_5 (nar_ch (hA.lt i hi)) ⟨rfl, rfl⟩ (by omega) (by omega)
theorem fJ5_isLatin1_aae02_22 : FL wsJ5_isLatin1_aae02 RJ5 22 0 1 .byte false := ⟨_, rfl, by decide, Or.inl ⟨"java/lang/AbstractStringBuilder", by decide +kernel, Or.inl rfl⟩, by decide +kernel, by decide +kernel, rfl⟩
set_option maxHeartbeats 4000000 in
set_option maxRecDepth 100000 in
theorem c_J5_isLatin1_aae02 (l : Launch) (G : GG) {h : Hp} {a : Nat} (k0 : Hk h a = some (.inl 0)) (k2 : Hv h a 1 = .int (nI 0)) : Con l G yJ5_isLatin1_aae02 wsJ5_isLatin1_aae02 0 0 0 0 [.ref a] h (pI (fun r h2 => r = 1 ∧ h2 = h)) := by
  refine Con.of (cc := cJ5_isLatin1_aae02) (nL := 1) (ret := (some .boolean)) (by decide) rfl rfl rfl rfl (fun Γ hG hl X Y9 => ?_)
  subst hG
  subst hl
  refine V.gets (v := fun _ => .int 1) X dJ5_isLatin1_aae02_0 (fun G s hG => hG.1) (by decide +kernel) ?_
  refine V.if_eq 17 X dJ5_isLatin1_aae02_3 (by decide) (fun c3 => absurd c3 (by decide)) (fun c3 => ?_)
  refine V.aload_n X dJ5_isLatin1_aae02_6 rfl ?_
  refine V.getf  X fJ5_isLatin1_aae02_22 dJ5_isLatin1_aae02_7 (by assumption) (by assumption) ?_
  refine V.if_ne 17 X dJ5_isLatin1_aae02_10 (by decide) (fun c10 => absurd nI_0 c10) (fun c10 => ?_)
  refine V.iconst (v := nI 1) X dJ5_isLatin1_aae02_13 (by decide) ?_
  refine V.goto 18 X dJ5_isLatin1_aae02_14 (by decide) ?_
  exact V.bret X Y9 dJ5_isLatin1_aae02_18 true (by decide) ⟨by decide, rfl⟩ (Nat.le_of_ble_eq_true rfl) (Nat.le_of_ble_eq_true rfl)
set_option maxHeartbeats 4000000 in
set_option maxRecDepth 100000 in
theorem c_J1_canEncode_fc78d (l : Launch) (G : GG) {h : Hp} {c : Nat} (hc : c < 256) : Con l G yJ1_canEncode_fc78d wsJ1_canEncode_fc78d 0 0 0 0 [.int (nI c)] h (pI (fun r h2 => r = 1 ∧ h2 = h)) := by
  refine Con.of (cc := cJ1_canEncode_fc78d) (nL := 1) (ret := (some .boolean)) (by decide) rfl rfl rfl rfl (fun Γ hG hl X Y9 => ?_)
  subst hG
  subst hl
  refine V.iload_n X dJ1_canEncode_fc78d_0 rfl ?_
  refine V.sipush (v := nI 255) X dJ1_canEncode_fc78d_1 (by decide) ?_
  refine V.icmp_gt 11 X dJ1_canEncode_fc78d_4 (by decide) (fun c4 => absurd c4 (nI_nlt (by omega) (by omega))) (fun c4 => ?_)
  refine V.iconst (v := nI 1) X dJ1_canEncode_fc78d_7 (by decide) ?_
  refine V.goto 12 X dJ1_canEncode_fc78d_8 (by decide) ?_
  exact V.bret X Y9 dJ1_canEncode_fc78d_12 true (by decide) ⟨by decide, rfl⟩ (Nat.le_of_ble_eq_true rfl) (Nat.le_of_ble_eq_true rfl)
set_option maxHeartbeats 4000000 in
set_option maxRecDepth 100000 in
theorem c_J8_newLength_cabcc (l : Launch) (G : GG) {h : Hp} {a b c : Nat} (hbc : b ≤ c) (hs : a + c < 2 ^ 20) (h0 : 0 < c) : Con l G yJ8_newLength_cabcc wsJ8_newLength_cabcc 1 20 0 0 [.int (nI a), .int (nI b), .int (nI c)] h (pI (fun r h2 => r = nI (a + c) ∧ h2 = h)) := by
  refine Con.of (cc := cJ8_newLength_cabcc) (nL := 4) (ret := (some .int)) (by decide) rfl rfl rfl rfl (fun Γ hG hl X Y9 => ?_)
  subst hG
  subst hl
  refine V.iload_n X dJ8_newLength_cabcc_0 rfl ?_
  refine V.iload_n X dJ8_newLength_cabcc_1 rfl ?_
  refine V.iload_n X dJ8_newLength_cabcc_2 rfl ?_
  refine V.max X dJ8_newLength_cabcc_3 (by decide +kernel) (by decide +kernel) (by decide +kernel) (by decide +kernel) rfl ⟨by omega, by omega⟩ ?_
  have e9 : (if nI b < nI c then nI c else nI b) = nI c := by
    by_cases q : b < c
    · rw [if_pos (nI_lt q (by omega))]
    · rw [if_neg (nI_nlt (by omega) (by omega)), show b = c by omega]
  rw [e9]
  refine V.iadd X dJ8_newLength_cabcc_6 ?_
  rw [nI_add]
  refine V.istore_n X dJ8_newLength_cabcc_7 [(0, _), (1, _), (2, _), (3, _)] rfl rfl rfl ?_
  refine V.iconst (v := nI 0) X dJ8_newLength_cabcc_8 (by decide) ?_
  refine V.iload_n X dJ8_newLength_cabcc_9 rfl ?_
  refine V.icmp_ge 21 X dJ8_newLength_cabcc_10 (by decide) (fun c10 => absurd c10 (nI_nle9 (by omega) (by omega))) (fun c10 => ?_)
  refine V.iload_n X dJ8_newLength_cabcc_13 rfl ?_
  refine V.ldcI (v := nI 2147483639) X dJ8_newLength_cabcc_14 (by decide +kernel) ?_
  refine V.icmp_gt 21 X dJ8_newLength_cabcc_16 (by decide) (fun c16 => absurd c16 (nI_nlt (by omega) (by decide))) (fun c16 => ?_)
  refine V.iload_n X dJ8_newLength_cabcc_19 rfl ?_
  exact V.iret X Y9 dJ8_newLength_cabcc_20 ⟨rfl, rfl⟩ (Nat.le_of_ble_eq_true rfl) (Nat.le_of_ble_eq_true rfl)
theorem fJ5_newCapacity_0f7a4_15 : FL wsJ5_newCapacity_0f7a4 RJ5 15 0 0 (.array .byte) false := ⟨_, rfl, by decide, Or.inl ⟨"java/lang/AbstractStringBuilder", by decide +kernel, Or.inl rfl⟩, by decide +kernel, by decide +kernel, rfl⟩
theorem fJ5_newCapacity_0f7a4_22 : FL wsJ5_newCapacity_0f7a4 RJ5 22 0 1 .byte false := ⟨_, rfl, by decide, Or.inl ⟨"java/lang/AbstractStringBuilder", by decide +kernel, Or.inl rfl⟩, by decide +kernel, by decide +kernel, rfl⟩
set_option maxHeartbeats 4000000 in
set_option maxRecDepth 100000 in
theorem c_J5_newCapacity_0f7a4 (l : Launch) (G : GG) {h : Hp} {a d N : Nat} (k0 : Hk h a = some (.inl 0)) (k1 : Hv h a 0 = .ref d) (k2 : Hv h a 1 = .int (nI 0)) (k4 : Hk h d = some (.inr (1, N))) (hN : N ≤ 200) : Con l G yJ5_newCapacity_0f7a4 wsJ5_newCapacity_0f7a4 2 43 0 0 [.ref a, .int (nI (N + 1))] h (pI (fun r h2 => r = nI (2 * N + 2) ∧ h2 = h)) := by
  refine Con.of (cc := cJ5_newCapacity_0f7a4) (nL := 6) (ret := (some .int)) (by decide) rfl rfl rfl rfl (fun Γ hG hl X Y9 => ?_)
  subst hG
  subst hl
  refine V.aload_n X dJ5_newCapacity_0f7a4_0 rfl ?_
  refine V.getf  X fJ5_newCapacity_0f7a4_15 dJ5_newCapacity_0f7a4_1 (by assumption) (by assumption) ?_
  refine V.alen X dJ5_newCapacity_0f7a4_4 (by assumption) ?_
  refine V.istore_n X dJ5_newCapacity_0f7a4_5 [(0, _), (1, _), (2, _)] rfl rfl rfl ?_
  refine V.iload_n X dJ5_newCapacity_0f7a4_6 rfl ?_
  refine V.aload_n X dJ5_newCapacity_0f7a4_7 rfl ?_
  refine V.getf  X fJ5_newCapacity_0f7a4_22 dJ5_newCapacity_0f7a4_8 (by assumption) (by assumption) ?_
  refine V.ishl X dJ5_newCapacity_0f7a4_11 ?_
  rw [shl0]
  refine V.istore_n X dJ5_newCapacity_0f7a4_12 [(0, _), (1, _), (2, _), (3, _)] rfl rfl rfl ?_
  refine V.iload_n X dJ5_newCapacity_0f7a4_13 rfl ?_
  refine V.iload_n X dJ5_newCapacity_0f7a4_14 rfl ?_
  refine V.isub X dJ5_newCapacity_0f7a4_15 ?_
  rw [nI_sub9 (show N ≤ N + 1 by omega), show N + 1 - N = 1 by omega]
  refine V.istore X dJ5_newCapacity_0f7a4_16 [(0, _), (1, _), (2, _), (3, _), (4, _)] rfl rfl rfl ?_
  refine V.iload_n X dJ5_newCapacity_0f7a4_18 rfl ?_
  refine V.iload X dJ5_newCapacity_0f7a4_19 rfl ?_
  refine V.iload_n X dJ5_newCapacity_0f7a4_21 rfl ?_
  refine V.iconst (v := nI 2) X dJ5_newCapacity_0f7a4_22 (by decide) ?_
  refine V.aload_n X dJ5_newCapacity_0f7a4_23 rfl ?_
  refine V.getf  X fJ5_newCapacity_0f7a4_22 dJ5_newCapacity_0f7a4_24 (by assumption) (by assumption) ?_
  refine V.ishl X dJ5_newCapacity_0f7a4_27 ?_
  rw [shl0]
  refine V.iadd X dJ5_newCapacity_0f7a4_28 ?_
  rw [nI_add]
  refine V.callSi (n := 3) X dJ5_newCapacity_0f7a4_29 gJ5_newCapacity_0f7a4_J8_newLength_cabcc (c_J8_newLength_cabcc _ _ (show 1 ≤ N + 2 by omega) (by omega) (by omega)) rfl (by decide +kernel) rfl rfl rfl ⟨Nat.le_of_ble_eq_true rfl, Nat.le_of_ble_eq_true rfl⟩ (fun r29 h29 hp29 => ?_)
  obtain ⟨rfl, e9⟩ := hp29; obtain rfl := e9.symm
  rw [show N + (N + 2) = 2 * N + 2 by omega]
  refine V.istore X dJ5_newCapacity_0f7a4_32 [(0, _), (1, _), (2, _), (3, _), (4, _), (5, _)] rfl rfl rfl ?_
  refine V.iload X dJ5_newCapacity_0f7a4_34 rfl ?_
  refine V.ldcI (v := nI 2147483647) X dJ5_newCapacity_0f7a4_36 (by decide +kernel) ?_
  refine V.icmp_ne 51 X dJ5_newCapacity_0f7a4_38 (by decide) (fun c38 => ?_) (fun c38 => absurd c38 (fun z => absurd ((nI_eq (by omega) (by decide)).mp z) (by omega)))
  refine V.iload X dJ5_newCapacity_0f7a4_51 rfl ?_
  refine V.aload_n X dJ5_newCapacity_0f7a4_53 rfl ?_
  refine V.getf  X fJ5_newCapacity_0f7a4_22 dJ5_newCapacity_0f7a4_54 (by assumption) (by assumption) ?_
  refine V.ishr X dJ5_newCapacity_0f7a4_57 ?_
  rw [shr0]
  exact V.iret X Y9 dJ5_newCapacity_0f7a4_58 ⟨rfl, rfl⟩ (Nat.le_of_ble_eq_true rfl) (Nat.le_of_ble_eq_true rfl)
set_option maxHeartbeats 4000000 in
set_option maxRecDepth 100000 in
theorem c_J7_copyOf_9075b (l : Launch) (G : GG) {h : Hp} {d N m : Nat} (k4 : Hk h d = some (.inr (1, N))) (hNm : N < m) (hm : m ≤ 402) (hf : ∀ j, j < N → ∃ z : Int32, Hv h d j = .int z ∧ fits .byte (.int z) = true) : Con l G yJ7_copyOf_9075b wsJ7_copyOf_9075b 1 40 1 402 [.ref d, .int (nI m)] h (pR (fun r h2 => r = .ref (Hz h) ∧ h2 = Hset (Hnew h (.inr (1, m)) (fun _ => .int 0)) (Hz h) (va_cpy (Hv h d) (fun _ => .int 0) 0 0 N))) := by
  refine Con.of (cc := cJ7_copyOf_9075b) (nL := 3) (ret := (some (.array .byte))) (by decide) rfl rfl rfl rfl (fun Γ hG hl X Y9 => ?_)
  subst hG
  subst hl
  refine V.wf (fun w => ?_)
  have hd := w _ _ k4
  refine V.iload_n X dJ7_copyOf_9075b_0 rfl ?_
  refine V.aload_n X dJ7_copyOf_9075b_1 rfl ?_
  refine V.alen X dJ7_copyOf_9075b_2 k4 ?_
  refine V.icmp_ne 14 X dJ7_copyOf_9075b_3 (by decide) (fun c3 => ?_) (fun c3 => absurd c3 (fun z => absurd ((nI_eq (by omega) (by omega)).mp z) (by omega)))
  refine V.iload_n X dJ7_copyOf_9075b_14 rfl ?_
  refine V.newB (N := m) X dJ7_copyOf_9075b_15 (by decide +kernel) rfl (by omega) (by omega) (by omega) ?_
  have kd : Hk (Hnew h (.inr (1, m)) (fun _ => .int 0)) d = some (.inr (1, N)) := by rw [Hk_new, if_neg (by omega)]; exact k4
  have kn : Hk (Hnew h (.inr (1, m)) (fun _ => .int 0)) (Hz h) = some (.inr (1, m)) := by rw [Hk_new, if_pos rfl]
  have vd : Hv (Hnew h (.inr (1, m)) (fun _ => .int 0)) d = Hv h d := by funext j; rw [Hv_new, if_neg (by omega)]
  have vn : Hv (Hnew h (.inr (1, m)) (fun _ => .int 0)) (Hz h) = fun _ => .int 0 := by funext j; rw [Hv_new, if_pos rfl]
  refine V.astore_n X dJ7_copyOf_9075b_17 [(0, _), (1, _), (2, _)] rfl rfl rfl ?_
  refine V.aload_n X dJ7_copyOf_9075b_18 rfl ?_
  refine V.iconst (v := nI 0) X dJ7_copyOf_9075b_19 (by decide) ?_
  refine V.aload_n X dJ7_copyOf_9075b_20 rfl ?_
  refine V.iconst (v := nI 0) X dJ7_copyOf_9075b_21 (by decide) ?_
  refine V.aload_n X dJ7_copyOf_9075b_22 rfl ?_
  refine V.alen X dJ7_copyOf_9075b_23 kd ?_
  refine V.iload_n X dJ7_copyOf_9075b_24 rfl ?_
  refine V.min X dJ7_copyOf_9075b_25 (by decide +kernel) (by decide +kernel) (by decide +kernel) (by decide +kernel) rfl ⟨by omega, by omega⟩ ?_
  rw [if_neg (nI_nlt (by omega) (by omega))]
  refine V.copyB (m9 := N) X dJ7_copyOf_9075b_28 (by decide +kernel) (by decide +kernel) (by decide +kernel) (by decide +kernel) kd kn rfl (by omega) (by omega) (by omega) (by rw [vd]; exact hf) (by decide +kernel) ?_
  rw [vd, vn]
  refine V.aload_n X dJ7_copyOf_9075b_31 rfl ?_
  exact V.aret X Y9 (Or.inr ⟨_, rfl⟩) dJ7_copyOf_9075b_32 (Or.inr ⟨_, rfl⟩) ⟨rfl, rfl⟩ (by omega) (by omega)
theorem fJ5_ensureCapacityInternal_d00df_15 : FL wsJ5_ensureCapacityInternal_d00df RJ5 15 0 0 (.array .byte) false := ⟨_, rfl, by decide, Or.inl ⟨"java/lang/AbstractStringBuilder", by decide +kernel, Or.inl rfl⟩, by decide +kernel, by decide +kernel, rfl⟩
theorem fJ5_ensureCapacityInternal_d00df_22 : FL wsJ5_ensureCapacityInternal_d00df RJ5 22 0 1 .byte false := ⟨_, rfl, by decide, Or.inl ⟨"java/lang/AbstractStringBuilder", by decide +kernel, Or.inl rfl⟩, by decide +kernel, by decide +kernel, rfl⟩
set_option maxHeartbeats 4000000 in
set_option maxRecDepth 100000 in
theorem c_J5_ensure1 (l : Launch) (G : GG) {h : Hp} {a d N : Nat} (k0 : Hk h a = some (.inl 0)) (k1 : Hv h a 0 = .ref d) (k2 : Hv h a 1 = .int (nI 0)) (k4 : Hk h d = some (.inr (1, N))) (hN : N ≤ 200) (hf : ∀ j, j < N → ∃ z : Int32, Hv h d j = .int z ∧ fits .byte (.int z) = true) : Con l G yJ5_ensureCapacityInternal_d00df wsJ5_ensureCapacityInternal_d00df 3 68 1 402 [.ref a, .int (nI (N + 1))] h (pV (fun h2 => h2 = Hput (Hset (Hnew h (.inr (1, 2 * N + 2)) (fun _ => .int 0)) (Hz h) (va_cpy (Hv h d) (fun _ => .int 0) 0 0 N)) a 0 (.ref (Hz h)))) := by
  refine Con.of (cc := cJ5_ensureCapacityInternal_d00df) (nL := 3) (ret := none) (by decide) rfl rfl rfl rfl (fun Γ hG hl X Y9 => ?_)
  subst hG
  subst hl
  refine V.wf (fun w => ?_)
  have ha := w _ _ k0
  refine V.aload_n X dJ5_ensureCapacityInternal_d00df_0 rfl ?_
  refine V.getf  X fJ5_ensureCapacityInternal_d00df_15 dJ5_ensureCapacityInternal_d00df_1 (by assumption) (by assumption) ?_
  refine V.alen X dJ5_ensureCapacityInternal_d00df_4 k4 ?_
  refine V.aload_n X dJ5_ensureCapacityInternal_d00df_5 rfl ?_
  refine V.getf  X fJ5_ensureCapacityInternal_d00df_22 dJ5_ensureCapacityInternal_d00df_6 (by assumption) (by assumption) ?_
  refine V.ishr X dJ5_ensureCapacityInternal_d00df_9 ?_
  rw [shr0]
  refine V.istore_n X dJ5_ensureCapacityInternal_d00df_10 [(0, _), (1, _), (2, _)] rfl rfl rfl ?_
  refine V.iload_n X dJ5_ensureCapacityInternal_d00df_11 rfl ?_
  refine V.iload_n X dJ5_ensureCapacityInternal_d00df_12 rfl ?_
  refine V.isub X dJ5_ensureCapacityInternal_d00df_13 ?_
  rw [nI_sub9 (show N ≤ N + 1 by omega), show N + 1 - N = 1 by omega]
  refine V.if_le 38 X dJ5_ensureCapacityInternal_d00df_14 (by decide) (fun c14 => absurd c14 (by decide)) (fun c14 => ?_)
  refine V.aload_n X dJ5_ensureCapacityInternal_d00df_17 rfl ?_
  refine V.aload_n X dJ5_ensureCapacityInternal_d00df_18 rfl ?_
  refine V.getf  X fJ5_ensureCapacityInternal_d00df_15 dJ5_ensureCapacityInternal_d00df_19 (by assumption) (by assumption) ?_
  refine V.aload_n X dJ5_ensureCapacityInternal_d00df_22 rfl ?_
  refine V.iload_n X dJ5_ensureCapacityInternal_d00df_23 rfl ?_
  refine V.callUi (n := 1) X dJ5_ensureCapacityInternal_d00df_24 gJ5_ensureCapacityInternal_d00df_J5_newCapacity_0f7a4_u104J4 (c_J5_newCapacity_0f7a4 _ _ k0 k1 k2 k4 hN) rfl rfl (by decide +kernel) rfl rfl rfl (by assumption) rfl rfl ⟨Nat.le_of_ble_eq_true rfl, Nat.le_of_ble_eq_true rfl⟩ (fun r24 h24 hp24 => ?_)
  obtain ⟨rfl, e9⟩ := hp24; obtain rfl := e9.symm
  refine V.aload_n X dJ5_ensureCapacityInternal_d00df_27 rfl ?_
  refine V.getf  X fJ5_ensureCapacityInternal_d00df_22 dJ5_ensureCapacityInternal_d00df_28 (by assumption) (by assumption) ?_
  refine V.ishl X dJ5_ensureCapacityInternal_d00df_31 ?_
  rw [shl0]
  refine V.callSr (n := 2) X dJ5_ensureCapacityInternal_d00df_32 gJ5_ensureCapacityInternal_d00df_J7_copyOf_9075b (c_J7_copyOf_9075b _ _ k4 (show N < 2 * N + 2 by omega) (by omega) hf) rfl (by decide +kernel) rfl rfl rfl ⟨Nat.le_of_ble_eq_true rfl, Nat.le_of_ble_eq_true rfl⟩ (fun r32 h32 hp32 => ?_)
  obtain ⟨-, rfl, e9⟩ := hp32; obtain rfl := e9.symm
  refine V.putf X fJ5_ensureCapacityInternal_d00df_15 dJ5_ensureCapacityInternal_d00df_35 (by rw [Hk_set, Hk_new, if_neg (by omega)]; exact k0) rfl rfl ?_
  exact V.vret X Y9 dJ5_ensureCapacityInternal_d00df_38 ⟨rfl, rfl⟩ (Nat.le_of_ble_eq_true rfl) (Nat.le_of_ble_eq_true rfl)
set_option maxHeartbeats 4000000 in
set_option maxRecDepth 100000 in
theorem c_J5_ensure0 (l : Launch) (G : GG) {h : Hp} {a d N q : Nat} (k0 : Hk h a = some (.inl 0)) (k1 : Hv h a 0 = .ref d) (k2 : Hv h a 1 = .int (nI 0)) (k4 : Hk h d = some (.inr (1, N))) (hN : N ≤ 402) (hq : q ≤ N) : Con l G yJ5_ensureCapacityInternal_d00df wsJ5_ensureCapacityInternal_d00df 3 68 1 402 [.ref a, .int (nI q)] h (pV (fun h2 => h2 = h)) := by
  refine Con.of (cc := cJ5_ensureCapacityInternal_d00df) (nL := 3) (ret := none) (by decide) rfl rfl rfl rfl (fun Γ hG hl X Y9 => ?_)
  subst hG
  subst hl
  refine V.aload_n X dJ5_ensureCapacityInternal_d00df_0 rfl ?_
  refine V.getf  X fJ5_ensureCapacityInternal_d00df_15 dJ5_ensureCapacityInternal_d00df_1 (by assumption) (by assumption) ?_
  refine V.alen X dJ5_ensureCapacityInternal_d00df_4 k4 ?_
  refine V.aload_n X dJ5_ensureCapacityInternal_d00df_5 rfl ?_
  refine V.getf  X fJ5_ensureCapacityInternal_d00df_22 dJ5_ensureCapacityInternal_d00df_6 (by assumption) (by assumption) ?_
  refine V.ishr X dJ5_ensureCapacityInternal_d00df_9 ?_
  rw [shr0]
  refine V.istore_n X dJ5_ensureCapacityInternal_d00df_10 [(0, _), (1, _), (2, _)] rfl rfl rfl ?_
  refine V.iload_n X dJ5_ensureCapacityInternal_d00df_11 rfl ?_
  refine V.iload_n X dJ5_ensureCapacityInternal_d00df_12 rfl ?_
  refine V.isub X dJ5_ensureCapacityInternal_d00df_13 ?_
  refine V.if_le 38 X dJ5_ensureCapacityInternal_d00df_14 (by decide) (fun c14 => ?_) (fun c14 => absurd (nI_subn hq (by omega)) c14)
  exact V.vret X Y9 dJ5_ensureCapacityInternal_d00df_38 ⟨rfl, rfl⟩ (Nat.le_of_ble_eq_true rfl) (Nat.le_of_ble_eq_true rfl)
set_option maxHeartbeats 1000000 in
set_option maxRecDepth 100000 in
theorem c_J5_ensure (l : Launch) (G : GG) {h : Hp} {a d : Nat} {t : List Nat} (hA : SbAt h a d t) (ht : t.length < 200) : Con l G yJ5_ensureCapacityInternal_d00df wsJ5_ensureCapacityInternal_d00df 3 68 1 402 [.ref a, .int (nI (t.length + 1))] h (pV (fun h2 => ∃ d' N : Nat, SbAt h2 a d' t ∧ Hk h2 d' = some (.inr (1, N)) ∧ t.length < N ∧ Fr (fun q => q = a) h h2 ∧ (d' = d ∨ Hz h ≤ d'))) := by
  refine Con.wf (fun w => ?_)
  obtain ⟨N, k0, k1, k2, k3, k4, k5, k6, k7, k8, k9⟩ := id hA
  by_cases hN : t.length < N
  · refine (c_J5_ensure0 l G k0 k1 k2 k4 (by omega) (by omega)).mono (pV_mono (fun h2 e => ?_))
    subst e
    exact ⟨d, N, hA, k4, hN, Fr.rf, Or.inl rfl⟩
  · have eN : t.length = N := by omega
    rw [eN]
    refine (c_J5_ensure1 l G k0 k1 k2 k4 (by omega) k9).mono (pV_mono (fun h2 e => ?_))
    subst e
    have ha := w _ _ k0
    have hd := w _ _ k4
    have had : ¬ a = Hz h := by omega
    have hza : ¬ Hz h = a := by omega
    refine ⟨Hz h, 2 * N + 2, ⟨2 * N + 2, ?_, ?_, ?_, ?_, ?_, by omega, by omega, fun i hi => ?_, k8, fun j hj => ?_⟩, ?_, by omega, ?_, Or.inr (Nat.le_refl _)⟩
    · rw [Hk_put, Hk_set, Hk_new, if_neg had]; exact k0
    · rw [Hv_put_at]
    · rw [Hv_put_k _ _ _ _ (by decide), Hv_set, if_neg had, Hv_new, if_neg had]; exact k2
    · rw [Hv_put_k _ _ _ _ (by decide), Hv_set, if_neg had, Hv_new, if_neg had, k3, eN]
    · rw [Hk_put, Hk_set, Hk_new, if_pos rfl]
    · rw [Hv_put_a _ _ _ _ hza, Hv_set, if_pos rfl]
      show (if 0 ≤ i ∧ i < 0 + N then Hv h d (0 + (i - 0)) else _) = _
      rw [if_pos ⟨Nat.zero_le _, by omega⟩, show 0 + (i - 0) = i by omega]
      exact k7 i (by omega)
    · rw [Hv_put_a _ _ _ _ hza, Hv_set, if_pos rfl]
      show ∃ z, (if 0 ≤ j ∧ j < 0 + N then Hv h d (0 + (j - 0)) else .int 0) = .int z ∧ _
      by_cases hj2 : j < N
      · rw [if_pos ⟨Nat.zero_le _, by omega⟩, show 0 + (j - 0) = j by omega]
        exact k9 j hj2
      · rw [if_neg (fun q => hj2 (by omega))]
        exact ⟨0, rfl, fit_b0⟩
    · rw [Hk_put, Hk_set, Hk_new, if_pos rfl]
    · exact ((Fr.rf (S := fun q => q = a)).thenNew.thenSet (Or.inr (Nat.le_refl _))).thenPut (Or.inl rfl)
theorem fJ5_append_3fe6f_79 : FL wsJ5_append_3fe6f RJ5 79 0 3 .int false := ⟨_, rfl, by decide, Or.inl ⟨"java/lang/AbstractStringBuilder", by decide +kernel, Or.inl rfl⟩, by decide +kernel, by decide +kernel, rfl⟩
theorem fJ5_append_3fe6f_15 : FL wsJ5_append_3fe6f RJ5 15 0 0 (.array .byte) false := ⟨_, rfl, by decide, Or.inl ⟨"java/lang/AbstractStringBuilder", by decide +kernel, Or.inl rfl⟩, by decide +kernel, by decide +kernel, rfl⟩
set_option maxHeartbeats 4000000 in
set_option maxRecDepth 100000 in
theorem c_J5_append_3fe6f (l : Launch) (G : GG) {h : Hp} {a d c : Nat} {t : List Nat} (hA : SbAt h a d t) (ht : t.length < 200) (hc : c < 256) : Con l G yJ5_append_3fe6f wsJ5_append_3fe6f 4 90 1 402 [.ref a, .int (nI c)] h (pR (fun r h2 => r = .ref a ∧ ∃ d' : Nat, SbAt h2 a d' (t ++ [c]) ∧ Fr (fun q => q = a ∨ q = d) h h2 ∧ (d' = d ∨ Hz h ≤ d'))) := by
  refine Con.of (cc := cJ5_append_3fe6f) (nL := 2) (ret := (some (.object "java/lang/AbstractStringBuilder"))) (by decide) rfl rfl rfl rfl (fun Γ hG hl X Y9 => ?_)
  subst hG
  subst hl
  refine V.wf (fun w => ?_)
  refine V.aload_n X dJ5_append_3fe6f_0 rfl ?_
  refine V.aload_n X dJ5_append_3fe6f_1 rfl ?_
  refine V.getf  X fJ5_append_3fe6f_79 dJ5_append_3fe6f_2 hA.ob hA.cnt ?_
  refine V.iconst (v := nI 1) X dJ5_append_3fe6f_5 (by decide) ?_
  refine V.iadd X dJ5_append_3fe6f_6 ?_
  rw [nI_add]
  refine V.callUv (n := 1) X dJ5_append_3fe6f_7 gJ5_append_3fe6f_J5_ensureCapacityInternal_d00df_u100J4 (c_J5_ensure _ _ hA ht) rfl rfl (by decide +kernel) rfl rfl rfl hA.ob rfl rfl ⟨Nat.le_of_ble_eq_true rfl, Nat.le_of_ble_eq_true rfl⟩ (fun h7 hp7 => ?_)
  obtain ⟨d1, N1, hB, hk1, hN1, hfr, hor⟩ := hp7
  refine V.aload_n X dJ5_append_3fe6f_10 rfl ?_
  refine V.callUi (n := 0) X dJ5_append_3fe6f_11 gJ5_append_3fe6f_J5_isLatin1_aae02_u83J4 (c_J5_isLatin1_aae02 _ _ hB.ob hB.coder) rfl rfl (by decide +kernel) rfl rfl rfl hB.ob rfl rfl ⟨Nat.le_of_ble_eq_true rfl, Nat.le_of_ble_eq_true rfl⟩ (fun r11 h11 hp11 => ?_)
  obtain ⟨rfl, e9⟩ := hp11; obtain rfl := e9.symm
  refine V.if_eq 45 X dJ5_append_3fe6f_14 (by decide) (fun c14 => absurd c14 (by decide)) (fun c14 => ?_)
  refine V.iload_n X dJ5_append_3fe6f_17 rfl ?_
  refine V.callSi (n := 1) X dJ5_append_3fe6f_18 gJ5_append_3fe6f_J1_canEncode_fc78d (c_J1_canEncode_fc78d _ _ hc) rfl (by decide +kernel) rfl rfl rfl ⟨Nat.le_of_ble_eq_true rfl, Nat.le_of_ble_eq_true rfl⟩ (fun r18 h18 hp18 => ?_)
  obtain ⟨rfl, e9⟩ := hp18; obtain rfl := e9.symm
  refine V.if_eq 45 X dJ5_append_3fe6f_21 (by decide) (fun c21 => absurd c21 (by decide)) (fun c21 => ?_)
  refine V.aload_n X dJ5_append_3fe6f_24 rfl ?_
  refine V.getf  X fJ5_append_3fe6f_15 dJ5_append_3fe6f_25 hB.ob hB.val ?_
  refine V.aload_n X dJ5_append_3fe6f_28 rfl ?_
  refine V.dup X dJ5_append_3fe6f_29 rfl ?_
  refine V.getf  X fJ5_append_3fe6f_79 dJ5_append_3fe6f_30 hB.ob hB.cnt ?_
  refine V.dup_x1 X dJ5_append_3fe6f_33 rfl rfl ?_
  refine V.iconst (v := nI 1) X dJ5_append_3fe6f_34 (by decide) ?_
  refine V.iadd X dJ5_append_3fe6f_35 ?_
  rw [nI_add]
  refine V.putf X fJ5_append_3fe6f_79 dJ5_append_3fe6f_36 hB.ob rfl rfl ?_
  refine V.iload_n X dJ5_append_3fe6f_39 rfl ?_
  refine V.i2b (v := sb_b c) X dJ5_append_3fe6f_40 rfl ?_
  refine V.bast (j := t.length) X dJ5_append_3fe6f_41 hk1 rfl hN1 (by obtain ⟨N2, -, -, -, -, q1, -, q2, -⟩ := hB; rw [hk1] at q1; cases q1; omega) ?_
  refine V.goto 75 X dJ5_append_3fe6f_42 (by decide) ?_
  refine V.aload_n X dJ5_append_3fe6f_75 rfl ?_
  exact V.aret X Y9 (Or.inl ⟨_, rfl⟩) dJ5_append_3fe6f_76 (Or.inr ⟨_, rfl⟩) ⟨rfl, d1, sb_push hB hk1 hN1 hc, ((hfr.mono (fun q _ e => Or.inl e)).thenPut (Or.inl (Or.inl rfl))).thenPut (hor.imp (fun e => Or.inr e) (fun e => e)), hor⟩ (Nat.le_of_ble_eq_true rfl) (Nat.le_of_ble_eq_true rfl)
set_option maxHeartbeats 4000000 in
set_option maxRecDepth 100000 in
theorem c_J4_append_cf468 (l : Launch) (G : GG) {h : Hp} {a d c : Nat} {t : List Nat} (hA : SbAt h a d t) (ht : t.length < 200) (hc : c < 256) : Con l G yJ4_append_cf468 wsJ4_append_cf468 5 111 1 402 [.ref a, .int (nI c)] h (pR (fun r h2 => r = .ref a ∧ ∃ d' : Nat, SbAt h2 a d' (t ++ [c]) ∧ Fr (fun q => q = a ∨ q = d) h h2 ∧ (d' = d ∨ Hz h ≤ d'))) := by
  refine Con.of (cc := cJ4_append_cf468) (nL := 2) (ret := (some (.object "java/lang/StringBuilder"))) (by decide) rfl rfl rfl rfl (fun Γ hG hl X Y9 => ?_)
  subst hG
  subst hl
  refine V.aload_n X dJ4_append_cf468_0 rfl ?_
  refine V.iload_n X dJ4_append_cf468_1 rfl ?_
  refine V.callSUr (n := 1) X dJ4_append_cf468_2 gJ4_append_cf468_J5_append_3fe6f_s50 (c_J5_append_3fe6f _ _ hA ht hc) rfl (by decide +kernel) rfl rfl rfl hA.ob rfl ⟨Nat.le_of_ble_eq_true rfl, Nat.le_of_ble_eq_true rfl⟩ (fun r2 h2 hp2 => ?_)
  obtain ⟨-, rfl, hq⟩ := hp2
  refine V.pop X dJ4_append_cf468_5 rfl ?_
  refine V.aload_n X dJ4_append_cf468_6 rfl ?_
  exact V.aret X Y9 (Or.inl ⟨_, rfl⟩) dJ4_append_cf468_7 (Or.inr ⟨_, rfl⟩) ⟨rfl, hq⟩ (Nat.le_of_ble_eq_true rfl) (Nat.le_of_ble_eq_true rfl)
theorem fJ5_setLength_d00df_79 : FL wsJ5_setLength_d00df RJ5 79 0 3 .int false := ⟨_, rfl, by decide, Or.inl ⟨"java/lang/AbstractStringBuilder", by decide +kernel, Or.inl rfl⟩, by decide +kernel, by decide +kernel, rfl⟩
theorem fJ5_setLength_d00df_73 : FL wsJ5_setLength_d00df RJ5 73 0 2 .boolean false := ⟨_, rfl, by decide, Or.inl ⟨"java/lang/AbstractStringBuilder", by decide +kernel, Or.inl rfl⟩, by decide +kernel, by decide +kernel, rfl⟩
set_option maxHeartbeats 4000000 in
set_option maxRecDepth 100000 in
theorem c_J5_setLength_d00df (l : Launch) (G : GG) {h : Hp} {a d : Nat} {t : List Nat} (hA : SbAt h a d t) : Con l G yJ5_setLength_d00df wsJ5_setLength_d00df 4 90 1 402 [.ref a, .int (nI 0)] h (pV (fun h2 => SbAt h2 a d [] ∧ Fr (fun q => q = a) h h2)) := by
  refine Con.of (cc := cJ5_setLength_d00df) (nL := 2) (ret := none) (by decide) rfl rfl rfl rfl (fun Γ hG hl X Y9 => ?_)
  subst hG
  subst hl
  refine V.wf (fun w => ?_)
  obtain ⟨N, k0, k1, k2, k3, k4, k5, k6, k7, k8, k9⟩ := id hA
  refine V.iload_n X dJ5_setLength_d00df_0 rfl ?_
  refine V.if_ge 13 X dJ5_setLength_d00df_1 (by decide) (fun c1 => ?_) (fun c1 => absurd (by decide) c1)
  refine V.aload_n X dJ5_setLength_d00df_13 rfl ?_
  refine V.iload_n X dJ5_setLength_d00df_14 rfl ?_
  refine V.callUv (n := 1) X dJ5_setLength_d00df_15 gJ5_setLength_d00df_J5_ensureCapacityInternal_d00df_u100J4 (c_J5_ensure0 _ _ k0 k1 k2 k4 (by omega) (Nat.zero_le _)) rfl rfl (by decide +kernel) rfl rfl rfl (by assumption) rfl rfl ⟨Nat.le_of_ble_eq_true rfl, Nat.le_of_ble_eq_true rfl⟩ (fun h15 hp15 => ?_)
  obtain rfl := hp15.symm
  refine V.aload_n X dJ5_setLength_d00df_18 rfl ?_
  refine V.getf  X fJ5_setLength_d00df_79 dJ5_setLength_d00df_19 (by assumption) (by assumption) ?_
  refine V.iload_n X dJ5_setLength_d00df_22 rfl ?_
  refine V.icmp_ge 63 X dJ5_setLength_d00df_23 (by decide) (fun c23 => ?_) (fun c23 => absurd (nI_le (Nat.zero_le _) (by omega)) c23)
  refine V.aload_n X dJ5_setLength_d00df_63 rfl ?_
  refine V.getf  X fJ5_setLength_d00df_79 dJ5_setLength_d00df_64 (by assumption) (by assumption) ?_
  refine V.iload_n X dJ5_setLength_d00df_67 rfl ?_
  refine V.icmp_le 76 X dJ5_setLength_d00df_68 (by decide) (fun c68 => ?_) (fun c68 => ?_)
  · refine V.aload_n X dJ5_setLength_d00df_76 rfl ?_
    refine V.iload_n X dJ5_setLength_d00df_77 rfl ?_
    refine V.putf X fJ5_setLength_d00df_79 dJ5_setLength_d00df_78 (by assumption) rfl rfl ?_
    exact V.vret X Y9 dJ5_setLength_d00df_81 ⟨rfl, SbAt.cut hA w (by first | exact (Fr.rf (S := fun q => q = a)).thenPut (Or.inl rfl) | exact ((Fr.rf (S := fun q => q = a)).thenPut (Or.inl rfl)).thenPut (Or.inl rfl)) (by simp [Hv_put, k1]) (by simp [Hv_put, k2]) (by simp [Hv_put]), (by first | exact (Fr.rf (S := fun q => q = a)).thenPut (Or.inl rfl) | exact ((Fr.rf (S := fun q => q = a)).thenPut (Or.inl rfl)).thenPut (Or.inl rfl))⟩ (Nat.le_of_ble_eq_true rfl) (Nat.le_of_ble_eq_true rfl)
  · skip
    refine V.aload_n X dJ5_setLength_d00df_71 rfl ?_
    refine V.iconst (v := nI 1) X dJ5_setLength_d00df_72 (by decide) ?_
    refine V.putf X fJ5_setLength_d00df_73 dJ5_setLength_d00df_73 (by assumption) rfl rfl ?_
    refine V.aload_n X dJ5_setLength_d00df_76 rfl ?_
    refine V.iload_n X dJ5_setLength_d00df_77 rfl ?_
    refine V.putf X fJ5_setLength_d00df_79 dJ5_setLength_d00df_78 (by assumption) rfl rfl ?_
    exact V.vret X Y9 dJ5_setLength_d00df_81 ⟨rfl, SbAt.cut hA w (by first | exact (Fr.rf (S := fun q => q = a)).thenPut (Or.inl rfl) | exact ((Fr.rf (S := fun q => q = a)).thenPut (Or.inl rfl)).thenPut (Or.inl rfl)) (by simp [Hv_put, k1]) (by simp [Hv_put, k2]) (by simp [Hv_put]), (by first | exact (Fr.rf (S := fun q => q = a)).thenPut (Or.inl rfl) | exact ((Fr.rf (S := fun q => q = a)).thenPut (Or.inl rfl)).thenPut (Or.inl rfl))⟩ (Nat.le_of_ble_eq_true rfl) (Nat.le_of_ble_eq_true rfl)
set_option maxHeartbeats 4000000 in
set_option maxRecDepth 100000 in
theorem c_J4_setLength_d00df (l : Launch) (G : GG) {h : Hp} {a d : Nat} {t : List Nat} (hA : SbAt h a d t) : Con l G yJ4_setLength_d00df wsJ4_setLength_d00df 5 111 1 402 [.ref a, .int (nI 0)] h (pV (fun h2 => SbAt h2 a d [] ∧ Fr (fun q => q = a) h h2)) := by
  refine Con.of (cc := cJ4_setLength_d00df) (nL := 2) (ret := none) (by decide) rfl rfl rfl rfl (fun Γ hG hl X Y9 => ?_)
  subst hG
  subst hl
  refine V.aload_n X dJ4_setLength_d00df_0 rfl ?_
  refine V.iload_n X dJ4_setLength_d00df_1 rfl ?_
  refine V.callSUv (n := 1) X dJ4_setLength_d00df_2 gJ4_setLength_d00df_J5_setLength_d00df_s333 (c_J5_setLength_d00df _ _ hA) rfl (by decide +kernel) rfl rfl rfl hA.ob rfl ⟨Nat.le_of_ble_eq_true rfl, Nat.le_of_ble_eq_true rfl⟩ (fun h2 hp2 => ?_)
  exact V.vret X Y9 dJ4_setLength_d00df_5 ⟨rfl, hp2⟩ (Nat.le_of_ble_eq_true rfl) (Nat.le_of_ble_eq_true rfl)
theorem fJ5_init_d00df_15 : FL wsJ5_init_d00df RJ5 15 0 0 (.array .byte) false := ⟨_, rfl, by decide, Or.inl ⟨"java/lang/AbstractStringBuilder", by decide +kernel, Or.inl rfl⟩, by decide +kernel, by decide +kernel, rfl⟩
theorem fJ5_init_d00df_22 : FL wsJ5_init_d00df RJ5 22 0 1 .byte false := ⟨_, rfl, by decide, Or.inl ⟨"java/lang/AbstractStringBuilder", by decide +kernel, Or.inl rfl⟩, by decide +kernel, by decide +kernel, rfl⟩
set_option maxHeartbeats 4000000 in
set_option maxRecDepth 100000 in
theorem c_J5_init_d00df (l : Launch) (G : GG) {h : Hp} {a : Nat} (k0 : Hk h a = some (.inl 0)) (k3 : Hv h a 3 = .int 0) : Con l G yJ5_init_d00df wsJ5_init_d00df 1 20 1 16 [.ref a, .int (nI 16)] h (pV (fun h2 => SbAt h2 a (Hz h) [] ∧ Fr (fun q => q = a) h h2 ∧ Hz h2 = Hz h + 1)) := by
  refine Con.of (cc := cJ5_init_d00df) (nL := 2) (ret := none) (by decide) rfl rfl rfl rfl (fun Γ hG hl X Y9 => ?_)
  subst hG
  subst hl
  refine V.wf (fun w => ?_)
  have ha := w _ _ k0
  have haz : ¬ a = Hz h := by omega
  have hza : ¬ Hz h = a := by omega
  refine V.aload_n X dJ5_init_d00df_0 rfl ?_
  refine V.objInit X dJ5_init_d00df_1 (by decide +kernel) (by decide +kernel) (by decide +kernel) rfl ?_
  refine V.gets (v := fun _ => .int 1) X dJ5_init_d00df_4 (fun G s hG => hG.1) (by decide +kernel) ?_
  refine V.if_eq 25 X dJ5_init_d00df_7 (by decide) (fun c7 => absurd c7 (by decide)) (fun c7 => ?_)
  refine V.aload_n X dJ5_init_d00df_10 rfl ?_
  refine V.iload_n X dJ5_init_d00df_11 rfl ?_
  refine V.newB (N := 16) X dJ5_init_d00df_12 (by decide +kernel) rfl (by omega) (by omega) (by omega) ?_
  refine V.putf X fJ5_init_d00df_15 dJ5_init_d00df_14 (by rw [Hk_new, if_neg haz]; exact k0) rfl rfl ?_
  refine V.aload_n X dJ5_init_d00df_17 rfl ?_
  refine V.iconst (v := nI 0) X dJ5_init_d00df_18 (by decide) ?_
  refine V.putf X fJ5_init_d00df_22 dJ5_init_d00df_19 (by rw [Hk_put, Hk_new, if_neg haz]; exact k0) rfl rfl ?_
  refine V.goto 38 X dJ5_init_d00df_22 (by decide) ?_
  exact V.vret X Y9 dJ5_init_d00df_38 ⟨rfl, ⟨16, by rw [Hk_put, Hk_put, Hk_new, if_neg haz]; exact k0, by rw [Hv_put_k _ _ _ _ (by decide), Hv_put_at], by rw [Hv_put_at], by rw [Hv_put_k _ _ _ _ (by decide), Hv_put_k _ _ _ _ (by decide), Hv_new, if_neg haz, k3]; rfl, by rw [Hk_put, Hk_put, Hk_new, if_pos rfl], by simp, by omega, fun i hi => by simp at hi, fun i hi => by simp at hi, fun j hj => ⟨0, by rw [Hv_put_a _ _ _ _ hza, Hv_put_a _ _ _ _ hza, Hv_new, if_pos rfl], fit_b0⟩⟩, ((Fr.rf (S := fun q => q = a)).thenNew.thenPut (Or.inl rfl)).thenPut (Or.inl rfl), rfl⟩ (Nat.le_of_ble_eq_true rfl) (Nat.le_of_ble_eq_true rfl)
set_option maxHeartbeats 4000000 in
set_option maxRecDepth 100000 in
theorem c_J4_init_da8c8 (l : Launch) (G : GG) {h : Hp} {a : Nat} (k0 : Hk h a = some (.inl 0)) (k3 : Hv h a 3 = .int 0) : Con l G yJ4_init_da8c8 wsJ4_init_da8c8 2 41 1 16 [.ref a] h (pV (fun h2 => SbAt h2 a (Hz h) [] ∧ Fr (fun q => q = a) h h2 ∧ Hz h2 = Hz h + 1)) := by
  refine Con.of (cc := cJ4_init_da8c8) (nL := 1) (ret := none) (by decide) rfl rfl rfl rfl (fun Γ hG hl X Y9 => ?_)
  subst hG
  subst hl
  refine V.aload_n X dJ4_init_da8c8_0 rfl ?_
  refine V.bipush (v := nI 16) X dJ4_init_da8c8_1 (by decide) ?_
  refine V.callIv (n := 1) X dJ4_init_da8c8_3 gJ4_init_da8c8_J5_init_d00df (c_J5_init_d00df _ _ k0 k3) rfl (by decide +kernel) (by decide +kernel) (by decide +kernel) rfl (by decide +kernel) rfl rfl rfl ⟨Nat.le_of_ble_eq_true rfl, Nat.le_of_ble_eq_true rfl⟩ (fun h3 hp3 => ?_)
  exact V.vret X Y9 dJ4_init_da8c8_6 ⟨rfl, hp3⟩ (Nat.le_of_ble_eq_true rfl) (Nat.le_of_ble_eq_true rfl)
set_option maxHeartbeats 4000000 in
set_option maxRecDepth 100000 in
theorem c_J0_coder_7d493 (l : Launch) (G : GG) {h : Hp} {i : Nat} (hi : i < 7) : Con l G yJ0_coder_7d493 wsJ0_coder_7d493 0 0 0 0 [.ref (gK G i)] h (fun v h2 => v = some (.int (nI 0)) ∧ h2 = h) := by
  refine Con.of (cc := cJ0_coder_7d493) (nL := 1) (ret := (some .byte)) (by decide) rfl rfl rfl rfl (fun Γ hG hl X Y9 => ?_)
  subst hG
  subst hl
  refine V.gets (v := fun _ => .int 1) X dJ0_coder_7d493_0 (fun G s hG => hG.1) (by decide +kernel) ?_
  refine V.if_eq 13 X dJ0_coder_7d493_3 (by decide) (fun c3 => absurd c3 (by decide)) (fun c3 => ?_)
  refine V.aload_n X dJ0_coder_7d493_6 rfl ?_
  refine V.getK (n := "coder") (d := "B") (v := fun _ => .int 0) X dJ0_coder_7d493_7 (fun G s hG => (hG.2.2.2.2.2.1.1 i hi).2.1) (by decide +kernel) ?_
  refine V.goto 14 X dJ0_coder_7d493_10 (by decide) ?_
  exact V.zret X Y9 dJ0_coder_7d493_14 rfl ⟨rfl, rfl⟩ (by omega) (by omega)
set_option maxHeartbeats 4000000 in
set_option maxRecDepth 100000 in
theorem c_J0_isLatin1_aae02 (l : Launch) (G : GG) {h : Hp} {i : Nat} (hi : i < 7) : Con l G yJ0_isLatin1_aae02 wsJ0_isLatin1_aae02 0 0 0 0 [.ref (gK G i)] h (pI (fun r h2 => r = 1 ∧ h2 = h)) := by
  refine Con.of (cc := cJ0_isLatin1_aae02) (nL := 1) (ret := (some .boolean)) (by decide) rfl rfl rfl rfl (fun Γ hG hl X Y9 => ?_)
  subst hG
  subst hl
  refine V.gets (v := fun _ => .int 1) X dJ0_isLatin1_aae02_0 (fun G s hG => hG.1) (by decide +kernel) ?_
  refine V.if_eq 17 X dJ0_isLatin1_aae02_3 (by decide) (fun c3 => absurd c3 (by decide)) (fun c3 => ?_)
  refine V.aload_n X dJ0_isLatin1_aae02_6 rfl ?_
  refine V.getK (n := "coder") (d := "B") (v := fun _ => .int 0) X dJ0_isLatin1_aae02_7 (fun G s hG => (hG.2.2.2.2.2.1.1 i hi).2.1) (by decide +kernel) ?_
  refine V.if_ne 17 X dJ0_isLatin1_aae02_10 (by decide) (fun c10 => absurd (by decide) c10) (fun c10 => ?_)
  refine V.iconst (v := nI 1) X dJ0_isLatin1_aae02_13 (by decide) ?_
  refine V.goto 18 X dJ0_isLatin1_aae02_14 (by decide) ?_
  exact V.bret X Y9 dJ0_isLatin1_aae02_18 true (by decide) ⟨by decide, rfl⟩ (Nat.le_of_ble_eq_true rfl) (Nat.le_of_ble_eq_true rfl)
set_option maxHeartbeats 4000000 in
set_option maxRecDepth 100000 in
theorem c_J1_charAt_3b067 (l : Launch) (G : GG) {h : Hp} {i k : Nat} (hi : i < 7) (hk : k < lenS.getD i 0) : Con l G yJ1_charAt_3b067 wsJ1_charAt_3b067 2 43 0 0 [.ref (gV G i), .int (nI k)] h (fun v h2 => v = some (.int (nI (chS i k))) ∧ h2 = h) := by
  refine Con.of (cc := cJ1_charAt_3b067) (nL := 2) (ret := (some .char)) (by decide) rfl rfl rfl rfl (fun Γ hG hl X Y9 => ?_)
  subst hG
  subst hl
  have hlen := lenS_lt i hi
  refine V.iload_n X dJ1_charAt_3b067_0 rfl ?_
  refine V.aload_n X dJ1_charAt_3b067_1 rfl ?_
  refine V.alenT X dJ1_charAt_3b067_2 (fun G s hG => (hG.2.2.2.2.2.1.1 i hi).2.2.2) ?_
  refine V.callSv (n := 2) X dJ1_charAt_3b067_3 gJ1_charAt_3b067_J0_checkIndex_df160 (c_J0_checkIndex_df160 _ _ hk (by omega)) rfl (by decide +kernel) rfl rfl rfl ⟨Nat.le_of_ble_eq_true rfl, Nat.le_of_ble_eq_true rfl⟩ (fun h3 hp3 => ?_)
  obtain rfl := hp3.symm
  refine V.aload_n X dJ1_charAt_3b067_6 rfl ?_
  refine V.iload_n X dJ1_charAt_3b067_7 rfl ?_
  refine V.baldT (j := k) X dJ1_charAt_3b067_8 (fun G s hG => (hG.2.2.2.2.2.1.1 i hi).2.2.2) rfl hk (by omega) ?_
  refine V.sipush (v := nI 255) X dJ1_charAt_3b067_9 (by decide) ?_
  refine V.iand X dJ1_charAt_3b067_12 ?_
  refine V.i2c (v := nI (chS i k)) X dJ1_charAt_3b067_13 (chS_c i k hi hk) ?_
  exact V.zret X Y9 dJ1_charAt_3b067_14 (nar_ch (chS_lt i k hi hk)) ⟨rfl, rfl⟩ (by omega) (by omega)
set_option maxHeartbeats 4000000 in
set_option maxRecDepth 100000 in
theorem c_J0_charAt_5068e (l : Launch) (G : GG) {h : Hp} {i k : Nat} (hi : i < 7) (hk : k < lenS.getD i 0) : Con l G yJ0_charAt_5068e wsJ0_charAt_5068e 3 64 0 0 [.ref (gK G i), .int (nI k)] h (fun v h2 => v = some (.int (nI (chS i k))) ∧ h2 = h) := by
  refine Con.of (cc := cJ0_charAt_5068e) (nL := 2) (ret := (some .char)) (by decide) rfl rfl rfl rfl (fun Γ hG hl X Y9 => ?_)
  subst hG
  subst hl
  refine V.aload_n X dJ0_charAt_5068e_0 rfl ?_
  refine V.callVK (n := 0) X dJ0_charAt_5068e_1 gJ0_charAt_5068e_J0_isLatin1_aae02 (c_J0_isLatin1_aae02 _ _ hi) hi rfl (by decide +kernel) rfl rfl rfl ⟨by omega, by omega⟩ (fun r1 h1 hp1 => ?_)
  obtain ⟨rfl, e9⟩ := hp1; obtain rfl := e9.symm
  refine V.if_eq 16 X dJ0_charAt_5068e_4 (by decide) (fun c4 => absurd c4 (by decide)) (fun c4 => ?_)
  refine V.aload_n X dJ0_charAt_5068e_7 rfl ?_
  refine V.getK (n := "value") (d := "[B") (v := fun G => .ref (gV G i)) X dJ0_charAt_5068e_8 (fun G s hG => (hG.2.2.2.2.2.1.1 i hi).2.2.1) (by decide +kernel) ?_
  refine V.iload_n X dJ0_charAt_5068e_11 rfl ?_
  refine V.callS (n := 2) X dJ0_charAt_5068e_12 gJ0_charAt_5068e_J1_charAt_3b067 (c_J1_charAt_3b067 _ _ hi hk) rfl (by decide +kernel) rfl rfl rfl ⟨by omega, by omega⟩ (fun v2 h2 hp2 => ?_)
  obtain ⟨rfl, e9⟩ := hp2; obtain rfl := e9.symm
  exact V.zret X Y9 dJ0_charAt_5068e_15 (nar_ch (chS_lt i k hi hk)) ⟨rfl, rfl⟩ (by omega) (by omega)
set_option maxHeartbeats 4000000 in
set_option maxRecDepth 100000 in
theorem c_J0_length_8abf5 (l : Launch) (G : GG) {h : Hp} {i : Nat} (hi : i < 7) : Con l G yJ0_length_8abf5 wsJ0_length_8abf5 1 20 0 0 [.ref (gK G i)] h (pI (fun r h2 => r = nI (lenS.getD i 0) ∧ h2 = h)) := by
  refine Con.of (cc := cJ0_length_8abf5) (nL := 1) (ret := (some .int)) (by decide) rfl rfl rfl rfl (fun Γ hG hl X Y9 => ?_)
  subst hG
  subst hl
  have hlen := lenS_lt i hi
  refine V.aload_n X dJ0_length_8abf5_0 rfl ?_
  refine V.getK (n := "value") (d := "[B") (v := fun G => .ref (gV G i)) X dJ0_length_8abf5_1 (fun G s hG => (hG.2.2.2.2.2.1.1 i hi).2.2.1) (by decide +kernel) ?_
  refine V.alenT X dJ0_length_8abf5_4 (fun G s hG => (hG.2.2.2.2.2.1.1 i hi).2.2.2) ?_
  refine V.aload_n X dJ0_length_8abf5_5 rfl ?_
  refine V.callVKg (n := 0) X dJ0_length_8abf5_6 gJ0_length_8abf5_J0_coder_7d493 (c_J0_coder_7d493 _ _ hi) hi rfl (by decide +kernel) rfl rfl rfl ⟨by omega, by omega⟩ (fun v1 h1 hp1 => ?_)
  obtain ⟨rfl, e9⟩ := hp1; obtain rfl := e9.symm
  refine V.ishr X dJ0_length_8abf5_9 ?_
  rw [show nI (lenS.getD i 0) >>> ((nI 0) &&& 31) = nI (lenS.getD i 0) from shr0 _]
  exact V.iret X Y9 dJ0_length_8abf5_10 ⟨rfl, rfl⟩ (Nat.le_of_ble_eq_true rfl) (Nat.le_of_ble_eq_true rfl)
set_option maxHeartbeats 4000000 in
set_option maxRecDepth 100000 in
theorem c_Jxa1e45_init_da8c8 (l : Launch) (G : GG) {h : Hp} {a : Nat} : Con l G yJxa1e45_init_da8c8 wsJxa1e45_init_da8c8 1 20 0 0 [.ref a] h (pV (fun h2 => h2 = h)) := by
  refine Con.of (cc := cJxa1e45_init_da8c8) (nL := 1) (ret := none) (by decide) rfl rfl rfl rfl (fun Γ hG hl X Y9 => ?_)
  subst hG
  subst hl
  refine V.aload_n X dJxa1e45_init_da8c8_0 rfl ?_
  refine V.objInit X dJxa1e45_init_da8c8_1 (by decide +kernel) (by decide +kernel) (by decide +kernel) rfl ?_
  exact V.vret X Y9 dJxa1e45_init_da8c8_4 ⟨rfl, rfl⟩ (Nat.le_of_ble_eq_true rfl) (Nat.le_of_ble_eq_true rfl)
theorem fJxc12de_init_da8c8_7 : FL wsJxc12de_init_da8c8 RJxc12de 7 1 0 .int false := ⟨_, rfl, by decide, Or.inl ⟨"java/util/AbstractList", by decide +kernel, Or.inl rfl⟩, by decide +kernel, by decide +kernel, rfl⟩
set_option maxHeartbeats 4000000 in
set_option maxRecDepth 100000 in
theorem c_Jxc12de_init_da8c8 (l : Launch) (G : GG) {h : Hp} {a : Nat} (k0 : Hk h a = some (.inl 1)) : Con l G yJxc12de_init_da8c8 wsJxc12de_init_da8c8 2 40 0 0 [.ref a] h (pV (fun h2 => h2 = Hput h a 0 (.int (nI 0)))) := by
  refine Con.of (cc := cJxc12de_init_da8c8) (nL := 1) (ret := none) (by decide) rfl rfl rfl rfl (fun Γ hG hl X Y9 => ?_)
  subst hG
  subst hl
  refine V.aload_n X dJxc12de_init_da8c8_0 rfl ?_
  refine V.callIv (n := 0) X dJxc12de_init_da8c8_1 gJxc12de_init_da8c8_Jxa1e45_init_da8c8 (c_Jxa1e45_init_da8c8 _ _) rfl (by decide +kernel) (by decide +kernel) (by decide +kernel) rfl (by decide +kernel) rfl rfl rfl ⟨Nat.le_of_ble_eq_true rfl, Nat.le_of_ble_eq_true rfl⟩ (fun h1 hp1 => ?_)
  obtain rfl := hp1.symm
  refine V.aload_n X dJxc12de_init_da8c8_4 rfl ?_
  refine V.iconst (v := nI 0) X dJxc12de_init_da8c8_5 (by decide) ?_
  refine V.putf X fJxc12de_init_da8c8_7 dJxc12de_init_da8c8_6 k0 rfl rfl ?_
  exact V.vret X Y9 dJxc12de_init_da8c8_9 ⟨rfl, rfl⟩ (Nat.le_of_ble_eq_true rfl) (Nat.le_of_ble_eq_true rfl)
theorem fJx4a65c_init_da8c8_9 : FL wsJx4a65c_init_da8c8 RJx4a65c 9 1 1 (.array (.object "java/lang/Object")) false := ⟨_, rfl, by decide, Or.inl ⟨"java/util/ArrayList", by decide +kernel, Or.inl rfl⟩, by decide +kernel, by decide +kernel, rfl⟩
set_option maxHeartbeats 4000000 in
set_option maxRecDepth 100000 in
theorem c_Jx4a65c_init_da8c8 (l : Launch) (G : GG) {P : Nat → Prop} {h : Hp} {a : Nat} (k0 : Hk h a = some (.inl 1)) (k2 : Hv h a 2 = .int 0) : Con l G yJx4a65c_init_da8c8 wsJx4a65c_init_da8c8 3 60 0 0 [.ref a] h (pV (fun h2 => LsAt P G h2 a [] ∧ Fr (fun q => q = a) h h2 ∧ Hz h2 = Hz h)) := by
  refine Con.of (cc := cJx4a65c_init_da8c8) (nL := 1) (ret := none) (by decide) rfl rfl rfl rfl (fun Γ hG hl X Y9 => ?_)
  subst hG
  subst hl
  refine V.aload_n X dJx4a65c_init_da8c8_0 rfl ?_
  refine V.callIv (n := 0) X dJx4a65c_init_da8c8_1 gJx4a65c_init_da8c8_Jxc12de_init_da8c8 (c_Jxc12de_init_da8c8 _ _ k0) rfl (by decide +kernel) (by decide +kernel) (by decide +kernel) rfl (by decide +kernel) rfl rfl rfl ⟨Nat.le_of_ble_eq_true rfl, Nat.le_of_ble_eq_true rfl⟩ (fun h1 hp1 => ?_)
  obtain rfl := hp1.symm
  refine V.aload_n X dJx4a65c_init_da8c8_4 rfl ?_
  refine V.gets (v := fun G => .ref (gE G)) X dJx4a65c_init_da8c8_5 (fun G s hG => hG.2.1) (by decide +kernel) ?_
  refine V.putf X fJx4a65c_init_da8c8_9 dJx4a65c_init_da8c8_8 k0 rfl rfl ?_
  exact V.vret X Y9 dJx4a65c_init_da8c8_11 ⟨rfl, ⟨k0, ⟨_, by rw [Hv_put_k _ _ _ _ (by decide), Hv_put_at]⟩, by rw [Hv_put_k _ _ _ _ (by decide), Hv_put_k _ _ _ _ (by decide), k2]; rfl, Or.inl ⟨rfl, by rw [Hv_put_at]⟩⟩, ((Fr.rf (S := fun q => q = a)).thenPut (Or.inl rfl)).thenPut (Or.inl rfl), rfl⟩ (Nat.le_of_ble_eq_true rfl) (Nat.le_of_ble_eq_true rfl)
theorem fJx4a65c_grow_92f84_9 : FL wsJx4a65c_grow_92f84 RJx4a65c 9 1 1 (.array (.object "java/lang/Object")) false := ⟨_, rfl, by decide, Or.inl ⟨"java/util/ArrayList", by decide +kernel, Or.inl rfl⟩, by decide +kernel, by decide +kernel, rfl⟩
set_option maxHeartbeats 4000000 in
set_option maxRecDepth 100000 in
theorem c_Jx4a65c_grow_92f84 (l : Launch) (G : GG) {h : Hp} {a : Nat} (k0 : Hk h a = some (.inl 1)) (k1 : Hv h a 1 = .ref (gE G)) : Con l G yJx4a65c_grow_92f84 wsJx4a65c_grow_92f84 1 20 1 10 [.ref a, .int (nI 1)] h (pR (fun r h2 => r = .ref (Hz h) ∧ h2 = Hput (Hnew h (.inr (2, 10)) (fun _ => .null)) a 1 (.ref (Hz h)))) := by
  refine Con.of (cc := cJx4a65c_grow_92f84) (nL := 4) (ret := (some (.array (.object "java/lang/Object")))) (by decide) rfl rfl rfl rfl (fun Γ hG hl X Y9 => ?_)
  subst hG
  subst hl
  refine V.wf (fun w => ?_)
  have ha := w _ _ k0
  refine V.aload_n X dJx4a65c_grow_92f84_0 rfl ?_
  refine V.getf  X fJx4a65c_grow_92f84_9 dJx4a65c_grow_92f84_1 (by assumption) (by assumption) ?_
  refine V.alenT (t := gE) X dJx4a65c_grow_92f84_4 (fun G s hG => hG.2.2.1) ?_
  refine V.istore_n X dJx4a65c_grow_92f84_5 [(0, _), (1, _), (2, _)] rfl rfl rfl ?_
  refine V.iload_n X dJx4a65c_grow_92f84_6 rfl ?_
  refine V.if_gt 20 X dJx4a65c_grow_92f84_7 (by decide) (fun c7 => absurd c7 (by decide)) (fun c7 => ?_)
  refine V.aload_n X dJx4a65c_grow_92f84_10 rfl ?_
  refine V.getf  X fJx4a65c_grow_92f84_9 dJx4a65c_grow_92f84_11 (by assumption) (by assumption) ?_
  refine V.gets (v := fun G => .ref (gE G)) X dJx4a65c_grow_92f84_14 (fun G s hG => hG.2.1) (by decide +kernel) ?_
  refine V.acmp_eq X 45 dJx4a65c_grow_92f84_17 (by decide) (fun _ => ?_) (fun c => absurd rfl c)
  refine V.aload_n X dJx4a65c_grow_92f84_45 rfl ?_
  refine V.bipush (v := nI 10) X dJx4a65c_grow_92f84_46 (by decide) ?_
  refine V.iload_n X dJx4a65c_grow_92f84_48 rfl ?_
  refine V.max X dJx4a65c_grow_92f84_49 (by decide +kernel) (by decide +kernel) (by decide +kernel) (by decide +kernel) rfl ⟨by omega, by omega⟩ ?_
  rw [if_neg (show ¬ nI 10 < nI 1 by decide)]
  refine V.newA (t := 2) (C := "java/lang/Object") (N := 10) X dJx4a65c_grow_92f84_52 (by decide +kernel) rfl rfl rfl rfl rfl rfl ?_
  refine V.dup_x1 X dJx4a65c_grow_92f84_55 rfl rfl ?_
  refine V.putf X fJx4a65c_grow_92f84_9 dJx4a65c_grow_92f84_56 (by rw [Hk_new, if_neg (by omega)]; exact k0) rfl rfl ?_
  exact V.aret X Y9 (Or.inr ⟨_, rfl⟩) dJx4a65c_grow_92f84_59 (Or.inr ⟨_, rfl⟩) ⟨rfl, rfl⟩ (Nat.le_of_ble_eq_true rfl) (Nat.le_of_ble_eq_true rfl)
theorem fJx4a65c_grow_d5877_48 : FL wsJx4a65c_grow_d5877 RJx4a65c 48 1 2 .int false := ⟨_, rfl, by decide, Or.inl ⟨"java/util/ArrayList", by decide +kernel, Or.inl rfl⟩, by decide +kernel, by decide +kernel, rfl⟩
set_option maxHeartbeats 4000000 in
set_option maxRecDepth 100000 in
theorem c_Jx4a65c_grow_d5877 (l : Launch) (G : GG) {h : Hp} {a : Nat} (k0 : Hk h a = some (.inl 1)) (k1 : Hv h a 1 = .ref (gE G)) (k2 : Hv h a 2 = .int (nI 0)) : Con l G yJx4a65c_grow_d5877 wsJx4a65c_grow_d5877 2 43 1 10 [.ref a] h (pR (fun r h2 => r = .ref (Hz h) ∧ h2 = Hput (Hnew h (.inr (2, 10)) (fun _ => .null)) a 1 (.ref (Hz h)))) := by
  refine Con.of (cc := cJx4a65c_grow_d5877) (nL := 1) (ret := (some (.array (.object "java/lang/Object")))) (by decide) rfl rfl rfl rfl (fun Γ hG hl X Y9 => ?_)
  subst hG
  subst hl
  refine V.aload_n X dJx4a65c_grow_d5877_0 rfl ?_
  refine V.aload_n X dJx4a65c_grow_d5877_1 rfl ?_
  refine V.getf  X fJx4a65c_grow_d5877_48 dJx4a65c_grow_d5877_2 (by assumption) (by assumption) ?_
  refine V.iconst (v := nI 1) X dJx4a65c_grow_d5877_5 (by decide) ?_
  refine V.iadd X dJx4a65c_grow_d5877_6 ?_
  rw [nI_add]
  refine V.callVr (n := 1) X dJx4a65c_grow_d5877_7 gJx4a65c_grow_d5877_Jx4a65c_grow_92f84 (c_Jx4a65c_grow_92f84 _ _ k0 k1) rfl (by decide +kernel) rfl rfl rfl (by assumption) rfl rfl ⟨Nat.le_of_ble_eq_true rfl, Nat.le_of_ble_eq_true rfl⟩ (fun r7 h7 hp7 => ?_)
  obtain ⟨-, rfl, e9⟩ := hp7; obtain rfl := e9.symm
  exact V.aret X Y9 (Or.inr ⟨_, rfl⟩) dJx4a65c_grow_d5877_10 (Or.inr ⟨_, rfl⟩) ⟨rfl, rfl⟩ (Nat.le_of_ble_eq_true rfl) (Nat.le_of_ble_eq_true rfl)
theorem fJx4a65c_add_72be8_48 : FL wsJx4a65c_add_72be8 RJx4a65c 48 1 2 .int false := ⟨_, rfl, by decide, Or.inl ⟨"java/util/ArrayList", by decide +kernel, Or.inl rfl⟩, by decide +kernel, by decide +kernel, rfl⟩
set_option maxHeartbeats 4000000 in
set_option maxRecDepth 100000 in
theorem c_add_first (l : Launch) (G : GG) {h : Hp} {a e ci : Nat} (k0 : Hk h a = some (.inl 1)) (k1 : Hv h a 1 = .ref (gE G)) (k2 : Hv h a 2 = .int (nI 0)) (ke : Hk h e = some (.inl ci)) (hci : ci = 2 ∨ ci = 4 ∨ ci = 8) : Con l G yJx4a65c_add_72be8 wsJx4a65c_add_72be8 3 63 1 10 [.ref a, .ref e, .ref (gE G), .int (nI 0)] h (pV (fun h2 => h2 = Hput (Hput (Hput (Hnew h (.inr (2, 10)) (fun _ => .null)) a 1 (.ref (Hz h))) (Hz h) 0 (.ref e)) a 2 (.int (nI 1)))) := by
  refine Con.of (cc := cJx4a65c_add_72be8) (nL := 4) (ret := none) (by decide) rfl rfl rfl rfl (fun Γ hG hl X Y9 => ?_)
  subst hG
  subst hl
  refine V.wf (fun w => ?_)
  have ha := w _ _ k0
  have he := w _ _ ke
  refine V.iload_n X dJx4a65c_add_72be8_0 rfl ?_
  refine V.aload_n X dJx4a65c_add_72be8_1 rfl ?_
  refine V.alenT (t := gE) X dJx4a65c_add_72be8_2 (fun G s hG => hG.2.2.1) ?_
  refine V.icmp_ne 11 X dJx4a65c_add_72be8_3 (by decide) (fun c3 => absurd rfl c3) (fun c3 => ?_)
  refine V.aload_n X dJx4a65c_add_72be8_6 rfl ?_
  refine V.callVr (n := 0) X dJx4a65c_add_72be8_7 gJx4a65c_add_72be8_Jx4a65c_grow_d5877 (c_Jx4a65c_grow_d5877 _ _ k0 k1 k2) rfl (by decide +kernel) rfl rfl rfl (by assumption) rfl rfl ⟨Nat.le_of_ble_eq_true rfl, Nat.le_of_ble_eq_true rfl⟩ (fun r7 h7 hp7 => ?_)
  obtain ⟨-, rfl, e9⟩ := hp7; obtain rfl := e9.symm
  refine V.astore_n X dJx4a65c_add_72be8_10 [(0, _), (1, _), (2, _), (3, _)] rfl rfl rfl ?_
  refine V.aload_n X dJx4a65c_add_72be8_11 rfl ?_
  refine V.iload_n X dJx4a65c_add_72be8_12 rfl ?_
  refine V.aload_n X dJx4a65c_add_72be8_13 rfl ?_
  refine V.aastO (j := 0) X dJx4a65c_add_72be8_14 (show Hk _ (Hz h) = _ by rw [Hk_put, Hk_new, if_pos rfl]) rfl (by omega) (by omega) (show Hk _ e = _ by rw [Hk_put, Hk_new, if_neg (by omega)]; exact ke) hci ?_
  refine V.aload_n X dJx4a65c_add_72be8_15 rfl ?_
  refine V.iload_n X dJx4a65c_add_72be8_16 rfl ?_
  refine V.iconst (v := nI 1) X dJx4a65c_add_72be8_17 (by decide) ?_
  refine V.iadd X dJx4a65c_add_72be8_18 ?_
  rw [nI_add]
  refine V.putf X fJx4a65c_add_72be8_48 dJx4a65c_add_72be8_19 (by rw [Hk_put, Hk_put, Hk_new, if_neg (by omega)]; exact k0) rfl rfl ?_
  exact V.vret X Y9 dJx4a65c_add_72be8_22 ⟨rfl, rfl⟩ (Nat.le_of_ble_eq_true rfl) (Nat.le_of_ble_eq_true rfl)
set_option maxHeartbeats 4000000 in
set_option maxRecDepth 100000 in
theorem c_add_more (l : Launch) (G : GG) {h : Hp} {a e ci d n : Nat} (k0 : Hk h a = some (.inl 1)) (kd : Hk h d = some (.inr (2, 10))) (hn : n < 10) (ke : Hk h e = some (.inl ci)) (hci : ci = 2 ∨ ci = 4 ∨ ci = 8) : Con l G yJx4a65c_add_72be8 wsJx4a65c_add_72be8 3 63 1 10 [.ref a, .ref e, .ref d, .int (nI n)] h (pV (fun h2 => h2 = Hput (Hput h d n (.ref e)) a 2 (.int (nI (n + 1))))) := by
  refine Con.of (cc := cJx4a65c_add_72be8) (nL := 4) (ret := none) (by decide) rfl rfl rfl rfl (fun Γ hG hl X Y9 => ?_)
  subst hG
  subst hl
  refine V.iload_n X dJx4a65c_add_72be8_0 rfl ?_
  refine V.aload_n X dJx4a65c_add_72be8_1 rfl ?_
  refine V.alen X dJx4a65c_add_72be8_2 kd ?_
  refine V.icmp_ne 11 X dJx4a65c_add_72be8_3 (by decide) (fun c3 => ?_) (fun c3 => absurd c3 (fun z => absurd ((nI_eq (by omega) (by decide)).mp z) (by omega)))
  refine V.aload_n X dJx4a65c_add_72be8_11 rfl ?_
  refine V.iload_n X dJx4a65c_add_72be8_12 rfl ?_
  refine V.aload_n X dJx4a65c_add_72be8_13 rfl ?_
  refine V.aastO (j := n) X dJx4a65c_add_72be8_14 kd rfl (by omega) (by omega) ke hci ?_
  refine V.aload_n X dJx4a65c_add_72be8_15 rfl ?_
  refine V.iload_n X dJx4a65c_add_72be8_16 rfl ?_
  refine V.iconst (v := nI 1) X dJx4a65c_add_72be8_17 (by decide) ?_
  refine V.iadd X dJx4a65c_add_72be8_18 ?_
  rw [nI_add]
  refine V.putf X fJx4a65c_add_72be8_48 dJx4a65c_add_72be8_19 k0 rfl rfl ?_
  exact V.vret X Y9 dJx4a65c_add_72be8_22 ⟨rfl, rfl⟩ (Nat.le_of_ble_eq_true rfl) (Nat.le_of_ble_eq_true rfl)
theorem fJx4a65c_add_9ea2d_63 : FL wsJx4a65c_add_9ea2d RJx4a65c 63 1 0 .int false := ⟨_, rfl, by decide, Or.inl ⟨"java/util/ArrayList", by decide +kernel, Or.inr (by decide +kernel)⟩, by decide +kernel, by decide +kernel, rfl⟩
theorem fJx4a65c_add_9ea2d_9 : FL wsJx4a65c_add_9ea2d RJx4a65c 9 1 1 (.array (.object "java/lang/Object")) false := ⟨_, rfl, by decide, Or.inl ⟨"java/util/ArrayList", by decide +kernel, Or.inl rfl⟩, by decide +kernel, by decide +kernel, rfl⟩
theorem fJx4a65c_add_9ea2d_48 : FL wsJx4a65c_add_9ea2d RJx4a65c 48 1 2 .int false := ⟨_, rfl, by decide, Or.inl ⟨"java/util/ArrayList", by decide +kernel, Or.inl rfl⟩, by decide +kernel, by decide +kernel, rfl⟩
set_option maxHeartbeats 4000000 in
set_option maxRecDepth 100000 in
theorem c_add9_first (l : Launch) (G : GG) {h : Hp} {a e ci : Nat} {x : Int32} (k0 : Hk h a = some (.inl 1)) (kx : Hv h a 0 = .int x) (ke : Hk h e = some (.inl ci)) (hci : ci = 2 ∨ ci = 4 ∨ ci = 8) (k1 : Hv h a 1 = .ref (gE G)) (k2 : Hv h a 2 = .int (nI 0)) : Con l G yJx4a65c_add_9ea2d wsJx4a65c_add_9ea2d 4 86 1 10 [.ref a, .ref e] h (pI (fun r h2 => r = 1 ∧ h2 = Hput (Hput (Hput (Hnew (Hput h a 0 (.int (x + nI 1))) (.inr (2, 10)) (fun _ => .null)) a 1 (.ref (Hz h))) (Hz h) 0 (.ref e)) a 2 (.int (nI 1)))) := by
  refine Con.of (cc := cJx4a65c_add_9ea2d) (nL := 2) (ret := (some .boolean)) (by decide) rfl rfl rfl rfl (fun Γ hG hl X Y9 => ?_)
  subst hG
  subst hl
  refine V.aload_n X dJx4a65c_add_9ea2d_0 rfl ?_
  refine V.dup X dJx4a65c_add_9ea2d_1 rfl ?_
  refine V.getf  X fJx4a65c_add_9ea2d_63 dJx4a65c_add_9ea2d_2 k0 kx ?_
  refine V.iconst (v := nI 1) X dJx4a65c_add_9ea2d_5 (by decide) ?_
  refine V.iadd X dJx4a65c_add_9ea2d_6 ?_
  refine V.putf X fJx4a65c_add_9ea2d_63 dJx4a65c_add_9ea2d_7 k0 rfl rfl ?_
  refine V.aload_n X dJx4a65c_add_9ea2d_10 rfl ?_
  refine V.aload_n X dJx4a65c_add_9ea2d_11 rfl ?_
  refine V.aload_n X dJx4a65c_add_9ea2d_12 rfl ?_
  refine V.getf (v := .ref (gE (cxG Γ))) X fJx4a65c_add_9ea2d_9 dJx4a65c_add_9ea2d_13 k0 (by rw [Hv_put_k _ _ _ _ (by decide)]; exact k1) ?_
  refine V.aload_n X dJx4a65c_add_9ea2d_16 rfl ?_
  refine V.getf (v := .int (nI 0)) X fJx4a65c_add_9ea2d_48 dJx4a65c_add_9ea2d_17 k0 (by rw [Hv_put_k _ _ _ _ (by decide)]; exact k2) ?_
  refine V.callVv (n := 3) X dJx4a65c_add_9ea2d_20 gJx4a65c_add_9ea2d_Jx4a65c_add_72be8 (c_add_first _ _ k0 (by rw [Hv_put_k _ _ _ _ (by decide)]; exact k1) (by rw [Hv_put_k _ _ _ _ (by decide)]; exact k2) ke hci) rfl (by decide +kernel) rfl rfl rfl k0 rfl rfl ⟨Nat.le_of_ble_eq_true rfl, Nat.le_of_ble_eq_true rfl⟩ (fun h20 hp20 => ?_)
  subst hp20
  refine V.iconst (v := nI 1) X dJx4a65c_add_9ea2d_23 (by decide) ?_
  exact V.bret X Y9 dJx4a65c_add_9ea2d_24 true (by decide) ⟨by decide, rfl⟩ (Nat.le_of_ble_eq_true rfl) (Nat.le_of_ble_eq_true rfl)
set_option maxHeartbeats 4000000 in
set_option maxRecDepth 100000 in
theorem c_add9_more (l : Launch) (G : GG) {h : Hp} {a e ci : Nat} {x : Int32} (k0 : Hk h a = some (.inl 1)) (kx : Hv h a 0 = .int x) (ke : Hk h e = some (.inl ci)) (hci : ci = 2 ∨ ci = 4 ∨ ci = 8) {d n : Nat} (kd : Hk h d = some (.inr (2, 10))) (hn : n < 10) (k1 : Hv h a 1 = .ref d) (k2 : Hv h a 2 = .int (nI n)) : Con l G yJx4a65c_add_9ea2d wsJx4a65c_add_9ea2d 4 86 1 10 [.ref a, .ref e] h (pI (fun r h2 => r = 1 ∧ h2 = Hput (Hput (Hput h a 0 (.int (x + nI 1))) d n (.ref e)) a 2 (.int (nI (n + 1))))) := by
  refine Con.of (cc := cJx4a65c_add_9ea2d) (nL := 2) (ret := (some .boolean)) (by decide) rfl rfl rfl rfl (fun Γ hG hl X Y9 => ?_)
  subst hG
  subst hl
  refine V.aload_n X dJx4a65c_add_9ea2d_0 rfl ?_
  refine V.dup X dJx4a65c_add_9ea2d_1 rfl ?_
  refine V.getf  X fJx4a65c_add_9ea2d_63 dJx4a65c_add_9ea2d_2 k0 kx ?_
  refine V.iconst (v := nI 1) X dJx4a65c_add_9ea2d_5 (by decide) ?_
  refine V.iadd X dJx4a65c_add_9ea2d_6 ?_
  refine V.putf X fJx4a65c_add_9ea2d_63 dJx4a65c_add_9ea2d_7 k0 rfl rfl ?_
  refine V.aload_n X dJx4a65c_add_9ea2d_10 rfl ?_
  refine V.aload_n X dJx4a65c_add_9ea2d_11 rfl ?_
  refine V.aload_n X dJx4a65c_add_9ea2d_12 rfl ?_
  refine V.getf (v := .ref d) X fJx4a65c_add_9ea2d_9 dJx4a65c_add_9ea2d_13 k0 (by rw [Hv_put_k _ _ _ _ (by decide)]; exact k1) ?_
  refine V.aload_n X dJx4a65c_add_9ea2d_16 rfl ?_
  refine V.getf (v := .int (nI n)) X fJx4a65c_add_9ea2d_48 dJx4a65c_add_9ea2d_17 k0 (by rw [Hv_put_k _ _ _ _ (by decide)]; exact k2) ?_
  refine V.callVv (n := 3) X dJx4a65c_add_9ea2d_20 gJx4a65c_add_9ea2d_Jx4a65c_add_72be8 (c_add_more _ _ k0 kd hn ke hci) rfl (by decide +kernel) rfl rfl rfl k0 rfl rfl ⟨Nat.le_of_ble_eq_true rfl, Nat.le_of_ble_eq_true rfl⟩ (fun h20 hp20 => ?_)
  subst hp20
  refine V.iconst (v := nI 1) X dJx4a65c_add_9ea2d_23 (by decide) ?_
  exact V.bret X Y9 dJx4a65c_add_9ea2d_24 true (by decide) ⟨by decide, rfl⟩ (Nat.le_of_ble_eq_true rfl) (Nat.le_of_ble_eq_true rfl)
set_option maxHeartbeats 1000000 in
set_option maxRecDepth 100000 in
theorem c_Jx4a65c_add_9ea2d (l : Launch) (G : GG) {P : Nat → Prop} {h : Hp} {a e ci : Nat} {es : List Nat} (hA : LsAt P G h a es) (hP : P (Hz h)) (hl : es.length < 10) (ke : Hk h e = some (.inl ci)) (hci : ci = 2 ∨ ci = 4 ∨ ci = 8) : Con l G yJx4a65c_add_9ea2d wsJx4a65c_add_9ea2d 4 86 1 10 [.ref a, .ref e] h (pI (fun r h2 => r = 1 ∧ LsAt P G h2 a (es ++ [e]) ∧ Fr (fun q => q = a ∨ (P q ∧ Hk h q = some (.inr (2, 10)) ∧ Hv h a 1 = .ref q)) h h2)) := by
  refine Con.wf (fun w => ?_)
  obtain ⟨k0, ⟨x, kx⟩, k2, kc⟩ := hA
  have ha := w _ _ k0
  rcases kc with ⟨e0, k1⟩ | ⟨d, pd, k1, kd, -, kv⟩
  · subst e0
    refine (c_add9_first l G k0 kx ke hci k1 k2).mono (pI_mono (fun r h2 q => ?_))
    obtain ⟨rfl, rfl⟩ := q
    have n1 : ¬ Hz h = a := by omega
    refine ⟨rfl, ⟨?_, ⟨x + nI 1, ?_⟩, ?_, Or.inr ⟨Hz h, hP, ?_, ?_, by simp, fun i hi => ?_⟩⟩, ?_⟩
    · show Hk (Hnew (Hput h a 0 (.int (x + nI 1))) (.inr (2, 10)) (fun _ => .null)) a = _
      rw [Hk_new, if_neg (show ¬ a = Hz (Hput h a 0 (.int (x + nI 1))) by rw [Hz_put]; omega)]
      exact k0
    · simp [Hv_put, Hv_new, Hz_put, n1, show ¬ a = Hz h by omega]
    · simp [Hv_put]
    · simp [Hv_put, show ¬ a = Hz h by omega]
    · simp [Hk_put, Hk_new, Hz_put]
    · have e1 : i = 0 := by simp at hi; omega
      subst e1
      simp [Hv_put, n1]
    · exact (((((Fr.rf.thenPut (Or.inl (Or.inl rfl))).thenNew).thenPut (Or.inl (Or.inl rfl))).thenPut (Or.inr (Nat.le_refl _))).thenPut (Or.inl (Or.inl rfl)))
  · have hda : ¬ d = a := fun e9 => by rw [e9, k0] at kd; cases kd
    have had : ¬ a = d := fun e9 => hda e9.symm
    refine (c_add9_more l G k0 kx ke hci kd hl k1 k2).mono (pI_mono (fun r h2 q => ?_))
    obtain ⟨rfl, rfl⟩ := q
    refine ⟨rfl, ⟨k0, ⟨x + nI 1, ?_⟩, ?_, Or.inr ⟨d, pd, ?_, kd, by simp; omega, fun i hi => ?_⟩⟩, ?_⟩
    · simp [Hv_put, had]
    · simp [Hv_put]
    · simp [Hv_put, had, k1]
    · simp at hi
      by_cases e1 : i = es.length
      · subst e1
        rw [Hv_put_a _ _ _ _ hda, Hv_put_at, getD_snoc_at]
      · rw [Hv_put_a _ _ _ _ hda, Hv_put_k _ _ _ _ e1, Hv_put_a _ _ _ _ hda, getD_snoc_lt (by omega)]
        exact kv i (by omega)
    · exact ((Fr.rf.thenPut (Or.inl (Or.inl rfl))).thenPut (Or.inl (Or.inr ⟨pd, kd, k1⟩))).thenPut (Or.inl (Or.inl rfl))
theorem fJx4a65c_size_8abf5_48 : FL wsJx4a65c_size_8abf5 RJx4a65c 48 1 2 .int false := ⟨_, rfl, by decide, Or.inl ⟨"java/util/ArrayList", by decide +kernel, Or.inl rfl⟩, by decide +kernel, by decide +kernel, rfl⟩
set_option maxHeartbeats 4000000 in
set_option maxRecDepth 100000 in
theorem c_Jx4a65c_size_8abf5 (l : Launch) (G : GG) {P : Nat → Prop} {h : Hp} {a : Nat} {es : List Nat} (hA : LsAt P G h a es) : Con l G yJx4a65c_size_8abf5 wsJx4a65c_size_8abf5 0 0 0 0 [.ref a] h (pI (fun r h2 => r = nI es.length ∧ h2 = h)) := by
  refine Con.of (cc := cJx4a65c_size_8abf5) (nL := 1) (ret := (some .int)) (by decide) rfl rfl rfl rfl (fun Γ hG hl X Y9 => ?_)
  subst hG
  subst hl
  refine V.aload_n X dJx4a65c_size_8abf5_0 rfl ?_
  refine V.getf  X fJx4a65c_size_8abf5_48 dJx4a65c_size_8abf5_1 hA.1 hA.2.2.1 ?_
  exact V.iret X Y9 dJx4a65c_size_8abf5_4 ⟨rfl, rfl⟩ (Nat.le_of_ble_eq_true rfl) (Nat.le_of_ble_eq_true rfl)
theorem fJx4a65c_isEmpty_aae02_48 : FL wsJx4a65c_isEmpty_aae02 RJx4a65c 48 1 2 .int false := ⟨_, rfl, by decide, Or.inl ⟨"java/util/ArrayList", by decide +kernel, Or.inl rfl⟩, by decide +kernel, by decide +kernel, rfl⟩
set_option maxHeartbeats 4000000 in
set_option maxRecDepth 100000 in
theorem c_Jx4a65c_isEmpty_aae02 (l : Launch) (G : GG) {P : Nat → Prop} {h : Hp} {a : Nat} {es : List Nat} (hA : LsAt P G h a es) : Con l G yJx4a65c_isEmpty_aae02 wsJx4a65c_isEmpty_aae02 0 0 0 0 [.ref a] h (pI (fun r h2 => r = bI es.isEmpty ∧ h2 = h)) := by
  refine Con.of (cc := cJx4a65c_isEmpty_aae02) (nL := 1) (ret := (some .boolean)) (by decide) rfl rfl rfl rfl (fun Γ hG hl X Y9 => ?_)
  subst hG
  subst hl
  have hlen := hA.len
  refine V.aload_n X dJx4a65c_isEmpty_aae02_0 rfl ?_
  refine V.getf  X fJx4a65c_isEmpty_aae02_48 dJx4a65c_isEmpty_aae02_1 hA.1 hA.2.2.1 ?_
  refine V.if_ne 11 X dJx4a65c_isEmpty_aae02_4 (by decide) (fun c4 => ?_) (fun c4 => ?_)
  · have e0 : es.isEmpty = false := by cases es with
      | nil => exact absurd rfl c4
      | cons x r => rfl
    refine V.iconst (v := nI 0) X dJx4a65c_isEmpty_aae02_11 (by decide) ?_
    exact V.bret X Y9 dJx4a65c_isEmpty_aae02_12 es.isEmpty (by rw [e0]; rfl) ⟨rfl, rfl⟩ (Nat.le_of_ble_eq_true rfl) (Nat.le_of_ble_eq_true rfl)
  · have e0 : es.isEmpty = true := by cases es with
      | nil => rfl
      | cons x r => exact absurd ((nI_eq (by omega) (by decide)).mp (show nI (x :: r).length = nI 0 from c4)) (by simp)
    refine V.iconst (v := nI 1) X dJx4a65c_isEmpty_aae02_7 (by decide) ?_
    refine V.goto 12 X dJx4a65c_isEmpty_aae02_8 (by decide) ?_
    exact V.bret X Y9 dJx4a65c_isEmpty_aae02_12 es.isEmpty (by rw [e0]; rfl) ⟨rfl, rfl⟩ (Nat.le_of_ble_eq_true rfl) (Nat.le_of_ble_eq_true rfl)
theorem fJx4a65c_elementData_915e3_9 : FL wsJx4a65c_elementData_915e3 RJx4a65c 9 1 1 (.array (.object "java/lang/Object")) false := ⟨_, rfl, by decide, Or.inl ⟨"java/util/ArrayList", by decide +kernel, Or.inl rfl⟩, by decide +kernel, by decide +kernel, rfl⟩
set_option maxHeartbeats 4000000 in
set_option maxRecDepth 100000 in
theorem c_Jx4a65c_elementData_915e3 (l : Launch) (G : GG) {P : Nat → Prop} {h : Hp} {a i : Nat} {es : List Nat} (hA : LsAt P G h a es) (hi : i < es.length) : Con l G yJx4a65c_elementData_915e3 wsJx4a65c_elementData_915e3 0 0 0 0 [.ref a, .int (nI i)] h (pR (fun r h2 => r = .ref (es.getD i 0) ∧ h2 = h)) := by
  refine Con.of (cc := cJx4a65c_elementData_915e3) (nL := 2) (ret := (some (.object "java/lang/Object"))) (by decide) rfl rfl rfl rfl (fun Γ hG hl X Y9 => ?_)
  subst hG
  subst hl
  obtain ⟨k0, -, k2, ⟨rfl, -⟩ | ⟨d, pd, k1, kd, kl, kv⟩⟩ := hA
  · simp at hi
  refine V.aload_n X dJx4a65c_elementData_915e3_0 rfl ?_
  refine V.getf  X fJx4a65c_elementData_915e3_9 dJx4a65c_elementData_915e3_1 k0 k1 ?_
  refine V.iload_n X dJx4a65c_elementData_915e3_4 rfl ?_
  refine V.aald (j := i)  X dJx4a65c_elementData_915e3_5 kd rfl rfl (by omega) (by omega) (kv i hi) ?_
  exact V.aret X Y9 (Or.inl ⟨_, rfl⟩) dJx4a65c_elementData_915e3_6 (Or.inr ⟨_, rfl⟩) ⟨rfl, rfl⟩ (Nat.le_of_ble_eq_true rfl) (Nat.le_of_ble_eq_true rfl)
theorem fJx4a65c_get_915e3_48 : FL wsJx4a65c_get_915e3 RJx4a65c 48 1 2 .int false := ⟨_, rfl, by decide, Or.inl ⟨"java/util/ArrayList", by decide +kernel, Or.inl rfl⟩, by decide +kernel, by decide +kernel, rfl⟩
set_option maxHeartbeats 4000000 in
set_option maxRecDepth 100000 in
theorem c_Jx4a65c_get_915e3 (l : Launch) (G : GG) {P : Nat → Prop} {h : Hp} {a i : Nat} {es : List Nat} (hA : LsAt P G h a es) (hi : i < es.length) : Con l G yJx4a65c_get_915e3 wsJx4a65c_get_915e3 2 43 0 0 [.ref a, .int (nI i)] h (pR (fun r h2 => r = .ref (es.getD i 0) ∧ h2 = h)) := by
  refine Con.of (cc := cJx4a65c_get_915e3) (nL := 2) (ret := (some (.object "java/lang/Object"))) (by decide) rfl rfl rfl rfl (fun Γ hG hl X Y9 => ?_)
  subst hG
  subst hl
  have hlen := hA.len
  refine V.iload_n X dJx4a65c_get_915e3_0 rfl ?_
  refine V.aload_n X dJx4a65c_get_915e3_1 rfl ?_
  refine V.getf  X fJx4a65c_get_915e3_48 dJx4a65c_get_915e3_2 hA.1 hA.2.2.1 ?_
  refine V.callSi (n := 2) X dJx4a65c_get_915e3_5 gJx4a65c_get_915e3_J15_checkIndex_7cf53 (c_J15_checkIndex_7cf53 _ _ hi (by omega)) rfl (by decide +kernel) rfl rfl rfl ⟨Nat.le_of_ble_eq_true rfl, Nat.le_of_ble_eq_true rfl⟩ (fun r5 h5 hp5 => ?_)
  obtain ⟨rfl, e9⟩ := hp5; obtain rfl := e9.symm
  refine V.pop X dJx4a65c_get_915e3_8 rfl ?_
  refine V.aload_n X dJx4a65c_get_915e3_9 rfl ?_
  refine V.iload_n X dJx4a65c_get_915e3_10 rfl ?_
  refine V.callVr (n := 1) X dJx4a65c_get_915e3_11 gJx4a65c_get_915e3_Jx4a65c_elementData_915e3 (c_Jx4a65c_elementData_915e3 _ _ hA hi) rfl (by decide +kernel) rfl rfl rfl hA.1 rfl rfl ⟨Nat.le_of_ble_eq_true rfl, Nat.le_of_ble_eq_true rfl⟩ (fun r11 h11 hp11 => ?_)
  obtain ⟨-, rfl, e9⟩ := hp11; obtain rfl := e9.symm
  exact V.aret X Y9 (Or.inl ⟨_, rfl⟩) dJx4a65c_get_915e3_14 (Or.inr ⟨_, rfl⟩) ⟨rfl, rfl⟩ (Nat.le_of_ble_eq_true rfl) (Nat.le_of_ble_eq_true rfl)
