/-! THE LAW'S SMALL METHODS -/
theorem low_and (x : Int32) : ∃ a, a < 2 ^ 31 ∧ x &&& 2147483647 = nI a := by
  obtain ⟨j, h1, h2⟩ := pk_andE x (m := 2147483647) 31 (by decide)
  exact ⟨j, h1, h2⟩
set_option maxHeartbeats 4000000 in
set_option maxRecDepth 100000 in
theorem c_L_cell (l : Launch) (G : GG) {h : Hp} {j : Nat} (hj : j < 2 ^ 31) : Con l G yL_cell wsL_cell 0 0 0 0 [.ref (gX G).1, .int (nI j)] h (pI (fun _ h2 => h2 = h)) := by
  refine Con.of (cc := cL_cell) (nL := 2) (ret := (some .int)) (by decide) rfl rfl rfl rfl (fun Γ hG hl X Y9 => ?_)
  subst hG
  subst hl
  refine V.iload_n X dL_cell_0 rfl ?_
  refine V.aload_n X dL_cell_1 rfl ?_
  refine V.slen X dL_cell_2 ?_
  refine V.icmp_ge 12 X dL_cell_3 (by decide) (fun c3 => ?_) (fun c3 => ?_)
  · refine V.sipush (v := nI 7919) X dL_cell_12 (by decide) ?_
    refine V.iload_n X dL_cell_15 rfl ?_
    refine V.iconst (v := nI 3) X dL_cell_16 (by decide) ?_
    refine V.iadd X dL_cell_17 ?_
    refine V.imul X dL_cell_18 ?_
    refine V.iload_n X dL_cell_19 rfl ?_
    refine V.bipush (v := nI 11) X dL_cell_20 (by decide) ?_
    refine V.iadd X dL_cell_22 ?_
    refine V.imul X dL_cell_23 ?_
    exact V.iret X Y9 dL_cell_24 rfl (Nat.le_of_ble_eq_true rfl) (Nat.le_of_ble_eq_true rfl)
  · have hlt : j < (gX (cxG Γ)).2.1 := by
      rcases Nat.lt_or_ge j (gX (cxG Γ)).2.1 with z | z
      · exact z
      · exact absurd (nI_le z hj) c3
    refine V.aload_n X dL_cell_6 rfl ?_
    refine V.iload_n X dL_cell_7 rfl ?_
    refine V.sld X dL_cell_8 rfl hlt ?_
    refine V.goto 24 X dL_cell_9 (by decide) ?_
    exact V.iret X Y9 dL_cell_24 rfl (Nat.le_of_ble_eq_true rfl) (Nat.le_of_ble_eq_true rfl)
set_option maxHeartbeats 4000000 in
set_option maxRecDepth 100000 in
theorem c_L_low (l : Launch) (G : GG) {h : Hp} {x : Int32} {n : Nat} (h0 : 0 < n) (hn : n < 2 ^ 31) : Con l G yL_low wsL_low 0 0 0 0 [.int x, .int (nI n)] h (pI (fun y h2 => (∃ j, j < n ∧ y = nI j) ∧ h2 = h)) := by
  refine Con.of (cc := cL_low) (nL := 2) (ret := (some .int)) (by decide) rfl rfl rfl rfl (fun Γ hG hl X Y9 => ?_)
  subst hG
  subst hl
  refine V.iload_n X dL_low_0 rfl ?_
  refine V.ldcI (v := 2147483647) X dL_low_1 (by decide +kernel) ?_
  refine V.iand X dL_low_3 ?_
  refine V.iload_n X dL_low_4 rfl ?_
  refine V.irem X dL_low_5 (nI_ne0 h0 hn) ?_
  obtain ⟨a, ha, e⟩ := low_and x
  rw [e, pk_rem ha h0 hn]
  exact V.iret X Y9 dL_low_6 ⟨⟨_, Nat.mod_lt _ h0, rfl⟩, rfl⟩ (Nat.le_of_ble_eq_true rfl) (Nat.le_of_ble_eq_true rfl)
set_option maxHeartbeats 4000000 in
set_option maxRecDepth 100000 in
theorem c_L_drawn (l : Launch) (G : GG) {h : Hp} {x : Int32} {n : Nat} (h0 : 0 < n) (hn : n < 2 ^ 31) : Con l G yL_drawn wsL_drawn 1 21 0 0 [.int x, .int (nI n)] h (pI (fun y h2 => (∃ j, (j < n ∨ (95 ≤ j ∧ j ≤ 105)) ∧ y = nI j) ∧ h2 = h)) := by
  refine Con.of (cc := cL_drawn) (nL := 2) (ret := (some .int)) (by decide) rfl rfl rfl rfl (fun Γ hG hl X Y9 => ?_)
  subst hG
  subst hl
  refine V.iload_n X dL_drawn_0 rfl ?_
  refine V.iconst (v := nI 3) X dL_drawn_1 (by decide) ?_
  refine V.iand X dL_drawn_2 ?_
  refine V.iconst (v := nI 2) X dL_drawn_3 (by decide) ?_
  refine V.icmp_ge 17 X dL_drawn_4 (by decide) (fun c4 => ?_) (fun c4 => ?_)
  · refine V.bipush (v := nI 95) X dL_drawn_17 (by decide) ?_
    refine V.iload_n X dL_drawn_19 rfl ?_
    refine V.iconst (v := nI 2) X dL_drawn_20 (by decide) ?_
    refine V.ishr X dL_drawn_21 ?_
    refine V.bipush (v := nI 11) X dL_drawn_22 (by decide) ?_
    refine V.callSi (n := 2) X dL_drawn_24 gL_drawn_L_low (c_L_low _ _ (n := 11) (by decide) (by decide)) rfl (by decide +kernel) rfl rfl rfl ⟨Nat.le_of_ble_eq_true rfl, Nat.le_of_ble_eq_true rfl⟩ (fun r24 h24 hp24 => ?_)
    obtain ⟨⟨j24, k24, rfl⟩, e9⟩ := hp24; obtain rfl := e9.symm
    refine V.iadd X dL_drawn_27 ?_
    first
      | exact V.iret X Y9 dL_drawn_28 ⟨⟨_, Or.inl k11, rfl⟩, rfl⟩ (Nat.le_of_ble_eq_true rfl) (Nat.le_of_ble_eq_true rfl)
      | (rw [nI_add]
         exact V.iret X Y9 dL_drawn_28 ⟨⟨95 + j24, Or.inr (by omega), rfl⟩, rfl⟩ (Nat.le_of_ble_eq_true rfl) (Nat.le_of_ble_eq_true rfl))
  · refine V.iload_n X dL_drawn_7 rfl ?_
    refine V.iconst (v := nI 2) X dL_drawn_8 (by decide) ?_
    refine V.ishr X dL_drawn_9 ?_
    refine V.iload_n X dL_drawn_10 rfl ?_
    refine V.callSi (n := 2) X dL_drawn_11 gL_drawn_L_low (c_L_low _ _ h0 hn) rfl (by decide +kernel) rfl rfl rfl ⟨Nat.le_of_ble_eq_true rfl, Nat.le_of_ble_eq_true rfl⟩ (fun r11 h11 hp11 => ?_)
    obtain ⟨⟨j11, k11, rfl⟩, e9⟩ := hp11; obtain rfl := e9.symm
    refine V.goto 28 X dL_drawn_14 (by decide) ?_
    first
      | exact V.iret X Y9 dL_drawn_28 ⟨⟨_, Or.inl k11, rfl⟩, rfl⟩ (Nat.le_of_ble_eq_true rfl) (Nat.le_of_ble_eq_true rfl)
      | (rw [nI_add]
         exact V.iret X Y9 dL_drawn_28 ⟨⟨95 + j24, Or.inr (by omega), rfl⟩, rfl⟩ (Nat.le_of_ble_eq_true rfl) (Nat.le_of_ble_eq_true rfl))
/-! a word: the bytes of a long, the highest first, no zeros -/
def wbI (its : Int64) (n : Nat) : Int32 := ((its >>> ((nI (8 * n)).toInt64 &&& 63)) &&& 255).toInt32
def wbN (its : Int64) (n : Nat) : Nat := (wbI its n).toNatClampNeg
def wdB (its : Int64) : Nat → List Nat
  | 0 => []
  | n + 1 => (if 0 < wbN its n then [wbN its n] else []) ++ wdB its n
def atW : Nat → Int32
  | 0 => -8
  | n + 1 => nI (8 * n)
theorem atW_s : ∀ n, n < 8 → nI (8 * n) + Int32.ofInt (-8) = atW n := by decide +kernel
def wOk (its : Int64) : Prop := ∀ n, n < 8 → wbI its n = nI (wbN its n) ∧ wbN its n < 256
theorem wOk_of {its : Int64} (h : ∀ n, n < 8 → wbI its n = nI (wbN its n) ∧ wbN its n < 256) : wOk its := h
def pTxt (G : GG) (h : Hp) (T : Nat) (t : List Nat) (z : Zt) : Hp → Prop := fun h2 => TX G h2 T t z ∧ Kp T h h2
set_option maxHeartbeats 4000000 in
set_option maxRecDepth 100000 in
theorem c_L_word (l : Launch) (G : GG) {h : Hp} {T : Nat} {t : List Nat} {z : Zt} (q : TX G h T t z) {its : Int64} (hw : wOk its) (hl : t.length + (wdB its 8).length ≤ 200) : Con l G yL_word wsL_word 7 153 8 3216 [.ref T, .long its] h (pV (pTxt G h T (t ++ wdB its 8) z)) := by
  refine Con.ofL (cc := cL_word) (nL := 5) (ret := none) (by decide) rfl rfl rfl (fun Γ hG hl X Y9 => ?_)
  subst hG
  subst hl
  have loop : ∀ (n : Nat), n ≤ 8 → ∀ (kc ks : Nat) (t1 : List Nat) (h1 : Hp), kc + n ≤ 8 → ks + 402 * n ≤ 3216 → t1 ++ wdB its n = t ++ wdB its 8 → TX (cxG Γ) h1 T t1 z → Kp T h h1 → V Γ kc ks 3 [(0, .ref T), (1, .long its), (3, .int (atW n))] [] h1 := by
    intro n
    induction n with
    | zero =>
      intro _ kc ks t1 h1 g1 g2 e1 q1 p1
      have e1 : t1 = t ++ wdB its 8 := by rw [← e1]; exact (List.append_nil _).symm
      refine V.iload_n X dL_word_3 rfl ?_
      refine V.if_lt 35 X dL_word_4 (by decide) (fun c4 => ?_) (fun c4 => absurd (by decide) c4)
      exact V.vret X Y9 dL_word_35 ⟨rfl, q1.txt e1, p1⟩ (by omega) (by omega)
    | succ n ih =>
      intro hn kc ks t1 h1 g1 g2 e1 q1 p1
      obtain ⟨b1, b2⟩ := hw n (by omega)
      refine V.iload_n X dL_word_3 rfl ?_
      refine V.if_lt 35 X dL_word_4 (by decide) (fun c4 => absurd c4 (nI_pos (by omega))) (fun c4 => ?_)
      refine V.lload_n X dL_word_7 rfl ?_
      refine V.iload_n X dL_word_8 rfl ?_
      refine V.lshr X dL_word_9 ?_
      refine V.ldc2 (v := 255) X dL_word_10 (by decide +kernel) ?_
      refine V.land X dL_word_13 ?_
      refine V.l2i X dL_word_14 ?_
      have b3 : ((its >>> ((atW (n + 1)).toInt64 &&& 63)) &&& 255).toInt32 = nI (wbN its n) := b1
      rw [b3]
      refine V.istore X dL_word_15 [(0, _), (1, _), (3, _), (4, _)] rfl rfl rfl ?_
      refine V.iload X dL_word_17 rfl ?_
      refine V.if_le 29 X dL_word_19 (by decide) (fun c19 => ?_) (fun c19 => ?_)
      · have b4 : wdB its (n + 1) = wdB its n := by
          show (if 0 < wbN its n then [wbN its n] else []) ++ wdB its n = _
          rw [if_neg (fun z => nI_nle z (by omega) c19)]
          rfl
        rw [b4] at e1
        refine V.iinc (v := atW n) X dL_word_29 [(0, _), (1, _), (3, _), (4, _)] rfl (atW_s n (by omega)) rfl rfl rfl ?_
        refine V.goto 3 X dL_word_32 (by decide) ?_
        exact V.drop [(0, .ref T), (1, .long its), (3, .int (atW n))] [0, 1, 2] rfl (ih (by omega) kc ks _ _ (by omega) (by omega) e1 q1 p1)
      · have b5 : 0 < wbN its n := by
          rcases Nat.eq_zero_or_pos (wbN its n) with z | z
          · rw [z] at c19
            exact absurd (by decide) c19
          · exact z
        have b4 : wdB its (n + 1) = [wbN its n] ++ wdB its n := by
          show (if 0 < wbN its n then [wbN its n] else []) ++ wdB its n = _
          rw [if_pos b5]
        have b6 : t1.length < 200 := by
          have e2 := congrArg List.length e1
          rw [b4, List.length_append, List.length_append, List.length_append] at e2
          have : ([wbN its n] : List Nat).length = 1 := rfl
          omega
        rw [b4, ← List.append_assoc] at e1
        refine V.aload_n X dL_word_22 rfl ?_
        refine V.iload X dL_word_23 rfl ?_
        refine V.callVi (n := 1) X dL_word_25 gL_word_X11_appendCharacter (c_app _ _ q1 b2 b6) rfl (by decide +kernel) rfl rfl rfl q1.k rfl rfl ⟨by omega, by omega⟩ (fun r25 h25 hp25 => ?_)
        obtain ⟨q25, p25⟩ := hp25
        refine V.pop X dL_word_28 rfl ?_
        refine V.iinc (v := atW n) X dL_word_29 [(0, _), (1, _), (3, _), (4, _)] rfl (atW_s n (by omega)) rfl rfl rfl ?_
        refine V.goto 3 X dL_word_32 (by decide) ?_
        exact V.drop [(0, .ref T), (1, .long its), (3, .int (atW n))] [0, 1, 2] rfl (ih (by omega) _ _ _ _ (by omega) (by omega) e1 q25 (p1.tr p25))
  refine V.bipush (v := (nI (8 * 7))) X dL_word_0 (by decide) ?_
  refine V.istore_n X dL_word_2 [(0, _), (1, _), (3, _)] rfl rfl rfl ?_
  exact loop 8 (Nat.le_refl _) 0 0 t h (Nat.le_refl _) (Nat.le_refl _) rfl q Kp.rf
/-! numbers, operands, conditions -/
theorem nm_neg {v : Nat} (h : v < 100) : nI v - nI 100 < 0 ∧ -(nI v - nI 100) = nI (100 - v) := by
  have k : ∀ v, v < 100 → nI v - nI 100 < 0 ∧ -(nI v - nI 100) = nI (100 - v) := by decide +kernel
  exact k v h
theorem dg_d {n : Nat} (h : n < 100) : nI n / nI 10 = nI (n / 10) ∧ nI n - nI n / nI 10 * nI 10 = nI (n % 10) := ⟨pk_div (by omega) (by decide) (by decide), pk_rem (by omega) (by decide) (by decide)⟩
theorem odS_neg {v : Nat} (h6 : 6 ≤ v) (h : v < 100) : catL (odS v) = [45] ++ dgS (100 - v) := by
  unfold odS
  rw [if_neg (by omega), if_neg (by omega), if_pos h]
  show [45] ++ (dgS (100 - v) ++ []) = _
  rw [List.append_nil]
theorem odS_pos {v : Nat} (h6 : 6 ≤ v) (h : ¬ v < 100) : catL (odS v) = dgS (v - 100) := by
  unfold odS
  rw [if_neg (by omega), if_neg (by omega), if_neg h]
  exact List.append_nil _
theorem dgS_len (n : Nat) : (dgS n).length ≤ 2 ∧ 1 ≤ (dgS n).length := by
  unfold dgS
  rw [List.length_append]
  split <;> simp
set_option maxHeartbeats 4000000 in
set_option maxRecDepth 100000 in
theorem c_L_number (l : Launch) (G : GG) {h : Hp} {T : Nat} {t : List Nat} {z : Zt} (q : TX G h T t z) {v : Nat} (h6 : 6 ≤ v) (hv : v < 200) (hl : t.length + (catL (odS v)).length ≤ 200) : Con l G yL_number wsL_number 7 153 3 1206 [.ref T, .int (nI v - nI 100)] h (pV (pTxt G h T (t ++ catL (odS v)) z)) := by
  refine Con.of (cc := cL_number) (nL := 3) (ret := none) (by decide) rfl rfl rfl rfl (fun Γ hG hl X Y9 => ?_)
  subst hG
  subst hl
  have tail : ∀ (n kc ks : Nat) (t1 : List Nat) (h1 : Hp), n < 100 → kc ≤ 1 → ks ≤ 402 → t1 ++ dgS n = t ++ catL (odS v) → TX (cxG Γ) h1 T t1 z → Kp T h h1 → V Γ kc ks 16 [(0, .ref T), (1, .int (nI v - nI 100)), (2, .int (nI n))] [] h1 := by
    intro n kc ks t1 h1 hn g1 g2 e1 q1 p1
    have hlen := congrArg List.length e1
    rw [List.length_append, List.length_append] at hlen
    have last : ∀ (kc ks : Nat) (t1 : List Nat) (h1 : Hp), kc ≤ 2 → ks ≤ 804 → t1 ++ [48 + n % 10] = t ++ catL (odS v) → TX (cxG Γ) h1 T t1 z → Kp T h h1 → V Γ kc ks 34 [(0, .ref T), (1, .int (nI v - nI 100)), (2, .int (nI n))] [] h1 := by
      intro kc ks t1 h1 g1 g2 e1 q1 p1
      have hlen := congrArg List.length e1
      rw [List.length_append, List.length_append] at hlen
      have : ([48 + n % 10] : List Nat).length = 1 := rfl
      refine V.aload_n X dL_number_34 rfl ?_
      refine V.bipush (v := nI 48) X dL_number_35 (by decide) ?_
      refine V.iload_n X dL_number_37 rfl ?_
      refine V.bipush (v := nI 10) X dL_number_38 (by decide) ?_
      refine V.irem X dL_number_40 (by decide) ?_
      rw [(dg_d hn).2]
      refine V.iadd X dL_number_41 ?_
      rw [nI_add]
      refine V.callVi (n := 1) X dL_number_42 gL_number_X11_appendCharacter (c_app _ _ q1 (by omega) (by omega)) rfl (by decide +kernel) rfl rfl rfl q1.k rfl rfl ⟨by omega, by omega⟩ (fun r42 h42 hp42 => ?_)
      obtain ⟨q42, p42⟩ := hp42
      refine V.pop X dL_number_45 rfl ?_
      exact V.vret X Y9 dL_number_46 ⟨rfl, q42.txt e1, p1.tr p42⟩ (by omega) (by omega)
    refine V.iload_n X dL_number_16 rfl ?_
    refine V.bipush (v := nI 9) X dL_number_17 (by decide) ?_
    refine V.icmp_le 34 X dL_number_19 (by decide) (fun c19 => ?_) (fun c19 => ?_)
    · have n9 : ¬ 9 < n := fun z => nI_ge z (by omega) c19
      have ed : dgS n = [48 + n % 10] := by
        unfold dgS
        rw [if_neg n9]
        rfl
      first
        | exact last _ _ _ _ (by omega) (by omega) e1 q30 (p1.tr p30)
        | exact last _ _ _ _ (by omega) (by omega) (by rw [ed] at e1; exact e1) q1 p1
    · have n9 : 9 < n := by
        rcases Nat.lt_or_ge 9 n with z | z
        · exact z
        · exact absurd (nI_le z (by decide)) c19
      have ed : dgS n = [48 + n / 10] ++ [48 + n % 10] := by
        unfold dgS
        rw [if_pos n9]
      have hd : (dgS n).length = 2 := by rw [ed]; rfl
      rw [ed, ← List.append_assoc] at e1
      refine V.aload_n X dL_number_22 rfl ?_
      refine V.bipush (v := nI 48) X dL_number_23 (by decide) ?_
      refine V.iload_n X dL_number_25 rfl ?_
      refine V.bipush (v := nI 10) X dL_number_26 (by decide) ?_
      refine V.idiv X dL_number_28 (nI_ne0 (by decide) (by decide)) ?_
      rw [(dg_d hn).1]
      refine V.iadd X dL_number_29 ?_
      rw [nI_add]
      refine V.callVi (n := 1) X dL_number_30 gL_number_X11_appendCharacter (c_app _ _ q1 (by omega) (by omega)) rfl (by decide +kernel) rfl rfl rfl q1.k rfl rfl ⟨by omega, by omega⟩ (fun r30 h30 hp30 => ?_)
      obtain ⟨q30, p30⟩ := hp30
      refine V.pop X dL_number_33 rfl ?_
      first
        | exact last _ _ _ _ (by omega) (by omega) e1 q30 (p1.tr p30)
        | exact last _ _ _ _ (by omega) (by omega) (by rw [ed] at e1; exact e1) q1 p1
  refine V.iload_n X dL_number_0 rfl ?_
  refine V.istore_n X dL_number_1 [(0, _), (1, _), (2, _)] rfl rfl rfl ?_
  refine V.iload_n X dL_number_2 rfl ?_
  refine V.if_ge 16 X dL_number_3 (by decide) (fun c3 => ?_) (fun c3 => ?_)
  · have hv1 : ¬ v < 100 := fun z => by
      have h1 := Int32.lt_iff_toInt_lt.mp (nm_neg z).1
      have h2 := Int32.le_iff_toInt_le.mp c3
      omega
    rw [odS_pos h6 hv1] at hl tail
    first
      | exact tail (100 - v) _ _ _ _ (by omega) (by omega) (by omega) (by rw [List.append_assoc]) q9 p9
      | (have e2 : ((2 : Nat), Value.int (nI v - nI 100)) = (2, Value.int (nI (v - 100))) := by rw [nI_sub9 (show 100 ≤ v by omega)]
         rw [e2]
         exact tail (v - 100) _ _ _ _ (by omega) (by omega) (by omega) rfl q Kp.rf)
  · have hv1 : v < 100 := by
      rcases Nat.lt_or_ge v 100 with z | z
      · exact z
      · rw [nI_sub9 z] at c3
        exact absurd (nI_pos' (by omega)) c3
    obtain ⟨-, en⟩ := nm_neg hv1
    rw [odS_neg h6 hv1] at hl tail
    have hd := dgS_len (100 - v)
    rw [List.length_append] at hl
    have : ([45] : List Nat).length = 1 := rfl
    refine V.aload_n X dL_number_6 rfl ?_
    refine V.bipush (v := nI 45) X dL_number_7 (by decide) ?_
    refine V.callVi (n := 1) X dL_number_9 gL_number_X11_appendCharacter (c_app _ _ q (by decide) (by omega)) rfl (by decide +kernel) rfl rfl rfl q.k rfl rfl ⟨Nat.le_of_ble_eq_true rfl, Nat.le_of_ble_eq_true rfl⟩ (fun r9 h9 hp9 => ?_)
    obtain ⟨q9, p9⟩ := hp9
    refine V.pop X dL_number_12 rfl ?_
    refine V.iload_n X dL_number_13 rfl ?_
    refine V.ineg X dL_number_14 ?_
    rw [en]
    refine V.istore_n X dL_number_15 [(0, _), (1, _), (2, _)] rfl rfl rfl ?_
    first
      | exact tail (100 - v) _ _ _ _ (by omega) (by omega) (by omega) (by rw [List.append_assoc]) q9 p9
      | (have e2 : ((2 : Nat), Value.int (nI v - nI 100)) = (2, Value.int (nI (v - 100))) := by rw [nI_sub9 (show 100 ≤ v by omega)]
         rw [e2]
         exact tail (v - 100) _ _ _ _ (by omega) (by omega) (by omega) rfl q Kp.rf)
theorem od_3 : ∀ v, v < 6 → nI v - nI v / nI 3 * nI 3 = nI (v % 3) := by decide +kernel
theorem od_low {v : Nat} (h : v ≤ 5) : catL (odS v) = (if 2 < v then [111, 108, 100, 32] else []) ++ [120 + v % 3] := by
  have k : ∀ v, v < 6 → catL (odS v) = (if 2 < v then [111, 108, 100, 32] else []) ++ [120 + v % 3] := by decide +kernel
  exact k v (by omega)
theorem wd_old : wOk 1869374496 ∧ wdB 1869374496 8 = [111, 108, 100, 32] := by
  unfold wOk
  decide +kernel
set_option maxHeartbeats 4000000 in
set_option maxRecDepth 100000 in
theorem c_L_operand (l : Launch) (G : GG) {h : Hp} {T : Nat} {t : List Nat} {z : Zt} (q : TX G h T t z) {v : Nat} (hv : v < 200) (hl : t.length + (catL (odS v)).length ≤ 200) : Con l G yL_operand wsL_operand 8 177 9 3618 [.ref T, .int (nI v)] h (pV (pTxt G h T (t ++ catL (odS v)) z)) := by
  refine Con.of (cc := cL_operand) (nL := 2) (ret := none) (by decide) rfl rfl rfl rfl (fun Γ hG hl X Y9 => ?_)
  subst hG
  subst hl
  have tail : v ≤ 5 → ∀ (kc ks : Nat) (t1 : List Nat) (h1 : Hp), kc ≤ 8 → ks ≤ 3216 → t1 ++ [120 + v % 3] = t ++ catL (odS v) → TX (cxG Γ) h1 T t1 z → Kp T h h1 → V Γ kc ks 26 [(0, .ref T), (1, .int (nI v))] [] h1 := by
    intro h5 kc ks t1 h1 g1 g2 e1 q1 p1
    have hlen := congrArg List.length e1
    rw [List.length_append, List.length_append] at hlen
    have : ([120 + v % 3] : List Nat).length = 1 := rfl
    have hm := Nat.mod_lt v (show 0 < 3 by decide)
    refine V.aload_n X dL_operand_26 rfl ?_
    refine V.bipush (v := nI 120) X dL_operand_27 (by decide) ?_
    refine V.iload_n X dL_operand_29 rfl ?_
    refine V.iconst (v := nI 3) X dL_operand_30 (by decide) ?_
    refine V.irem X dL_operand_31 (nI_ne0 (by decide) (by decide)) ?_
    rw [od_3 v (by omega)]
    refine V.iadd X dL_operand_32 ?_
    rw [nI_add]
    refine V.callVi (n := 1) X dL_operand_33 gL_operand_X11_appendCharacter (c_app _ _ q1 (by omega) (by omega)) rfl (by decide +kernel) rfl rfl rfl q1.k rfl rfl ⟨by omega, by omega⟩ (fun r33 h33 hp33 => ?_)
    obtain ⟨q33, p33⟩ := hp33
    refine V.pop X dL_operand_36 rfl ?_
    exact V.vret X Y9 dL_operand_37 ⟨rfl, q33.txt e1, p1.tr p33⟩ (by omega) (by omega)
  refine V.iload_n X dL_operand_0 rfl ?_
  refine V.iconst (v := nI 5) X dL_operand_1 (by decide) ?_
  refine V.icmp_le 14 X dL_operand_2 (by decide) (fun c2 => ?_) (fun c2 => ?_)
  · rw [nI_leI (by omega) (by omega)] at c2
    have e5 := od_low c2
    rw [e5, List.length_append] at hl
    rw [e5] at tail
    refine V.iload_n X dL_operand_14 rfl ?_
    refine V.iconst (v := nI 2) X dL_operand_15 (by decide) ?_
    refine V.icmp_le 26 X dL_operand_16 (by decide) (fun c16 => ?_) (fun c16 => ?_)
    · rw [nI_leI (by omega) (by omega)] at c16
      rw [if_neg (show ¬ 2 < v by omega)] at hl tail
      first
        | exact tail c2 _ _ _ _ (by omega) (by omega) (by rw [List.append_assoc]) q23 p23
        | exact tail c2 _ _ _ _ (by omega) (by omega) rfl q Kp.rf
    · rw [nI_leI (by omega) (by omega)] at c16
      rw [if_pos (show 2 < v by omega)] at hl tail
      have : ([111, 108, 100, 32] : List Nat).length = 4 := rfl
      have : ([120 + v % 3] : List Nat).length = 1 := rfl
      refine V.aload_n X dL_operand_19 rfl ?_
      refine V.ldc2 (v := 1869374496) X dL_operand_20 (by decide +kernel) ?_
      refine V.callSv (n := 2) X dL_operand_23 gL_operand_L_word (c_L_word _ _ q wd_old.1 (by rw [wd_old.2]; omega)) rfl (by decide +kernel) rfl rfl rfl ⟨Nat.le_of_ble_eq_true rfl, Nat.le_of_ble_eq_true rfl⟩ (fun h23 hp23 => ?_)
      obtain ⟨q23, p23⟩ := hp23
      rw [wd_old.2] at q23
      first
        | exact tail c2 _ _ _ _ (by omega) (by omega) (by rw [List.append_assoc]) q23 p23
        | exact tail c2 _ _ _ _ (by omega) (by omega) rfl q Kp.rf
  · rw [nI_leI (by omega) (by omega)] at c2
    refine V.aload_n X dL_operand_5 rfl ?_
    refine V.iload_n X dL_operand_6 rfl ?_
    refine V.bipush (v := nI 100) X dL_operand_7 (by decide) ?_
    refine V.isub X dL_operand_9 ?_
    refine V.callSv (n := 2) X dL_operand_10 gL_operand_L_number (c_L_number _ _ q (by omega) hv hl) rfl (by decide +kernel) rfl rfl rfl ⟨Nat.le_of_ble_eq_true rfl, Nat.le_of_ble_eq_true rfl⟩ (fun h10 hp10 => ?_)
    obtain ⟨q10, p10⟩ := hp10
    exact V.vret X Y9 dL_operand_13 ⟨rfl, q10, p10⟩ (Nat.le_of_ble_eq_true rfl) (Nat.le_of_ble_eq_true rfl)
theorem cat_1 (c : Nat) : catL [[c]] = [c] := rfl
theorem cnS_len (a l b : Nat) : (catL (cnS a l b)).length = (catL (odS a)).length + 1 + (catL (odS b)).length := by
  unfold cnS
  rw [catL_app, List.length_append]
  show _ + ([60 + l] ++ catL (odS b)).length = _
  rw [List.length_append, Nat.add_assoc]
  rfl
theorem cnS_cat (t : List Nat) (a l b : Nat) : t ++ catL (odS a) ++ [60 + l] ++ catL (odS b) = t ++ catL (cnS a l b) := by
  unfold cnS
  rw [catL_app, List.append_assoc, List.append_assoc]
  rfl
set_option maxHeartbeats 4000000 in
set_option maxRecDepth 100000 in
theorem c_L_condition (l : Launch) (G : GG) {h : Hp} {T : Nat} {t : List Nat} {z : Zt} (q : TX G h T t z) {a m b : Nat} (ha : a < 200) (hm : m < 3) (hb : b < 200) (hl : t.length + (catL (cnS a m b)).length ≤ 200) : Con l G yL_condition wsL_condition 9 198 19 7638 [.ref T, .int (nI a), .int (nI m), .int (nI b)] h (pV (pTxt G h T (t ++ catL (cnS a m b)) z)) := by
  refine Con.of (cc := cL_condition) (nL := 4) (ret := none) (by decide) rfl rfl rfl rfl (fun Γ hG hl X Y9 => ?_)
  subst hG
  subst hl
  rw [cnS_len] at hl
  refine V.aload_n X dL_condition_0 rfl ?_
  refine V.iload_n X dL_condition_1 rfl ?_
  refine V.callSv (n := 2) X dL_condition_2 gL_condition_L_operand (c_L_operand _ _ q ha (by omega)) rfl (by decide +kernel) rfl rfl rfl ⟨Nat.le_of_ble_eq_true rfl, Nat.le_of_ble_eq_true rfl⟩ (fun h2 hp2 => ?_)
  obtain ⟨q2, p2⟩ := hp2
  refine V.aload_n X dL_condition_5 rfl ?_
  refine V.bipush (v := nI 60) X dL_condition_6 (by decide) ?_
  refine V.iload_n X dL_condition_8 rfl ?_
  refine V.iadd X dL_condition_9 ?_
  rw [nI_add]
  refine V.callVi (n := 1) X dL_condition_10 gL_condition_X11_appendCharacter (c_app _ _ q2 (by omega) (by rw [List.length_append]; omega)) rfl (by decide +kernel) rfl rfl rfl q2.k rfl rfl ⟨Nat.le_of_ble_eq_true rfl, Nat.le_of_ble_eq_true rfl⟩ (fun r10 h10 hp10 => ?_)
  obtain ⟨q10, p10⟩ := hp10
  refine V.pop X dL_condition_13 rfl ?_
  refine V.aload_n X dL_condition_14 rfl ?_
  refine V.iload_n X dL_condition_15 rfl ?_
  refine V.callSv (n := 2) X dL_condition_16 gL_condition_L_operand (c_L_operand _ _ q10 hb (by rw [List.length_append, List.length_append]; have : ([60 + m] : List Nat).length = 1 := rfl; omega)) rfl (by decide +kernel) rfl rfl rfl ⟨Nat.le_of_ble_eq_true rfl, Nat.le_of_ble_eq_true rfl⟩ (fun h16 hp16 => ?_)
  obtain ⟨q16, p16⟩ := hp16
  exact V.vret X Y9 dL_condition_19 ⟨rfl, q16.txt (cnS_cat t a m b), (p2.tr p10).tr p16⟩ (Nat.le_of_ble_eq_true rfl) (Nat.le_of_ble_eq_true rfl)
