/-! THE EXPLORATION'S ROW -/
def XmR (f : Nat → Int32) (r : Xr) : Prop := (f 272 = nI (xmx r) ∧ f 273 = nI (xsk r) ∧ f 274 = nI (xrd r) ∧ f 275 = nI (xdr r) ∧ f 276 = nI (xpc r) ∧ f 277 = nI (xfl r)) ∧ (∀ i, i < xpc r → SqM f 278 i (xsq r i)) ∧ (∀ j, j < xfl r → SqM f 718 j (xfs r j) ∧ f (718 + 11 * j + 10) = nI (xvd r j)) ∧ ∀ i k, i < 40 → k < 6 → f (938 + 6 * i + k) = if i < xpc r ∧ k < xpr r i then nI 1 else nI 0
def xmOk (c : Cmp) (r : Xr) : Prop := XOk c r ∧ cmOk c ∧ (∀ i, i < xpc r → (xsq r i).length ≤ 8 ∧ exS c (xsq r i) c.1 = some (xss r i) ∧ ∀ x ∈ xsq r i, x < c.2.2.length) ∧ ∀ j, j < xfl r → (0 < (xfs r j).length ∧ (xfs r j).length ≤ 8) ∧ (∀ x ∈ xfs r j, x < c.2.2.length) ∧ 2 ≤ xvd r j ∧ xvd r j ≤ 4
theorem SqM.same {f g : Nat → Int32} {b i : Nat} {xs : List Nat} (h : SqM f b i xs) (e : ∀ k, b + 11 * i ≤ k → k < b + 11 * i + 10 → g k = f k) : SqM g b i xs :=
  ⟨(e _ (by omega) (by omega)).trans h.1, h.2.1, fun k hk => (e _ (by omega) (by have := h.2.1; omega)).trans (h.2.2 k hk)⟩
theorem XmR.same {f g : Nat → Int32} {r : Xr} (h : XmR f r) (hp : xpc r ≤ 40) (hf : xfl r ≤ 20) (e : ∀ k, 272 ≤ k → k < 1178 → g k = f k) : XmR g r := by
  obtain ⟨⟨a, b, c, d, d2, d3⟩, s, t, u⟩ := h
  refine ⟨⟨(e _ (by omega) (by omega)).trans a, (e _ (by omega) (by omega)).trans b, (e _ (by omega) (by omega)).trans c, (e _ (by omega) (by omega)).trans d, (e _ (by omega) (by omega)).trans d2, (e _ (by omega) (by omega)).trans d3⟩, fun i hi => (s i hi).same (fun k h1 h2 => e k (by omega) (by omega)), fun j hj => ⟨(t j hj).1.same (fun k h1 h2 => e k (by omega) (by omega)), (e _ (by omega) (by omega)).trans (t j hj).2⟩, fun i k hi hk => (e _ (by omega) (by omega)).trans (u i k hi hk)⟩
theorem fos_end {c : Cmp} {r : Xr} : ∀ n i, xpc r ≤ i → fos c r n i = none := by
  intro n
  induction n with
  | zero => intro i _; rfl
  | succ n ih =>
    intro i hi
    have h0 : opn c r i = 0 := if_neg (by omega)
    show (if 0 < opn c r i then some i else fos c r n (i + 1)) = none
    rw [if_neg (by omega)]
    exact ih (i + 1) (by omega)
theorem cop_end {c : Cmp} {r : Xr} : ∀ n i, xpc r ≤ i → cop c r n i = 0 := by
  intro n
  induction n with
  | zero => intro i _; rfl
  | succ n ih =>
    intro i hi
    have h0 : opn c r i = 0 := if_neg (by omega)
    show opn c r i + cop c r n (i + 1) = 0
    rw [h0, ih (i + 1) (by omega)]
theorem sws_end {r : Xr} {t : St} : ∀ n i, xpc r ≤ i → sws r t n i = none := by
  intro n
  induction n with
  | zero => intro i _; rfl
  | succ n ih =>
    intro i hi
    show (if i < xpc r ∧ xss r i = t then some i else sws r t n (i + 1)) = none
    rw [if_neg (by omega)]
    exact ih (i + 1) (by omega)
def foI (r : Xr) (o : Option Nat) : Int32 := match o with
  | none => -1000
  | some i => nI (6 * i + xpr r i)
/-- a row extended by a call comes to a place -/
def extM (m : Md) (i n p x : Nat) : Md := mput (cpy (mput m 1 p (nI (n + 1))) 1 1 (p + 1) (278 + 11 * i + 1) n) 1 (p + 1 + n) (nI x)
theorem extM_o {m : Md} {i n p x a k : Nat} (h : a = 1 → k < p ∨ p + n + 2 ≤ k) : extM m i n p x a k = m a k := by
  unfold extM
  rw [mput_ap, if_neg (by omega)]
  unfold cpy
  rw [if_neg (by omega), mput_ap, if_neg (by omega)]
theorem extM_s {m : Md} {i p x b j : Nat} {xs : List Nat} (hS : SqM (m 1) 278 i xs) (hl : xs.length ≤ 8) (hp : p = b + 11 * j) (hd : 278 + 11 * i + 11 ≤ p) : SqM (extM m i xs.length p x 1) b j (xs ++ [x]) := by
  subst hp
  refine ⟨?_, by simp; omega, fun k hk => ?_⟩
  · unfold extM
    rw [mput_k (by omega), cpy_n (by omega), mput_at, List.length_append]
    rfl
  · rw [List.length_append] at hk
    simp at hk
    by_cases hk2 : k < xs.length
    · unfold extM
      rw [mput_k (by omega), cpy_i (by omega) (by omega), mput_k (by omega), show b + 11 * j + 1 + k - (b + 11 * j + 1) + (278 + 11 * i + 1) = 278 + 11 * i + 1 + k by omega, hS.2.2 k hk2, getD_snoc_lt hk2]
    · have hk3 : k = xs.length := by omega
      subst hk3
      unfold extM
      rw [mput_at, getD_snoc_at]
theorem fX12_isOpen_7 : FL wsX12_isOpen RX12 7 14 0 (.array .int) true := ⟨_, rfl, by decide, Or.inl ⟨"ContractTesterModel", by decide +kernel, Or.inl rfl⟩, by decide +kernel, by decide +kernel, rfl⟩
set_option maxHeartbeats 4000000 in
set_option maxRecDepth 100000 in
theorem c_X12_isOpen (l : Launch) (G : GG) {h : Hp} {M : Nat} {m : Md} (K : MdK h M) {c : Cmp} {r : Xr} (hC : CmR (m 1) c) (hX : XmR (m 1) r) (ok : xmOk c r) {i k : Nat} (hi : i < xpc r) (hk : k < c.2.2.length) : Con l G yX12_isOpen wsX12_isOpen 1 22 0 0 [.ref M, .int (nI i), .int (nI k)] (Hm h M m) (pI (fun x h2 => x = bI (decide (xpr r i ≤ k ∧ (xsq r i).length < xmx r)) ∧ h2 = Hm h M m)) := by
  refine Con.of (cc := cX12_isOpen) (nL := 3) (ret := (some .boolean)) (by decide) rfl rfl rfl rfl (fun Γ hG hl X Y9 => ?_)
  subst hG
  subst hl
  obtain ⟨⟨⟨x1, x2⟩, ⟨x3, x4⟩, x5, x6, x7⟩, ok2, x8, x9⟩ := id ok
  have ok21 := ok2.2.1
  have hl8 := (x8 i hi).1
  by_cases hk2 : k < xpr r i
  · have ha := hk2
    refine V.aload_n X dX12_isOpen_0 rfl ?_
    refine V.mgr (k := 0) (a := 1) X K fX12_isOpen_7 dX12_isOpen_1 (by decide) ?_
    refine V.sipush (v := nI 938) X dX12_isOpen_4 (by decide) ?_
    refine V.bipush (v := nI 6) X dX12_isOpen_7 (by decide) ?_
    refine V.iload_n X dX12_isOpen_9 rfl ?_
    refine V.imulN X dX12_isOpen_10 ?_
    refine V.iaddN X dX12_isOpen_11 ?_
    refine V.iload_n X dX12_isOpen_12 rfl ?_
    refine V.iaddN X dX12_isOpen_13 ?_
    refine V.mld (x := nI 1) X K 1 1178  dX12_isOpen_14 rfl rfl (by omega) ((hX.2.2.2 i k (by omega) (by omega)).trans (if_pos ⟨hi, hk2⟩)) ?_
    refine V.if_ne 41 X dX12_isOpen_15 (by decide) (fun c15 => ?_) (fun c15 => False.elim (by revert c15; decide))
    refine V.iconst (v := nI 0) X dX12_isOpen_41 (by decide) ?_
    exact V.bret X Y9 dX12_isOpen_42 (decide (xpr r i ≤ k ∧ (xsq r i).length < xmx r)) (by rw [decide_eq_false (by omega)]; rfl) ⟨rfl, rfl⟩ (Nat.le_of_ble_eq_true rfl) (Nat.le_of_ble_eq_true rfl)
  · have ha := hk2
    refine V.aload_n X dX12_isOpen_0 rfl ?_
    refine V.mgr (k := 0) (a := 1) X K fX12_isOpen_7 dX12_isOpen_1 (by decide) ?_
    refine V.sipush (v := nI 938) X dX12_isOpen_4 (by decide) ?_
    refine V.bipush (v := nI 6) X dX12_isOpen_7 (by decide) ?_
    refine V.iload_n X dX12_isOpen_9 rfl ?_
    refine V.imulN X dX12_isOpen_10 ?_
    refine V.iaddN X dX12_isOpen_11 ?_
    refine V.iload_n X dX12_isOpen_12 rfl ?_
    refine V.iaddN X dX12_isOpen_13 ?_
    refine V.mld (x := nI 0) X K 1 1178  dX12_isOpen_14 rfl rfl (by omega) ((hX.2.2.2 i k (by omega) (by omega)).trans (if_neg (by omega))) ?_
    refine V.if_ne 41 X dX12_isOpen_15 (by decide) (fun c15 => False.elim (by revert c15; decide)) (fun c15 => ?_)
    refine V.aload_n X dX12_isOpen_18 rfl ?_
    refine V.sipush (v := nI 278) X dX12_isOpen_19 (by decide) ?_
    refine V.iload_n X dX12_isOpen_22 rfl ?_
    refine V.callVi (n := 2) X dX12_isOpen_23 gX12_isOpen_X12_lengthOf (c_X12_lengthOf _ _ K (by omega)) rfl (by decide +kernel) rfl rfl rfl K.1 rfl rfl ⟨Nat.le_of_ble_eq_true rfl, Nat.le_of_ble_eq_true rfl⟩ (fun r23 h23 hp23 => ?_)
    obtain ⟨rfl, e9⟩ := hp23; obtain rfl := e9.symm
    rw [(hX.2.1 i hi).1]
    refine V.aload_n X dX12_isOpen_26 rfl ?_
    refine V.mgr (k := 0) (a := 1) X K fX12_isOpen_7 dX12_isOpen_27 (by decide) ?_
    refine V.sipush (v := nI 272) X dX12_isOpen_30 (by decide) ?_
    refine V.mld  X K 1 1178  dX12_isOpen_33 rfl rfl (by omega) hX.1.1 ?_
    refine V.icmp_ge 41 X dX12_isOpen_34 (by decide) (fun c34 => ?_) (fun c34 => ?_)
    · rw [nI_leI (by omega) (by omega)] at c34
      have e0 : decide (xpr r i ≤ k ∧ (xsq r i).length < xmx r) = false := decide_eq_false (by omega)
      refine V.iconst (v := nI 0) X dX12_isOpen_41 (by decide) ?_
      exact V.bret X Y9 dX12_isOpen_42 (decide (xpr r i ≤ k ∧ (xsq r i).length < xmx r)) (by rw [e0]; rfl) ⟨rfl, rfl⟩ (Nat.le_of_ble_eq_true rfl) (Nat.le_of_ble_eq_true rfl)
    · rw [nI_leI (by omega) (by omega)] at c34
      have e0 : decide (xpr r i ≤ k ∧ (xsq r i).length < xmx r) = true := decide_eq_true (by omega)
      refine V.iconst (v := nI 1) X dX12_isOpen_37 (by decide) ?_
      refine V.goto 42 X dX12_isOpen_38 (by decide) ?_
      exact V.bret X Y9 dX12_isOpen_42 (decide (xpr r i ≤ k ∧ (xsq r i).length < xmx r)) (by rw [e0]; rfl) ⟨rfl, rfl⟩ (Nat.le_of_ble_eq_true rfl) (Nat.le_of_ble_eq_true rfl)
theorem fX12_firstOpen_7 : FL wsX12_firstOpen RX12 7 14 0 (.array .int) true := ⟨_, rfl, by decide, Or.inl ⟨"ContractTesterModel", by decide +kernel, Or.inl rfl⟩, by decide +kernel, by decide +kernel, rfl⟩
set_option maxHeartbeats 4000000 in
set_option maxRecDepth 100000 in
theorem c_X12_firstOpen (l : Launch) (G : GG) {h : Hp} {M : Nat} {m : Md} (K : MdK h M) {c : Cmp} {r : Xr} (hC : CmR (m 1) c) (hX : XmR (m 1) r) (ok : xmOk c r)  : Con l G yX12_firstOpen wsX12_firstOpen 2 44 0 0 [.ref M] (Hm h M m) (pI (fun x h2 => x = foI r (fos c r 40 0) ∧ h2 = Hm h M m)) := by
  refine Con.of (cc := cX12_firstOpen) (nL := 3) (ret := (some .int)) (by decide) rfl rfl rfl rfl (fun Γ hG hl X Y9 => ?_)
  subst hG
  subst hl
  obtain ⟨⟨⟨x1, x2⟩, ⟨x3, x4⟩, x5, x6, x7⟩, ok2, x8, x9⟩ := id ok
  have ok21 := ok2.2.1
  have loop : ∀ (n i : Nat), i + n = xpc r → fos c r (40 - i) i = fos c r 40 0 → V Γ 0 0 2 [(0, .ref M), (1, .int (nI i))] [] (Hm h M m) := by
    intro n
    induction n with
    | zero =>
      intro i g1 g2
      rw [fos_end _ _ (by omega)] at g2
      refine V.iload_n X dX12_firstOpen_2 rfl ?_
      refine V.aload_n X dX12_firstOpen_3 rfl ?_
      refine V.mgr (k := 0) (a := 1) X K fX12_firstOpen_7 dX12_firstOpen_4 (by decide) ?_
      refine V.sipush (v := nI 276) X dX12_firstOpen_7 (by decide) ?_
      refine V.mld  X K 1 1178  dX12_firstOpen_10 rfl rfl (by omega) hX.1.2.2.2.2.1 ?_
      refine V.icmp_ge 54 X dX12_firstOpen_11 (by decide) (fun c11 => ?_) (fun c11 => False.elim (by rw [nI_leI (by omega) (by omega)] at c11; omega))
      rw [nI_leI (by omega) (by omega)] at c11
      refine V.sipush (v := -1000) X dX12_firstOpen_54 (by decide) ?_
      exact V.iret X Y9 dX12_firstOpen_57 ⟨by rw [← g2]; rfl, rfl⟩ (Nat.le_of_ble_eq_true rfl) (Nat.le_of_ble_eq_true rfl)
    | succ n ih =>
      intro i g1 g2
      have hi : i < xpc r := by omega
      have e0 : fos c r (40 - i) i = if 0 < opn c r i then some i else fos c r (40 - (i + 1)) (i + 1) := by
        rw [show 40 - i = (40 - (i + 1)) + 1 by omega]
        rfl
      rw [e0] at g2
      have xi := x7 i hi
      have inner : ∀ (n2 k : Nat), k + n2 = c.2.2.length → (0 < opn c r i → k ≤ xpr r i) → V Γ 0 0 16 [(0, .ref M), (1, .int (nI i)), (2, .int (nI k))] [] (Hm h M m) := by
        intro n2
        induction n2 with
        | zero =>
          intro k g3 g4
          have h0 : ¬ 0 < opn c r i := fun z => by
            have := g4 z
            unfold opn at z
            split at z <;> omega
          rw [if_neg h0] at g2
          refine V.iload_n X dX12_firstOpen_16 rfl ?_
          refine V.aload_n X dX12_firstOpen_17 rfl ?_
          refine V.mgr (k := 0) (a := 1) X K fX12_firstOpen_7 dX12_firstOpen_18 (by decide) ?_
          refine V.iconst (v := nI 4) X dX12_firstOpen_21 (by decide) ?_
          refine V.mld  X K 1 1178  dX12_firstOpen_22 rfl rfl (by omega) hC.2.2.1 ?_
          refine V.icmp_ge 48 X dX12_firstOpen_23 (by decide) (fun c23 => ?_) (fun c23 => False.elim (by rw [nI_leI (by omega) (by omega)] at c23; omega))
          rw [nI_leI (by omega) (by omega)] at c23
          refine V.iinc  X dX12_firstOpen_48 [(0, _), (1, _), (2, _)] rfl (nI_1 _) rfl rfl rfl ?_
          refine V.goto 2 X dX12_firstOpen_51 (by decide) ?_
          refine V.drop [(0, _), (1, _)] [0, 1] rfl ?_
          exact ih (i + 1) (by omega) g2
        | succ n2 ih2 =>
          intro k g3 g4
          have hk : k < c.2.2.length := by omega
          by_cases ho : xpr r i ≤ k ∧ (xsq r i).length < xmx r
          · have hp : 0 < opn c r i := by
              unfold opn
              rw [if_pos ⟨hi, ho.2⟩]
              omega
            have hk2 : k = xpr r i := by have := g4 hp; omega
            rw [if_pos hp] at g2
            have D : decide (xpr r i ≤ k ∧ (xsq r i).length < xmx r) = true := decide_eq_true ho
            refine V.iload_n X dX12_firstOpen_16 rfl ?_
            refine V.aload_n X dX12_firstOpen_17 rfl ?_
            refine V.mgr (k := 0) (a := 1) X K fX12_firstOpen_7 dX12_firstOpen_18 (by decide) ?_
            refine V.iconst (v := nI 4) X dX12_firstOpen_21 (by decide) ?_
            refine V.mld  X K 1 1178  dX12_firstOpen_22 rfl rfl (by omega) hC.2.2.1 ?_
            refine V.icmp_ge 48 X dX12_firstOpen_23 (by decide) (fun c23 => False.elim (by rw [nI_leI (by omega) (by omega)] at c23; omega)) (fun c23 => ?_)
            rw [nI_leI (by omega) (by omega)] at c23
            refine V.aload_n X dX12_firstOpen_26 rfl ?_
            refine V.iload_n X dX12_firstOpen_27 rfl ?_
            refine V.iload_n X dX12_firstOpen_28 rfl ?_
            refine V.callVi (n := 2) X dX12_firstOpen_29 gX12_firstOpen_X12_isOpen (c_X12_isOpen _ _ K hC hX ok hi hk) rfl (by decide +kernel) rfl rfl rfl K.1 rfl rfl ⟨Nat.le_of_ble_eq_true rfl, Nat.le_of_ble_eq_true rfl⟩ (fun r29 h29 hp29 => ?_)
            obtain ⟨rfl, e9⟩ := hp29; obtain rfl := e9.symm
            rw [D]
            refine V.if_eq 42 X dX12_firstOpen_32 (by decide) (fun c32 => False.elim (by revert c32; decide)) (fun c32 => ?_)
            refine V.bipush (v := nI 6) X dX12_firstOpen_35 (by decide) ?_
            refine V.iload_n X dX12_firstOpen_37 rfl ?_
            refine V.imulN X dX12_firstOpen_38 ?_
            refine V.iload_n X dX12_firstOpen_39 rfl ?_
            refine V.iaddN X dX12_firstOpen_40 ?_
            exact V.iret X Y9 dX12_firstOpen_41 ⟨by rw [← g2]; show _ = nI (6 * i + xpr r i); rw [hk2], rfl⟩ (Nat.le_of_ble_eq_true rfl) (Nat.le_of_ble_eq_true rfl)
          · have D : decide (xpr r i ≤ k ∧ (xsq r i).length < xmx r) = false := decide_eq_false ho
            have g5 : 0 < opn c r i → k + 1 ≤ xpr r i := fun z => by
              unfold opn at z
              split at z <;> omega
            refine V.iload_n X dX12_firstOpen_16 rfl ?_
            refine V.aload_n X dX12_firstOpen_17 rfl ?_
            refine V.mgr (k := 0) (a := 1) X K fX12_firstOpen_7 dX12_firstOpen_18 (by decide) ?_
            refine V.iconst (v := nI 4) X dX12_firstOpen_21 (by decide) ?_
            refine V.mld  X K 1 1178  dX12_firstOpen_22 rfl rfl (by omega) hC.2.2.1 ?_
            refine V.icmp_ge 48 X dX12_firstOpen_23 (by decide) (fun c23 => False.elim (by rw [nI_leI (by omega) (by omega)] at c23; omega)) (fun c23 => ?_)
            rw [nI_leI (by omega) (by omega)] at c23
            refine V.aload_n X dX12_firstOpen_26 rfl ?_
            refine V.iload_n X dX12_firstOpen_27 rfl ?_
            refine V.iload_n X dX12_firstOpen_28 rfl ?_
            refine V.callVi (n := 2) X dX12_firstOpen_29 gX12_firstOpen_X12_isOpen (c_X12_isOpen _ _ K hC hX ok hi hk) rfl (by decide +kernel) rfl rfl rfl K.1 rfl rfl ⟨Nat.le_of_ble_eq_true rfl, Nat.le_of_ble_eq_true rfl⟩ (fun r29 h29 hp29 => ?_)
            obtain ⟨rfl, e9⟩ := hp29; obtain rfl := e9.symm
            rw [D]
            refine V.if_eq 42 X dX12_firstOpen_32 (by decide) (fun c32 => ?_) (fun c32 => False.elim (by revert c32; decide))
            refine V.iinc  X dX12_firstOpen_42 [(0, _), (1, _), (2, _)] rfl (nI_1 _) rfl rfl rfl ?_
            refine V.goto 16 X dX12_firstOpen_45 (by decide) ?_
            exact ih2 (k + 1) (by omega) g5
      refine V.iload_n X dX12_firstOpen_2 rfl ?_
      refine V.aload_n X dX12_firstOpen_3 rfl ?_
      refine V.mgr (k := 0) (a := 1) X K fX12_firstOpen_7 dX12_firstOpen_4 (by decide) ?_
      refine V.sipush (v := nI 276) X dX12_firstOpen_7 (by decide) ?_
      refine V.mld  X K 1 1178  dX12_firstOpen_10 rfl rfl (by omega) hX.1.2.2.2.2.1 ?_
      refine V.icmp_ge 54 X dX12_firstOpen_11 (by decide) (fun c11 => False.elim (by rw [nI_leI (by omega) (by omega)] at c11; omega)) (fun c11 => ?_)
      rw [nI_leI (by omega) (by omega)] at c11
      refine V.iconst (v := nI 0) X dX12_firstOpen_14 (by decide) ?_
      refine V.istore_n X dX12_firstOpen_15 [(0, _), (1, _), (2, _)] rfl rfl rfl ?_
      exact inner c.2.2.length 0 (by omega) (fun _ => Nat.zero_le _)
  refine V.iconst (v := nI 0) X dX12_firstOpen_0 (by decide) ?_
  refine V.istore_n X dX12_firstOpen_1 [(0, _), (1, _)] rfl rfl rfl ?_
  exact loop (xpc r) 0 (by omega) rfl
theorem fX12_openPairs_7 : FL wsX12_openPairs RX12 7 14 0 (.array .int) true := ⟨_, rfl, by decide, Or.inl ⟨"ContractTesterModel", by decide +kernel, Or.inl rfl⟩, by decide +kernel, by decide +kernel, rfl⟩
set_option maxHeartbeats 4000000 in
set_option maxRecDepth 100000 in
theorem c_X12_openPairs (l : Launch) (G : GG) {h : Hp} {M : Nat} {m : Md} (K : MdK h M) {c : Cmp} {r : Xr} (hC : CmR (m 1) c) (hX : XmR (m 1) r) (ok : xmOk c r)  : Con l G yX12_openPairs wsX12_openPairs 2 44 0 0 [.ref M] (Hm h M m) (pI (fun x h2 => x = nI (cop c r 40 0) ∧ h2 = Hm h M m)) := by
  refine Con.of (cc := cX12_openPairs) (nL := 4) (ret := (some .int)) (by decide) rfl rfl rfl rfl (fun Γ hG hl X Y9 => ?_)
  subst hG
  subst hl
  obtain ⟨⟨⟨x1, x2⟩, ⟨x3, x4⟩, x5, x6, x7⟩, ok2, x8, x9⟩ := id ok
  have ok21 := ok2.2.1
  have loop : ∀ (n i w : Nat), i + n = xpc r → w + cop c r (40 - i) i = cop c r 40 0 → V Γ 0 0 4 [(0, .ref M), (1, .int (nI w)), (2, .int (nI i))] [] (Hm h M m) := by
    intro n
    induction n with
    | zero =>
      intro i w g1 g2
      rw [cop_end _ _ (by omega)] at g2
      refine V.iload_n X dX12_openPairs_4 rfl ?_
      refine V.aload_n X dX12_openPairs_5 rfl ?_
      refine V.mgr (k := 0) (a := 1) X K fX12_openPairs_7 dX12_openPairs_6 (by decide) ?_
      refine V.sipush (v := nI 276) X dX12_openPairs_9 (by decide) ?_
      refine V.mld  X K 1 1178  dX12_openPairs_12 rfl rfl (by omega) hX.1.2.2.2.2.1 ?_
      refine V.icmp_ge 57 X dX12_openPairs_13 (by decide) (fun c13 => ?_) (fun c13 => False.elim (by rw [nI_leI (by omega) (by omega)] at c13; omega))
      rw [nI_leI (by omega) (by omega)] at c13
      refine V.iload_n X dX12_openPairs_57 rfl ?_
      exact V.iret X Y9 dX12_openPairs_58 ⟨by rw [← g2]; rfl, rfl⟩ (Nat.le_of_ble_eq_true rfl) (Nat.le_of_ble_eq_true rfl)
    | succ n ih =>
      intro i w g1 g2
      have hi : i < xpc r := by omega
      have e0 : cop c r (40 - i) i = opn c r i + cop c r (40 - (i + 1)) (i + 1) := by
        rw [show 40 - i = (40 - (i + 1)) + 1 by omega]
        rfl
      rw [e0] at g2
      have xi := x7 i hi
      have ini : w + (if (xsq r i).length < xmx r then c.2.2.length - (if xpr r i ≤ 0 then 0 else xpr r i) else 0) + cop c r (40 - (i + 1)) (i + 1) = cop c r 40 0 := by
        rw [← g2]
        unfold opn
        by_cases hz : (xsq r i).length < xmx r
        · have z2 : i < xpc r ∧ (xsq r i).length < xmx r := ⟨hi, hz⟩
          rw [if_pos hz, if_pos z2]
          split <;> omega
        · have z2 : ¬ (i < xpc r ∧ (xsq r i).length < xmx r) := fun z => hz z.2
          rw [if_neg hz, if_neg z2]
          omega
      have inner : ∀ (n2 k w : Nat), k + n2 = c.2.2.length → w + (if (xsq r i).length < xmx r then c.2.2.length - (if xpr r i ≤ k then k else xpr r i) else 0) + cop c r (40 - (i + 1)) (i + 1) = cop c r 40 0 → V Γ 0 0 18 [(0, .ref M), (1, .int (nI w)), (2, .int (nI i)), (3, .int (nI k))] [] (Hm h M m) := by
        intro n2
        induction n2 with
        | zero =>
          intro k w g3 g4
          have g5 : w + cop c r (40 - (i + 1)) (i + 1) = cop c r 40 0 := by
            rw [← g4]
            split
            · split <;> omega
            · omega
          refine V.iload_n X dX12_openPairs_18 rfl ?_
          refine V.aload_n X dX12_openPairs_19 rfl ?_
          refine V.mgr (k := 0) (a := 1) X K fX12_openPairs_7 dX12_openPairs_20 (by decide) ?_
          refine V.iconst (v := nI 4) X dX12_openPairs_23 (by decide) ?_
          refine V.mld  X K 1 1178  dX12_openPairs_24 rfl rfl (by omega) hC.2.2.1 ?_
          refine V.icmp_ge 51 X dX12_openPairs_25 (by decide) (fun c25 => ?_) (fun c25 => False.elim (by rw [nI_leI (by omega) (by omega)] at c25; omega))
          rw [nI_leI (by omega) (by omega)] at c25
          refine V.iinc  X dX12_openPairs_51 [(0, _), (1, _), (2, _), (3, _)] rfl (nI_1 _) rfl rfl rfl ?_
          refine V.goto 4 X dX12_openPairs_54 (by decide) ?_
          refine V.drop [(0, _), (1, _), (2, _)] [0, 1, 2] rfl ?_
          exact ih (i + 1) w (by omega) g5
        | succ n2 ih2 =>
          intro k w g3 g4
          have hk : k < c.2.2.length := by omega
          by_cases ho : xpr r i ≤ k ∧ (xsq r i).length < xmx r
          · have D : decide (xpr r i ≤ k ∧ (xsq r i).length < xmx r) = true := decide_eq_true ho
            rw [if_pos ho.2, if_pos ho.1] at g4
            have g5 : w + 1 + (if (xsq r i).length < xmx r then c.2.2.length - (if xpr r i ≤ k + 1 then k + 1 else xpr r i) else 0) + cop c r (40 - (i + 1)) (i + 1) = cop c r 40 0 := by
              rw [if_pos ho.2, if_pos (by omega)]
              omega
            refine V.iload_n X dX12_openPairs_18 rfl ?_
            refine V.aload_n X dX12_openPairs_19 rfl ?_
            refine V.mgr (k := 0) (a := 1) X K fX12_openPairs_7 dX12_openPairs_20 (by decide) ?_
            refine V.iconst (v := nI 4) X dX12_openPairs_23 (by decide) ?_
            refine V.mld  X K 1 1178  dX12_openPairs_24 rfl rfl (by omega) hC.2.2.1 ?_
            refine V.icmp_ge 51 X dX12_openPairs_25 (by decide) (fun c25 => False.elim (by rw [nI_leI (by omega) (by omega)] at c25; omega)) (fun c25 => ?_)
            rw [nI_leI (by omega) (by omega)] at c25
            refine V.iload_n X dX12_openPairs_28 rfl ?_
            refine V.aload_n X dX12_openPairs_29 rfl ?_
            refine V.iload_n X dX12_openPairs_30 rfl ?_
            refine V.iload_n X dX12_openPairs_31 rfl ?_
            refine V.callVi (n := 2) X dX12_openPairs_32 gX12_openPairs_X12_isOpen (c_X12_isOpen _ _ K hC hX ok hi hk) rfl (by decide +kernel) rfl rfl rfl K.1 rfl rfl ⟨Nat.le_of_ble_eq_true rfl, Nat.le_of_ble_eq_true rfl⟩ (fun r32 h32 hp32 => ?_)
            obtain ⟨rfl, e9⟩ := hp32; obtain rfl := e9.symm
            rw [D]
            refine V.if_eq 42 X dX12_openPairs_35 (by decide) (fun c35 => False.elim (by revert c35; decide)) (fun c35 => ?_)
            refine V.iconst (v := nI 1) X dX12_openPairs_38 (by decide) ?_
            refine V.goto 43 X dX12_openPairs_39 (by decide) ?_
            refine V.iaddN X dX12_openPairs_43 ?_
            refine V.istore_n X dX12_openPairs_44 [(0, _), (1, _), (2, _), (3, _)] rfl rfl rfl ?_
            refine V.iinc  X dX12_openPairs_45 [(0, _), (1, _), (2, _), (3, _)] rfl (nI_1 _) rfl rfl rfl ?_
            refine V.goto 18 X dX12_openPairs_48 (by decide) ?_
            exact ih2 (k + 1) (w + 1) (by omega) g5
          · have D : decide (xpr r i ≤ k ∧ (xsq r i).length < xmx r) = false := decide_eq_false ho
            have g5 : w + 0 + (if (xsq r i).length < xmx r then c.2.2.length - (if xpr r i ≤ k + 1 then k + 1 else xpr r i) else 0) + cop c r (40 - (i + 1)) (i + 1) = cop c r 40 0 := by
              rw [← g4]
              split
              · split <;> split <;> omega
              · omega
            refine V.iload_n X dX12_openPairs_18 rfl ?_
            refine V.aload_n X dX12_openPairs_19 rfl ?_
            refine V.mgr (k := 0) (a := 1) X K fX12_openPairs_7 dX12_openPairs_20 (by decide) ?_
            refine V.iconst (v := nI 4) X dX12_openPairs_23 (by decide) ?_
            refine V.mld  X K 1 1178  dX12_openPairs_24 rfl rfl (by omega) hC.2.2.1 ?_
            refine V.icmp_ge 51 X dX12_openPairs_25 (by decide) (fun c25 => False.elim (by rw [nI_leI (by omega) (by omega)] at c25; omega)) (fun c25 => ?_)
            rw [nI_leI (by omega) (by omega)] at c25
            refine V.iload_n X dX12_openPairs_28 rfl ?_
            refine V.aload_n X dX12_openPairs_29 rfl ?_
            refine V.iload_n X dX12_openPairs_30 rfl ?_
            refine V.iload_n X dX12_openPairs_31 rfl ?_
            refine V.callVi (n := 2) X dX12_openPairs_32 gX12_openPairs_X12_isOpen (c_X12_isOpen _ _ K hC hX ok hi hk) rfl (by decide +kernel) rfl rfl rfl K.1 rfl rfl ⟨Nat.le_of_ble_eq_true rfl, Nat.le_of_ble_eq_true rfl⟩ (fun r32 h32 hp32 => ?_)
            obtain ⟨rfl, e9⟩ := hp32; obtain rfl := e9.symm
            rw [D]
            refine V.if_eq 42 X dX12_openPairs_35 (by decide) (fun c35 => ?_) (fun c35 => False.elim (by revert c35; decide))
            refine V.iconst (v := nI 0) X dX12_openPairs_42 (by decide) ?_
            refine V.iaddN X dX12_openPairs_43 ?_
            refine V.istore_n X dX12_openPairs_44 [(0, _), (1, _), (2, _), (3, _)] rfl rfl rfl ?_
            refine V.iinc  X dX12_openPairs_45 [(0, _), (1, _), (2, _), (3, _)] rfl (nI_1 _) rfl rfl rfl ?_
            refine V.goto 18 X dX12_openPairs_48 (by decide) ?_
            exact ih2 (k + 1) (w + 0) (by omega) g5
      refine V.iload_n X dX12_openPairs_4 rfl ?_
      refine V.aload_n X dX12_openPairs_5 rfl ?_
      refine V.mgr (k := 0) (a := 1) X K fX12_openPairs_7 dX12_openPairs_6 (by decide) ?_
      refine V.sipush (v := nI 276) X dX12_openPairs_9 (by decide) ?_
      refine V.mld  X K 1 1178  dX12_openPairs_12 rfl rfl (by omega) hX.1.2.2.2.2.1 ?_
      refine V.icmp_ge 57 X dX12_openPairs_13 (by decide) (fun c13 => False.elim (by rw [nI_leI (by omega) (by omega)] at c13; omega)) (fun c13 => ?_)
      rw [nI_leI (by omega) (by omega)] at c13
      refine V.iconst (v := nI 0) X dX12_openPairs_16 (by decide) ?_
      refine V.istore_n X dX12_openPairs_17 [(0, _), (1, _), (2, _), (3, _)] rfl rfl rfl ?_
      exact inner c.2.2.length 0 w (by omega) ini
  refine V.iconst (v := nI 0) X dX12_openPairs_0 (by decide) ?_
  refine V.istore_n X dX12_openPairs_1 [(0, _), (1, _)] rfl rfl rfl ?_
  refine V.iconst (v := nI 0) X dX12_openPairs_2 (by decide) ?_
  refine V.istore_n X dX12_openPairs_3 [(0, _), (1, _), (2, _)] rfl rfl rfl ?_
  exact loop (xpc r) 0 0 (by omega) (by rw [Nat.zero_add])
theorem fX12_extend_7 : FL wsX12_extend RX12 7 14 0 (.array .int) true := ⟨_, rfl, by decide, Or.inl ⟨"ContractTesterModel", by decide +kernel, Or.inl rfl⟩, by decide +kernel, by decide +kernel, rfl⟩
set_option maxHeartbeats 4000000 in
set_option maxRecDepth 100000 in
theorem c_X12_extend (l : Launch) (G : GG) {h : Hp} {M : Nat} {m : Md} (K : MdK h M) {i x p : Nat} {xs : List Nat} (hi : i < 40) (hS : SqM (m 1) 278 i xs) (hl : xs.length ≤ 8) (hd : 278 + 11 * i + 11 ≤ p) (hp : p + 11 ≤ 1178) : Con l G yX12_extend wsX12_extend 1 23 0 0 [.ref M, .int (nI i), .int (nI x), .int (nI p)] (Hm h M m) (pV (fun h2 => h2 = Hm h M (extM m i xs.length p x))) := by
  refine Con.of (cc := cX12_extend) (nL := 6) (ret := none) (by decide) rfl rfl rfl rfl (fun Γ hG hl X Y9 => ?_)
  subst hG
  subst hl
  have loop : ∀ (n k : Nat), k + n = xs.length → V Γ 0 0 23 [(0, .ref M), (1, .int (nI i)), (2, .int (nI x)), (3, .int (nI p)), (4, .int (nI xs.length)), (5, .int (nI k))] [] (Hm h M (cpy (mput m 1 p (nI (xs.length + 1))) 1 1 (p + 1) (278 + 11 * i + 1) k)) := by
    intro n
    induction n with
    | zero =>
      intro k g1
      obtain rfl : k = xs.length := by omega
      refine V.iload X dX12_extend_23 rfl ?_
      refine V.iload X dX12_extend_25 rfl ?_
      refine V.icmp_ge 57 X dX12_extend_27 (by decide) (fun c27 => ?_) (fun c27 => False.elim (by rw [nI_leI (by omega) (by omega)] at c27; omega))
      rw [nI_leI (by omega) (by omega)] at c27
      refine V.aload_n X dX12_extend_57 rfl ?_
      refine V.mgr (k := 0) (a := 1) X K fX12_extend_7 dX12_extend_58 (by decide) ?_
      refine V.iload_n X dX12_extend_61 rfl ?_
      refine V.iconst (v := nI 1) X dX12_extend_62 (by decide) ?_
      refine V.iaddN X dX12_extend_63 ?_
      refine V.iload X dX12_extend_64 rfl ?_
      refine V.iaddN X dX12_extend_66 ?_
      refine V.iload_n X dX12_extend_67 rfl ?_
      refine V.mst X K 1 1178  dX12_extend_68 rfl rfl (by omega) ?_
      exact V.vret X Y9 dX12_extend_69 ⟨rfl, rfl⟩ (Nat.le_of_ble_eq_true rfl) (Nat.le_of_ble_eq_true rfl)
    | succ n ih =>
      intro k g1
      refine V.iload X dX12_extend_23 rfl ?_
      refine V.iload X dX12_extend_25 rfl ?_
      refine V.icmp_ge 57 X dX12_extend_27 (by decide) (fun c27 => False.elim (by rw [nI_leI (by omega) (by omega)] at c27; omega)) (fun c27 => ?_)
      rw [nI_leI (by omega) (by omega)] at c27
      refine V.aload_n X dX12_extend_30 rfl ?_
      refine V.mgr (k := 0) (a := 1) X K fX12_extend_7 dX12_extend_31 (by decide) ?_
      refine V.iload_n X dX12_extend_34 rfl ?_
      refine V.iconst (v := nI 1) X dX12_extend_35 (by decide) ?_
      refine V.iaddN X dX12_extend_36 ?_
      refine V.iload X dX12_extend_37 rfl ?_
      refine V.iaddN X dX12_extend_39 ?_
      refine V.aload_n X dX12_extend_40 rfl ?_
      refine V.sipush (v := nI 278) X dX12_extend_41 (by decide) ?_
      refine V.iload_n X dX12_extend_44 rfl ?_
      refine V.iload X dX12_extend_45 rfl ?_
      refine V.callVi (n := 3) X dX12_extend_47 gX12_extend_X12_callOf (c_X12_callOf _ _ K (by omega)) rfl (by decide +kernel) rfl rfl rfl K.1 rfl rfl ⟨Nat.le_of_ble_eq_true rfl, Nat.le_of_ble_eq_true rfl⟩ (fun r47 h47 hp47 => ?_)
      obtain ⟨rfl, e9⟩ := hp47; obtain rfl := e9.symm
      refine V.mst X K 1 1178  dX12_extend_50 rfl rfl (by omega) ?_
      rw [cpy_q (by omega) (cpy_r (by omega) (by omega))]
      refine V.iinc  X dX12_extend_51 [(0, _), (1, _), (2, _), (3, _), (4, _), (5, _)] rfl (nI_1 _) rfl rfl rfl ?_
      refine V.goto 23 X dX12_extend_54 (by decide) ?_
      exact ih (k + 1) (by omega)
  refine V.aload_n X dX12_extend_0 rfl ?_
  refine V.sipush (v := nI 278) X dX12_extend_1 (by decide) ?_
  refine V.iload_n X dX12_extend_4 rfl ?_
  refine V.callVi (n := 2) X dX12_extend_5 gX12_extend_X12_lengthOf (c_X12_lengthOf _ _ K (by omega)) rfl (by decide +kernel) rfl rfl rfl K.1 rfl rfl ⟨Nat.le_of_ble_eq_true rfl, Nat.le_of_ble_eq_true rfl⟩ (fun r5 h5 hp5 => ?_)
  obtain ⟨rfl, e9⟩ := hp5; obtain rfl := e9.symm
  rw [hS.1]
  refine V.istore X dX12_extend_8 [(0, _), (1, _), (2, _), (3, _), (4, _)] rfl rfl rfl ?_
  refine V.aload_n X dX12_extend_10 rfl ?_
  refine V.mgr (k := 0) (a := 1) X K fX12_extend_7 dX12_extend_11 (by decide) ?_
  refine V.iload_n X dX12_extend_14 rfl ?_
  refine V.iload X dX12_extend_15 rfl ?_
  refine V.iconst (v := nI 1) X dX12_extend_17 (by decide) ?_
  refine V.iaddN X dX12_extend_18 ?_
  refine V.mst X K 1 1178  dX12_extend_19 rfl rfl (by omega) ?_
  refine V.iconst (v := nI 0) X dX12_extend_20 (by decide) ?_
  refine V.istore X dX12_extend_21 [(0, _), (1, _), (2, _), (3, _), (4, _), (5, _)] rfl rfl rfl ?_
  have l9 := loop xs.length 0 (by omega)
  rw [cpy_0] at l9
  exact l9
theorem fX12_findTarget_7 : FL wsX12_findTarget RX12 7 14 0 (.array .int) true := ⟨_, rfl, by decide, Or.inl ⟨"ContractTesterModel", by decide +kernel, Or.inl rfl⟩, by decide +kernel, by decide +kernel, rfl⟩
theorem fX12_findTarget_22 : FL wsX12_findTarget RX12 22 14 11 (.array .int) true := ⟨_, rfl, by decide, Or.inl ⟨"ContractTesterModel", by decide +kernel, Or.inl rfl⟩, by decide +kernel, by decide +kernel, rfl⟩
theorem fX12_findTarget_28 : FL wsX12_findTarget RX12 28 14 13 (.array .int) true := ⟨_, rfl, by decide, Or.inl ⟨"ContractTesterModel", by decide +kernel, Or.inl rfl⟩, by decide +kernel, by decide +kernel, rfl⟩
set_option maxHeartbeats 4000000 in
set_option maxRecDepth 100000 in
theorem c_X12_findTarget (l : Launch) (G : GG) {h : Hp} {M : Nat} {m : Md} (K : MdK h M) {c : Cmp} {r : Xr} (hC : CmR (m 1) c) (hX : XmR (m 1) r) (ok : xmOk c r) {t : St} (ht : stM m 7 = t) : Con l G yX12_findTarget wsX12_findTarget 5 114 0 0 [.ref M] (Hm h M m) (pI (fun x h2 => x = oI (sws r t 40 0) ∧ ∃ m2, h2 = Hm h M m2 ∧ MFr scP m m2)) := by
  refine Con.of (cc := cX12_findTarget) (nL := 2) (ret := (some .int)) (by decide) rfl rfl rfl rfl (fun Γ hG hl X Y9 => ?_)
  subst hG
  subst hl
  obtain ⟨⟨⟨x1, x2⟩, ⟨x3, x4⟩, x5, x6, x7⟩, ok2, x8, x9⟩ := id ok
  have ok21 := ok2.2.1
  have loop : ∀ (n i : Nat) (m1 : Md), i + n = xpc r → MFr scP m m1 → sws r t (40 - i) i = sws r t 40 0 → V Γ 0 0 2 [(0, .ref M), (1, .int (nI i))] [] (Hm h M m1) := by
    intro n
    induction n with
    | zero =>
      intro i m1 g1 F1 g2
      rw [sws_end _ _ (by omega)] at g2
      refine V.iload_n X dX12_findTarget_2 rfl ?_
      refine V.aload_n X dX12_findTarget_3 rfl ?_
      refine V.mgr (k := 0) (a := 1) X K fX12_findTarget_7 dX12_findTarget_4 (by decide) ?_
      refine V.sipush (v := nI 276) X dX12_findTarget_7 (by decide) ?_
      refine V.mld  X K 1 1178  dX12_findTarget_10 rfl rfl (by omega) ((F1 1 _ (scP1 _)).trans hX.1.2.2.2.2.1) ?_
      refine V.icmp_ge 72 X dX12_findTarget_11 (by decide) (fun c11 => ?_) (fun c11 => False.elim (by rw [nI_leI (by omega) (by omega)] at c11; omega))
      rw [nI_leI (by omega) (by omega)] at c11
      refine V.sipush (v := -1000) X dX12_findTarget_72 (by decide) ?_
      exact V.iret X Y9 dX12_findTarget_75 ⟨by rw [← g2]; rfl, m1, rfl, F1⟩ (Nat.le_of_ble_eq_true rfl) (Nat.le_of_ble_eq_true rfl)
    | succ n ih =>
      intro i m1 g1 F1 g2
      have hi : i < xpc r := by omega
      have e0 : sws r t (40 - i) i = if i < xpc r ∧ xss r i = t then some i else sws r t (40 - (i + 1)) (i + 1) := by
        rw [show 40 - i = (40 - (i + 1)) + 1 by omega]
        rfl
      rw [e0] at g2
      have C1 := hC.fr ok2 F1 scP1
      have S1 : SqM (m1 1) 278 i (xsq r i) := (hX.2.1 i hi).same (fun k _ _ => F1 1 k (scP1 k))
      have fin : ∀ (m2 : Md), MFr scP m1 m2 → stM m2 5 = xss r i → ¬ xss r i = t → V Γ 0 0 66 [(0, .ref M), (1, .int (nI i))] [] (Hm h M m2) := by
        intro m2 F2 h5 hne
        rw [if_neg (fun z => hne z.2)] at g2
        refine V.iinc  X dX12_findTarget_66 [(0, _), (1, _)] rfl (nI_1 _) rfl rfl rfl ?_
        refine V.goto 2 X dX12_findTarget_69 (by decide) ?_
        exact ih (i + 1) m2 (by omega) (F1.tr F2) g2
      refine V.iload_n X dX12_findTarget_2 rfl ?_
      refine V.aload_n X dX12_findTarget_3 rfl ?_
      refine V.mgr (k := 0) (a := 1) X K fX12_findTarget_7 dX12_findTarget_4 (by decide) ?_
      refine V.sipush (v := nI 276) X dX12_findTarget_7 (by decide) ?_
      refine V.mld  X K 1 1178  dX12_findTarget_10 rfl rfl (by omega) ((F1 1 _ (scP1 _)).trans hX.1.2.2.2.2.1) ?_
      refine V.icmp_ge 72 X dX12_findTarget_11 (by decide) (fun c11 => False.elim (by rw [nI_leI (by omega) (by omega)] at c11; omega)) (fun c11 => ?_)
      rw [nI_leI (by omega) (by omega)] at c11
      refine V.aload_n X dX12_findTarget_14 rfl ?_
      refine V.iload_n X dX12_findTarget_15 rfl ?_
      refine V.callVv (n := 1) X dX12_findTarget_16 gX12_findTarget_X12_execute (c_X12_execute _ _ K C1 ok2 (by omega) S1 (x8 i hi).2.2 (x8 i hi).2.1) rfl (by decide +kernel) rfl rfl rfl K.1 rfl rfl ⟨Nat.le_of_ble_eq_true rfl, Nat.le_of_ble_eq_true rfl⟩ (fun h16 hp16 => ?_)
      obtain ⟨m2, rfl, F2, h5⟩ := hp16
      have t7 : stM m2 7 = t := by
        rw [← ht]
        unfold stM
        rw [F2 7 0 (by unfold scP; omega), F2 7 1 (by unfold scP; omega), F2 7 2 (by unfold scP; omega), F1 7 0 (by unfold scP; omega), F1 7 1 (by unfold scP; omega), F1 7 2 (by unfold scP; omega)]
      refine V.aload_n X dX12_findTarget_19 rfl ?_
      refine V.mgr (k := 11) (a := 5) X K fX12_findTarget_22 dX12_findTarget_20 (by decide) ?_
      refine V.iconst (v := nI 0) X dX12_findTarget_23 (by decide) ?_
      refine V.mld  X K 5 3  dX12_findTarget_24 rfl rfl (by omega) rfl ?_
      refine V.aload_n X dX12_findTarget_25 rfl ?_
      refine V.mgr (k := 13) (a := 7) X K fX12_findTarget_28 dX12_findTarget_26 (by decide) ?_
      refine V.iconst (v := nI 0) X dX12_findTarget_29 (by decide) ?_
      refine V.mld  X K 7 3  dX12_findTarget_30 rfl rfl (by omega) rfl ?_
      refine V.icmp_ne 66 X dX12_findTarget_31 (by decide) (fun c31 => ?_) (fun c31 => ?_)
      · exact fin m2 F2 h5 (fun z => c31 (congrArg (fun s : St => s.1) (h5.trans (z.trans t7.symm))))
      · refine V.aload_n X dX12_findTarget_34 rfl ?_
        refine V.mgr (k := 11) (a := 5) X K fX12_findTarget_22 dX12_findTarget_35 (by decide) ?_
        refine V.iconst (v := nI 1) X dX12_findTarget_38 (by decide) ?_
        refine V.mld  X K 5 3  dX12_findTarget_39 rfl rfl (by omega) rfl ?_
        refine V.aload_n X dX12_findTarget_40 rfl ?_
        refine V.mgr (k := 13) (a := 7) X K fX12_findTarget_28 dX12_findTarget_41 (by decide) ?_
        refine V.iconst (v := nI 1) X dX12_findTarget_44 (by decide) ?_
        refine V.mld  X K 7 3  dX12_findTarget_45 rfl rfl (by omega) rfl ?_
        refine V.icmp_ne 66 X dX12_findTarget_46 (by decide) (fun c46 => ?_) (fun c46 => ?_)
        · exact fin m2 F2 h5 (fun z => c46 (congrArg (fun s : St => s.2.1) (h5.trans (z.trans t7.symm))))
        · refine V.aload_n X dX12_findTarget_49 rfl ?_
          refine V.mgr (k := 11) (a := 5) X K fX12_findTarget_22 dX12_findTarget_50 (by decide) ?_
          refine V.iconst (v := nI 2) X dX12_findTarget_53 (by decide) ?_
          refine V.mld  X K 5 3  dX12_findTarget_54 rfl rfl (by omega) rfl ?_
          refine V.aload_n X dX12_findTarget_55 rfl ?_
          refine V.mgr (k := 13) (a := 7) X K fX12_findTarget_28 dX12_findTarget_56 (by decide) ?_
          refine V.iconst (v := nI 2) X dX12_findTarget_59 (by decide) ?_
          refine V.mld  X K 7 3  dX12_findTarget_60 rfl rfl (by omega) rfl ?_
          refine V.icmp_ne 66 X dX12_findTarget_61 (by decide) (fun c61 => ?_) (fun c61 => ?_)
          · exact fin m2 F2 h5 (fun z => c61 (congrArg (fun s : St => s.2.2) (h5.trans (z.trans t7.symm))))
          · have hz : xss r i = t := by
              rw [← h5, ← t7]
              unfold stM
              rw [c31, c46, c61]
            rw [if_pos ⟨hi, hz⟩] at g2
            refine V.iload_n X dX12_findTarget_64 rfl ?_
            exact V.iret X Y9 dX12_findTarget_65 ⟨by rw [← g2]; rfl, m2, rfl, F1.tr F2⟩ (Nat.le_of_ble_eq_true rfl) (Nat.le_of_ble_eq_true rfl)
  refine V.iconst (v := nI 0) X dX12_findTarget_0 (by decide) ?_
  refine V.istore_n X dX12_findTarget_1 [(0, _), (1, _)] rfl rfl rfl ?_
  exact loop (xpc r) 0 m (by omega) MFr.rf rfl
