theorem ix_of {x : Int32} {n : Nat} (h : isIx x n = true) (hn : n < 2 ^ 31) : ∃ j, j < n ∧ x = nI j := by
  have h0 : ¬ x < 0 := fun z => by rw [isIx_neg z] at h; cases h
  obtain ⟨j, hj, rfl⟩ := nI_of h0
  rw [isIx_nI hj] at h
  exact ⟨j, of_decide_eq_true h, rfl⟩
theorem zOk_m {q : Mth} (h : mtOk q) : ∀ x ∈ MtL q, zOk x := by
  obtain ⟨-, -, -, a, b, c⟩ := h
  intro x hx
  unfold MtL at hx
  rcases List.mem_append.mp hx with hx | hx
  · rcases List.mem_append.mp hx with hx | hx
    · obtain ⟨y, hy, rfl⟩ := List.mem_map.mp hx
      exact ⟨Or.inl rfl, cnOk_t (a y hy)⟩
    · obtain ⟨y, hy, rfl⟩ := List.mem_map.mp hx
      exact ⟨rfl, b y hy⟩
  · obtain ⟨y, hy, rfl⟩ := List.mem_map.mp hx
    exact ⟨Or.inr rfl, c y hy⟩
theorem all_tr {α : Type} {f : α → Clz} {p : Clz → Bool} (h : ∀ y, p (f y) = true) (l : List α) : (l.map f).all p = true := by
  rw [List.all_eq_true]
  intro x hx
  obtain ⟨y, -, rfl⟩ := List.mem_map.mp hx
  exact h y
theorem all_eq {f : Cnd → Clz} {p : Clz → Bool} {b a : St} (h : ∀ y, p (f y) = chk y b a) (l : List Cnd) : (l.map f).all p = allC l b a := by
  induction l with
  | nil => rfl
  | cons y l ih =>
    rw [List.map_cons, List.all_cons, ih, h]
    rfl
theorem all_1 (q : Mth) (b a : St) : (MtL q).all (hld 1 b a) = allC q.1 b a := by
  unfold MtL
  rw [List.all_append, List.all_append, all_eq (b := b) (a := a) (fun y => if_pos rfl), all_tr (fun y => if_neg (by decide : ¬ (2 : Nat) = 1)), all_tr (fun y => if_neg (by decide : ¬ (3 : Nat) = 1)), Bool.and_true, Bool.and_true]
theorem all_3 (q : Mth) (b a : St) : (MtL q).all (hld 3 b a) = allC q.2.2 b a := by
  unfold MtL
  rw [List.all_append, List.all_append, all_eq (f := cl3) (b := b) (a := a) (fun y => if_pos rfl), all_tr (f := cl2) (fun y => if_neg (by decide : ¬ (2 : Nat) = 3)), all_tr (f := cl1) (fun y => if_neg (by decide : ¬ (1 : Nat) = 3)), Bool.true_and, Bool.true_and]
theorem runZ_c {f : Cnd → Clz} (h : ∀ y, (f y).2 = .inl y) (l : List Cnd) : ∀ (r : List Clz) (s : St), runZ (l.map f ++ r) s = runZ r s := by
  induction l with
  | nil => intro r s; rfl
  | cons y l ih =>
    intro r s
    rw [List.map_cons, List.cons_append]
    show (match (f y).2 with
      | .inl _ => runZ (l.map f ++ r) s
      | .inr a => if badV (asgV a s) = true then none else runZ (l.map f ++ r) (setF s a.1 (asgV a s))) = _
    rw [h]
    exact ih r s
theorem runZ_a (l : List Asg) : ∀ (r : List Clz) (s : St), (∀ s, runZ r s = some s) → runZ (l.map cl2 ++ r) s = runA l s := by
  induction l with
  | nil => intro r s h; exact h s
  | cons y l ih =>
    intro r s h
    rw [List.map_cons, List.cons_append]
    show (if badV (asgV y s) = true then none else runZ (l.map cl2 ++ r) (setF s y.1 (asgV y s))) = (if badV (asgV y s) = true then none else runA l (setF s y.1 (asgV y s)))
    rw [ih r _ h]
theorem runZ_q (q : Mth) (s : St) : runZ (MtL q) s = runA q.2.1 s := by
  unfold MtL
  rw [List.append_assoc, runZ_c (f := cl1) (fun _ => rfl)]
  refine runZ_a _ _ _ (fun s => ?_)
  have e := runZ_c (f := cl3) (fun _ => rfl) q.2.2 [] s
  rw [List.append_nil] at e
  exact e
theorem CmR.fr {P : Nat → Nat → Prop} {m m2 : Md} {c : Cmp} (h : CmR (m 1) c) (o : cmOk c) (f : MFr P m m2) (hp : ∀ k, ¬ P 1 k) : CmR (m2 1) c := h.same o (fun k _ => f 1 k (hp k))
theorem scP1 : ∀ k, ¬ scP 1 k := fun k z => by unfold scP at z; omega
theorem nowP1 : ∀ k, ¬ nowP 1 k := fun k z => by unfold nowP at z; omega
/-- a row of calls, one after the other, each with verdict 0 -/
def exS (c : Cmp) : List Nat → St → Option St
  | [], s => some s
  | x :: r, s => if verd c x s = 0 then exS c r (nxt c x s) else none
def SqM (f : Nat → Int32) (b i : Nat) (xs : List Nat) : Prop := f (b + 11 * i) = nI xs.length ∧ xs.length ≤ 9 ∧ ∀ k, k < xs.length → f (b + 11 * i + 1 + k) = nI (xs.getD k 0)
theorem getD_some {xs : List Nat} {k : Nat} (h : k < xs.length) : xs[k]? = some (xs.getD k 0) := by
  rw [List.getD_eq_getElem?_getD, List.getElem?_eq_getElem h]
  rfl
def cntZ : List Clz → Nat
  | [] => 0
  | x :: r => (match x.2 with
    | .inl _ => 0
    | .inr a => if a.2.2.1 = 0 then 0 else 1) + cntZ r
theorem cntZ_app (a b : List Clz) : cntZ (a ++ b) = cntZ a + cntZ b := by
  induction a with
  | nil => show cntZ b = 0 + cntZ b; omega
  | cons x a ih =>
    rw [List.cons_append]
    show _ + cntZ (a ++ b) = _ + cntZ a + cntZ b
    rw [ih]
    omega
theorem cntZ_c {f : Cnd → Clz} (h : ∀ y, (f y).2 = .inl y) (l : List Cnd) : cntZ (l.map f) = 0 := by
  induction l with
  | nil => rfl
  | cons y l ih =>
    rw [List.map_cons]
    show (match (f y).2 with
      | .inl _ => 0
      | .inr a => if a.2.2.1 = 0 then 0 else 1) + cntZ (l.map f) = 0
    rw [h, ih]
theorem cntZ_a (l : List Asg) : cntZ (l.map cl2) = cntA l := by
  induction l with
  | nil => rfl
  | cons y l ih =>
    rw [List.map_cons]
    have e := cntA_drop (cs := y :: l) (j := 0) (q := y) rfl
    rw [List.drop_zero] at e
    rw [e]
    show (if y.2.2.1 = 0 then 0 else 1) + cntZ (l.map cl2) = _
    rw [ih]
    rfl
theorem wgt_q (q : Mth) : (MtL q).length + cntZ (MtL q) = wgt q := by
  unfold MtL wgt
  rw [cntZ_app, cntZ_app, cntZ_c (f := cl1) (fun _ => rfl), cntZ_c (f := cl3) (fun _ => rfl), cntZ_a, List.length_append, List.length_append, List.length_map, List.length_map, List.length_map]
  omega
theorem cntZ_le (l : List Clz) : cntZ l ≤ l.length := by
  induction l with
  | nil => exact Nat.le_refl _
  | cons x l ih =>
    show _ + cntZ l ≤ l.length + 1
    have : (match x.2 with
      | .inl _ => 0
      | .inr a => if a.2.2.1 = 0 then 0 else 1) ≤ 1 := by
      split
      · omega
      · split <;> omega
    omega
theorem fX12_calls_7 : FL wsX12_calls RX12 7 14 0 (.array .int) true := ⟨_, rfl, by decide, Or.inl ⟨"ContractTesterModel", by decide +kernel, Or.inl rfl⟩, by decide +kernel, by decide +kernel, rfl⟩
theorem fX12_calls_25 : FL wsX12_calls RX12 25 14 12 (.array .int) true := ⟨_, rfl, by decide, Or.inl ⟨"ContractTesterModel", by decide +kernel, Or.inl rfl⟩, by decide +kernel, by decide +kernel, rfl⟩
theorem fX12_calls_22 : FL wsX12_calls RX12 22 14 11 (.array .int) true := ⟨_, rfl, by decide, Or.inl ⟨"ContractTesterModel", by decide +kernel, Or.inl rfl⟩, by decide +kernel, by decide +kernel, rfl⟩
set_option maxHeartbeats 4000000 in
set_option maxRecDepth 100000 in
theorem c_X12_calls (l : Launch) (G : GG) {h : Hp} {M : Nat} {m : Md} (K : MdK h M) {c : Cmp} (hC : CmR (m 1) c) (ok : cmOk c) {j : Nat} {q : Mth} (hq : c.2.2[j]? = some q) : Con l G yX12_calls wsX12_calls 3 69 0 0 [.ref M, .int (nI j)] (Hm h M m) (pI (fun x h2 => x = nI (verd c j (stM m 5)) ∧ ∃ m2, h2 = Hm h M m2 ∧ MFr scP m m2 ∧ (verd c j (stM m 5) = 0 → stM m2 5 = nxt c j (stM m 5)))) := by
  refine Con.of (cc := cX12_calls) (nL := 4) (ret := (some .int)) (by decide) rfl rfl rfl rfl (fun Γ hG hl X Y9 => ?_)
  subst hG
  subst hl
  have hb := (List.getElem?_eq_some_iff.mp hq).1
  have hj6 : j < 6 := by have := ok.2.1; omega
  have mok := ok.2.2.2 q (List.mem_of_getElem? hq)
  have hl7 := MtL_len mok
  have zok := zOk_m mok
  have inv : ∀ (m2 : Md) (s a : St), MFr scP m m2 → stM m2 6 = s → stM m2 5 = a → s = stM m 5 → allC q.1 s s = true → runA q.2.1 s = some a → allC q.2.2 s a = true → ∀ (n i : Nat) (b : Bool), i + n = c.2.1.length → (b && allC (c.2.1.drop i) s a) = allC c.2.1 s a → V Γ 0 0 61 [(0, .ref M), (1, .int (nI j)), (2, .int (bI b)), (3, .int (nI i))] [] (Hm h M m2) := by
    intro m2 s a F2 h6 h5 hs a1 a2 a3 n
    have C2 := hC.fr ok F2 scP1
    have l3 := ok.1
    induction n with
    | zero =>
      intro i b g1 g2
      rw [List.drop_eq_nil_of_le (by omega)] at g2
      have g2 : b = allC c.2.1 s a := by rw [← g2]; cases b <;> rfl
      refine V.iload_n X dX12_calls_61 rfl ?_
      refine V.aload_n X dX12_calls_62 rfl ?_
      refine V.mgr (k := 0) (a := 1) X K fX12_calls_7 dX12_calls_63 (by decide) ?_
      refine V.iconst (v := nI 3) X dX12_calls_66 (by decide) ?_
      refine V.mld  X K 1 1178  dX12_calls_67 rfl rfl (by omega) C2.2.1 ?_
      refine V.icmp_ge 99 X dX12_calls_68 (by decide) (fun c68 => ?_) (fun c68 => False.elim (by rw [nI_leI (by omega) (by omega)] at c68; omega))
      rw [nI_leI (by omega) (by omega)] at c68
      refine V.iload_n X dX12_calls_99 rfl ?_
      refine V.if_eq 107 X dX12_calls_100 (by decide) (fun c100 => ?_) (fun c100 => ?_)
      · have c100 := bI_eq c100
        have e9 : verd c j (stM m 5) = 4 := by rw [← hs, verd_ok hq a1 a2, if_pos a3, if_neg (by rw [← g2, c100]; decide)]
        refine V.iconst (v := nI 4) X dX12_calls_107 (by decide) ?_
        exact V.iret X Y9 dX12_calls_108 ⟨by rw [e9], m2, rfl, F2, fun z => by rw [nxt_q hq, ← hs, a2]; exact h5⟩ (Nat.le_of_ble_eq_true rfl) (Nat.le_of_ble_eq_true rfl)
      · have c100 := bI_ne c100
        have e9 : verd c j (stM m 5) = 0 := by rw [← hs, verd_ok hq a1 a2, if_pos a3, if_pos (by rw [← g2, c100])]
        refine V.iconst (v := nI 0) X dX12_calls_103 (by decide) ?_
        refine V.goto 108 X dX12_calls_104 (by decide) ?_
        exact V.iret X Y9 dX12_calls_108 ⟨by rw [e9], m2, rfl, F2, fun z => by rw [nxt_q hq, ← hs, a2]; exact h5⟩ (Nat.le_of_ble_eq_true rfl) (Nat.le_of_ble_eq_true rfl)
    | succ n ih =>
      intro i b g1 g2
      obtain ⟨x, hx⟩ := get_some (show i < c.2.1.length by omega)
      rw [allC_drop hx] at g2
      have hR := C2.2.2.2.1 i x hx
      have hz := cnOk_t (ok.2.2.1 x (List.mem_of_getElem? hx))
      refine V.iload_n X dX12_calls_61 rfl ?_
      refine V.aload_n X dX12_calls_62 rfl ?_
      refine V.mgr (k := 0) (a := 1) X K fX12_calls_7 dX12_calls_63 (by decide) ?_
      refine V.iconst (v := nI 3) X dX12_calls_66 (by decide) ?_
      refine V.mld  X K 1 1178  dX12_calls_67 rfl rfl (by omega) C2.2.1 ?_
      refine V.icmp_ge 99 X dX12_calls_68 (by decide) (fun c68 => False.elim (by rw [nI_leI (by omega) (by omega)] at c68; omega)) (fun c68 => ?_)
      rw [nI_leI (by omega) (by omega)] at c68
      refine V.iload_n X dX12_calls_71 rfl ?_
      refine V.if_eq 91 X dX12_calls_72 (by decide) (fun c72 => ?_) (fun c72 => ?_)
      · have c72 := bI_eq c72
        obtain rfl := c72
        refine V.iconst (v := (bI false)) X dX12_calls_91 (by decide) ?_
        refine V.istore_n X dX12_calls_92 [(0, _), (1, _), (2, _), (3, _)] rfl rfl rfl ?_
        refine V.iinc  X dX12_calls_93 [(0, _), (1, _), (2, _), (3, _)] rfl (nI_1 _) rfl rfl rfl ?_
        refine V.goto 61 X dX12_calls_96 (by decide) ?_
        first
          | exact ih (i + 1) false (by omega) g2
          | exact ih (i + 1) true (by omega) g2
      · have c72 := bI_ne c72
        obtain rfl := c72
        refine V.aload_n X dX12_calls_75 rfl ?_
        refine V.iconst (v := nI 5) X dX12_calls_76 (by decide) ?_
        refine V.iconst (v := nI 3) X dX12_calls_77 (by decide) ?_
        refine V.iload_n X dX12_calls_78 rfl ?_
        refine V.imulN X dX12_calls_79 ?_
        refine V.iaddN X dX12_calls_80 ?_
        refine V.callVi (n := 1) X dX12_calls_81 gX12_calls_X12_holds (c_X12_holds _ _ K hR hz (by omega)) rfl (by decide +kernel) rfl rfl rfl K.1 rfl rfl ⟨Nat.le_of_ble_eq_true rfl, Nat.le_of_ble_eq_true rfl⟩ (fun r81 h81 hp81 => ?_)
        obtain ⟨rfl, e9⟩ := hp81; obtain rfl := e9.symm
        rw [h6, h5]
        refine V.if_eq 91 X dX12_calls_84 (by decide) (fun c84 => ?_) (fun c84 => ?_)
        · have c84 := bI_eq c84
          rw [c84] at g2
          refine V.iconst (v := (bI false)) X dX12_calls_91 (by decide) ?_
          refine V.istore_n X dX12_calls_92 [(0, _), (1, _), (2, _), (3, _)] rfl rfl rfl ?_
          refine V.iinc  X dX12_calls_93 [(0, _), (1, _), (2, _), (3, _)] rfl (nI_1 _) rfl rfl rfl ?_
          refine V.goto 61 X dX12_calls_96 (by decide) ?_
          first
            | exact ih (i + 1) false (by omega) g2
            | exact ih (i + 1) true (by omega) g2
        · have c84 := bI_ne c84
          rw [c84] at g2
          refine V.iconst (v := (bI true)) X dX12_calls_87 (by decide) ?_
          refine V.goto 92 X dX12_calls_88 (by decide) ?_
          refine V.istore_n X dX12_calls_92 [(0, _), (1, _), (2, _), (3, _)] rfl rfl rfl ?_
          refine V.iinc  X dX12_calls_93 [(0, _), (1, _), (2, _), (3, _)] rfl (nI_1 _) rfl rfl rfl ?_
          refine V.goto 61 X dX12_calls_96 (by decide) ?_
          first
            | exact ih (i + 1) false (by omega) g2
            | exact ih (i + 1) true (by omega) g2
  have cp : ∀ (n i : Nat), i + n = 3 → V Γ 0 0 2 [(0, .ref M), (1, .int (nI j)), (2, .int (nI i))] [] (Hm h M (cpy m 6 5 0 0 i)) := by
    intro n
    induction n with
    | zero =>
      intro i g1
      obtain rfl : i = 3 := by omega
      have F1 : MFr scP m (cpy m 6 5 0 0 3) := fun a k hk => if_neg (fun z => hk ⟨Or.inr z.1, by omega⟩)
      have h5 : stM (cpy m 6 5 0 0 3) 5 = stM m 5 := rfl
      have h6 : stM (cpy m 6 5 0 0 3) 6 = stM m 5 := rfl
      generalize cpy m 6 5 0 0 3 = m1 at F1 h5 h6 ⊢
      have C1 := hC.fr ok F1 scP1
      have Q1 := C1.2.2.2.2 j q hq
      refine V.iload_n X dX12_calls_2 rfl ?_
      refine V.iconst (v := nI 3) X dX12_calls_3 (by decide) ?_
      refine V.icmp_ge 25 X dX12_calls_4 (by decide) (fun c4 => ?_) (fun c4 => False.elim (by rw [nI_leI (by omega) (by omega)] at c4; omega))
      rw [nI_leI (by omega) (by omega)] at c4
      refine V.aload_n X dX12_calls_25 rfl ?_
      refine V.iload_n X dX12_calls_26 rfl ?_
      refine V.iconst (v := nI 1) X dX12_calls_27 (by decide) ?_
      refine V.callVi (n := 2) X dX12_calls_28 gX12_calls_X12_areHeld (c_X12_areHeld _ _ K hj6 hl7 Q1 zok (Or.inl rfl)) rfl (by decide +kernel) rfl rfl rfl K.1 rfl rfl ⟨Nat.le_of_ble_eq_true rfl, Nat.le_of_ble_eq_true rfl⟩ (fun r28 h28 hp28 => ?_)
      obtain ⟨rfl, e9⟩ := hp28; obtain rfl := e9.symm
      rw [all_1, h5, h6]
      refine V.if_ne 36 X dX12_calls_31 (by decide) (fun c31 => ?_) (fun c31 => ?_)
      · have c31 := bI_ne c31
        refine V.aload_n X dX12_calls_36 rfl ?_
        refine V.iload_n X dX12_calls_37 rfl ?_
        refine V.callVi (n := 1) X dX12_calls_38 gX12_calls_X12_assigns (c_X12_assigns _ _ K hj6 hl7 Q1 zok) rfl (by decide +kernel) rfl rfl rfl K.1 rfl rfl ⟨Nat.le_of_ble_eq_true rfl, Nat.le_of_ble_eq_true rfl⟩ (fun r38 h38 hp38 => ?_)
        obtain ⟨rfl, m2, rfl, G2, X2⟩ := hp38
        rw [runZ_q, h5] at X2 ⊢
        have F2 : MFr scP m m2 := F1.tr (G2.mono (fun a k z => ⟨Or.inl z.1, z.2⟩))
        have k6 : stM m2 6 = stM m 5 := by
          rw [← h6]
          unfold stM
          rw [G2 6 0 (by unfold nowP; omega), G2 6 1 (by unfold nowP; omega), G2 6 2 (by unfold nowP; omega)]
        refine V.if_ne 46 X dX12_calls_41 (by decide) (fun c41 => ?_) (fun c41 => ?_)
        · have c41 := bI_ne c41
          obtain ⟨a, ha⟩ := Option.isSome_iff_exists.mp c41
          have k5 := X2 a ha
          have C2 := C1.fr ok G2 nowP1
          have Q2 := C2.2.2.2.2 j q hq
          refine V.aload_n X dX12_calls_46 rfl ?_
          refine V.iload_n X dX12_calls_47 rfl ?_
          refine V.iconst (v := nI 3) X dX12_calls_48 (by decide) ?_
          refine V.callVi (n := 2) X dX12_calls_49 gX12_calls_X12_areHeld (c_X12_areHeld _ _ K hj6 hl7 Q2 zok (Or.inr rfl)) rfl (by decide +kernel) rfl rfl rfl K.1 rfl rfl ⟨Nat.le_of_ble_eq_true rfl, Nat.le_of_ble_eq_true rfl⟩ (fun r49 h49 hp49 => ?_)
          obtain ⟨rfl, e9⟩ := hp49; obtain rfl := e9.symm
          rw [all_3, k5, k6]
          refine V.if_ne 57 X dX12_calls_52 (by decide) (fun c52 => ?_) (fun c52 => ?_)
          · have c52 := bI_ne c52
            refine V.iconst (v := (bI true)) X dX12_calls_57 (by decide) ?_
            refine V.istore_n X dX12_calls_58 [(0, _), (1, _), (2, _)] rfl rfl rfl ?_
            refine V.iconst (v := nI 0) X dX12_calls_59 (by decide) ?_
            refine V.istore_n X dX12_calls_60 [(0, _), (1, _), (2, _), (3, _)] rfl rfl rfl ?_
            exact inv m2 (stM m 5) a F2 k6 k5 rfl c31 ha c52 c.2.1.length 0 true (by omega) rfl
          · have c52 := bI_eq c52
            have e9 : verd c j (stM m 5) = 3 := by rw [verd_ok hq c31 ha, c52]; rfl
            refine V.iconst (v := nI 3) X dX12_calls_55 (by decide) ?_
            exact V.iret X Y9 dX12_calls_56 ⟨by rw [e9], m2, rfl, F2, fun z => by rw [e9] at z; cases z⟩ (Nat.le_of_ble_eq_true rfl) (Nat.le_of_ble_eq_true rfl)
        · have c41 := bI_eq c41
          have hn : runA q.2.1 (stM m 5) = none := by simpa using c41
          have e9 := verd_rng hq c31 hn
          refine V.iconst (v := nI 2) X dX12_calls_44 (by decide) ?_
          exact V.iret X Y9 dX12_calls_45 ⟨by rw [e9], m2, rfl, F2, fun z => by rw [e9] at z; cases z⟩ (Nat.le_of_ble_eq_true rfl) (Nat.le_of_ble_eq_true rfl)
      · have c31 := bI_eq c31
        have e9 := verd_pre hq c31
        refine V.iconst (v := nI 1) X dX12_calls_34 (by decide) ?_
        exact V.iret X Y9 dX12_calls_35 ⟨by rw [e9], m1, rfl, F1, fun z => by rw [e9] at z; cases z⟩ (Nat.le_of_ble_eq_true rfl) (Nat.le_of_ble_eq_true rfl)
    | succ n ih =>
      intro i g1
      refine V.iload_n X dX12_calls_2 rfl ?_
      refine V.iconst (v := nI 3) X dX12_calls_3 (by decide) ?_
      refine V.icmp_ge 25 X dX12_calls_4 (by decide) (fun c4 => False.elim (by rw [nI_leI (by omega) (by omega)] at c4; omega)) (fun c4 => ?_)
      rw [nI_leI (by omega) (by omega)] at c4
      refine V.aload_n X dX12_calls_7 rfl ?_
      refine V.mgr (k := 12) (a := 6) X K fX12_calls_25 dX12_calls_8 (by decide) ?_
      refine V.iload_n X dX12_calls_11 rfl ?_
      refine V.aload_n X dX12_calls_12 rfl ?_
      refine V.mgr (k := 11) (a := 5) X K fX12_calls_22 dX12_calls_13 (by decide) ?_
      refine V.iload_n X dX12_calls_16 rfl ?_
      refine V.mld  X K 5 3  dX12_calls_17 rfl rfl (by omega) rfl ?_
      refine V.mst X K 6 3  dX12_calls_18 rfl rfl (by omega) ?_
      rw [cpy_q (by omega) (cpy_r (by omega) (by omega))]
      refine V.iinc  X dX12_calls_19 [(0, _), (1, _), (2, _)] rfl (nI_1 _) rfl rfl rfl ?_
      refine V.goto 2 X dX12_calls_22 (by decide) ?_
      exact ih (i + 1) (by omega)
  refine V.iconst (v := nI 0) X dX12_calls_0 (by decide) ?_
  refine V.istore_n X dX12_calls_1 [(0, _), (1, _), (2, _)] rfl rfl rfl ?_
  have l9 := cp 3 0 rfl
  rw [cpy_0] at l9
  exact l9
set_option maxHeartbeats 4000000 in
set_option maxRecDepth 100000 in
theorem c_X12_execute (l : Launch) (G : GG) {h : Hp} {M : Nat} {m : Md} (K : MdK h M) {c : Cmp} (hC : CmR (m 1) c) (ok : cmOk c) {i : Nat} {xs : List Nat} {s2 : St} (hi : i < 40) (hS : SqM (m 1) 278 i xs) (hx : ∀ x ∈ xs, x < c.2.2.length) (he : exS c xs c.1 = some s2) : Con l G yX12_execute wsX12_execute 4 92 0 0 [.ref M, .int (nI i)] (Hm h M m) (pV (fun h2 => ∃ m2, h2 = Hm h M m2 ∧ MFr scP m m2 ∧ stM m2 5 = s2)) := by
  refine Con.of (cc := cX12_execute) (nL := 3) (ret := none) (by decide) rfl rfl rfl rfl (fun Γ hG hl X Y9 => ?_)
  subst hG
  subst hl
  have hl9 := hS.2.1
  have loop : ∀ (n k : Nat) (m1 : Md) (s : St), k + n = xs.length → MFr scP m m1 → stM m1 5 = s → exS c (xs.drop k) s = some s2 → V Γ 0 0 6 [(0, .ref M), (1, .int (nI i)), (2, .int (nI k))] [] (Hm h M m1) := by
    intro n
    induction n with
    | zero =>
      intro k m1 s g1 F1 h5 g2
      rw [List.drop_eq_nil_of_le (by omega)] at g2
      have g2 : s = s2 := Option.some.inj g2
      refine V.iload_n X dX12_execute_6 rfl ?_
      refine V.aload_n X dX12_execute_7 rfl ?_
      refine V.sipush (v := nI 278) X dX12_execute_8 (by decide) ?_
      refine V.iload_n X dX12_execute_11 rfl ?_
      refine V.callVi (n := 2) X dX12_execute_12 gX12_execute_X12_lengthOf (c_X12_lengthOf _ _ K (by omega)) rfl (by decide +kernel) rfl rfl rfl K.1 rfl rfl ⟨Nat.le_of_ble_eq_true rfl, Nat.le_of_ble_eq_true rfl⟩ (fun r12 h12 hp12 => ?_)
      obtain ⟨rfl, e9⟩ := hp12; obtain rfl := e9.symm
      rw [F1 1 _ (scP1 _), hS.1]
      refine V.icmp_ge 38 X dX12_execute_15 (by decide) (fun c15 => ?_) (fun c15 => False.elim (by rw [nI_leI (by omega) (by omega)] at c15; omega))
      rw [nI_leI (by omega) (by omega)] at c15
      exact V.vret X Y9 dX12_execute_38 ⟨rfl, m1, rfl, F1, h5.trans g2⟩ (Nat.le_of_ble_eq_true rfl) (Nat.le_of_ble_eq_true rfl)
    | succ n ih =>
      intro k m1 s g1 F1 h5 g2
      have hk : k < xs.length := by omega
      have C1 := hC.fr ok F1 scP1
      have hxk := getD_some hk
      rw [drop_x hxk] at g2
      obtain ⟨q, hq⟩ := get_some (hx _ (List.mem_of_getElem? hxk))
      have hv : verd c (xs.getD k 0) s = 0 := by
        rcases Nat.eq_zero_or_pos (verd c (xs.getD k 0) s) with z | z
        · exact z
        · have : exS c (xs.getD k 0 :: xs.drop (k + 1)) s = none := if_neg (by omega)
          rw [this] at g2
          cases g2
      have g2 : exS c (xs.drop (k + 1)) (nxt c (xs.getD k 0) s) = some s2 := by
        rw [← g2]
        exact (if_pos hv).symm
      refine V.iload_n X dX12_execute_6 rfl ?_
      refine V.aload_n X dX12_execute_7 rfl ?_
      refine V.sipush (v := nI 278) X dX12_execute_8 (by decide) ?_
      refine V.iload_n X dX12_execute_11 rfl ?_
      refine V.callVi (n := 2) X dX12_execute_12 gX12_execute_X12_lengthOf (c_X12_lengthOf _ _ K (by omega)) rfl (by decide +kernel) rfl rfl rfl K.1 rfl rfl ⟨Nat.le_of_ble_eq_true rfl, Nat.le_of_ble_eq_true rfl⟩ (fun r12 h12 hp12 => ?_)
      obtain ⟨rfl, e9⟩ := hp12; obtain rfl := e9.symm
      rw [F1 1 _ (scP1 _), hS.1]
      refine V.icmp_ge 38 X dX12_execute_15 (by decide) (fun c15 => False.elim (by rw [nI_leI (by omega) (by omega)] at c15; omega)) (fun c15 => ?_)
      rw [nI_leI (by omega) (by omega)] at c15
      refine V.aload_n X dX12_execute_18 rfl ?_
      refine V.aload_n X dX12_execute_19 rfl ?_
      refine V.sipush (v := nI 278) X dX12_execute_20 (by decide) ?_
      refine V.iload_n X dX12_execute_23 rfl ?_
      refine V.iload_n X dX12_execute_24 rfl ?_
      refine V.callVi (n := 3) X dX12_execute_25 gX12_execute_X12_callOf (c_X12_callOf _ _ K (by omega)) rfl (by decide +kernel) rfl rfl rfl K.1 rfl rfl ⟨Nat.le_of_ble_eq_true rfl, Nat.le_of_ble_eq_true rfl⟩ (fun r25 h25 hp25 => ?_)
      obtain ⟨rfl, e9⟩ := hp25; obtain rfl := e9.symm
      rw [F1 1 _ (scP1 _), hS.2.2 k hk]
      refine V.callVi (n := 1) X dX12_execute_28 gX12_execute_X12_calls (c_X12_calls _ _ K C1 ok hq) rfl (by decide +kernel) rfl rfl rfl K.1 rfl rfl ⟨Nat.le_of_ble_eq_true rfl, Nat.le_of_ble_eq_true rfl⟩ (fun r28 h28 hp28 => ?_)
      obtain ⟨rfl, m2, rfl, G2, X2⟩ := hp28
      rw [h5] at X2
      refine V.pop X dX12_execute_31 rfl ?_
      refine V.iinc  X dX12_execute_32 [(0, _), (1, _), (2, _)] rfl (nI_1 _) rfl rfl rfl ?_
      refine V.goto 6 X dX12_execute_35 (by decide) ?_
      exact ih (k + 1) m2 _ (by omega) (F1.tr G2) (X2 hv) g2
  refine V.aload_n X dX12_execute_0 rfl ?_
  refine V.callVv (n := 0) X dX12_execute_1 gX12_execute_X12_begin (c_X12_begin _ _ K) rfl (by decide +kernel) rfl rfl rfl K.1 rfl rfl ⟨Nat.le_of_ble_eq_true rfl, Nat.le_of_ble_eq_true rfl⟩ (fun h1 hp1 => ?_)
  obtain rfl := hp1.symm
  refine V.iconst (v := nI 0) X dX12_execute_4 (by decide) ?_
  refine V.istore_n X dX12_execute_5 [(0, _), (1, _), (2, _)] rfl rfl rfl ?_
  have F1 : MFr scP m (cpy m 5 1 0 0 3) := fun a k hk => if_neg (fun z => hk ⟨Or.inl z.1, by omega⟩)
  have h5 : stM (cpy m 5 1 0 0 3) 5 = c.1 := by
    show (m 1 0, m 1 1, m 1 2) = _
    rw [hC.1.1, hC.1.2.1, hC.1.2.2]
  exact loop xs.length 0 _ c.1 (by omega) F1 h5 he
theorem fX12_complexity_7 : FL wsX12_complexity RX12 7 14 0 (.array .int) true := ⟨_, rfl, by decide, Or.inl ⟨"ContractTesterModel", by decide +kernel, Or.inl rfl⟩, by decide +kernel, by decide +kernel, rfl⟩
set_option maxHeartbeats 4000000 in
set_option maxRecDepth 100000 in
theorem c_X12_complexity (l : Launch) (G : GG) {h : Hp} {M : Nat} {m : Md} (K : MdK h M) {c : Cmp} (hC : CmR (m 1) c) (ok : cmOk c) {x : Int32} : Con l G yX12_complexity wsX12_complexity 2 43 0 0 [.ref M, .int x] (Hm h M m) (pI (fun y h2 => y = atI x c.2.2.length (fun j => nI (wgt (c.2.2.getD j ([], [], [])))) (-1) ∧ h2 = Hm h M m)) := by
  refine Con.of (cc := cX12_complexity) (nL := 5) (ret := (some .int)) (by decide) rfl rfl rfl rfl (fun Γ hG hl X Y9 => ?_)
  subst hG
  subst hl
  refine V.aload_n X dX12_complexity_0 rfl ?_
  refine V.iload_n X dX12_complexity_1 rfl ?_
  refine V.callVi (n := 1) X dX12_complexity_2 gX12_complexity_X12_isMethodNumber (c_X12_isMethodNumber _ _ K hC.2.2.1 (by have := ok.2.1; omega)) rfl (by decide +kernel) rfl rfl rfl K.1 rfl rfl ⟨Nat.le_of_ble_eq_true rfl, Nat.le_of_ble_eq_true rfl⟩ (fun r2 h2 hp2 => ?_)
  obtain ⟨rfl, e9⟩ := hp2; obtain rfl := e9.symm
  refine V.if_ne 10 X dX12_complexity_5 (by decide) (fun c5 => ?_) (fun c5 => ?_)
  · have c5 := bI_ne c5
    obtain ⟨j, hj, rfl⟩ := ix_of c5 (show c.2.2.length < 2 ^ 31 by have := ok.2.1; omega)
    have e8 := atI_yes (d := -1) (f := fun j => nI (wgt (c.2.2.getD j ([], [], [])))) hj (show c.2.2.length < 2 ^ 31 by have := ok.2.1; omega)
    obtain ⟨q, hq⟩ := get_some hj
    have eq : c.2.2.getD j ([], [], []) = q := by rw [List.getD_eq_getElem?_getD, hq]; rfl
    have e8 : atI (nI j) c.2.2.length (fun j => nI (wgt (c.2.2.getD j ([], [], [])))) (-1) = nI (wgt q) := by rw [e8]; show nI (wgt (c.2.2.getD j ([], [], []))) = _; rw [eq]
    have hj6 : j < 6 := by have := ok.2.1; omega
    have mok := ok.2.2.2 q (List.mem_of_getElem? hq)
    have hl7 := MtL_len mok
    have zok := zOk_m mok
    have Q := hC.2.2.2.2 j q hq
    have cz := cntZ_le (MtL q)
    refine V.aload_n X dX12_complexity_10 rfl ?_
    refine V.iload_n X dX12_complexity_11 rfl ?_
    refine V.callVi (n := 1) X dX12_complexity_12 gX12_complexity_X12_clauses (c_X12_clauses _ _ K hj6) rfl (by decide +kernel) rfl rfl rfl K.1 rfl rfl ⟨Nat.le_of_ble_eq_true rfl, Nat.le_of_ble_eq_true rfl⟩ (fun r12 h12 hp12 => ?_)
    obtain ⟨rfl, e9⟩ := hp12; obtain rfl := e9.symm
    rw [Q.1]
    refine V.istore_n X dX12_complexity_15 [(0, _), (1, _), (2, _)] rfl rfl rfl ?_
    refine V.iconst (v := nI 0) X dX12_complexity_16 (by decide) ?_
    refine V.istore_n X dX12_complexity_17 [(0, _), (1, _), (2, _), (3, _)] rfl rfl rfl ?_
    have loop : ∀ (n i w : Nat), i + n = (MtL q).length → w + cntZ ((MtL q).drop i) = wgt q → V Γ 0 0 18 [(0, .ref M), (1, .int (nI j)), (2, .int (nI w)), (3, .int (nI i))] [] (Hm h M m) := by
      intro n
      induction n with
      | zero =>
        intro i w g1 g2
        rw [List.drop_eq_nil_of_le (by omega)] at g2
        have g2 : w = wgt q := g2
        refine V.iload_n X dX12_complexity_18 rfl ?_
        refine V.aload_n X dX12_complexity_19 rfl ?_
        refine V.iload_n X dX12_complexity_20 rfl ?_
        refine V.callVi (n := 1) X dX12_complexity_21 gX12_complexity_X12_clauses (c_X12_clauses _ _ K hj6) rfl (by decide +kernel) rfl rfl rfl K.1 rfl rfl ⟨Nat.le_of_ble_eq_true rfl, Nat.le_of_ble_eq_true rfl⟩ (fun r21 h21 hp21 => ?_)
        obtain ⟨rfl, e9⟩ := hp21; obtain rfl := e9.symm
        rw [Q.1]
        refine V.icmp_ge 72 X dX12_complexity_24 (by decide) (fun c24 => ?_) (fun c24 => False.elim (by rw [nI_leI (by omega) (by omega)] at c24; omega))
        rw [nI_leI (by omega) (by omega)] at c24
        refine V.iload_n X dX12_complexity_72 rfl ?_
        exact V.iret X Y9 dX12_complexity_73 ⟨by rw [e8, g2], rfl⟩ (Nat.le_of_ble_eq_true rfl) (Nat.le_of_ble_eq_true rfl)
      | succ n ih =>
        intro i w g1 g2
        obtain ⟨x, hx⟩ := get_some (show i < (MtL q).length by omega)
        rw [drop_x hx] at g2
        have hz := zok x (List.mem_of_getElem? hx)
        have hR := Q.2 i x hx
        obtain ⟨k9, y⟩ := x
        cases y with
        | inl c0 =>
          have h1 := hz.1
          have h1 : k9 = 1 ∨ k9 = 3 := h1
          have g2 : w + (0 + cntZ ((MtL q).drop (i + 1))) = wgt q := g2
          refine V.iload_n X dX12_complexity_18 rfl ?_
          refine V.aload_n X dX12_complexity_19 rfl ?_
          refine V.iload_n X dX12_complexity_20 rfl ?_
          refine V.callVi (n := 1) X dX12_complexity_21 gX12_complexity_X12_clauses (c_X12_clauses _ _ K hj6) rfl (by decide +kernel) rfl rfl rfl K.1 rfl rfl ⟨Nat.le_of_ble_eq_true rfl, Nat.le_of_ble_eq_true rfl⟩ (fun r21 h21 hp21 => ?_)
          obtain ⟨rfl, e9⟩ := hp21; obtain rfl := e9.symm
          rw [Q.1]
          refine V.icmp_ge 72 X dX12_complexity_24 (by decide) (fun c24 => False.elim (by rw [nI_leI (by omega) (by omega)] at c24; omega)) (fun c24 => ?_)
          rw [nI_leI (by omega) (by omega)] at c24
          refine V.aload_n X dX12_complexity_27 rfl ?_
          refine V.iload_n X dX12_complexity_28 rfl ?_
          refine V.iload_n X dX12_complexity_29 rfl ?_
          refine V.callVi (n := 2) X dX12_complexity_30 gX12_complexity_X12_clauseAt (c_X12_clauseAt (M := M) _ _) rfl (by decide +kernel) rfl rfl rfl K.1 rfl rfl ⟨Nat.le_of_ble_eq_true rfl, Nat.le_of_ble_eq_true rfl⟩ (fun r30 h30 hp30 => ?_)
          obtain ⟨rfl, e9⟩ := hp30; obtain rfl := e9.symm
          refine V.istore X dX12_complexity_33 [(0, _), (1, _), (2, _), (3, _), (4, _)] rfl rfl rfl ?_
          refine V.iload_n X dX12_complexity_35 rfl ?_
          refine V.aload_n X dX12_complexity_36 rfl ?_
          refine V.mgr (k := 0) (a := 1) X K fX12_complexity_7 dX12_complexity_37 (by decide) ?_
          refine V.iload X dX12_complexity_40 rfl ?_
          refine V.mld  X K 1 1178  dX12_complexity_42 rfl rfl (by omega) hR.1 ?_
          refine V.iconst (v := nI 2) X dX12_complexity_43 (by decide) ?_
          refine V.icmp_ne 63 X dX12_complexity_44 (by decide) (fun c44 => ?_) (fun c44 => False.elim (by rw [nI_eq (by omega) (by omega)] at c44; omega))
          rw [nI_eq (by omega) (by omega)] at c44
          refine V.iconst (v := nI 0) X dX12_complexity_63 (by decide) ?_
          refine V.iaddN X dX12_complexity_64 ?_
          refine V.istore_n X dX12_complexity_65 [(0, _), (1, _), (2, _), (3, _), (4, _)] rfl rfl rfl ?_
          refine V.iinc  X dX12_complexity_66 [(0, _), (1, _), (2, _), (3, _), (4, _)] rfl (nI_1 _) rfl rfl rfl ?_
          refine V.goto 18 X dX12_complexity_69 (by decide) ?_
          refine V.drop [(0, _), (1, _), (2, _), (3, _)] [0, 1, 2, 3] rfl ?_
          exact ih (i + 1) (w + 0) (by omega) (by omega)
        | inr a =>
          have h1 := hz.1
          have h1 : k9 = 2 := h1
          have g2 : w + ((if a.2.2.1 = 0 then 0 else 1) + cntZ ((MtL q).drop (i + 1))) = wgt q := g2
          refine V.iload_n X dX12_complexity_18 rfl ?_
          refine V.aload_n X dX12_complexity_19 rfl ?_
          refine V.iload_n X dX12_complexity_20 rfl ?_
          refine V.callVi (n := 1) X dX12_complexity_21 gX12_complexity_X12_clauses (c_X12_clauses _ _ K hj6) rfl (by decide +kernel) rfl rfl rfl K.1 rfl rfl ⟨Nat.le_of_ble_eq_true rfl, Nat.le_of_ble_eq_true rfl⟩ (fun r21 h21 hp21 => ?_)
          obtain ⟨rfl, e9⟩ := hp21; obtain rfl := e9.symm
          rw [Q.1]
          refine V.icmp_ge 72 X dX12_complexity_24 (by decide) (fun c24 => False.elim (by rw [nI_leI (by omega) (by omega)] at c24; omega)) (fun c24 => ?_)
          rw [nI_leI (by omega) (by omega)] at c24
          refine V.aload_n X dX12_complexity_27 rfl ?_
          refine V.iload_n X dX12_complexity_28 rfl ?_
          refine V.iload_n X dX12_complexity_29 rfl ?_
          refine V.callVi (n := 2) X dX12_complexity_30 gX12_complexity_X12_clauseAt (c_X12_clauseAt (M := M) _ _) rfl (by decide +kernel) rfl rfl rfl K.1 rfl rfl ⟨Nat.le_of_ble_eq_true rfl, Nat.le_of_ble_eq_true rfl⟩ (fun r30 h30 hp30 => ?_)
          obtain ⟨rfl, e9⟩ := hp30; obtain rfl := e9.symm
          refine V.istore X dX12_complexity_33 [(0, _), (1, _), (2, _), (3, _), (4, _)] rfl rfl rfl ?_
          refine V.iload_n X dX12_complexity_35 rfl ?_
          refine V.aload_n X dX12_complexity_36 rfl ?_
          refine V.mgr (k := 0) (a := 1) X K fX12_complexity_7 dX12_complexity_37 (by decide) ?_
          refine V.iload X dX12_complexity_40 rfl ?_
          refine V.mld  X K 1 1178  dX12_complexity_42 rfl rfl (by omega) hR.1 ?_
          refine V.iconst (v := nI 2) X dX12_complexity_43 (by decide) ?_
          refine V.icmp_ne 63 X dX12_complexity_44 (by decide) (fun c44 => False.elim (by rw [nI_eq (by omega) (by omega)] at c44; omega)) (fun c44 => ?_)
          rw [nI_eq (by omega) (by omega)] at c44
          refine V.aload_n X dX12_complexity_47 rfl ?_
          refine V.mgr (k := 0) (a := 1) X K fX12_complexity_7 dX12_complexity_48 (by decide) ?_
          refine V.iload X dX12_complexity_51 rfl ?_
          refine V.iconst (v := nI 3) X dX12_complexity_53 (by decide) ?_
          refine V.iaddN X dX12_complexity_54 ?_
          refine V.mld (x := a.2.2.1) X K 1 1178  dX12_complexity_55 rfl rfl (by omega) hR.2.2.2.1 ?_
          refine V.if_eq 63 X dX12_complexity_56 (by decide) (fun c56 => ?_) (fun c56 => ?_)
          · rw [if_pos c56] at g2
            refine V.iconst (v := nI 0) X dX12_complexity_63 (by decide) ?_
            refine V.iaddN X dX12_complexity_64 ?_
            refine V.istore_n X dX12_complexity_65 [(0, _), (1, _), (2, _), (3, _), (4, _)] rfl rfl rfl ?_
            refine V.iinc  X dX12_complexity_66 [(0, _), (1, _), (2, _), (3, _), (4, _)] rfl (nI_1 _) rfl rfl rfl ?_
            refine V.goto 18 X dX12_complexity_69 (by decide) ?_
            refine V.drop [(0, _), (1, _), (2, _), (3, _)] [0, 1, 2, 3] rfl ?_
            first
              | exact ih (i + 1) (w + 0) (by omega) (by omega)
              | exact ih (i + 1) (w + 1) (by omega) (by omega)
          · rw [if_neg c56] at g2
            refine V.iconst (v := nI 1) X dX12_complexity_59 (by decide) ?_
            refine V.goto 64 X dX12_complexity_60 (by decide) ?_
            refine V.iaddN X dX12_complexity_64 ?_
            refine V.istore_n X dX12_complexity_65 [(0, _), (1, _), (2, _), (3, _), (4, _)] rfl rfl rfl ?_
            refine V.iinc  X dX12_complexity_66 [(0, _), (1, _), (2, _), (3, _), (4, _)] rfl (nI_1 _) rfl rfl rfl ?_
            refine V.goto 18 X dX12_complexity_69 (by decide) ?_
            refine V.drop [(0, _), (1, _), (2, _), (3, _)] [0, 1, 2, 3] rfl ?_
            first
              | exact ih (i + 1) (w + 0) (by omega) (by omega)
              | exact ih (i + 1) (w + 1) (by omega) (by omega)
    exact loop (MtL q).length 0 (MtL q).length (by omega) (wgt_q q)
  · have c5 := bI_eq c5
    have e9 : (-1 : Int32) = atI x c.2.2.length (fun j => nI (wgt (c.2.2.getD j ([], [], [])))) (-1) := (atI_no c5).symm
    refine V.iconst (v := -1) X dX12_complexity_8 (by decide) ?_
    exact V.iret X Y9 dX12_complexity_9 ⟨e9, rfl⟩ (Nat.le_of_ble_eq_true rfl) (Nat.le_of_ble_eq_true rfl)
