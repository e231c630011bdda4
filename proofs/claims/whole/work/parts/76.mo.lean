/-! THE REFERENCE AS A WHOLE: text, component, exploration, and what was before the edits -/
def prow (m : Md) (j : Nat) : Nat → Int32 := fun x => m 3 (1178 * j + x)
def MSt (m : Md) (t : List Nat) (c : Cmp) (r : Xr) (k : Nat) (ps : Nat → Cmp × Xr) : Prop := TxM m t ∧ CmR (m 1) c ∧ XmR (m 1) r ∧ xmOk c r ∧ m 0 3 = nI k ∧ k ≤ 6 ∧ ∀ j, j < k → CmR (prow m j) (ps j).1 ∧ XmR (prow m j) (ps j).2 ∧ xmOk (ps j).1 (ps j).2
def noteP (ps : Nat → Cmp × Xr) (k : Nat) (x : Cmp × Xr) : Nat → Cmp × Xr := if k = 6 then fun j => if j = 5 then x else ps (j + 1) else fup ps k x
theorem noteM_t {m : Md} {k : Nat} (hk : k ≤ 6) : noteM m k 0 3 = nI (nxK k) := by
  unfold noteM nxK
  by_cases h : k = 6
  · subst h
    rw [if_pos rfl, if_neg (by decide)]
    exact mput_at
  · rw [if_neg h, if_pos (by omega)]
    exact mput_at
theorem note_row {m : Md} {k : Nat} (hk : k ≤ 6) {ps : Nat → Cmp × Xr} {x : Cmp × Xr} {A : (Nat → Int32) → Cmp × Xr → Prop} (sm : ∀ f g y, A f y → (∀ z, z < 1178 → g z = f z) → A g y) (h : ∀ j, j < k → A (prow m j) (ps j)) (hx : A (m 1) x) : ∀ j, j < nxK k → A (prow (noteM m k) j) (noteP ps k x j) := by
  intro j hj
  by_cases h6 : k = 6
  · subst h6
    have hj : j < 6 := hj
    have e : noteM m 6 = noteB (mput (cpy m 3 3 0 1178 5890) 0 3 (nI 5)) 5 := if_pos rfl
    have e2 : noteP ps 6 x j = if j = 5 then x else ps (j + 1) := congrFun (if_pos rfl) j
    rw [e, e2]
    by_cases h5 : j = 5
    · rw [if_pos h5]
      refine sm _ _ _ hx (fun z hz => ?_)
      unfold prow noteB
      rw [mput_a (by decide), cpy_i (by omega) (by omega), mput_a (by decide), cpy_o (by decide)]
      exact congrArg (m 1) (by omega)
    · rw [if_neg h5]
      refine sm _ _ _ (h (j + 1) (by omega)) (fun z hz => ?_)
      unfold prow noteB
      rw [mput_a (by decide), cpy_n (by omega), mput_a (by decide), cpy_i (by omega) (by omega)]
      exact congrArg (m 3) (by omega)
  · have hj2 : j < k + 1 := by
      unfold nxK at hj
      rw [if_pos (by omega)] at hj
      exact hj
    have e : noteM m k = noteB m k := if_neg h6
    have e2 : noteP ps k x = fup ps k x := if_neg h6
    rw [e, e2]
    by_cases hjk : j = k
    · rw [hjk, fup_at]
      refine sm _ _ _ hx (fun z hz => ?_)
      unfold prow noteB
      rw [mput_a (by decide), cpy_i (by omega) (by omega)]
      exact congrArg (m 1) (by omega)
    · rw [fup_ne hjk]
      refine sm _ _ _ (h j (by omega)) (fun z hz => ?_)
      unfold prow noteB
      rw [mput_a (by decide), cpy_n (by omega)]
theorem row_sm : ∀ (f g : Nat → Int32) (y : Cmp × Xr), (CmR f y.1 ∧ XmR f y.2 ∧ xmOk y.1 y.2) → (∀ z, z < 1178 → g z = f z) → (CmR g y.1 ∧ XmR g y.2 ∧ xmOk y.1 y.2) := fun _ _ _ h e =>
  ⟨h.1.same h.2.2.2.1 (fun k hk => e k (by omega)), h.2.1.same h.2.2.1.2.1.2 h.2.2.1.2.2.1 (fun k _ hk => e k hk), h.2.2⟩
theorem MSt.edit {m m2 : Md} {t t2 : List Nat} {c c2 : Cmp} {r r2 : Xr} {k : Nat} {ps : Nat → Cmp × Xr} (q : MSt m t c r k ps) (e3 : ∀ x, m2 3 x = noteM m k 3 x) (e0 : m2 0 3 = noteM m k 0 3) (hT : TxM m2 t2) (hC : CmR (m2 1) c2) (hX : XmR (m2 1) r2) (ok : xmOk c2 r2) : MSt m2 t2 c2 r2 (nxK k) (noteP ps k (c, r)) := by
  obtain ⟨a1, a2, a3, a4, a5, a6, a7⟩ := q
  refine ⟨hT, hC, hX, ok, e0.trans (noteM_t a6), by unfold nxK; split <;> omega, fun j hj => ?_⟩
  have h := note_row a6 (A := fun f y => CmR f y.1 ∧ XmR f y.2 ∧ xmOk y.1 y.2) row_sm a7 (x := (c, r)) ⟨a2, a3, a4⟩ j hj
  exact row_sm _ _ _ h (fun z _ => e3 _)
theorem MSt.keep {m m2 : Md} {t t2 : List Nat} {c : Cmp} {r : Xr} {k : Nat} {ps : Nat → Cmp × Xr} (q : MSt m t c r k ps) (e3 : ∀ x, m2 3 x = m 3 x) (e0 : m2 0 3 = m 0 3) (e1 : ∀ x, m2 1 x = m 1 x) (hT : TxM m2 t2) : MSt m2 t2 c r k ps := by
  obtain ⟨a1, a2, a3, a4, a5, a6, a7⟩ := q
  refine ⟨hT, a2.same a4.2.1 (fun _ _ => e1 _), a3.same a4.1.2.1.2 a4.1.2.2.1 (fun _ _ _ => e1 _), a4, e0.trans a5, a6, fun j hj => row_sm _ _ _ (a7 j hj) (fun z _ => e3 _)⟩
theorem MSt.sc {m m2 : Md} {t : List Nat} {c : Cmp} {r : Xr} {k : Nat} {ps : Nat → Cmp × Xr} (q : MSt m t c r k ps) (f : MFr kpP m m2) (e1 : ∀ x, m2 1 x = m 1 x) : MSt m2 t c r k ps :=
  q.keep (fun x => f _ _ (fun z => by unfold kpP at z; omega)) (f _ _ (fun z => by unfold kpP at z; omega)) e1 (q.1.fr f (fun z => by unfold kpP at z; omega) (fun k z => by unfold kpP at z; omega))
theorem bareM_o {m : Md} {a x : Nat} (h : ¬ a = 1 ∨ x < 273) : bareM m a x = m a x := by
  unfold bareM
  rw [mput_ap, if_neg (by omega)]
  unfold fil
  rw [if_neg (by omega)]
theorem XmR.bare {m : Md} {c : Cmp} {r : Xr} (h : m 1 272 = nI (xmx r)) (h0 : xsq r 0 = []) : XmR (bareM m 1) (rst c r) := by
  have z : ∀ x, 273 ≤ x → x < 1178 → ¬ x = 276 → bareM m 1 x = nI 0 := fun x h1 h2 h3 => by
    unfold bareM
    rw [mput_k h3, fil_i (by omega) (by omega)]
  refine ⟨⟨(bareM_o (Or.inr (by decide))).trans h, z 273 (by decide) (by decide) (by decide), z 274 (by decide) (by decide) (by decide), z 275 (by decide) (by decide) (by decide), mput_at, z 277 (by decide) (by decide) (by decide)⟩, fun i hi => ?_, fun j hj => ?_, fun i k hi hk => ?_⟩
  · have hi : i < 1 := hi
    obtain rfl : i = 0 := by omega
    show SqM _ 278 0 (xsq r 0)
    rw [h0]
    exact ⟨z 278 (by decide) (by decide) (by decide), by decide, fun k hk => absurd hk (Nat.not_lt_zero k)⟩
  · exact absurd (show j < 0 from hj) (Nat.not_lt_zero j)
  · show _ = if i < 1 ∧ k < fup (xpr r) 0 0 i then nI 1 else nI 0
    rw [z _ (by omega) (by omega) (by omega)]
    by_cases hi0 : i = 0
    · rw [hi0, fup_at, if_neg (by omega)]
    · rw [if_neg (by omega)]
theorem xmOk.rst {c c2 : Cmp} {r : Xr} (h : xmOk c r) (o : cmOk c2) : xmOk c2 (rst c2 r) := by
  obtain ⟨⟨⟨x1, x2⟩, ⟨x3, x4⟩, x5, x6, x7⟩, -, -, -⟩ := h
  refine ⟨⟨⟨x1, x2⟩, ⟨Nat.le_refl 1, by show 1 ≤ 40; decide⟩, Nat.zero_le _, x6, fun i hi => ?_⟩, o, fun i hi => ?_, fun j hj => absurd (show j < 0 from hj) (Nat.not_lt_zero j)⟩
  · have hi : i < 1 := hi
    obtain rfl : i = 0 := by omega
    show fup (xpr r) 0 0 0 ≤ _
    rw [fup_at]
    exact Nat.zero_le _
  · have hi : i < 1 := hi
    obtain rfl : i = 0 := by omega
    show (xsq r 0).length ≤ 8 ∧ exS c2 (xsq r 0) c2.1 = some (fup (xss r) 0 c2.1 0) ∧ ∀ x ∈ xsq r 0, x < c2.2.2.length
    rw [x6, fup_at]
    exact ⟨by decide, rfl, fun x hx => by cases hx⟩
theorem TxM.push {m : Md} {t : List Nat} {n : Nat} (h : TxM m t) (hl : t.length < 200) (hn : n < 256) : TxM (mput (mput m 4 t.length (nI n)) 0 5 (nI (t.length + 1))) (t ++ [n]) := by
  refine ⟨by rw [List.length_append]; rfl, by simp; omega, fun i hi => ?_⟩
  rw [List.length_append] at hi
  simp at hi
  by_cases h2 : i < t.length
  · have e : ch (t ++ [n]) i = ch t i := getD_snoc_lt h2
    rw [e]
    exact ⟨(mput_a (by decide)).trans ((mput_k (by omega)).trans (h.2.2 i h2).1), (h.2.2 i h2).2⟩
  · obtain rfl : i = t.length := by omega
    have e : ch (t ++ [n]) t.length = n := getD_snoc_at
    rw [e]
    exact ⟨(mput_a (by decide)).trans mput_at, hn⟩
theorem TxM.nil {m : Md} (h : m 0 5 = nI 0) : TxM m [] := ⟨h, Nat.zero_le _, fun i hi => absurd hi (Nat.not_lt_zero i)⟩
theorem fX12_appendCharacter_44 : FL wsX12_appendCharacter RX12 44 14 5 .int false := ⟨_, rfl, by decide, Or.inl ⟨"ContractTesterModel", by decide +kernel, Or.inl rfl⟩, by decide +kernel, by decide +kernel, rfl⟩
theorem fX12_appendCharacter_19 : FL wsX12_appendCharacter RX12 19 14 4 (.array .int) true := ⟨_, rfl, by decide, Or.inl ⟨"ContractTesterModel", by decide +kernel, Or.inl rfl⟩, by decide +kernel, by decide +kernel, rfl⟩
set_option maxHeartbeats 4000000 in
set_option maxRecDepth 100000 in
theorem c_X12_appendCharacter (l : Launch) (G : GG) {h : Hp} {M : Nat} {m : Md} (K : MdK h M) {t : List Nat} {c : Cmp} {r : Xr} {k : Nat} {ps : Nat → Cmp × Xr} (hS : MSt m t c r k ps) {x : Int32} : Con l G yX12_appendCharacter wsX12_appendCharacter 1 22 0 0 [.ref M, .int x] (Hm h M m) (pI (fun y h2 => (isIx x 256 = false ∧ y = -1 ∧ h2 = Hm h M m) ∨ ∃ n, n < 256 ∧ x = nI n ∧ ((¬ t.length < 200 ∧ y = -3 ∧ h2 = Hm h M m) ∨ (t.length < 200 ∧ y = nI (t.length + 1) ∧ ∃ m2, h2 = Hm h M m2 ∧ MSt m2 (t ++ [n]) c r k ps)))) := by
  refine Con.of (cc := cX12_appendCharacter) (nL := 2) (ret := (some .int)) (by decide) rfl rfl rfl rfl (fun Γ hG hl X Y9 => ?_)
  subst hG
  subst hl
  obtain ⟨hT, -⟩ := id hS
  have hl2 := hT.2.1
  refine V.iload_n X dX12_appendCharacter_0 rfl ?_
  refine V.iconst (v := nI 0) X dX12_appendCharacter_1 (by decide) ?_
  refine V.sipush (v := nI 255) X dX12_appendCharacter_2 (by decide) ?_
  refine V.callSi (n := 3) X dX12_appendCharacter_5 gX12_appendCharacter_X12_in (c_X12_in _ _) rfl (by decide +kernel) rfl rfl rfl ⟨Nat.le_of_ble_eq_true rfl, Nat.le_of_ble_eq_true rfl⟩ (fun r5 h5 hp5 => ?_)
  obtain ⟨rfl, e9⟩ := hp5; obtain rfl := e9.symm
  rw [inB_nI (by decide)]
  refine V.if_ne 13 X dX12_appendCharacter_8 (by decide) (fun c8 => ?_) (fun c8 => ?_)
  · have c8 := bI_ne c8
    obtain ⟨n, hn, rfl⟩ := ix_of c8 (by decide)
    have hn : n < 256 := hn
    refine V.aload_n X dX12_appendCharacter_13 rfl ?_
    refine V.mgf  X K fX12_appendCharacter_44 dX12_appendCharacter_14 rfl hT.1 ?_
    refine V.sipush (v := nI 200) X dX12_appendCharacter_17 (by decide) ?_
    refine V.icmp_ne 26 X dX12_appendCharacter_20 (by decide) (fun c20 => ?_) (fun c20 => ?_)
    · rw [nI_eq (by omega) (by omega)] at c20
      have hl : t.length < 200 := by have := hT.2.1; omega
      refine V.aload_n X dX12_appendCharacter_26 rfl ?_
      refine V.mgr (k := 4) (a := 4) X K fX12_appendCharacter_19 dX12_appendCharacter_27 (by decide) ?_
      refine V.aload_n X dX12_appendCharacter_30 rfl ?_
      refine V.mgf  X K fX12_appendCharacter_44 dX12_appendCharacter_31 rfl hT.1 ?_
      refine V.iload_n X dX12_appendCharacter_34 rfl ?_
      refine V.mst X K 4 200  dX12_appendCharacter_35 rfl rfl (by omega) ?_
      refine V.aload_n X dX12_appendCharacter_36 rfl ?_
      refine V.dup X dX12_appendCharacter_37 rfl ?_
      refine V.mgf (x := nI t.length) X K fX12_appendCharacter_44 dX12_appendCharacter_38 rfl ((mput_a (by decide)).trans hT.1) ?_
      refine V.iconst (v := nI 1) X dX12_appendCharacter_41 (by decide) ?_
      refine V.iaddN X dX12_appendCharacter_42 ?_
      refine V.mpf X K fX12_appendCharacter_44 dX12_appendCharacter_43 rfl rfl rfl ?_
      refine V.aload_n X dX12_appendCharacter_46 rfl ?_
      refine V.mgf (x := nI (t.length + 1)) X K fX12_appendCharacter_44 dX12_appendCharacter_47 rfl mput_at ?_
      exact V.iret X Y9 dX12_appendCharacter_50 (Or.inr ⟨n, hn, rfl, Or.inr ⟨hl, rfl, _, rfl, hS.keep (fun x => (mput_a (by decide)).trans (mput_a (by decide))) ((mput_k (by decide)).trans (mput_a (by decide))) (fun x => (mput_a (by decide)).trans (mput_a (by decide))) (hT.push hl hn)⟩⟩) (Nat.le_of_ble_eq_true rfl) (Nat.le_of_ble_eq_true rfl)
    · rw [nI_eq (by omega) (by omega)] at c20
      refine V.bipush (v := -3) X dX12_appendCharacter_23 (by decide) ?_
      exact V.iret X Y9 dX12_appendCharacter_25 (Or.inr ⟨n, hn, rfl, Or.inl ⟨by omega, rfl, rfl⟩⟩) (Nat.le_of_ble_eq_true rfl) (Nat.le_of_ble_eq_true rfl)
  · have c8 := bI_eq c8
    refine V.iconst (v := -1) X dX12_appendCharacter_11 (by decide) ?_
    exact V.iret X Y9 dX12_appendCharacter_12 (Or.inl ⟨c8, rfl, rfl⟩) (Nat.le_of_ble_eq_true rfl) (Nat.le_of_ble_eq_true rfl)
theorem fX12_clearText_44 : FL wsX12_clearText RX12 44 14 5 .int false := ⟨_, rfl, by decide, Or.inl ⟨"ContractTesterModel", by decide +kernel, Or.inl rfl⟩, by decide +kernel, by decide +kernel, rfl⟩
set_option maxHeartbeats 4000000 in
set_option maxRecDepth 100000 in
theorem c_X12_clearText (l : Launch) (G : GG) {h : Hp} {M : Nat} {m : Md} (K : MdK h M) {t : List Nat} {c : Cmp} {r : Xr} {k : Nat} {ps : Nat → Cmp × Xr} (hS : MSt m t c r k ps)  : Con l G yX12_clearText wsX12_clearText 0 0 0 0 [.ref M] (Hm h M m) (pI (fun y h2 => y = nI t.length ∧ ∃ m2, h2 = Hm h M m2 ∧ MSt m2 [] c r k ps)) := by
  refine Con.of (cc := cX12_clearText) (nL := 2) (ret := (some .int)) (by decide) rfl rfl rfl rfl (fun Γ hG hl X Y9 => ?_)
  subst hG
  subst hl
  refine V.aload_n X dX12_clearText_0 rfl ?_
  refine V.mgf  X K fX12_clearText_44 dX12_clearText_1 rfl hS.1.1 ?_
  refine V.istore_n X dX12_clearText_4 [(0, _), (1, _)] rfl rfl rfl ?_
  refine V.aload_n X dX12_clearText_5 rfl ?_
  refine V.iconst (v := nI 0) X dX12_clearText_6 (by decide) ?_
  refine V.mpf X K fX12_clearText_44 dX12_clearText_7 rfl rfl rfl ?_
  refine V.iload_n X dX12_clearText_10 rfl ?_
  exact V.iret X Y9 dX12_clearText_11 ⟨rfl, _, rfl, hS.keep (fun x => mput_a (by decide)) (mput_k (by decide)) (fun x => mput_a (by decide)) (TxM.nil mput_at)⟩ (Nat.le_of_ble_eq_true rfl) (Nat.le_of_ble_eq_true rfl)
theorem TxM.same {m m2 : Md} {t : List Nat} (q : TxM m t) (e5 : m2 0 5 = m 0 5) (e4 : ∀ x, m2 4 x = m 4 x) : TxM m2 t := ⟨e5.trans q.1, q.2.1, fun i hi => ⟨(e4 i).trans (q.2.2 i hi).1, (q.2.2 i hi).2⟩⟩
theorem noteM_1 {m : Md} {k x : Nat} : noteM m k 1 x = m 1 x := noteM_o (by decide) (fun z => absurd z.1 (by decide))
theorem noteM_4 {m : Md} {k x : Nat} : noteM m k 4 x = m 4 x := noteM_o (by decide) (fun z => absurd z.1 (by decide))
theorem noteM_5 {m : Md} {k : Nat} : noteM m k 0 5 = m 0 5 := noteM_o (by decide) (fun z => absurd z.2 (by decide))
theorem in_99 {v : Int32} : inB v (-99) (nI 99) = true ↔ (¬ v < -99 ∧ v ≤ nI 99) := by
  unfold inB
  rw [Bool.and_eq_true, decide_eq_true_eq, decide_eq_true_eq]
  constructor
  · intro z; exact ⟨i32_nlt z.1, z.2⟩
  · intro z
    refine ⟨?_, z.2⟩
    have := z.1
    rw [Int32.lt_iff_toInt_lt] at this
    rw [Int32.le_iff_toInt_le]
    omega
theorem getF_r {f : Nat → Int32} {c : Cmp} {j : Nat} (h : CmR f c) (hj : j < 3) : f j = getF c.1 (nI j) := by
  obtain ⟨⟨a, b, d⟩, -⟩ := h
  rcases (show j = 0 ∨ j = 1 ∨ j = 2 by omega) with rfl | rfl | rfl
  · exact a
  · exact b
  · exact d
theorem fX12_setInitialValue_7 : FL wsX12_setInitialValue RX12 7 14 0 (.array .int) true := ⟨_, rfl, by decide, Or.inl ⟨"ContractTesterModel", by decide +kernel, Or.inl rfl⟩, by decide +kernel, by decide +kernel, rfl⟩
set_option maxHeartbeats 4000000 in
set_option maxRecDepth 100000 in
theorem c_X12_setInitialValue (l : Launch) (G : GG) {h : Hp} {M : Nat} {m : Md} (K : MdK h M) {t : List Nat} {c : Cmp} {r : Xr} {k : Nat} {ps : Nat → Cmp × Xr} (hS : MSt m t c r k ps) {f v : Int32} : Con l G yX12_setInitialValue wsX12_setInitialValue 1 22 0 0 [.ref M, .int f, .int v] (Hm h M m) (pI (fun y h2 => ((isIx f 3 = false ∨ v < -99 ∨ ¬ v ≤ nI 99) ∧ y = -1 ∧ h2 = Hm h M m) ∨ ((isIx f 3 = true ∧ ¬ v < -99 ∧ v ≤ nI 99) ∧ y = nI 100 + getF c.1 f ∧ ∃ m2, h2 = Hm h M m2 ∧ MSt m2 t (setF c.1 f v, c.2.1, c.2.2) (rst (setF c.1 f v, c.2.1, c.2.2) r) (nxK k) (noteP ps k (c, r))))) := by
  refine Con.of (cc := cX12_setInitialValue) (nL := 4) (ret := (some .int)) (by decide) rfl rfl rfl rfl (fun Γ hG hl X Y9 => ?_)
  subst hG
  subst hl
  obtain ⟨hT, hC, hX, ok, hp, hp6, hP⟩ := id hS
  obtain ⟨⟨⟨x1, x2⟩, ⟨x3, x4⟩, x5, x6, x7⟩, ok2, x8, x9⟩ := id ok
  have ok21 := ok2.2.1
  refine V.iload_n X dX12_setInitialValue_0 rfl ?_
  refine V.iconst (v := nI 0) X dX12_setInitialValue_1 (by decide) ?_
  refine V.iconst (v := nI 2) X dX12_setInitialValue_2 (by decide) ?_
  refine V.callSi (n := 3) X dX12_setInitialValue_3 gX12_setInitialValue_X12_in (c_X12_in _ _) rfl (by decide +kernel) rfl rfl rfl ⟨Nat.le_of_ble_eq_true rfl, Nat.le_of_ble_eq_true rfl⟩ (fun r3 h3 hp3 => ?_)
  obtain ⟨rfl, e9⟩ := hp3; obtain rfl := e9.symm
  rw [inB_nI (by decide)]
  refine V.if_eq 20 X dX12_setInitialValue_6 (by decide) (fun c6 => ?_) (fun c6 => ?_)
  · have c6 := bI_eq c6
    have e0 : (isIx f 3 = false ∨ v < -99 ∨ ¬ v ≤ nI 99) := Or.inl c6
    refine V.iconst (v := -1) X dX12_setInitialValue_20 (by decide) ?_
    exact V.iret X Y9 dX12_setInitialValue_21 (Or.inl ⟨e0, rfl, rfl⟩) (Nat.le_of_ble_eq_true rfl) (Nat.le_of_ble_eq_true rfl)
  · have c6 := bI_ne c6
    refine V.iload_n X dX12_setInitialValue_9 rfl ?_
    refine V.bipush (v := -99) X dX12_setInitialValue_10 (by decide) ?_
    refine V.bipush (v := nI 99) X dX12_setInitialValue_12 (by decide) ?_
    refine V.callSi (n := 3) X dX12_setInitialValue_14 gX12_setInitialValue_X12_in (c_X12_in _ _) rfl (by decide +kernel) rfl rfl rfl ⟨Nat.le_of_ble_eq_true rfl, Nat.le_of_ble_eq_true rfl⟩ (fun r14 h14 hp14 => ?_)
    obtain ⟨rfl, e9⟩ := hp14; obtain rfl := e9.symm
    refine V.if_ne 22 X dX12_setInitialValue_17 (by decide) (fun c17 => ?_) (fun c17 => ?_)
    · have c17 := bI_ne c17
      have e1 := in_99.mp c17
      obtain ⟨j, hj, rfl⟩ := ix_of c6 (by decide)
      have hj : j < 3 := hj
      refine V.aload_n X dX12_setInitialValue_22 rfl ?_
      refine V.callVv (n := 0) X dX12_setInitialValue_23 gX12_setInitialValue_X12_note (c_X12_note _ _ K hp hp6) rfl (by decide +kernel) rfl rfl rfl K.1 rfl rfl ⟨Nat.le_of_ble_eq_true rfl, Nat.le_of_ble_eq_true rfl⟩ (fun h23 hp23 => ?_)
      obtain rfl := hp23.symm
      refine V.aload_n X dX12_setInitialValue_26 rfl ?_
      refine V.mgr (k := 0) (a := 1) X K fX12_setInitialValue_7 dX12_setInitialValue_27 (by decide) ?_
      refine V.iconst (v := nI 0) X dX12_setInitialValue_30 (by decide) ?_
      refine V.iload_n X dX12_setInitialValue_31 rfl ?_
      refine V.iaddN X dX12_setInitialValue_32 ?_
      refine V.mld (x := getF c.1 (nI j)) X K 1 1178  dX12_setInitialValue_33 rfl rfl (by omega) (by rw [noteM_1, Nat.zero_add]; exact getF_r hC hj) ?_
      refine V.istore_n X dX12_setInitialValue_34 [(0, _), (1, _), (2, _), (3, _)] rfl rfl rfl ?_
      refine V.aload_n X dX12_setInitialValue_35 rfl ?_
      refine V.mgr (k := 0) (a := 1) X K fX12_setInitialValue_7 dX12_setInitialValue_36 (by decide) ?_
      refine V.iconst (v := nI 0) X dX12_setInitialValue_39 (by decide) ?_
      refine V.iload_n X dX12_setInitialValue_40 rfl ?_
      refine V.iaddN X dX12_setInitialValue_41 ?_
      refine V.iload_n X dX12_setInitialValue_42 rfl ?_
      refine V.mst X K 1 1178 (j := 0 + j) dX12_setInitialValue_43 rfl rfl (by omega) ?_
      refine V.aload_n X dX12_setInitialValue_44 rfl ?_
      refine V.callVv (n := 0) X dX12_setInitialValue_45 gX12_setInitialValue_X12_bare (c_X12_bare _ _ K) rfl (by decide +kernel) rfl rfl rfl K.1 rfl rfl ⟨Nat.le_of_ble_eq_true rfl, Nat.le_of_ble_eq_true rfl⟩ (fun h45 hp45 => ?_)
      obtain rfl := hp45.symm
      have C0 : CmR (noteM m k 1) c := hC.same ok2 (fun x _ => noteM_1)
      have CC : CmR (bareM (mput (noteM m k) 1 (0 + j) v) 1) (setF c.1 (nI j) v, c.2.1, c.2.2) := (C0.ini ok2 hj (g := mput (noteM m k) 1 (0 + j) v 1) (fun x hx => mput_k (by omega)) (by rw [Nat.zero_add]; exact mput_at)).same ok2 (fun x hx => bareM_o (Or.inr (by omega)))
      refine V.bipush (v := nI 100) X dX12_setInitialValue_48 (by decide) ?_
      refine V.iload_n X dX12_setInitialValue_50 rfl ?_
      refine V.iadd X dX12_setInitialValue_51 ?_
      exact V.iret X Y9 dX12_setInitialValue_52 (Or.inr ⟨⟨c6, e1⟩, rfl, _, rfl, hS.edit (fun x => (bareM_o (Or.inl (by decide))).trans (mput_a (by decide))) ((bareM_o (Or.inl (by decide))).trans (mput_a (by decide))) (hT.same ((bareM_o (Or.inl (by decide))).trans ((mput_a (by decide)).trans noteM_5)) (fun x => (bareM_o (Or.inl (by decide))).trans ((mput_a (by decide)).trans noteM_4))) CC (XmR.bare ((mput_k (by omega)).trans (noteM_1.trans hX.1.1)) x6) (ok.rst ok2)⟩) (Nat.le_of_ble_eq_true rfl) (Nat.le_of_ble_eq_true rfl)
    · have c17 := bI_eq c17
      have e0 : (isIx f 3 = false ∨ v < -99 ∨ ¬ v ≤ nI 99) := by
        refine Or.inr ?_
        by_cases z : v < -99
        · exact Or.inl z
        · exact Or.inr (fun z2 => by rw [in_99.mpr ⟨z, z2⟩] at c17; cases c17)
      refine V.iconst (v := -1) X dX12_setInitialValue_20 (by decide) ?_
      exact V.iret X Y9 dX12_setInitialValue_21 (Or.inl ⟨e0, rfl, rfl⟩) (Nat.le_of_ble_eq_true rfl) (Nat.le_of_ble_eq_true rfl)
theorem CmR.rem {m : Md} {c : Cmp} {j n : Nat} (h : CmR (m 1) c) (o : cmOk c) (hj : j < c.2.2.length) (hn : 14 + 43 * j + n = 229) {g : Nat → Int32} (e : ∀ x, x < 272 → ¬ x = 4 → g x = cpy m 1 1 (14 + 43 * j) (14 + 43 * j + 43) n 1 x) (e4 : g 4 = nI (c.2.2.length - 1)) : CmR g (c.1, c.2.1, c.2.2.eraseIdx j) := by
  obtain ⟨⟨a0, a1, a2⟩, a3, a4, a5, a6⟩ := h
  have l3 := o.1
  have l6 := o.2.1
  have lo : ∀ x, x < 14 → ¬ x = 4 → g x = m 1 x := fun x hx h4 => (e x (by omega) h4).trans (cpy_n (by omega))
  refine ⟨⟨(lo _ (by omega) (by omega)).trans a0, (lo _ (by omega) (by omega)).trans a1, (lo _ (by omega) (by omega)).trans a2⟩, (lo _ (by omega) (by omega)).trans a3, ?_, fun i x hx => ?_, fun i q hq => ?_⟩
  · rw [e4, List.length_eraseIdx, if_pos hj]
  · have hb : i < c.2.1.length := (List.getElem?_eq_some_iff.mp hx).1
    exact (a5 i x hx).same (fun z h1 h2 => lo z (by omega) (by omega))
  · have hb : i < (c.2.2.eraseIdx j).length := (List.getElem?_eq_some_iff.mp hq).1
    rw [List.length_eraseIdx, if_pos hj] at hb
    have hq : (c.2.2.eraseIdx j)[i]? = some q := hq
    rw [List.getElem?_eraseIdx] at hq
    split at hq
    · next hij =>
      exact (a6 i q hq).same (MtL_len (o.2.2.2 q (List.mem_of_getElem? hq))) (fun z h1 h2 => (e z (by omega) (by omega)).trans (cpy_n (by omega)))
    · next hij =>
      have hl := MtL_len (o.2.2.2 q (List.mem_of_getElem? hq))
      have b := a6 (i + 1) q hq
      have sh : ∀ z, 14 + 43 * i ≤ z → z < 14 + 43 * i + 43 → g z = m 1 (z + 43) := fun z h1 h2 => by
        rw [e z (by omega) (by omega), cpy_i (by omega) (by omega)]
        congr 1
        omega
      refine ⟨(sh _ (by omega) (by omega)).trans (by rw [← b.1]; congr 1), fun z x hx => ?_⟩
      have hz := (List.getElem?_eq_some_iff.mp hx).1
      have b2 := b.2 z x hx
      have b3 : ClzR (fun y => m 1 (y + 43)) (14 + 43 * i + 1 + 6 * z) x := by
        rw [show 14 + 43 * (i + 1) + 1 + 6 * z = 14 + 43 * i + 1 + 6 * z + 43 by omega] at b2
        obtain ⟨k9, y⟩ := x
        cases y with
        | inl c0 =>
          obtain ⟨b4, b5, b6, b7⟩ := b2
          refine ⟨b4, ?_, ?_, ?_⟩
          · rw [← b5]
          · rw [← b6]
          · rw [← b7]
        | inr a9 =>
          obtain ⟨b4, b5, b6, b7, b8⟩ := b2
          refine ⟨b4, ?_, ?_, ?_, fun y => ?_⟩
          · rw [← b5]
          · rw [← b6]
          · rw [← b7]
          · rw [← b8 y]
      exact b3.same (fun y h1 h2 => sh y (by omega) (by omega))
theorem cmOk.rem {c : Cmp} {j : Nat} (o : cmOk c) : cmOk (c.1, c.2.1, c.2.2.eraseIdx j) :=
  ⟨o.1, by have := o.2.1; have h := List.length_eraseIdx_le c.2.2 j; show (c.2.2.eraseIdx j).length ≤ 6; omega, o.2.2.1, fun q hq => o.2.2.2 q (List.mem_of_mem_eraseIdx hq)⟩
theorem fX12_removeMethod_7 : FL wsX12_removeMethod RX12 7 14 0 (.array .int) true := ⟨_, rfl, by decide, Or.inl ⟨"ContractTesterModel", by decide +kernel, Or.inl rfl⟩, by decide +kernel, by decide +kernel, rfl⟩
set_option maxHeartbeats 4000000 in
set_option maxRecDepth 100000 in
theorem c_X12_removeMethod (l : Launch) (G : GG) {h : Hp} {M : Nat} {m : Md} (K : MdK h M) {t : List Nat} {c : Cmp} {r : Xr} {k : Nat} {ps : Nat → Cmp × Xr} (hS : MSt m t c r k ps) {z : Int32} : Con l G yX12_removeMethod wsX12_removeMethod 2 43 0 0 [.ref M, .int z] (Hm h M m) (pI (fun y h2 => (isIx z c.2.2.length = false ∧ y = -1 ∧ h2 = Hm h M m) ∨ ∃ j, j < c.2.2.length ∧ z = nI j ∧ y = nI (c.2.2.eraseIdx j).length ∧ ∃ m2, h2 = Hm h M m2 ∧ MSt m2 t (c.1, c.2.1, c.2.2.eraseIdx j) (rst (c.1, c.2.1, c.2.2.eraseIdx j) r) (nxK k) (noteP ps k (c, r)))) := by
  refine Con.of (cc := cX12_removeMethod) (nL := 3) (ret := (some .int)) (by decide) rfl rfl rfl rfl (fun Γ hG hl X Y9 => ?_)
  subst hG
  subst hl
  obtain ⟨hT, hC, hX, ok, hp, hp6, hP⟩ := id hS
  obtain ⟨⟨⟨x1, x2⟩, ⟨x3, x4⟩, x5, x6, x7⟩, ok2, x8, x9⟩ := id ok
  have ok21 := ok2.2.1
  have loop : ∀ (j : Nat), j < c.2.2.length → z = nI j → ∀ (n a : Nat), 14 + 43 * j + a + n = 229 → V Γ 0 0 22 [(0, .ref M), (1, .int (nI j)), (2, .int (nI (14 + 43 * j + a)))] [] (Hm h M (cpy (noteM m k) 1 1 (14 + 43 * j) (14 + 43 * j + 43) a)) := by
    intro j hj hz n
    induction n with
    | zero =>
      intro a g1
      have e4 : cpy (noteM m k) 1 1 (14 + 43 * j) (14 + 43 * j + 43) a 1 4 = nI c.2.2.length := (cpy_n (by omega)).trans (noteM_1.trans hC.2.2.1)
      have le : (c.2.2.eraseIdx j).length = c.2.2.length - 1 := by rw [List.length_eraseIdx, if_pos hj]
      refine V.iload_n X dX12_removeMethod_22 rfl ?_
      refine V.bipush (v := nI 43) X dX12_removeMethod_23 (by decide) ?_
      refine V.iaddN X dX12_removeMethod_25 ?_
      refine V.sipush (v := nI 272) X dX12_removeMethod_26 (by decide) ?_
      refine V.icmp_ge 53 X dX12_removeMethod_29 (by decide) (fun c29 => ?_) (fun c29 => False.elim (by rw [nI_leI (by omega) (by omega)] at c29; omega))
      rw [nI_leI (by omega) (by omega)] at c29
      refine V.aload_n X dX12_removeMethod_53 rfl ?_
      refine V.mgr (k := 0) (a := 1) X K fX12_removeMethod_7 dX12_removeMethod_54 (by decide) ?_
      refine V.iconst (v := nI 4) X dX12_removeMethod_57 (by decide) ?_
      refine V.dup2 X dX12_removeMethod_58 rfl rfl ?_
      refine V.mld  X K 1 1178  dX12_removeMethod_59 rfl rfl (by omega) e4 ?_
      refine V.iconst (v := nI 1) X dX12_removeMethod_60 (by decide) ?_
      refine V.isubN X dX12_removeMethod_61 (by omega) ?_
      refine V.mst X K 1 1178  dX12_removeMethod_62 rfl rfl (by omega) ?_
      refine V.aload_n X dX12_removeMethod_63 rfl ?_
      refine V.callVv (n := 0) X dX12_removeMethod_64 gX12_removeMethod_X12_bare (c_X12_bare _ _ K) rfl (by decide +kernel) rfl rfl rfl K.1 rfl rfl ⟨Nat.le_of_ble_eq_true rfl, Nat.le_of_ble_eq_true rfl⟩ (fun h64 hp64 => ?_)
      obtain rfl := hp64.symm
      have C0 : CmR (noteM m k 1) c := hC.same ok2 (fun x _ => noteM_1)
      have CC : CmR (bareM (mput (cpy (noteM m k) 1 1 (14 + 43 * j) (14 + 43 * j + 43) a) 1 4 (nI (c.2.2.length - 1))) 1) (c.1, c.2.1, c.2.2.eraseIdx j) := C0.rem ok2 hj g1 (fun x h1 h2 => (bareM_o (Or.inr (by omega))).trans (mput_k h2)) ((bareM_o (Or.inr (by decide))).trans mput_at)
      refine V.aload_n X dX12_removeMethod_67 rfl ?_
      refine V.mgr (k := 0) (a := 1) X K fX12_removeMethod_7 dX12_removeMethod_68 (by decide) ?_
      refine V.iconst (v := nI 4) X dX12_removeMethod_71 (by decide) ?_
      refine V.mld (x := nI (c.2.2.length - 1)) X K 1 1178  dX12_removeMethod_72 rfl rfl (by omega) ((bareM_o (Or.inr (by decide))).trans mput_at) ?_
      exact V.iret X Y9 dX12_removeMethod_73 (Or.inr ⟨j, hj, hz, by rw [le], _, rfl, hS.edit (fun x => (bareM_o (Or.inl (by decide))).trans ((mput_a (by decide)).trans (cpy_o (by decide)))) ((bareM_o (Or.inl (by decide))).trans ((mput_a (by decide)).trans (cpy_o (by decide)))) (hT.same ((bareM_o (Or.inl (by decide))).trans ((mput_a (by decide)).trans ((cpy_o (by decide)).trans noteM_5))) (fun x => (bareM_o (Or.inl (by decide))).trans ((mput_a (by decide)).trans ((cpy_o (by decide)).trans noteM_4)))) CC (XmR.bare ((mput_k (by omega)).trans ((cpy_n (by omega)).trans (noteM_1.trans hX.1.1))) x6) (ok.rst ok2.rem)⟩) (Nat.le_of_ble_eq_true rfl) (Nat.le_of_ble_eq_true rfl)
    | succ n ih =>
      intro a g1
      refine V.iload_n X dX12_removeMethod_22 rfl ?_
      refine V.bipush (v := nI 43) X dX12_removeMethod_23 (by decide) ?_
      refine V.iaddN X dX12_removeMethod_25 ?_
      refine V.sipush (v := nI 272) X dX12_removeMethod_26 (by decide) ?_
      refine V.icmp_ge 53 X dX12_removeMethod_29 (by decide) (fun c29 => False.elim (by rw [nI_leI (by omega) (by omega)] at c29; omega)) (fun c29 => ?_)
      rw [nI_leI (by omega) (by omega)] at c29
      refine V.aload_n X dX12_removeMethod_32 rfl ?_
      refine V.mgr (k := 0) (a := 1) X K fX12_removeMethod_7 dX12_removeMethod_33 (by decide) ?_
      refine V.iload_n X dX12_removeMethod_36 rfl ?_
      refine V.aload_n X dX12_removeMethod_37 rfl ?_
      refine V.mgr (k := 0) (a := 1) X K fX12_removeMethod_7 dX12_removeMethod_38 (by decide) ?_
      refine V.iload_n X dX12_removeMethod_41 rfl ?_
      refine V.bipush (v := nI 43) X dX12_removeMethod_42 (by decide) ?_
      refine V.iaddN X dX12_removeMethod_44 ?_
      refine V.mld  X K 1 1178  dX12_removeMethod_45 rfl rfl (by omega) rfl ?_
      refine V.mst X K 1 1178  dX12_removeMethod_46 rfl rfl (by omega) ?_
      rw [cpy_q (by omega) (cpy_r (by omega) (by omega))]
      refine V.iinc  X dX12_removeMethod_47 [(0, _), (1, _), (2, _)] rfl (nI_1 _) rfl rfl rfl ?_
      refine V.goto 22 X dX12_removeMethod_50 (by decide) ?_
      exact ih (a + 1) (by omega)
  refine V.aload_n X dX12_removeMethod_0 rfl ?_
  refine V.iload_n X dX12_removeMethod_1 rfl ?_
  refine V.callVi (n := 1) X dX12_removeMethod_2 gX12_removeMethod_X12_isMethodNumber (c_X12_isMethodNumber _ _ K hC.2.2.1 (by omega)) rfl (by decide +kernel) rfl rfl rfl K.1 rfl rfl ⟨Nat.le_of_ble_eq_true rfl, Nat.le_of_ble_eq_true rfl⟩ (fun r2 h2 hp2 => ?_)
  obtain ⟨rfl, e9⟩ := hp2; obtain rfl := e9.symm
  refine V.if_ne 10 X dX12_removeMethod_5 (by decide) (fun c5 => ?_) (fun c5 => ?_)
  · have c5 := bI_ne c5
    obtain ⟨j, hj, rfl⟩ := ix_of c5 (by omega)
    refine V.aload_n X dX12_removeMethod_10 rfl ?_
    refine V.callVv (n := 0) X dX12_removeMethod_11 gX12_removeMethod_X12_note (c_X12_note _ _ K hp hp6) rfl (by decide +kernel) rfl rfl rfl K.1 rfl rfl ⟨Nat.le_of_ble_eq_true rfl, Nat.le_of_ble_eq_true rfl⟩ (fun h11 hp11 => ?_)
    obtain rfl := hp11.symm
    refine V.bipush (v := nI 14) X dX12_removeMethod_14 (by decide) ?_
    refine V.bipush (v := nI 43) X dX12_removeMethod_16 (by decide) ?_
    refine V.iload_n X dX12_removeMethod_18 rfl ?_
    refine V.imulN X dX12_removeMethod_19 ?_
    refine V.iaddN X dX12_removeMethod_20 ?_
    refine V.istore_n X dX12_removeMethod_21 [(0, _), (1, _), (2, _)] rfl rfl rfl ?_
    have l9 := loop j hj rfl (229 - (14 + 43 * j)) 0 (by omega)
    rw [cpy_0] at l9
    exact l9
  · have c5 := bI_eq c5
    refine V.iconst (v := -1) X dX12_removeMethod_8 (by decide) ?_
    exact V.iret X Y9 dX12_removeMethod_9 (Or.inl ⟨c5, rfl, rfl⟩) (Nat.le_of_ble_eq_true rfl) (Nat.le_of_ble_eq_true rfl)
