/-! HOW MUCH IS READ -/
theorem tl_le (r : List Tok) : r.tail.length ≤ r.length := by rw [List.length_tail]; omega
theorem acc_l {c : Nat} {r r1 : List Tok} (hc : 0 < c) (h : acc c r = some r1) : r1.length ≤ r.length := by
  rw [acc_h hc] at h
  split at h
  · cases h; exact tl_le r
  · cases h
theorem pFld_l {r r1 : List Tok} {f : Nat} (h : pFld r = some (f, r1)) : r1.length ≤ r.length := by
  rw [pFld_h] at h
  split at h
  · cases h; exact tl_le r
  · cases h
theorem pNum_l (r : List Tok) : (pNum r).2.length ≤ r.length := by
  have a := tl_le r
  have b := tl_le r.tail
  rw [pNum_h]
  split
  · split
    · show r.tail.tail.length ≤ _; omega
    · exact a
  · split
    · exact a
    · exact Nat.le_refl _
theorem pOpd_l (o : Bool) (r : List Tok) : (pOpd o r).2.length ≤ r.length := by
  unfold pOpd
  split
  · next r1 h =>
    have a : r1.length ≤ r.length := by
      split at h
      · exact acc_l (by decide) h
      · cases h
    split
    · next f r2 h2 => have := pFld_l h2; show r2.length ≤ _; omega
    · exact a
  · split
    · next f r1 h2 => exact pFld_l h2
    · have b := pNum_l r
      split
      · next v r1 h3 => rw [h3] at b; exact b
      · next r1 h3 => rw [h3] at b; exact b
theorem pRel_l {r r1 : List Tok} {k : Int32} (h : pRel r = some (k, r1)) : r1.length ≤ r.length := by
  have a := tl_le r
  rw [pRel_h] at h
  split at h
  · cases h; exact a
  · split at h
    · cases h; exact a
    · split at h
      · cases h; exact a
      · cases h
theorem pCnd_l (o : Bool) (r : List Tok) : (pCnd o r).2.length ≤ r.length := by
  have a := pOpd_l o r
  unfold pCnd
  split
  · next r1 h => rw [h] at a; exact a
  · next x r1 h =>
    rw [h] at a
    have a : r1.length ≤ r.length := a
    split
    · exact a
    · next k r2 h2 =>
      have b := pRel_l h2
      have c := pOpd_l o r2
      split
      · next r3 h3 => rw [h3] at c; have c : r3.length ≤ r2.length := c; show r3.length ≤ _; omega
      · next y r3 h3 => rw [h3] at c; have c : r3.length ≤ r2.length := c; show r3.length ≤ _; omega
theorem pSgn_l (r : List Tok) : (pSgn r).2.length ≤ r.length := by
  have a := tl_le r
  rw [pSgn_h]
  split
  · exact a
  · split
    · exact a
    · exact Nat.le_refl _
theorem pAsg_l (r : List Tok) : (pAsg r).2.length ≤ r.length := by
  unfold pAsg
  split
  · exact Nat.le_refl _
  · next f r1 h =>
    have a := pFld_l h
    split
    · exact a
    · next r2 h2 =>
      have b := acc_l (by decide) h2
      have c := pOpd_l false r2
      split
      · next r3 h3 => rw [h3] at c; have c : r3.length ≤ r2.length := c; show r3.length ≤ _; omega
      · next x r3 h3 =>
        rw [h3] at c
        have c : r3.length ≤ r2.length := c
        have d := pSgn_l r3
        split
        · show (pSgn r3).2.length ≤ _; omega
        · have e := pOpd_l false (pSgn r3).2
          split
          · next r5 h5 => rw [h5] at e; have e : r5.length ≤ (pSgn r3).2.length := e; show r5.length ≤ _; omega
          · next y r5 h5 => rw [h5] at e; have e : r5.length ≤ (pSgn r3).2.length := e; show r5.length ≤ _; omega
theorem pCnds_l (w : Nat) (hw : 0 < w) (o : Bool) : ∀ (n : Nat) (cs : List Cnd) (r : List Tok), (pCnds w o n cs r).2.length ≤ r.length := by
  intro n
  induction n with
  | zero => intro cs r; exact Nat.le_refl _
  | succ n ih =>
    intro cs r
    by_cases h : hdC r = w
    · have a := pCnd_l o r.tail
      have b := tl_le r
      rcases hx : pCnd o r.tail with ⟨_ | c, r2⟩
      · rw [pCnds_n hw h hx]; rw [hx] at a; have a : r2.length ≤ _ := a; show r2.length ≤ _; omega
      · rw [pCnds_s hw h hx]; rw [hx] at a; have a : r2.length ≤ _ := a; have := ih (cs ++ [c]) r2; omega
    · rw [pCnds_e hw h]; exact Nat.le_refl _
theorem pAsgs_l : ∀ (n : Nat) (cs : List Asg) (r : List Tok), (pAsgs n cs r).2.length ≤ r.length := by
  intro n
  induction n with
  | zero => intro cs r; exact Nat.le_refl _
  | succ n ih =>
    intro cs r
    by_cases h : hdC r = 304
    · have a := pAsg_l r.tail
      have b := tl_le r
      rcases hx : pAsg r.tail with ⟨_ | c, r2⟩
      · rw [pAsgs_n h hx]; rw [hx] at a; have a : r2.length ≤ _ := a; show r2.length ≤ _; omega
      · rw [pAsgs_s h hx]; rw [hx] at a; have a : r2.length ≤ _ := a; have := ih (cs ++ [c]) r2; omega
    · rw [pAsgs_e h]; exact Nat.le_refl _
theorem pMth_l (r : List Tok) : (pMth r).2.length ≤ r.length := by
  have a := pCnds_l 303 (by decide) false 2 [] r
  rcases h1 : pCnds 303 false 2 [] r with ⟨_ | ps, r1⟩
  · rw [pMth_x1 h1]; rw [h1] at a; exact a
  rw [h1] at a
  have a : r1.length ≤ r.length := a
  have b := pAsgs_l 3 [] r1
  rcases h2 : pAsgs 3 [] r1 with ⟨_ | as, r2⟩
  · rw [pMth_x2 h1 (Or.inl h2)]; rw [h2] at b; have b : r2.length ≤ _ := b; show r2.length ≤ _; omega
  rw [h2] at b
  have b : r2.length ≤ r1.length := b
  cases as with
  | nil => rw [pMth_x2 h1 (Or.inr h2)]; show r2.length ≤ _; omega
  | cons x xs =>
    have c := pCnds_l 305 (by decide) true 2 [] r2
    rcases h3 : pCnds 305 true 2 [] r2 with ⟨_ | es, r3⟩
    · rw [pMth_x3 h1 h2 rfl h3]; rw [h3] at c; have c : r3.length ≤ _ := c; show r3.length ≤ _; omega
    · rw [pMth_ok h1 h2 rfl h3]; rw [h3] at c; have c : r3.length ≤ _ := c; show r3.length ≤ _; omega
theorem pIni_l (r : List Tok) : (pIni r).2.length ≤ r.length := by
  unfold pIni
  split
  · exact Nat.le_refl _
  · next f r1 h =>
    have a := pFld_l h
    have b := pNum_l r1
    split
    · next r2 h2 => rw [h2] at b; have b : r2.length ≤ _ := b; show r2.length ≤ _; omega
    · next v r2 h2 => rw [h2] at b; have b : r2.length ≤ _ := b; show r2.length ≤ _; omega
/-! A COMPONENT'S ROW -/
def CmR (f : Nat → Int32) (c : Cmp) : Prop := (f 0 = c.1.1 ∧ f 1 = c.1.2.1 ∧ f 2 = c.1.2.2) ∧ f 3 = nI c.2.1.length ∧ f 4 = nI c.2.2.length ∧ (∀ (i : Nat) (x : Cnd), c.2.1[i]? = some x → CnR f (5 + 3 * i) x) ∧ ∀ (j : Nat) (q : Mth), c.2.2[j]? = some q → ClL f j (MtL q)
def cmOk (c : Cmp) : Prop := c.2.1.length ≤ 3 ∧ c.2.2.length ≤ 6 ∧ (∀ x ∈ c.2.1, cnOk false x) ∧ ∀ q ∈ c.2.2, mtOk q
theorem MtL_len {q : Mth} (h : mtOk q) : (MtL q).length ≤ 7 := by
  obtain ⟨a, b, c, -⟩ := h
  unfold MtL
  simp
  omega
theorem CnR.same {f g : Nat → Int32} {p : Nat} {c : Cnd} (h : CnR f p c) (e : ∀ k, p ≤ k → k < p + 3 → g k = f k) : CnR g p c :=
  ⟨(e _ (by omega) (by omega)).trans h.1, (e _ (by omega) (by omega)).trans h.2.1, (e _ (by omega) (by omega)).trans h.2.2⟩
theorem ClL.same {f g : Nat → Int32} {j : Nat} {xs : List Clz} (hl : xs.length ≤ 7) (h : ClL f j xs) (e : ∀ k, 14 + 43 * j ≤ k → k < 14 + 43 * j + 43 → g k = f k) : ClL g j xs :=
  ⟨(e _ (by omega) (by omega)).trans h.1, fun i x hx => by
    have hb := (List.getElem?_eq_some_iff.mp hx).1
    exact (h.2 i x hx).same (fun k h1 h2 => e k (by omega) (by omega))⟩
theorem CmR.same {f g : Nat → Int32} {c : Cmp} (h : CmR f c) (o : cmOk c) (e : ∀ k, k < 272 → g k = f k) : CmR g c := by
  obtain ⟨⟨a0, a1, a2⟩, a3, a4, a5, a6⟩ := h
  refine ⟨⟨(e _ (by omega)).trans a0, (e _ (by omega)).trans a1, (e _ (by omega)).trans a2⟩, (e _ (by omega)).trans a3, (e _ (by omega)).trans a4, fun i x hx => ?_, fun j q hq => ?_⟩
  · have hb := (List.getElem?_eq_some_iff.mp hx).1
    have := o.1
    exact (a5 i x hx).same (fun k h1 h2 => e k (by omega))
  · have hb := (List.getElem?_eq_some_iff.mp hq).1
    have := o.2.1
    exact (a6 j q hq).same (MtL_len (o.2.2.2 q (List.mem_of_getElem? hq))) (fun k h1 h2 => e k (by omega))
theorem CmR.ini {f g : Nat → Int32} {c : Cmp} (h : CmR f c) (o : cmOk c) {k : Nat} {v : Int32} (hk : k < 3) (e : ∀ j, ¬ j = k → g j = f j) (ev : g k = v) : CmR g (setF c.1 (nI k) v, c.2.1, c.2.2) := by
  obtain ⟨⟨a0, a1, a2⟩, a3, a4, a5, a6⟩ := h
  refine ⟨?_, (e _ (by omega)).trans a3, (e _ (by omega)).trans a4, fun i x hx => (a5 i x hx).same (fun k9 h1 h2 => e k9 (by omega)), fun j q hq => (a6 j q hq).same (MtL_len (o.2.2.2 q (List.mem_of_getElem? hq))) (fun k9 h1 h2 => e k9 (by omega))⟩
  rcases (show k = 0 ∨ k = 1 ∨ k = 2 by omega) with rfl | rfl | rfl
  · rw [show setF c.1 (nI 0) v = (v, c.1.2.1, c.1.2.2) from if_pos (by decide)]
    exact ⟨ev, (e _ (by decide)).trans a1, (e _ (by decide)).trans a2⟩
  · rw [show setF c.1 (nI 1) v = (c.1.1, v, c.1.2.2) from (if_neg (by decide)).trans (if_pos (by decide))]
    exact ⟨(e _ (by decide)).trans a0, ev, (e _ (by decide)).trans a2⟩
  · rw [show setF c.1 (nI 2) v = (c.1.1, c.1.2.1, v) from (if_neg (by decide)).trans (if_neg (by decide))]
    exact ⟨(e _ (by decide)).trans a0, (e _ (by decide)).trans a1, ev⟩
theorem CmR.inv {f g : Nat → Int32} {c : Cmp} {x : Cnd} (h : CmR f c) (o : cmOk c) (h3 : c.2.1.length < 3) (e : ∀ j, ¬ j = 3 → (j < 5 + 3 * c.2.1.length ∨ 14 ≤ j) → g j = f j) (ev : g 3 = nI (c.2.1.length + 1)) (hx : CnR g (5 + 3 * c.2.1.length) x) : CmR g (c.1, c.2.1 ++ [x], c.2.2) := by
  obtain ⟨⟨a0, a1, a2⟩, a3, a4, a5, a6⟩ := h
  refine ⟨⟨(e _ (by omega) (by omega)).trans a0, (e _ (by omega) (by omega)).trans a1, (e _ (by omega) (by omega)).trans a2⟩, by rw [List.length_append]; exact ev, (e _ (by omega) (by omega)).trans a4, fun i y hy => ?_, fun j q hq => (a6 j q hq).same (MtL_len (o.2.2.2 q (List.mem_of_getElem? hq))) (fun k9 h1 h2 => e k9 (by omega) (by omega))⟩
  by_cases hi : i < c.2.1.length
  · rw [List.getElem?_append_left hi] at hy
    exact (a5 i y hy).same (fun k9 h1 h2 => e k9 (by omega) (by omega))
  · have hb := (List.getElem?_eq_some_iff.mp hy).1
    rw [List.length_append] at hb
    have hi2 : i = c.2.1.length := by simp at hb; omega
    subst hi2
    rw [List.getElem?_concat_length] at hy
    cases hy
    exact hx
theorem CmR.mth {f g : Nat → Int32} {c : Cmp} {q : Mth} (h : CmR f c) (o : cmOk c) (h6 : c.2.2.length < 6) (e : ∀ j, ¬ j = 4 → j < 14 + 43 * c.2.2.length → g j = f j) (ev : g 4 = nI (c.2.2.length + 1)) (hx : ClL g c.2.2.length (MtL q)) : CmR g (c.1, c.2.1, c.2.2 ++ [q]) := by
  obtain ⟨⟨a0, a1, a2⟩, a3, a4, a5, a6⟩ := h
  refine ⟨⟨(e _ (by omega) (by omega)).trans a0, (e _ (by omega) (by omega)).trans a1, (e _ (by omega) (by omega)).trans a2⟩, (e _ (by omega) (by omega)).trans a3, by rw [List.length_append]; exact ev, fun i x hx => ?_, fun j p hp => ?_⟩
  · have hb : i < c.2.1.length := (List.getElem?_eq_some_iff.mp hx).1
    have := o.1
    exact (a5 i x hx).same (fun k h1 h2 => e k (by omega) (by omega))
  by_cases hj : j < c.2.2.length
  · rw [List.getElem?_append_left hj] at hp
    exact (a6 j p hp).same (MtL_len (o.2.2.2 p (List.mem_of_getElem? hp))) (fun k9 h1 h2 => e k9 (by omega) (by omega))
  · have hb := (List.getElem?_eq_some_iff.mp hp).1
    rw [List.length_append] at hb
    have hi2 : j = c.2.2.length := by simp at hb; omega
    subst hi2
    rw [List.getElem?_concat_length] at hp
    cases hp
    exact hx
def iP : Nat → Nat → Prop := fun x k => psP x k ∨ (x = 2 ∧ k < 3)
def vP (n : Nat) : Nat → Nat → Prop := fun x k => psP x k ∨ (x = 2 ∧ (k = 3 ∨ (5 + 3 * n ≤ k ∧ k < 5 + 3 * n + 3)))
def drP : Nat → Nat → Prop := fun x k => psP x k ∨ (x = 2 ∧ k < 272)
theorem fX12_takeInit_72 : FL wsX12_takeInit RX12 72 14 10 .boolean false := ⟨_, rfl, by decide, Or.inl ⟨"ContractTesterModel", by decide +kernel, Or.inl rfl⟩, by decide +kernel, by decide +kernel, rfl⟩
theorem fX12_takeInit_13 : FL wsX12_takeInit RX12 13 14 1 (.array .int) true := ⟨_, rfl, by decide, Or.inl ⟨"ContractTesterModel", by decide +kernel, Or.inl rfl⟩, by decide +kernel, by decide +kernel, rfl⟩
set_option maxHeartbeats 4000000 in
set_option maxRecDepth 100000 in
theorem c_X12_takeInit (l : Launch) (G : GG) {h : Hp} {M : Nat} {m : Md} (K : MdK h M) {t : List Nat} {r : List Tok} (hP : PS m t false r) (hr : ¬ r = [])  : Con l G yX12_takeInit wsX12_takeInit 4 85 0 0 [.ref M] (Hm h M m) (pV (fun h2 => ∃ m2, h2 = Hm h M m2 ∧ MFr iP m m2 ∧ PS m2 t (pIni r.tail).1.isNone (pIni r.tail).2 ∧ ∀ f v, (pIni r.tail).1 = some (f, v) → f < 3 ∧ m2 2 f = v ∧ ∀ k, ¬ k = f → m2 2 k = m 2 k)) := by
  refine Con.of (cc := cX12_takeInit) (nL := 3) (ret := none) (by decide) rfl rfl rfl rfl (fun Γ hG hl X Y9 => ?_)
  subst hG
  subst hl
  refine V.aload_n X dX12_takeInit_0 rfl ?_
  refine V.iconst (v := (bI true)) X dX12_takeInit_1 (by decide) ?_
  refine V.callVv (n := 1) X dX12_takeInit_2 gX12_takeInit_X12_take (c_X12_take _ _ K hP (may := true) (fun _ _ => hr)) rfl (by decide +kernel) rfl rfl rfl K.1 rfl rfl ⟨Nat.le_of_ble_eq_true rfl, Nat.le_of_ble_eq_true rfl⟩ (fun h2 hp2 => ?_)
  obtain ⟨m1, rfl, G1, P1⟩ := hp2
  have P1 : PS m1 t false r.tail := P1
  refine V.aload_n X dX12_takeInit_5 rfl ?_
  refine V.callVi (n := 0) X dX12_takeInit_6 gX12_takeInit_X12_takeField (c_X12_takeField _ _ K P1) rfl (by decide +kernel) rfl rfl rfl K.1 rfl rfl ⟨Nat.le_of_ble_eq_true rfl, Nat.le_of_ble_eq_true rfl⟩ (fun r6 h6 hp6 => ?_)
  obtain ⟨m3, rfl, G3, P3, X3⟩ := hp6
  have F3 : MFr psP m m3 := G1.tr G3
  by_cases hf : fd r.tail = true
  · rw [hf] at P3
    have P3 : PS m3 t false r.tail.tail := P3
    have hf9 := pFld_t hf
    have hf2 := of_decide_eq_true hf
    have x6 := X3 hf
    subst x6
    refine V.istore_n X dX12_takeInit_9 [(0, _), (1, _)] rfl rfl rfl ?_
    refine V.aload_n X dX12_takeInit_10 rfl ?_
    refine V.callVi (n := 0) X dX12_takeInit_11 gX12_takeInit_X12_takeNumber (c_X12_takeNumber _ _ K P3) rfl (by decide +kernel) rfl rfl rfl K.1 rfl rfl ⟨Nat.le_of_ble_eq_true rfl, Nat.le_of_ble_eq_true rfl⟩ (fun r11 h11 hp11 => ?_)
    obtain ⟨m4, rfl, G4, P4, X4⟩ := hp11
    have F4 : MFr psP m m4 := F3.tr G4
    rcases hn : pNum r.tail.tail with ⟨_ | v, r2⟩
    · rw [hn] at P4
      have P4 : PS m4 t true r2 := P4
      have hi := pIni_x2 hf9 hn
      refine V.istore_n X dX12_takeInit_14 [(0, _), (1, _), (2, _)] rfl rfl rfl ?_
      refine V.aload_n X dX12_takeInit_15 rfl ?_
      refine V.mgf  X K fX12_takeInit_72 dX12_takeInit_16 rfl P4.2.2 ?_
      refine V.if_ne 31 X dX12_takeInit_19 (by decide) (fun c19 => ?_) (fun c19 => False.elim (by revert c19; decide))
      exact V.vret X Y9 dX12_takeInit_31 ⟨rfl, m4, rfl, F4.mono (fun _ _ z => Or.inl z), by rw [hi]; exact P4, fun f v z => by rw [hi] at z; cases z⟩ (Nat.le_of_ble_eq_true rfl) (Nat.le_of_ble_eq_true rfl)
    · rw [hn] at P4 X4
      have P4 : PS m4 t false r2 := P4
      have x4 := (X4 rfl v rfl).1
      have hi := pIni_ok hf9 hn
      refine V.istore_n X dX12_takeInit_14 [(0, _), (1, _), (2, _)] rfl rfl rfl ?_
      refine V.aload_n X dX12_takeInit_15 rfl ?_
      refine V.mgf  X K fX12_takeInit_72 dX12_takeInit_16 rfl P4.2.2 ?_
      refine V.if_ne 31 X dX12_takeInit_19 (by decide) (fun c19 => False.elim (by revert c19; decide)) (fun c19 => ?_)
      refine V.aload_n X dX12_takeInit_22 rfl ?_
      refine V.mgr (k := 1) (a := 2) X K fX12_takeInit_13 dX12_takeInit_23 (by decide) ?_
      refine V.iconst (v := nI 0) X dX12_takeInit_26 (by decide) ?_
      refine V.iload_n X dX12_takeInit_27 rfl ?_
      refine V.iaddN X dX12_takeInit_28 ?_
      refine V.iload_n X dX12_takeInit_29 rfl ?_
      refine V.mst X K 2 272  dX12_takeInit_30 rfl rfl (by omega) ?_
      exact V.vret X Y9 dX12_takeInit_31 ⟨rfl, _, rfl, (F4.mono (fun _ _ z => Or.inl z)).put (Or.inr ⟨rfl, by omega⟩), by rw [hi]; exact P4.dr _ _, fun f v9 z => by
        rw [hi] at z
        cases z
        refine ⟨by omega, ?_, fun k hk => ?_⟩
        · rw [Nat.zero_add]
          exact mput_at.trans x4
        · exact (mput_k (by omega)).trans (F4 2 k psP_2)⟩ (Nat.le_of_ble_eq_true rfl) (Nat.le_of_ble_eq_true rfl)
  · have hf := Bool.eq_false_iff.mpr hf
    rw [hf] at P3
    have P3 : PS m3 t true r.tail := P3
    have hi : pIni r.tail = (none, r.tail) := pIni_x1 (pFld_n hf)
    refine V.istore_n X dX12_takeInit_9 [(0, _), (1, _)] rfl rfl rfl ?_
    refine V.aload_n X dX12_takeInit_10 rfl ?_
    refine V.callVi (n := 0) X dX12_takeInit_11 gX12_takeInit_X12_takeNumber (c_X12_takeNumber _ _ K P3) rfl (by decide +kernel) rfl rfl rfl K.1 rfl rfl ⟨Nat.le_of_ble_eq_true rfl, Nat.le_of_ble_eq_true rfl⟩ (fun r11 h11 hp11 => ?_)
    obtain ⟨m4, rfl, G4, P4, -⟩ := hp11
    have P4 : PS m4 t true r.tail := P4
    refine V.istore_n X dX12_takeInit_14 [(0, _), (1, _), (2, _)] rfl rfl rfl ?_
    refine V.aload_n X dX12_takeInit_15 rfl ?_
    refine V.mgf  X K fX12_takeInit_72 dX12_takeInit_16 rfl P4.2.2 ?_
    refine V.if_ne 31 X dX12_takeInit_19 (by decide) (fun c19 => ?_) (fun c19 => False.elim (by revert c19; decide))
    exact V.vret X Y9 dX12_takeInit_31 ⟨rfl, m4, rfl, (F3.tr G4).mono (fun _ _ z => Or.inl z), by rw [hi]; exact P4, fun f v z => by rw [hi] at z; cases z⟩ (Nat.le_of_ble_eq_true rfl) (Nat.le_of_ble_eq_true rfl)
theorem fX12_takeInvariant_13 : FL wsX12_takeInvariant RX12 13 14 1 (.array .int) true := ⟨_, rfl, by decide, Or.inl ⟨"ContractTesterModel", by decide +kernel, Or.inl rfl⟩, by decide +kernel, by decide +kernel, rfl⟩
theorem fX12_takeInvariant_72 : FL wsX12_takeInvariant RX12 72 14 10 .boolean false := ⟨_, rfl, by decide, Or.inl ⟨"ContractTesterModel", by decide +kernel, Or.inl rfl⟩, by decide +kernel, by decide +kernel, rfl⟩
set_option maxHeartbeats 4000000 in
set_option maxRecDepth 100000 in
theorem c_X12_takeInvariant3 (l : Launch) (G : GG) {h : Hp} {M : Nat} {m : Md} (K : MdK h M) {t : List Nat} {r : List Tok} (hP : PS m t false r) (hm : m 2 3 = nI 3) : Con l G yX12_takeInvariant wsX12_takeInvariant 3 63 0 0 [.ref M] (Hm h M m) (pV (fun h2 => ∃ m2, h2 = Hm h M m2 ∧ MFr psP m m2 ∧ PS m2 t true r)) := by
  refine Con.of (cc := cX12_takeInvariant) (nL := 1) (ret := none) (by decide) rfl rfl rfl rfl (fun Γ hG hl X Y9 => ?_)
  subst hG
  subst hl
  refine V.aload_n X dX12_takeInvariant_0 rfl ?_
  refine V.aload_n X dX12_takeInvariant_1 rfl ?_
  refine V.mgr (k := 1) (a := 2) X K fX12_takeInvariant_13 dX12_takeInvariant_2 (by decide) ?_
  refine V.iconst (v := nI 3) X dX12_takeInvariant_5 (by decide) ?_
  refine V.mld  X K 2 272  dX12_takeInvariant_6 rfl rfl (by omega) hm ?_
  refine V.iconst (v := nI 3) X dX12_takeInvariant_7 (by decide) ?_
  refine V.icmp_ge 15 X dX12_takeInvariant_8 (by decide) (fun c8 => ?_) (fun c8 => False.elim (by rw [nI_leI (by omega) (by omega)] at c8; omega))
  rw [nI_leI (by omega) (by omega)] at c8
  refine V.iconst (v := (bI false)) X dX12_takeInvariant_15 (by decide) ?_
  refine V.callVv (n := 1) X dX12_takeInvariant_16 gX12_takeInvariant_X12_take (c_X12_take _ _ K hP (may := false) (fun _ z => by cases z)) rfl (by decide +kernel) rfl rfl rfl K.1 rfl rfl ⟨Nat.le_of_ble_eq_true rfl, Nat.le_of_ble_eq_true rfl⟩ (fun h16 hp16 => ?_)
  obtain ⟨m2, rfl, F2, P2⟩ := hp16
  have P2 : PS m2 t true r := P2
  refine V.aload_n X dX12_takeInvariant_19 rfl ?_
  refine V.mgf  X K fX12_takeInvariant_72 dX12_takeInvariant_20 rfl P2.2.2 ?_
  refine V.if_ne 51 X dX12_takeInvariant_23 (by decide) (fun c23 => ?_) (fun c23 => False.elim (by revert c23; decide))
  exact V.vret X Y9 dX12_takeInvariant_51 ⟨rfl, m2, rfl, F2, P2⟩ (Nat.le_of_ble_eq_true rfl) (Nat.le_of_ble_eq_true rfl)
set_option maxHeartbeats 4000000 in
set_option maxRecDepth 100000 in
theorem c_X12_takeInvariant (l : Launch) (G : GG) {h : Hp} {M : Nat} {m : Md} (K : MdK h M) {t : List Nat} {r : List Tok} (hP : PS m t false r) (hr : ¬ r = []) {n : Nat} (hm : m 2 3 = nI n) (hn : n < 3) : Con l G yX12_takeInvariant wsX12_takeInvariant 6 128 0 0 [.ref M] (Hm h M m) (pV (fun h2 => ∃ m2, h2 = Hm h M m2 ∧ MFr (vP n) m m2 ∧ PS m2 t (pCnd false r.tail).1.isNone (pCnd false r.tail).2 ∧ m2 2 3 = nI (n + 1) ∧ ∀ c, (pCnd false r.tail).1 = some c → CnR (m2 2) (5 + 3 * n) c ∧ cnOk false c)) := by
  refine Con.of (cc := cX12_takeInvariant) (nL := 1) (ret := none) (by decide) rfl rfl rfl rfl (fun Γ hG hl X Y9 => ?_)
  subst hG
  subst hl
  refine V.aload_n X dX12_takeInvariant_0 rfl ?_
  refine V.aload_n X dX12_takeInvariant_1 rfl ?_
  refine V.mgr (k := 1) (a := 2) X K fX12_takeInvariant_13 dX12_takeInvariant_2 (by decide) ?_
  refine V.iconst (v := nI 3) X dX12_takeInvariant_5 (by decide) ?_
  refine V.mld  X K 2 272  dX12_takeInvariant_6 rfl rfl (by omega) hm ?_
  refine V.iconst (v := nI 3) X dX12_takeInvariant_7 (by decide) ?_
  refine V.icmp_ge 15 X dX12_takeInvariant_8 (by decide) (fun c8 => False.elim (by rw [nI_leI (by omega) (by omega)] at c8; omega)) (fun c8 => ?_)
  rw [nI_leI (by omega) (by omega)] at c8
  refine V.iconst (v := (bI true)) X dX12_takeInvariant_11 (by decide) ?_
  refine V.goto 16 X dX12_takeInvariant_12 (by decide) ?_
  refine V.callVv (n := 1) X dX12_takeInvariant_16 gX12_takeInvariant_X12_take (c_X12_take _ _ K hP (may := true) (fun _ _ => hr)) rfl (by decide +kernel) rfl rfl rfl K.1 rfl rfl ⟨Nat.le_of_ble_eq_true rfl, Nat.le_of_ble_eq_true rfl⟩ (fun h16 hp16 => ?_)
  obtain ⟨m1, rfl, G1, P1⟩ := hp16
  have P1 : PS m1 t false r.tail := P1
  have u1 := (G1 2 3 psP_2).trans hm
  refine V.aload_n X dX12_takeInvariant_19 rfl ?_
  refine V.mgf  X K fX12_takeInvariant_72 dX12_takeInvariant_20 rfl P1.2.2 ?_
  refine V.if_ne 51 X dX12_takeInvariant_23 (by decide) (fun c23 => False.elim (by revert c23; decide)) (fun c23 => ?_)
  refine V.aload_n X dX12_takeInvariant_26 rfl ?_
  refine V.iconst (v := nI 5) X dX12_takeInvariant_27 (by decide) ?_
  refine V.iconst (v := nI 3) X dX12_takeInvariant_28 (by decide) ?_
  refine V.aload_n X dX12_takeInvariant_29 rfl ?_
  refine V.mgr (k := 1) (a := 2) X K fX12_takeInvariant_13 dX12_takeInvariant_30 (by decide) ?_
  refine V.iconst (v := nI 3) X dX12_takeInvariant_33 (by decide) ?_
  refine V.mld  X K 2 272  dX12_takeInvariant_34 rfl rfl (by omega) u1 ?_
  refine V.imulN X dX12_takeInvariant_35 ?_
  refine V.iaddN X dX12_takeInvariant_36 ?_
  refine V.iconst (v := (bI false)) X dX12_takeInvariant_37 (by decide) ?_
  refine V.callVv (n := 2) X dX12_takeInvariant_38 gX12_takeInvariant_X12_takeCondition (c_X12_takeCondition _ _ K P1 (by omega)) rfl (by decide +kernel) rfl rfl rfl K.1 rfl rfl ⟨Nat.le_of_ble_eq_true rfl, Nat.le_of_ble_eq_true rfl⟩ (fun h38 hp38 => ?_)
  obtain ⟨m2, rfl, G2, P2, X2⟩ := hp38
  have u2 := (G2 2 3 (fun z => z.elim psP_2 (fun z => by omega))).trans u1
  have F2 : MFr (vP n) m m2 := (G1.mono (fun _ _ z => Or.inl z)).tr (G2.mono (fun _ _ z => z.elim Or.inl (fun z => Or.inr ⟨z.1, Or.inr ⟨by omega, by omega⟩⟩)))
  refine V.aload_n X dX12_takeInvariant_41 rfl ?_
  refine V.mgr (k := 1) (a := 2) X K fX12_takeInvariant_13 dX12_takeInvariant_42 (by decide) ?_
  refine V.iconst (v := nI 3) X dX12_takeInvariant_45 (by decide) ?_
  refine V.dup2 X dX12_takeInvariant_46 rfl rfl ?_
  refine V.mld  X K 2 272  dX12_takeInvariant_47 rfl rfl (by omega) u2 ?_
  refine V.iconst (v := nI 1) X dX12_takeInvariant_48 (by decide) ?_
  refine V.iaddN X dX12_takeInvariant_49 ?_
  refine V.mst X K 2 272  dX12_takeInvariant_50 rfl rfl (by omega) ?_
  exact V.vret X Y9 dX12_takeInvariant_51 ⟨rfl, _, rfl, F2.put (Or.inr ⟨rfl, Or.inl rfl⟩), P2.dr _ _, mput_at, fun c hc => ⟨(X2 rfl c hc).1.same (fun k h1 h2 => mput_k (by omega)), (X2 rfl c hc).2⟩⟩ (Nat.le_of_ble_eq_true rfl) (Nat.le_of_ble_eq_true rfl)
