theorem pDcl_l (c : Cmp) (r : List Tok) : (pDcl c r).2.length ≤ r.length := by
  unfold pDcl
  split
  · next r1 h =>
    have a := acc_l (by decide) h
    have b := pIni_l r1
    split
    · next r2 h2 => rw [h2] at b; have b : r2.length ≤ _ := b; show r2.length ≤ _; omega
    · next f v r2 h2 => rw [h2] at b; have b : r2.length ≤ _ := b; show r2.length ≤ _; omega
  · split
    · next r1 h =>
      have a : r1.length ≤ r.length := by
        split at h
        · exact acc_l (by decide) h
        · cases h
      have b := pCnd_l false r1
      split
      · next r2 h2 => rw [h2] at b; have b : r2.length ≤ _ := b; show r2.length ≤ _; omega
      · next q r2 h2 => rw [h2] at b; have b : r2.length ≤ _ := b; show r2.length ≤ _; omega
    · split
      · next r1 h =>
        have a : r1.length ≤ r.length := by
          split at h
          · exact acc_l (by decide) h
          · cases h
        have b := pMth_l r1
        split
        · next r2 h2 => rw [h2] at b; have b : r2.length ≤ _ := b; show r2.length ≤ _; omega
        · next q r2 h2 => rw [h2] at b; have b : r2.length ≤ _ := b; show r2.length ≤ _; omega
      · exact Nat.le_refl _
theorem cmOk.inv {c : Cmp} {x : Cnd} (o : cmOk c) (h : c.2.1.length < 3) (hx : cnOk false x) : cmOk (c.1, c.2.1 ++ [x], c.2.2) :=
  ⟨by simp; omega, o.2.1, fun y hy => (List.mem_append.mp hy).elim (o.2.2.1 y) (fun z => by rw [List.mem_singleton.mp z]; exact hx), o.2.2.2⟩
theorem cmOk.mth {c : Cmp} {x : Mth} (o : cmOk c) (h : c.2.2.length < 6) (hx : mtOk x) : cmOk (c.1, c.2.1, c.2.2 ++ [x]) :=
  ⟨o.1, by simp; omega, o.2.2.1, fun y hy => (List.mem_append.mp hy).elim (o.2.2.2 y) (fun z => by rw [List.mem_singleton.mp z]; exact hx)⟩
theorem tkF_len (t : List Nat) : ∀ n o, (tkF t n o).length ≤ n := by
  intro n
  induction n with
  | zero => intro o; exact Nat.le_refl _
  | succ n ih =>
    intro o
    have a := ih (o + 1)
    unfold tkF
    split
    · simp; omega
    · omega
theorem toks_len (t : List Nat) : (toks t).length ≤ t.length := tkF_len t _ _
theorem noteB_o {m : Md} {p a k : Nat} (h : ¬ a = 3) (h2 : ¬ (a = 0 ∧ k = 3)) : noteB m p a k = m a k := by
  unfold noteB
  rw [mput_ap, if_neg h2, cpy_o h]
theorem noteM_o {m : Md} {p a k : Nat} (h : ¬ a = 3) (h2 : ¬ (a = 0 ∧ k = 3)) : noteM m p a k = m a k := by
  unfold noteM
  split
  · rw [noteB_o h h2, mput_ap, if_neg h2, cpy_o h]
  · exact noteB_o h h2
theorem fX12_readComponent_72 : FL wsX12_readComponent RX12 72 14 10 .boolean false := ⟨_, rfl, by decide, Or.inl ⟨"ContractTesterModel", by decide +kernel, Or.inl rfl⟩, by decide +kernel, by decide +kernel, rfl⟩
theorem fX12_readComponent_57 : FL wsX12_readComponent RX12 57 14 8 .int false := ⟨_, rfl, by decide, Or.inl ⟨"ContractTesterModel", by decide +kernel, Or.inl rfl⟩, by decide +kernel, by decide +kernel, rfl⟩
theorem fX12_readComponent_41 : FL wsX12_readComponent RX12 41 14 6 .int false := ⟨_, rfl, by decide, Or.inl ⟨"ContractTesterModel", by decide +kernel, Or.inl rfl⟩, by decide +kernel, by decide +kernel, rfl⟩
theorem fX12_readComponent_13 : FL wsX12_readComponent RX12 13 14 1 (.array .int) true := ⟨_, rfl, by decide, Or.inl ⟨"ContractTesterModel", by decide +kernel, Or.inl rfl⟩, by decide +kernel, by decide +kernel, rfl⟩
set_option maxHeartbeats 4000000 in
set_option maxRecDepth 100000 in
theorem c_X12_readComponent (l : Launch) (G : GG) {h : Hp} {M : Nat} {m : Md} (K : MdK h M) {t : List Nat} (hT : TxM m t) : Con l G yX12_readComponent wsX12_readComponent 8 173 0 0 [.ref M] (Hm h M m) (pV (fun h2 => ∃ m2, h2 = Hm h M m2 ∧ MFr drP m m2 ∧ PS m2 t (pCmp 200 cmp0 (toks t)).1.isNone (pCmp 200 cmp0 (toks t)).2 ∧ ∀ c, (pCmp 200 cmp0 (toks t)).1 = some c → CmR (m2 2) c ∧ cmOk c)) := by
  refine Con.of (cc := cX12_readComponent) (nL := 2) (ret := none) (by decide) rfl rfl rfl rfl (fun Γ hG hl X Y9 => ?_)
  subst hG
  subst hl
  have hl200 := hT.2.1
  have st36 : ∀ (m1 : Md) (r1 : List Tok), MFr drP m m1 → PS m1 t true r1 → pCmp 200 cmp0 (toks t) = (none, r1) → V Γ 0 0 36 [(0, .ref M), (1, .int (nI 272))] [] (Hm h M m1) := by
    intro m1 r1 F1 P1 hQ
    refine V.aload_n X dX12_readComponent_36 rfl ?_
    refine V.mgf  X K fX12_readComponent_72 dX12_readComponent_37 rfl P1.2.2 ?_
    refine V.if_ne 110 X dX12_readComponent_40 (by decide) (fun c40 => ?_) (fun c40 => False.elim (by revert c40; decide))
    exact V.vret X Y9 dX12_readComponent_110 ⟨rfl, m1, rfl, F1, by rw [hQ]; exact P1, fun c z => by rw [hQ] at z; cases z⟩ (Nat.le_of_ble_eq_true rfl) (Nat.le_of_ble_eq_true rfl)
  have st97 : ∀ (m1 : Md) (r1 : List Tok), MFr drP m m1 → PS m1 t true r1 → pCmp 200 cmp0 (toks t) = (none, r1) → V Γ 0 0 97 [(0, .ref M), (1, .int (nI 272))] [] (Hm h M m1) := by
    intro m1 r1 F1 P1 hQ
    obtain ⟨q, e, so, hV⟩ := P1.2.1.v
    refine V.aload_n X dX12_readComponent_97 rfl ?_
    refine V.aload_n X dX12_readComponent_98 rfl ?_
    refine V.bipush (v := nI 59) X dX12_readComponent_99 (by decide) ?_
    refine V.callVi (n := 1) X dX12_readComponent_101 gX12_readComponent_X12_isSign (c_X12_isSign _ _ K P1.1 hV (c := 59) (by decide) (by decide) (by decide)) rfl (by decide +kernel) rfl rfl rfl K.1 rfl rfl ⟨Nat.le_of_ble_eq_true rfl, Nat.le_of_ble_eq_true rfl⟩ (fun r101 h101 hp101 => ?_)
    obtain ⟨rfl, e9⟩ := hp101; obtain rfl := e9.symm
    refine V.callVv (n := 1) X dX12_readComponent_104 gX12_readComponent_X12_take (c_X12_take _ _ K P1 (may := decide (hdC r1 = 59)) (fun z => by cases z)) rfl (by decide +kernel) rfl rfl rfl K.1 rfl rfl ⟨Nat.le_of_ble_eq_true rfl, Nat.le_of_ble_eq_true rfl⟩ (fun h104 hp104 => ?_)
    obtain ⟨m2, rfl, G2, P2⟩ := hp104
    have P2 : PS m2 t true r1 := P2
    refine V.goto 36 X dX12_readComponent_107 (by decide) ?_
    exact st36 m2 r1 (F1.tr (G2.mono (fun _ _ z => Or.inl z))) P2 hQ
  have loop : ∀ (k : Nat) (c : Cmp) (m1 : Md) (r1 : List Tok), r1.length ≤ k → MFr drP m m1 → PS m1 t false r1 → CmR (m1 2) c → cmOk c → pCmp k c r1 = pCmp 200 cmp0 (toks t) → V Γ 0 0 36 [(0, .ref M), (1, .int (nI 272))] [] (Hm h M m1) := by
    intro k
    induction k with
    | zero =>
      intro c m1 r1 hk F1 P1 C1 ok1 g3
      obtain ⟨q, e, so, hV⟩ := P1.2.1.v
      obtain ⟨v1, v2, v3, v4, v5, v6, v7, v8, v9, v10, v11, v12, v13⟩ := id hV
      have hr0 : r1 = [] := List.length_eq_zero_iff.mp (by omega)
      have hz := v13.mpr hr0
      have hQ : pCmp 200 cmp0 (toks t) = (some c, r1) := g3.symm
      refine V.aload_n X dX12_readComponent_36 rfl ?_
      refine V.mgf  X K fX12_readComponent_72 dX12_readComponent_37 rfl P1.2.2 ?_
      refine V.if_ne 110 X dX12_readComponent_40 (by decide) (fun c40 => False.elim (by revert c40; decide)) (fun c40 => ?_)
      refine V.aload_n X dX12_readComponent_43 rfl ?_
      refine V.mgf  X K fX12_readComponent_57 dX12_readComponent_44 rfl v5 ?_
      refine V.if_eq 110 X dX12_readComponent_47 (by decide) (fun c47 => ?_) (fun c47 => False.elim (by rw [show (0 : Int32) = nI 0 from rfl, nI_eq (by omega) (by omega)] at c47; omega))
      rw [show (0 : Int32) = nI 0 from rfl, nI_eq (by omega) (by omega)] at c47
      exact V.vret X Y9 dX12_readComponent_110 ⟨rfl, m1, rfl, F1, by rw [hQ]; exact P1, fun c9 z => by rw [hQ] at z; cases z; exact ⟨C1, ok1⟩⟩ (Nat.le_of_ble_eq_true rfl) (Nat.le_of_ble_eq_true rfl)
    | succ k ih =>
      intro c m1 r1 hk F1 P1 C1 ok1 g3
      obtain ⟨q, e, so, hV⟩ := P1.2.1.v
      obtain ⟨v1, v2, v3, v4, v5, v6, v7, v8, v9, v10, v11, v12, v13⟩ := id hV
      by_cases hr0 : r1 = []
      · have hz := v13.mpr hr0
        have hQ : pCmp 200 cmp0 (toks t) = (some c, r1) := by rw [← g3, pCmp_e (by rw [hr0]; rfl)]
        refine V.aload_n X dX12_readComponent_36 rfl ?_
        refine V.mgf  X K fX12_readComponent_72 dX12_readComponent_37 rfl P1.2.2 ?_
        refine V.if_ne 110 X dX12_readComponent_40 (by decide) (fun c40 => False.elim (by revert c40; decide)) (fun c40 => ?_)
        refine V.aload_n X dX12_readComponent_43 rfl ?_
        refine V.mgf  X K fX12_readComponent_57 dX12_readComponent_44 rfl v5 ?_
        refine V.if_eq 110 X dX12_readComponent_47 (by decide) (fun c47 => ?_) (fun c47 => False.elim (by rw [show (0 : Int32) = nI 0 from rfl, nI_eq (by omega) (by omega)] at c47; omega))
        rw [show (0 : Int32) = nI 0 from rfl, nI_eq (by omega) (by omega)] at c47
        exact V.vret X Y9 dX12_readComponent_110 ⟨rfl, m1, rfl, F1, by rw [hQ]; exact P1, fun c9 z => by rw [hQ] at z; cases z; exact ⟨C1, ok1⟩⟩ (Nat.le_of_ble_eq_true rfl) (Nat.le_of_ble_eq_true rfl)
      have hz : ¬ so = 0 := fun z => hr0 (v13.mp z)
      have hre : r1.isEmpty = false := by
        cases r1 with
        | nil => exact absurd rfl hr0
        | cons _ _ => rfl
      have g97 : ∀ (m2 : Md) (r2 : List Tok) (c2 : Cmp), MFr drP m m2 → PS m2 t false r2 → CmR (m2 2) c2 → cmOk c2 → pDcl c r1 = (some c2, r2) → V Γ 0 0 97 [(0, .ref M), (1, .int (nI 272))] [] (Hm h M m2) := by
        intro m2 r2 c2 F2 P2 C2 ok2 hd
        have hl := pDcl_l c r1
        rw [hd] at hl
        have hl : r2.length ≤ r1.length := hl
        obtain ⟨q2, e2, so2, hV⟩ := P2.2.1.v
        refine V.aload_n X dX12_readComponent_97 rfl ?_
        refine V.aload_n X dX12_readComponent_98 rfl ?_
        refine V.bipush (v := nI 59) X dX12_readComponent_99 (by decide) ?_
        refine V.callVi (n := 1) X dX12_readComponent_101 gX12_readComponent_X12_isSign (c_X12_isSign _ _ K P2.1 hV (c := 59) (by decide) (by decide) (by decide)) rfl (by decide +kernel) rfl rfl rfl K.1 rfl rfl ⟨Nat.le_of_ble_eq_true rfl, Nat.le_of_ble_eq_true rfl⟩ (fun r101 h101 hp101 => ?_)
        obtain ⟨rfl, e9⟩ := hp101; obtain rfl := e9.symm
        refine V.callVv (n := 1) X dX12_readComponent_104 gX12_readComponent_X12_take (c_X12_take _ _ K P2 (may := decide (hdC r2 = 59)) (fun _ z => hdC_ne (by decide) (of_decide_eq_true z))) rfl (by decide +kernel) rfl rfl rfl K.1 rfl rfl ⟨Nat.le_of_ble_eq_true rfl, Nat.le_of_ble_eq_true rfl⟩ (fun h104 hp104 => ?_)
        obtain ⟨m3, rfl, G3, P3⟩ := hp104
        have F3 := F2.tr (G3.mono (fun _ _ z => Or.inl z))
        refine V.goto 36 X dX12_readComponent_107 (by decide) ?_
        by_cases h59 : hdC r2 = 59
        · rw [decide_eq_true h59] at P3
          have P3 : PS m3 t false r2.tail := P3
          have a59 : acc 59 r2 = some r2.tail := by rw [acc_h (by decide), if_pos h59]
          have hne := hdC_ne (by decide) h59
          have hl2 : r2.tail.length < r2.length := by
            cases r2 with
            | nil => exact absurd rfl hne
            | cons _ _ => exact Nat.lt_succ_self _
          exact ih c2 m3 r2.tail (by omega) F3 P3 (C2.same ok2 (fun k9 _ => G3 2 k9 psP_2)) ok2 (by rw [← pCmp_o hre hd a59]; exact g3)
        · rw [decide_eq_false h59] at P3
          have P3 : PS m3 t true r2 := P3
          have a59 : acc 59 r2 = none := by rw [acc_h (by decide), if_neg h59]
          exact st36 m3 r2 F3 P3 (by rw [← g3, pCmp_x hre hd a59])
      refine V.aload_n X dX12_readComponent_36 rfl ?_
      refine V.mgf  X K fX12_readComponent_72 dX12_readComponent_37 rfl P1.2.2 ?_
      refine V.if_ne 110 X dX12_readComponent_40 (by decide) (fun c40 => False.elim (by revert c40; decide)) (fun c40 => ?_)
      refine V.aload_n X dX12_readComponent_43 rfl ?_
      refine V.mgf  X K fX12_readComponent_57 dX12_readComponent_44 rfl v5 ?_
      refine V.if_eq 110 X dX12_readComponent_47 (by decide) (fun c47 => False.elim (by rw [show (0 : Int32) = nI 0 from rfl, nI_eq (by omega) (by omega)] at c47; omega)) (fun c47 => ?_)
      rw [show (0 : Int32) = nI 0 from rfl, nI_eq (by omega) (by omega)] at c47
      refine V.aload_n X dX12_readComponent_50 rfl ?_
      refine V.callVi (n := 0) X dX12_readComponent_51 gX12_readComponent_X12_isInit (c_X12_isInit _ _ K P1.1 hV) rfl (by decide +kernel) rfl rfl rfl K.1 rfl rfl ⟨Nat.le_of_ble_eq_true rfl, Nat.le_of_ble_eq_true rfl⟩ (fun r51 h51 hp51 => ?_)
      obtain ⟨rfl, e9⟩ := hp51; obtain rfl := e9.symm
      refine V.if_eq 64 X dX12_readComponent_54 (by decide) (fun c54 => ?_) (fun c54 => ?_)
      · have c54 := bI_eq c54
        have a0 : acc 300 r1 = none := by rw [acc_h (by decide), if_neg (of_decide_eq_false c54)]
        refine V.aload_n X dX12_readComponent_64 rfl ?_
        refine V.callVi (n := 0) X dX12_readComponent_65 gX12_readComponent_X12_isInvariant (c_X12_isInvariant _ _ K P1.1 hV) rfl (by decide +kernel) rfl rfl rfl K.1 rfl rfl ⟨Nat.le_of_ble_eq_true rfl, Nat.le_of_ble_eq_true rfl⟩ (fun r65 h65 hp65 => ?_)
        obtain ⟨rfl, e9⟩ := hp65; obtain rfl := e9.symm
        refine V.if_eq 78 X dX12_readComponent_68 (by decide) (fun c68 => ?_) (fun c68 => ?_)
        · have c68 := bI_eq c68
          have b0 : (if c.2.1.length < 3 then acc 301 r1 else none) = none := by
            rw [acc_h (by decide), if_neg (of_decide_eq_false c68)]
            split <;> rfl
          refine V.aload_n X dX12_readComponent_78 rfl ?_
          refine V.callVi (n := 0) X dX12_readComponent_79 gX12_readComponent_X12_isMethod (c_X12_isMethod _ _ K P1.1 hV) rfl (by decide +kernel) rfl rfl rfl K.1 rfl rfl ⟨Nat.le_of_ble_eq_true rfl, Nat.le_of_ble_eq_true rfl⟩ (fun r79 h79 hp79 => ?_)
          obtain ⟨rfl, e9⟩ := hp79; obtain rfl := e9.symm
          refine V.if_eq 92 X dX12_readComponent_82 (by decide) (fun c82 => ?_) (fun c82 => ?_)
          · have c82 := bI_eq c82
            have d0 : (if c.2.2.length < 6 then acc 302 r1 else none) = none := by
              rw [acc_h (by decide), if_neg (of_decide_eq_false c82)]
              split <;> rfl
            refine V.aload_n X dX12_readComponent_92 rfl ?_
            refine V.iconst (v := (bI false)) X dX12_readComponent_93 (by decide) ?_
            refine V.callVv (n := 1) X dX12_readComponent_94 gX12_readComponent_X12_take (c_X12_take _ _ K P1 (may := false) (fun _ z => by cases z)) rfl (by decide +kernel) rfl rfl rfl K.1 rfl rfl ⟨Nat.le_of_ble_eq_true rfl, Nat.le_of_ble_eq_true rfl⟩ (fun h94 hp94 => ?_)
            obtain ⟨m2, rfl, G2, P2⟩ := hp94
            have P2 : PS m2 t true r1 := P2
            exact st97 m2 r1 (F1.tr (G2.mono (fun _ _ z => Or.inl z))) P2 (by rw [← g3, pCmp_d hre (pDcl_m0 a0 b0 d0)])
          · have c82 := bI_ne c82
            have hd9 := of_decide_eq_true c82
            by_cases h6 : c.2.2.length < 6
            · have d0 : (if c.2.2.length < 6 then acc 302 r1 else none) = some r1.tail := by rw [if_pos h6, acc_h (by decide), if_pos hd9]
              refine V.aload_n X dX12_readComponent_85 rfl ?_
              refine V.callVv (n := 0) X dX12_readComponent_86 gX12_readComponent_X12_takeMethod (c_X12_takeMethod _ _ K P1 (hdC_ne (by decide) hd9) C1.2.2.1 h6) rfl (by decide +kernel) rfl rfl rfl K.1 rfl rfl ⟨Nat.le_of_ble_eq_true rfl, Nat.le_of_ble_eq_true rfl⟩ (fun h86 hp86 => ?_)
              obtain ⟨m2, rfl, G2, P2, u2, X2⟩ := hp86
              have F2 : MFr drP m m2 := F1.tr (G2.mono (fun _ _ z => z.elim Or.inl (fun z => Or.inr ⟨z.1, by omega⟩)))
              refine V.goto 97 X dX12_readComponent_89 (by decide) ?_
              rcases hx : pMth r1.tail with ⟨_ | x, r2⟩
              · rw [hx] at P2
                exact st97 m2 r2 F2 P2 (by rw [← g3, pCmp_d hre (pDcl_m1 a0 b0 d0 hx)])
              · rw [hx] at P2 X2
                obtain ⟨x1, x2⟩ := X2 x rfl
                exact g97 m2 r2 _ F2 P2 (C1.mth ok1 h6 (fun k9 z1 z2 => G2 2 k9 (fun z => z.elim psP_2 (fun z => by omega))) u2 x1) (ok1.mth h6 x2) (pDcl_m2 a0 b0 d0 hx)
            · have d0 : (if c.2.2.length < 6 then acc 302 r1 else none) = none := if_neg h6
              have e3 : m1 2 4 = nI 6 := by rw [C1.2.2.1, show c.2.2.length = 6 by have := ok1.2.1; omega]
              refine V.aload_n X dX12_readComponent_85 rfl ?_
              refine V.callVv (n := 0) X dX12_readComponent_86 gX12_readComponent_X12_takeMethod (c_X12_takeMethod6 _ _ K P1 e3) rfl (by decide +kernel) rfl rfl rfl K.1 rfl rfl ⟨Nat.le_of_ble_eq_true rfl, Nat.le_of_ble_eq_true rfl⟩ (fun h86 hp86 => ?_)
              obtain ⟨m2, rfl, G2, P2⟩ := hp86
              refine V.goto 97 X dX12_readComponent_89 (by decide) ?_
              exact st97 m2 r1 (F1.tr (G2.mono (fun _ _ z => Or.inl z))) P2 (by rw [← g3, pCmp_d hre (pDcl_m0 a0 b0 d0)])
        · have c68 := bI_ne c68
          have hd9 := of_decide_eq_true c68
          have hm0 : ¬ hdC r1 = 302 := by omega
          have d0 : (if c.2.2.length < 6 then acc 302 r1 else none) = none := by
            rw [acc_h (by decide), if_neg hm0]
            split <;> rfl
          by_cases h3 : c.2.1.length < 3
          · have b0 : (if c.2.1.length < 3 then acc 301 r1 else none) = some r1.tail := by rw [if_pos h3, acc_h (by decide), if_pos hd9]
            refine V.aload_n X dX12_readComponent_71 rfl ?_
            refine V.callVv (n := 0) X dX12_readComponent_72 gX12_readComponent_X12_takeInvariant (c_X12_takeInvariant _ _ K P1 (hdC_ne (by decide) hd9) C1.2.1 h3) rfl (by decide +kernel) rfl rfl rfl K.1 rfl rfl ⟨Nat.le_of_ble_eq_true rfl, Nat.le_of_ble_eq_true rfl⟩ (fun h72 hp72 => ?_)
            obtain ⟨m2, rfl, G2, P2, u2, X2⟩ := hp72
            have F2 : MFr drP m m2 := F1.tr (G2.mono (fun _ _ z => z.elim Or.inl (fun z => Or.inr ⟨z.1, by omega⟩)))
            refine V.goto 97 X dX12_readComponent_75 (by decide) ?_
            rcases hx : pCnd false r1.tail with ⟨_ | x, r2⟩
            · rw [hx] at P2
              exact st97 m2 r2 F2 P2 (by rw [← g3, pCmp_d hre (pDcl_v1 a0 b0 hx)])
            · rw [hx] at P2 X2
              obtain ⟨x1, x2⟩ := X2 x rfl
              exact g97 m2 r2 _ F2 P2 (C1.inv ok1 h3 (fun k9 z1 z2 => G2 2 k9 (fun z => z.elim psP_2 (fun z => by omega))) u2 x1) (ok1.inv h3 x2) (pDcl_v2 a0 b0 hx)
          · have b0 : (if c.2.1.length < 3 then acc 301 r1 else none) = none := if_neg h3
            have e3 : m1 2 3 = nI 3 := by rw [C1.2.1, show c.2.1.length = 3 by have := ok1.1; omega]
            refine V.aload_n X dX12_readComponent_71 rfl ?_
            refine V.callVv (n := 0) X dX12_readComponent_72 gX12_readComponent_X12_takeInvariant (c_X12_takeInvariant3 _ _ K P1 e3) rfl (by decide +kernel) rfl rfl rfl K.1 rfl rfl ⟨Nat.le_of_ble_eq_true rfl, Nat.le_of_ble_eq_true rfl⟩ (fun h72 hp72 => ?_)
            obtain ⟨m2, rfl, G2, P2⟩ := hp72
            refine V.goto 97 X dX12_readComponent_75 (by decide) ?_
            exact st97 m2 r1 (F1.tr (G2.mono (fun _ _ z => Or.inl z))) P2 (by rw [← g3, pCmp_d hre (pDcl_m0 a0 b0 d0)])
      · have c54 := bI_ne c54
        have hd9 := of_decide_eq_true c54
        have a0 : acc 300 r1 = some r1.tail := by rw [acc_h (by decide), if_pos hd9]
        refine V.aload_n X dX12_readComponent_57 rfl ?_
        refine V.callVv (n := 0) X dX12_readComponent_58 gX12_readComponent_X12_takeInit (c_X12_takeInit _ _ K P1 (hdC_ne (by decide) hd9)) rfl (by decide +kernel) rfl rfl rfl K.1 rfl rfl ⟨Nat.le_of_ble_eq_true rfl, Nat.le_of_ble_eq_true rfl⟩ (fun h58 hp58 => ?_)
        obtain ⟨m2, rfl, G2, P2, X2⟩ := hp58
        have F2 : MFr drP m m2 := F1.tr (G2.mono (fun _ _ z => z.elim Or.inl (fun z => Or.inr ⟨z.1, by omega⟩)))
        refine V.goto 97 X dX12_readComponent_61 (by decide) ?_
        rcases hx : pIni r1.tail with ⟨_ | ⟨f, v⟩, r2⟩
        · rw [hx] at P2
          exact st97 m2 r2 F2 P2 (by rw [← g3, pCmp_d hre (pDcl_i1 a0 hx)])
        · rw [hx] at P2 X2
          obtain ⟨x1, x2, x3⟩ := X2 f v rfl
          exact g97 m2 r2 _ F2 P2 (C1.ini ok1 x1 x3 x2) ok1 (pDcl_i2 a0 hx)
  have fl9 : ∀ (n j : Nat), j + n = 272 → V Γ 0 0 2 [(0, .ref M), (1, .int (nI j))] [] (Hm h M (fil m 2 0 j (nI 0))) := by
    intro n
    induction n with
    | zero =>
      intro j g1
      obtain rfl : j = 272 := by omega
      refine V.iload_n X dX12_readComponent_2 rfl ?_
      refine V.sipush (v := nI 272) X dX12_readComponent_3 (by decide) ?_
      refine V.icmp_ge 22 X dX12_readComponent_6 (by decide) (fun c6 => ?_) (fun c6 => False.elim (by rw [nI_leI (by omega) (by omega)] at c6; omega))
      rw [nI_leI (by omega) (by omega)] at c6
      refine V.aload_n X dX12_readComponent_22 rfl ?_
      refine V.iconst (v := nI 0) X dX12_readComponent_23 (by decide) ?_
      refine V.mpf X K fX12_readComponent_41 dX12_readComponent_24 rfl rfl rfl ?_
      refine V.aload_n X dX12_readComponent_27 rfl ?_
      refine V.iconst (v := (bI false)) X dX12_readComponent_28 (by decide) ?_
      refine V.mpf X K fX12_readComponent_72 dX12_readComponent_29 rfl rfl rfl ?_
      have F0 : MFr drP m (mput (mput (fil m 2 0 272 (nI 0)) 0 6 (nI 0)) 0 10 (bI false)) := by
        refine ((?_ : MFr drP m (fil m 2 0 272 (nI 0))).put (Or.inl ⟨rfl, by decide, by decide⟩)).put (Or.inl ⟨rfl, by decide, by decide⟩)
        intro a k hk
        exact if_neg (fun z => hk (Or.inr ⟨z.1, by omega⟩))
      have T0 := hT.fr F0 (fun z => z.elim (fun z => by have := z.2.1; omega) (fun z => by omega)) (fun k z => z.elim (fun z => by have := z.1; omega) (fun z => by omega))
      refine V.aload_n X dX12_readComponent_32 rfl ?_
      refine V.callVv (n := 0) X dX12_readComponent_33 gX12_readComponent_X12_next (c_X12_next _ _ K T0 (p0 := 0) rfl (Bd_0 t)) rfl (by decide +kernel) rfl rfl rfl K.1 rfl rfl ⟨Nat.le_of_ble_eq_true rfl, Nat.le_of_ble_eq_true rfl⟩ (fun h33 hp33 => ?_)
      obtain ⟨m1, rfl, G1, L1⟩ := hp33
      have L1 : LxM m1 t (toks t) := L1
      have F1 : MFr drP m m1 := F0.tr (G1.mono (fun _ _ z => Or.inl (psP_lx z)))
      have P1 : PS m1 t false (toks t) := ⟨T0.lx G1, L1, G1 0 10 (by unfold lxP; omega)⟩
      have e1 : ∀ k, k < 272 → m1 2 k = nI 0 := fun k hk => (G1 2 k (by unfold lxP; omega)).trans (fil_i (m := m) (a := 2) (o := 0) (n := 272) (Nat.zero_le _) (by omega))
      have C1 : CmR (m1 2) cmp0 := ⟨⟨e1 0 (by decide), e1 1 (by decide), e1 2 (by decide)⟩, e1 3 (by decide), e1 4 (by decide), fun i x hx => by simp [cmp0] at hx, fun j q hq => by simp [cmp0] at hq⟩
      have ok1 : cmOk cmp0 := ⟨by decide, by decide, fun x hx => by simp [cmp0] at hx, fun x hx => by simp [cmp0] at hx⟩
      exact loop 200 cmp0 m1 (toks t) (by have := toks_len t; omega) F1 P1 C1 ok1 rfl
    | succ n ih =>
      intro j g1
      refine V.iload_n X dX12_readComponent_2 rfl ?_
      refine V.sipush (v := nI 272) X dX12_readComponent_3 (by decide) ?_
      refine V.icmp_ge 22 X dX12_readComponent_6 (by decide) (fun c6 => False.elim (by rw [nI_leI (by omega) (by omega)] at c6; omega)) (fun c6 => ?_)
      rw [nI_leI (by omega) (by omega)] at c6
      refine V.aload_n X dX12_readComponent_9 rfl ?_
      refine V.mgr (k := 1) (a := 2) X K fX12_readComponent_13 dX12_readComponent_10 (by decide) ?_
      refine V.iload_n X dX12_readComponent_13 rfl ?_
      refine V.iconst (v := nI 0) X dX12_readComponent_14 (by decide) ?_
      refine V.mst X K 2 272  dX12_readComponent_15 rfl rfl (by omega) ?_
      rw [fil_q (by omega)]
      refine V.iinc  X dX12_readComponent_16 [(0, _), (1, _)] rfl (nI_1 _) rfl rfl rfl ?_
      refine V.goto 2 X dX12_readComponent_19 (by decide) ?_
      exact ih (j + 1) (by omega)
  refine V.iconst (v := nI 0) X dX12_readComponent_0 (by decide) ?_
  refine V.istore_n X dX12_readComponent_1 [(0, _), (1, _)] rfl rfl rfl ?_
  have l9 := fl9 272 0 rfl
  rw [fil_0] at l9
  exact l9
theorem fX12_loadComponent_44 : FL wsX12_loadComponent RX12 44 14 5 .int false := ⟨_, rfl, by decide, Or.inl ⟨"ContractTesterModel", by decide +kernel, Or.inl rfl⟩, by decide +kernel, by decide +kernel, rfl⟩
theorem fX12_loadComponent_7 : FL wsX12_loadComponent RX12 7 14 0 (.array .int) true := ⟨_, rfl, by decide, Or.inl ⟨"ContractTesterModel", by decide +kernel, Or.inl rfl⟩, by decide +kernel, by decide +kernel, rfl⟩
theorem fX12_loadComponent_13 : FL wsX12_loadComponent RX12 13 14 1 (.array .int) true := ⟨_, rfl, by decide, Or.inl ⟨"ContractTesterModel", by decide +kernel, Or.inl rfl⟩, by decide +kernel, by decide +kernel, rfl⟩
theorem fX12_loadComponent_72 : FL wsX12_loadComponent RX12 72 14 10 .boolean false := ⟨_, rfl, by decide, Or.inl ⟨"ContractTesterModel", by decide +kernel, Or.inl rfl⟩, by decide +kernel, by decide +kernel, rfl⟩
theorem fX12_loadComponent_51 : FL wsX12_loadComponent RX12 51 14 7 .int false := ⟨_, rfl, by decide, Or.inl ⟨"ContractTesterModel", by decide +kernel, Or.inl rfl⟩, by decide +kernel, by decide +kernel, rfl⟩
set_option maxHeartbeats 4000000 in
set_option maxRecDepth 100000 in
theorem c_X12_loadComponent (l : Launch) (G : GG) {h : Hp} {M : Nat} {m : Md} (K : MdK h M) {t : List Nat} (hT : TxM m t) {p : Nat} (hp : m 0 3 = nI p) (hp6 : p ≤ 6) : Con l G yX12_loadComponent wsX12_loadComponent 9 194 0 0 [.ref M] (Hm h M m) (pI (fun x h2 => (∃ r1, pCmp 200 cmp0 (toks t) = (none, r1) ∧ x = -10 - nI (offR t.length r1) ∧ ∃ m2, h2 = Hm h M m2 ∧ MFr drP m m2) ∨ ∃ c r1 m1, pCmp 200 cmp0 (toks t) = (some c, r1) ∧ x = nI c.2.2.length ∧ MFr drP m m1 ∧ CmR (m1 2) c ∧ cmOk c ∧ h2 = Hm h M (mput (bareM (cpy (noteM m1 p) 1 2 0 0 272)) 0 5 (nI 0)))) := by
  refine Con.of (cc := cX12_loadComponent) (nL := 2) (ret := (some .int)) (by decide) rfl rfl rfl rfl (fun Γ hG hl X Y9 => ?_)
  subst hG
  subst hl
  have loop : ∀ (m1 m0 : Md) (n j : Nat), j + n = 272 → MFr drP m m1 → ∀ {c : Cmp} {r1 : List Tok}, CmR (m1 2) c → cmOk c → pCmp 200 cmp0 (toks t) = (some c, r1) → m0 = noteM m1 p → V Γ 0 0 25 [(0, .ref M), (1, .int (nI j))] [] (Hm h M (cpy m0 1 2 0 0 j)) := by
    intro m1 m0 n
    induction n with
    | zero =>
      intro j g1 G1 c r1 C1 ok1 hx e0
      obtain rfl : j = 272 := by omega
      refine V.iload_n X dX12_loadComponent_25 rfl ?_
      refine V.sipush (v := nI 272) X dX12_loadComponent_26 (by decide) ?_
      refine V.icmp_ge 50 X dX12_loadComponent_29 (by decide) (fun c29 => ?_) (fun c29 => False.elim (by rw [nI_leI (by omega) (by omega)] at c29; omega))
      rw [nI_leI (by omega) (by omega)] at c29
      refine V.aload_n X dX12_loadComponent_50 rfl ?_
      refine V.callVv (n := 0) X dX12_loadComponent_51 gX12_loadComponent_X12_bare (c_X12_bare _ _ K) rfl (by decide +kernel) rfl rfl rfl K.1 rfl rfl ⟨Nat.le_of_ble_eq_true rfl, Nat.le_of_ble_eq_true rfl⟩ (fun h51 hp51 => ?_)
      obtain rfl := hp51.symm
      refine V.aload_n X dX12_loadComponent_54 rfl ?_
      refine V.iconst (v := nI 0) X dX12_loadComponent_55 (by decide) ?_
      refine V.mpf X K fX12_loadComponent_44 dX12_loadComponent_56 rfl rfl rfl ?_
      refine V.aload_n X dX12_loadComponent_59 rfl ?_
      refine V.mgr (k := 0) (a := 1) X K fX12_loadComponent_7 dX12_loadComponent_60 (by decide) ?_
      refine V.iconst (v := nI 4) X dX12_loadComponent_63 (by decide) ?_
      refine V.mld (x := nI c.2.2.length) X K 1 1178  dX12_loadComponent_64 rfl rfl (by omega) (by
        have k4 : noteM m1 p 2 4 = m1 2 4 := noteM_o (by decide) (by decide)
        rw [mput_a (by decide)]
        unfold bareM
        rw [mput_k (by decide), fil_n (by omega), cpy_i (by omega) (by omega), e0]
        exact k4.trans C1.2.2.1) ?_
      exact V.iret X Y9 dX12_loadComponent_65 (Or.inr ⟨c, r1, m1, hx, rfl, G1, C1, ok1, by rw [e0]⟩) (Nat.le_of_ble_eq_true rfl) (Nat.le_of_ble_eq_true rfl)
    | succ n ih =>
      intro j g1 G1 c r1 C1 ok1 hx e0
      refine V.iload_n X dX12_loadComponent_25 rfl ?_
      refine V.sipush (v := nI 272) X dX12_loadComponent_26 (by decide) ?_
      refine V.icmp_ge 50 X dX12_loadComponent_29 (by decide) (fun c29 => False.elim (by rw [nI_leI (by omega) (by omega)] at c29; omega)) (fun c29 => ?_)
      rw [nI_leI (by omega) (by omega)] at c29
      refine V.aload_n X dX12_loadComponent_32 rfl ?_
      refine V.mgr (k := 0) (a := 1) X K fX12_loadComponent_7 dX12_loadComponent_33 (by decide) ?_
      refine V.iload_n X dX12_loadComponent_36 rfl ?_
      refine V.aload_n X dX12_loadComponent_37 rfl ?_
      refine V.mgr (k := 1) (a := 2) X K fX12_loadComponent_13 dX12_loadComponent_38 (by decide) ?_
      refine V.iload_n X dX12_loadComponent_41 rfl ?_
      refine V.mld  X K 2 272  dX12_loadComponent_42 rfl rfl (by omega) rfl ?_
      refine V.mst X K 1 1178  dX12_loadComponent_43 rfl rfl (by omega) ?_
      rw [cpy_q (by omega) (cpy_r (by omega) (by omega))]
      refine V.iinc  X dX12_loadComponent_44 [(0, _), (1, _)] rfl (nI_1 _) rfl rfl rfl ?_
      refine V.goto 25 X dX12_loadComponent_47 (by decide) ?_
      exact ih (j + 1) (by omega) G1 C1 ok1 hx e0
  refine V.aload_n X dX12_loadComponent_0 rfl ?_
  refine V.callVv (n := 0) X dX12_loadComponent_1 gX12_loadComponent_X12_readComponent (c_X12_readComponent _ _ K hT) rfl (by decide +kernel) rfl rfl rfl K.1 rfl rfl ⟨Nat.le_of_ble_eq_true rfl, Nat.le_of_ble_eq_true rfl⟩ (fun h1 hp1 => ?_)
  obtain ⟨m1, rfl, G1, P1, X1⟩ := hp1
  have e3 : m1 0 3 = nI p := (G1 0 3 (fun z => z.elim (fun z => by have := z.2.1; omega) (fun z => by omega))).trans hp
  rcases hx : pCmp 200 cmp0 (toks t) with ⟨_ | c, r1⟩
  · rw [hx] at P1
    have P1 : PS m1 t true r1 := P1
    obtain ⟨q, e, so, hV⟩ := P1.2.1.v
    refine V.aload_n X dX12_loadComponent_4 rfl ?_
    refine V.mgf  X K fX12_loadComponent_72 dX12_loadComponent_5 rfl P1.2.2 ?_
    refine V.if_eq 19 X dX12_loadComponent_8 (by decide) (fun c8 => False.elim (by revert c8; decide)) (fun c8 => ?_)
    refine V.bipush (v := -10) X dX12_loadComponent_11 (by decide) ?_
    refine V.aload_n X dX12_loadComponent_13 rfl ?_
    refine V.mgf  X K fX12_loadComponent_51 dX12_loadComponent_14 rfl hV.2.2.2.1 ?_
    refine V.isub X dX12_loadComponent_17 ?_
    exact V.iret X Y9 dX12_loadComponent_18 (Or.inl ⟨r1, hx, by rw [hV.2.2.2.2.2.2.1], m1, rfl, G1⟩) (Nat.le_of_ble_eq_true rfl) (Nat.le_of_ble_eq_true rfl)
  · rw [hx] at P1 X1
    have P1 : PS m1 t false r1 := P1
    obtain ⟨C1, ok1⟩ := X1 c rfl
    refine V.aload_n X dX12_loadComponent_4 rfl ?_
    refine V.mgf  X K fX12_loadComponent_72 dX12_loadComponent_5 rfl P1.2.2 ?_
    refine V.if_eq 19 X dX12_loadComponent_8 (by decide) (fun c8 => ?_) (fun c8 => False.elim (by revert c8; decide))
    refine V.aload_n X dX12_loadComponent_19 rfl ?_
    refine V.callVv (n := 0) X dX12_loadComponent_20 gX12_loadComponent_X12_note (c_X12_note _ _ K e3 hp6) rfl (by decide +kernel) rfl rfl rfl K.1 rfl rfl ⟨Nat.le_of_ble_eq_true rfl, Nat.le_of_ble_eq_true rfl⟩ (fun h20 hp20 => ?_)
    obtain rfl := hp20.symm
    refine V.iconst (v := nI 0) X dX12_loadComponent_23 (by decide) ?_
    refine V.istore_n X dX12_loadComponent_24 [(0, _), (1, _)] rfl rfl rfl ?_
    have l9 := loop m1 (noteM m1 p) 272 0 rfl
    rw [cpy_0] at l9
    exact l9 G1 C1 ok1 hx rfl
