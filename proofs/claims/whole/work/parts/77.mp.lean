theorem inB_f {z : Int32} {a b : Nat} (h : inB z (nI a) (nI b) = false) : z < nI a ∨ ¬ z ≤ nI b := by
  unfold inB at h
  rw [Bool.and_eq_false_iff] at h
  rcases h with h | h
  · exact Or.inl (i32_nle (of_decide_eq_false h))
  · exact Or.inr (of_decide_eq_false h)
theorem inB_t8 {z : Int32} (h : inB z (nI 1) (nI 8) = true) : ∃ n, 1 ≤ n ∧ n ≤ 8 ∧ z = nI n := by
  unfold inB at h
  rw [Bool.and_eq_true] at h
  have h2 := of_decide_eq_true h.2
  have h3 : z ≤ nI 200 := by
    have a : (nI 8).toInt = 8 := by decide
    have b : (nI 200).toInt = 200 := by decide
    rw [Int32.le_iff_toInt_le] at h2 ⊢
    omega
  obtain ⟨n, n1, n2, rfl⟩ := in_200 (i32_nlt (of_decide_eq_true h.1)) h3
  rw [nI_leI (by omega) (by decide)] at h2
  exact ⟨n, n1, h2, rfl⟩
theorem hpp_i {r : Xr} : ∀ n i, hpp r n i = true ↔ ∃ j, i ≤ j ∧ j < i + n ∧ j < xpc r ∧ 0 < xpr r j := by
  intro n
  induction n with
  | zero =>
    intro i
    exact ⟨fun z => (by cases z), fun ⟨j, a, b, _⟩ => absurd b (by omega)⟩
  | succ n ih =>
    intro i
    show (if i < xpc r ∧ 0 < xpr r i then true else hpp r n (i + 1)) = true ↔ _
    by_cases h : i < xpc r ∧ 0 < xpr r i
    · rw [if_pos h]
      exact ⟨fun _ => ⟨i, Nat.le_refl _, by omega, h.1, h.2⟩, fun _ => rfl⟩
    · rw [if_neg h, ih (i + 1)]
      constructor
      · rintro ⟨j, a, b, d, e⟩
        exact ⟨j, by omega, by omega, d, e⟩
      · rintro ⟨j, a, b, d, e⟩
        refine ⟨j, ?_, by omega, d, e⟩
        by_cases hj : j = i
        · subst hj; exact absurd ⟨d, e⟩ h
        · omega
theorem chk_now {x : Cnd} (h1 : opOk false x.1) (h2 : opOk false x.2.2) (b b2 a : St) : chk x b a = chk x b2 a := by
  have e1 := opv_now h1 b b2 a
  have e2 := opv_now h2 b b2 a
  unfold chk
  rw [e1, e2]
theorem all_cg {α : Type} {f g : α → Bool} : ∀ {cs : List α}, (∀ x ∈ cs, f x = g x) → cs.all f = cs.all g := by
  intro cs
  induction cs with
  | nil => intro _; rfl
  | cons x cs ih =>
    intro h
    rw [List.all_cons, List.all_cons, h x List.mem_cons_self, ih (fun y hy => h y (List.mem_cons_of_mem _ hy))]
theorem cn_1 {c : Cnd} (h : cnOk false c) : opOk false c.1 := h.1
theorem cn_2 {c : Cnd} (h : cnOk false c) : opOk false c.2.2 := h.2.1
theorem allC_now {cs : List Cnd} (h : ∀ x ∈ cs, cnOk false x) (b b2 a : St) : allC cs b a = allC cs b2 a := by
  unfold allC
  exact all_cg (fun x hx => chk_now (cn_1 (h x hx)) (cn_2 (h x hx)) b b2 a)
theorem fX12_setMaximumLength_7 : FL wsX12_setMaximumLength RX12 7 14 0 (.array .int) true := ⟨_, rfl, by decide, Or.inl ⟨"ContractTesterModel", by decide +kernel, Or.inl rfl⟩, by decide +kernel, by decide +kernel, rfl⟩
set_option maxHeartbeats 4000000 in
set_option maxRecDepth 100000 in
theorem c_X12_setMaximumLength (l : Launch) (G : GG) {h : Hp} {M : Nat} {m : Md} (K : MdK h M) {t : List Nat} {c : Cmp} {r : Xr} {k : Nat} {ps : Nat → Cmp × Xr} (hS : MSt m t c r k ps) {z : Int32} : Con l G yX12_setMaximumLength wsX12_setMaximumLength 1 22 0 0 [.ref M, .int z] (Hm h M m) (pI (fun y h2 => ((z < nI 1 ∨ ¬ z ≤ nI 8) ∧ y = -1 ∧ h2 = Hm h M m) ∨ ∃ n, 1 ≤ n ∧ n ≤ 8 ∧ z = nI n ∧ y = nI (xmx r) ∧ ∃ m2, h2 = Hm h M m2 ∧ MSt m2 t c ((n, xpc r, xfl r, xsk r, xrd r, xdr r), r.2) (nxK k) (noteP ps k (c, r)))) := by
  refine Con.of (cc := cX12_setMaximumLength) (nL := 3) (ret := (some .int)) (by decide) rfl rfl rfl rfl (fun Γ hG hl X Y9 => ?_)
  subst hG
  subst hl
  obtain ⟨hT, hC, hX, ok, hp, hp6, hP⟩ := id hS
  obtain ⟨⟨⟨x1, x2⟩, ⟨x3, x4⟩, x5, x6, x7⟩, ok2, x8, x9⟩ := id ok
  have ok21 := ok2.2.1
  refine V.iload_n X dX12_setMaximumLength_0 rfl ?_
  refine V.iconst (v := nI 1) X dX12_setMaximumLength_1 (by decide) ?_
  refine V.bipush (v := nI 8) X dX12_setMaximumLength_2 (by decide) ?_
  refine V.callSi (n := 3) X dX12_setMaximumLength_4 gX12_setMaximumLength_X12_in (c_X12_in _ _) rfl (by decide +kernel) rfl rfl rfl ⟨Nat.le_of_ble_eq_true rfl, Nat.le_of_ble_eq_true rfl⟩ (fun r4 h4 hp4 => ?_)
  obtain ⟨rfl, e9⟩ := hp4; obtain rfl := e9.symm
  refine V.if_ne 12 X dX12_setMaximumLength_7 (by decide) (fun c7 => ?_) (fun c7 => ?_)
  · have c7 := bI_ne c7
    obtain ⟨n, n1, n2, rfl⟩ := inB_t8 c7
    refine V.aload_n X dX12_setMaximumLength_12 rfl ?_
    refine V.callVv (n := 0) X dX12_setMaximumLength_13 gX12_setMaximumLength_X12_note (c_X12_note _ _ K hp hp6) rfl (by decide +kernel) rfl rfl rfl K.1 rfl rfl ⟨Nat.le_of_ble_eq_true rfl, Nat.le_of_ble_eq_true rfl⟩ (fun h13 hp13 => ?_)
    obtain rfl := hp13.symm
    refine V.aload_n X dX12_setMaximumLength_16 rfl ?_
    refine V.mgr (k := 0) (a := 1) X K fX12_setMaximumLength_7 dX12_setMaximumLength_17 (by decide) ?_
    refine V.sipush (v := nI 272) X dX12_setMaximumLength_20 (by decide) ?_
    refine V.mld (x := nI (xmx r)) X K 1 1178  dX12_setMaximumLength_23 rfl rfl (by omega) (noteM_1.trans hX.1.1) ?_
    refine V.istore_n X dX12_setMaximumLength_24 [(0, _), (1, _), (2, _)] rfl rfl rfl ?_
    refine V.aload_n X dX12_setMaximumLength_25 rfl ?_
    refine V.mgr (k := 0) (a := 1) X K fX12_setMaximumLength_7 dX12_setMaximumLength_26 (by decide) ?_
    refine V.sipush (v := nI 272) X dX12_setMaximumLength_29 (by decide) ?_
    refine V.iload_n X dX12_setMaximumLength_32 rfl ?_
    refine V.mst X K 1 1178  dX12_setMaximumLength_33 rfl rfl (by omega) ?_
    have CC : CmR (mput (noteM m k) 1 272 (nI n) 1) c := hC.same ok2 (fun x hx => (mput_k (by omega)).trans noteM_1)
    have X0 : XmR (noteM m k 1) r := hX.same x4 x5 (fun x _ _ => noteM_1)
    have XX : XmR (mput (noteM m k) 1 272 (nI n) 1) ((n, xpc r, xfl r, xsk r, xrd r, xdr r), r.2) := X0.num x4 x5 rfl rfl (fun x h1 h2 => mput_k (by omega)) mput_at ((mput_k (by decide)).trans X0.1.2.1) ((mput_k (by decide)).trans X0.1.2.2.1) ((mput_k (by decide)).trans X0.1.2.2.2.1)
    have OO : xmOk c ((n, xpc r, xfl r, xsk r, xrd r, xdr r), r.2) := ⟨⟨⟨n1, n2⟩, ok.1.2.1, ok.1.2.2.1, ok.1.2.2.2.1, ok.1.2.2.2.2⟩, ok.2.1, ok.2.2.1, ok.2.2.2⟩
    refine V.iload_n X dX12_setMaximumLength_34 rfl ?_
    exact V.iret X Y9 dX12_setMaximumLength_35 (Or.inr ⟨n, n1, n2, rfl, rfl, _, rfl, hS.edit (fun x => mput_a (by decide)) (mput_a (by decide)) (hT.same ((mput_a (by decide)).trans noteM_5) (fun x => (mput_a (by decide)).trans noteM_4)) CC XX OO⟩) (Nat.le_of_ble_eq_true rfl) (Nat.le_of_ble_eq_true rfl)
  · have c7 := bI_eq c7
    have e0 := inB_f c7
    refine V.iconst (v := -1) X dX12_setMaximumLength_10 (by decide) ?_
    exact V.iret X Y9 dX12_setMaximumLength_11 (Or.inl ⟨e0, rfl, rfl⟩) (Nat.le_of_ble_eq_true rfl) (Nat.le_of_ble_eq_true rfl)
theorem fX12_reset_7 : FL wsX12_reset RX12 7 14 0 (.array .int) true := ⟨_, rfl, by decide, Or.inl ⟨"ContractTesterModel", by decide +kernel, Or.inl rfl⟩, by decide +kernel, by decide +kernel, rfl⟩
set_option maxHeartbeats 4000000 in
set_option maxRecDepth 100000 in
theorem c_X12_reset (l : Launch) (G : GG) {h : Hp} {M : Nat} {m : Md} (K : MdK h M) {t : List Nat} {c : Cmp} {r : Xr} {k : Nat} {ps : Nat → Cmp × Xr} (hS : MSt m t c r k ps)  : Con l G yX12_reset wsX12_reset 1 21 0 0 [.ref M] (Hm h M m) (pI (fun y h2 => (hpp r 40 0 = false ∧ y = -2 ∧ h2 = Hm h M m) ∨ (hpp r 40 0 = true ∧ y = nI (xpc r) ∧ ∃ m2, h2 = Hm h M m2 ∧ MSt m2 t c (rst c r) (nxK k) (noteP ps k (c, r))))) := by
  refine Con.of (cc := cX12_reset) (nL := 3) (ret := (some .int)) (by decide) rfl rfl rfl rfl (fun Γ hG hl X Y9 => ?_)
  subst hG
  subst hl
  obtain ⟨hT, hC, hX, ok, hp, hp6, hP⟩ := id hS
  obtain ⟨⟨⟨x1, x2⟩, ⟨x3, x4⟩, x5, x6, x7⟩, ok2, x8, x9⟩ := id ok
  have ok21 := ok2.2.1
  have loop : ∀ (n a : Nat) (b : Bool), a + n = 240 → (b = true ↔ ∃ x, x < a ∧ m 1 (938 + x) = nI 1) → V Γ 0 0 6 [(0, .ref M), (1, .int (bI b)), (2, .int (nI (938 + a)))] [] (Hm h M m) := by
    intro n
    induction n with
    | zero =>
      intro a b g1 g2
      obtain rfl : a = 240 := by omega
      have g3 : b = true ↔ hpp r 40 0 = true := by
        rw [g2, hpp_i]
        constructor
        · rintro ⟨x, hx, e⟩
          have u := hX.2.2.2 (x / 6) (x % 6) (by omega) (by omega)
          rw [show 938 + 6 * (x / 6) + x % 6 = 938 + x by omega, e] at u
          split at u
          · next z => exact ⟨x / 6, Nat.zero_le _, by omega, z.1, by omega⟩
          · exact absurd u (by decide)
        · rintro ⟨i, -, hi, h1, h2⟩
          refine ⟨6 * i, by omega, ?_⟩
          have u := hX.2.2.2 i 0 (by omega) (by decide)
          rw [if_pos ⟨h1, h2⟩] at u
          exact u
      cases b with
      | false =>
        have g4 : hpp r 40 0 = false := by
          cases hh : hpp r 40 0 with
          | false => rfl
          | true => exact absurd (g3.mpr hh) (by decide)
        refine V.iload_n X dX12_reset_6 rfl ?_
        refine V.sipush (v := nI 1178) X dX12_reset_7 (by decide) ?_
        refine V.icmp_ge 39 X dX12_reset_10 (by decide) (fun c10 => ?_) (fun c10 => False.elim (by rw [nI_leI (by omega) (by omega)] at c10; omega))
        rw [nI_leI (by omega) (by omega)] at c10
        refine V.iload_n X dX12_reset_39 rfl ?_
        refine V.if_ne 46 X dX12_reset_40 (by decide) (fun c40 => False.elim (by revert c40; decide)) (fun c40 => ?_)
        refine V.bipush (v := -2) X dX12_reset_43 (by decide) ?_
        exact V.iret X Y9 dX12_reset_45 (Or.inl ⟨g4, rfl, rfl⟩) (Nat.le_of_ble_eq_true rfl) (Nat.le_of_ble_eq_true rfl)
      | true =>
        have g4 := g3.mp rfl
        refine V.iload_n X dX12_reset_6 rfl ?_
        refine V.sipush (v := nI 1178) X dX12_reset_7 (by decide) ?_
        refine V.icmp_ge 39 X dX12_reset_10 (by decide) (fun c10 => ?_) (fun c10 => False.elim (by rw [nI_leI (by omega) (by omega)] at c10; omega))
        rw [nI_leI (by omega) (by omega)] at c10
        refine V.iload_n X dX12_reset_39 rfl ?_
        refine V.if_ne 46 X dX12_reset_40 (by decide) (fun c40 => ?_) (fun c40 => False.elim (by revert c40; decide))
        refine V.aload_n X dX12_reset_46 rfl ?_
        refine V.callVv (n := 0) X dX12_reset_47 gX12_reset_X12_note (c_X12_note _ _ K hp hp6) rfl (by decide +kernel) rfl rfl rfl K.1 rfl rfl ⟨Nat.le_of_ble_eq_true rfl, Nat.le_of_ble_eq_true rfl⟩ (fun h47 hp47 => ?_)
        obtain rfl := hp47.symm
        refine V.aload_n X dX12_reset_50 rfl ?_
        refine V.mgr (k := 0) (a := 1) X K fX12_reset_7 dX12_reset_51 (by decide) ?_
        refine V.sipush (v := nI 276) X dX12_reset_54 (by decide) ?_
        refine V.mld (x := nI (xpc r)) X K 1 1178  dX12_reset_57 rfl rfl (by omega) (noteM_1.trans hX.1.2.2.2.2.1) ?_
        refine V.istore_n X dX12_reset_58 [(0, _), (1, _), (2, _)] rfl rfl rfl ?_
        refine V.aload_n X dX12_reset_59 rfl ?_
        refine V.callVv (n := 0) X dX12_reset_60 gX12_reset_X12_bare (c_X12_bare _ _ K) rfl (by decide +kernel) rfl rfl rfl K.1 rfl rfl ⟨Nat.le_of_ble_eq_true rfl, Nat.le_of_ble_eq_true rfl⟩ (fun h60 hp60 => ?_)
        obtain rfl := hp60.symm
        refine V.iload_n X dX12_reset_63 rfl ?_
        exact V.iret X Y9 dX12_reset_64 (Or.inr ⟨g4, rfl, _, rfl, hS.edit (fun x => bareM_o (Or.inl (by decide))) (bareM_o (Or.inl (by decide))) (hT.same ((bareM_o (Or.inl (by decide))).trans noteM_5) (fun x => (bareM_o (Or.inl (by decide))).trans noteM_4)) (hC.same ok2 (fun x hx => (bareM_o (Or.inr (by omega))).trans noteM_1)) (XmR.bare (noteM_1.trans hX.1.1) x6) (ok.rst ok2)⟩) (Nat.le_of_ble_eq_true rfl) (Nat.le_of_ble_eq_true rfl)
    | succ n ih =>
      intro a b g1 g2
      cases b with
      | true =>
        have g5 : true = true ↔ ∃ x, x < a + 1 ∧ m 1 (938 + x) = nI 1 := ⟨fun _ => by
          obtain ⟨x, hx, e⟩ := g2.mp rfl
          exact ⟨x, by omega, e⟩, fun _ => rfl⟩
        refine V.iload_n X dX12_reset_6 rfl ?_
        refine V.sipush (v := nI 1178) X dX12_reset_7 (by decide) ?_
        refine V.icmp_ge 39 X dX12_reset_10 (by decide) (fun c10 => False.elim (by rw [nI_leI (by omega) (by omega)] at c10; omega)) (fun c10 => ?_)
        rw [nI_leI (by omega) (by omega)] at c10
        refine V.iload_n X dX12_reset_13 rfl ?_
        refine V.if_ne 27 X dX12_reset_14 (by decide) (fun c14 => ?_) (fun c14 => False.elim (by revert c14; decide))
        refine V.iconst (v := (bI true)) X dX12_reset_27 (by decide) ?_
        refine V.goto 32 X dX12_reset_28 (by decide) ?_
        refine V.istore_n X dX12_reset_32 [(0, _), (1, _), (2, _)] rfl rfl rfl ?_
        refine V.iinc  X dX12_reset_33 [(0, _), (1, _), (2, _)] rfl (nI_1 _) rfl rfl rfl ?_
        refine V.goto 6 X dX12_reset_36 (by decide) ?_
        exact ih (a + 1) true (by omega) g5
      | false =>
        by_cases hv : m 1 (938 + a) = nI 1
        · have g5 : true = true ↔ ∃ x, x < a + 1 ∧ m 1 (938 + x) = nI 1 := ⟨fun _ => ⟨a, by omega, hv⟩, fun _ => rfl⟩
          refine V.iload_n X dX12_reset_6 rfl ?_
          refine V.sipush (v := nI 1178) X dX12_reset_7 (by decide) ?_
          refine V.icmp_ge 39 X dX12_reset_10 (by decide) (fun c10 => False.elim (by rw [nI_leI (by omega) (by omega)] at c10; omega)) (fun c10 => ?_)
          rw [nI_leI (by omega) (by omega)] at c10
          refine V.iload_n X dX12_reset_13 rfl ?_
          refine V.if_ne 27 X dX12_reset_14 (by decide) (fun c14 => False.elim (by revert c14; decide)) (fun c14 => ?_)
          refine V.aload_n X dX12_reset_17 rfl ?_
          refine V.mgr (k := 0) (a := 1) X K fX12_reset_7 dX12_reset_18 (by decide) ?_
          refine V.iload_n X dX12_reset_21 rfl ?_
          refine V.mld (x := nI 1) X K 1 1178  dX12_reset_22 rfl rfl (by omega) hv ?_
          refine V.iconst (v := nI 1) X dX12_reset_23 (by decide) ?_
          refine V.icmp_ne 31 X dX12_reset_24 (by decide) (fun c24 => False.elim (by rw [nI_eq (by omega) (by omega)] at c24; omega)) (fun c24 => ?_)
          rw [nI_eq (by omega) (by omega)] at c24
          refine V.iconst (v := (bI true)) X dX12_reset_27 (by decide) ?_
          refine V.goto 32 X dX12_reset_28 (by decide) ?_
          refine V.istore_n X dX12_reset_32 [(0, _), (1, _), (2, _)] rfl rfl rfl ?_
          refine V.iinc  X dX12_reset_33 [(0, _), (1, _), (2, _)] rfl (nI_1 _) rfl rfl rfl ?_
          refine V.goto 6 X dX12_reset_36 (by decide) ?_
          exact ih (a + 1) true (by omega) g5
        · have g5 : false = true ↔ ∃ x, x < a + 1 ∧ m 1 (938 + x) = nI 1 := by
            refine ⟨fun z => (by cases z), ?_⟩
            rintro ⟨x, hx, e⟩
            by_cases hxa : x = a
            · subst hxa; exact absurd e hv
            · exact g2.mpr ⟨x, by omega, e⟩
          refine V.iload_n X dX12_reset_6 rfl ?_
          refine V.sipush (v := nI 1178) X dX12_reset_7 (by decide) ?_
          refine V.icmp_ge 39 X dX12_reset_10 (by decide) (fun c10 => False.elim (by rw [nI_leI (by omega) (by omega)] at c10; omega)) (fun c10 => ?_)
          rw [nI_leI (by omega) (by omega)] at c10
          refine V.iload_n X dX12_reset_13 rfl ?_
          refine V.if_ne 27 X dX12_reset_14 (by decide) (fun c14 => False.elim (by revert c14; decide)) (fun c14 => ?_)
          refine V.aload_n X dX12_reset_17 rfl ?_
          refine V.mgr (k := 0) (a := 1) X K fX12_reset_7 dX12_reset_18 (by decide) ?_
          refine V.iload_n X dX12_reset_21 rfl ?_
          refine V.mld  X K 1 1178  dX12_reset_22 rfl rfl (by omega) rfl ?_
          refine V.iconst (v := nI 1) X dX12_reset_23 (by decide) ?_
          refine V.icmp_ne 31 X dX12_reset_24 (by decide) (fun c24 => ?_) (fun c24 => False.elim (by exact hv c24))
          refine V.iconst (v := (bI false)) X dX12_reset_31 (by decide) ?_
          refine V.istore_n X dX12_reset_32 [(0, _), (1, _), (2, _)] rfl rfl rfl ?_
          refine V.iinc  X dX12_reset_33 [(0, _), (1, _), (2, _)] rfl (nI_1 _) rfl rfl rfl ?_
          refine V.goto 6 X dX12_reset_36 (by decide) ?_
          exact ih (a + 1) false (by omega) g5
  refine V.iconst (v := (bI false)) X dX12_reset_0 (by decide) ?_
  refine V.istore_n X dX12_reset_1 [(0, _), (1, _)] rfl rfl rfl ?_
  refine V.sipush (v := nI 938) X dX12_reset_2 (by decide) ?_
  refine V.istore_n X dX12_reset_5 [(0, _), (1, _), (2, _)] rfl rfl rfl ?_
  exact loop 240 0 false rfl ⟨fun z => (by cases z), fun ⟨x, hx, _⟩ => absurd hx (Nat.not_lt_zero x)⟩
theorem fX12_undo_37 : FL wsX12_undo RX12 37 14 3 .int false := ⟨_, rfl, by decide, Or.inl ⟨"ContractTesterModel", by decide +kernel, Or.inl rfl⟩, by decide +kernel, by decide +kernel, rfl⟩
theorem fX12_undo_7 : FL wsX12_undo RX12 7 14 0 (.array .int) true := ⟨_, rfl, by decide, Or.inl ⟨"ContractTesterModel", by decide +kernel, Or.inl rfl⟩, by decide +kernel, by decide +kernel, rfl⟩
theorem fX12_undo_16 : FL wsX12_undo RX12 16 14 2 (.array .int) true := ⟨_, rfl, by decide, Or.inl ⟨"ContractTesterModel", by decide +kernel, Or.inl rfl⟩, by decide +kernel, by decide +kernel, rfl⟩
set_option maxHeartbeats 4000000 in
set_option maxRecDepth 100000 in
theorem c_X12_undo (l : Launch) (G : GG) {h : Hp} {M : Nat} {m : Md} (K : MdK h M) {t : List Nat} {c : Cmp} {r : Xr} {k : Nat} {ps : Nat → Cmp × Xr} (hS : MSt m t c r k ps)  : Con l G yX12_undo wsX12_undo 0 0 0 0 [.ref M] (Hm h M m) (pI (fun y h2 => (k = 0 ∧ y = -2 ∧ h2 = Hm h M m) ∨ (0 < k ∧ y = nI (k - 1) ∧ ∃ m2, h2 = Hm h M m2 ∧ MSt m2 t (ps (k - 1)).1 (ps (k - 1)).2 (k - 1) ps))) := by
  refine Con.of (cc := cX12_undo) (nL := 2) (ret := (some .int)) (by decide) rfl rfl rfl rfl (fun Γ hG hl X Y9 => ?_)
  subst hG
  subst hl
  obtain ⟨hT, hC, hX, ok, hp, hp6, hP⟩ := id hS
  obtain ⟨⟨⟨x1, x2⟩, ⟨x3, x4⟩, x5, x6, x7⟩, ok2, x8, x9⟩ := id ok
  have ok21 := ok2.2.1
  have loop : 0 < k → ∀ (n a : Nat), a + n = 1178 → V Γ 0 0 22 [(0, .ref M), (1, .int (nI a))] [] (Hm h M (cpy (mput m 0 3 (nI (k - 1))) 1 3 0 (1178 * (k - 1)) a)) := by
    intro hk0 n
    induction n with
    | zero =>
      intro a g1
      obtain rfl : a = 1178 := by omega
      obtain ⟨b1, b2, b3⟩ := hP (k - 1) (by omega)
      have row : ∀ x, x < 1178 → cpy (mput m 0 3 (nI (k - 1))) 1 3 0 (1178 * (k - 1)) 1178 1 x = prow m (k - 1) x := fun x hx => by
        rw [cpy_i (by omega) (by omega), mput_a (by decide)]
        exact congrArg (m 3) (by omega)
      have SS : MSt (cpy (mput m 0 3 (nI (k - 1))) 1 3 0 (1178 * (k - 1)) 1178) t (ps (k - 1)).1 (ps (k - 1)).2 (k - 1) ps := ⟨hT.same ((cpy_o (by decide)).trans (mput_k (by decide))) (fun x => (cpy_o (by decide)).trans (mput_a (by decide))), b1.same b3.2.1 (fun x hx => row x (by omega)), b2.same b3.1.2.1.2 b3.1.2.2.1 (fun x _ hx => row x hx), b3, (cpy_o (by decide)).trans mput_at, by omega, fun j hj => row_sm _ _ _ (hP j (by omega)) (fun z _ => (cpy_o (by decide)).trans (mput_a (by decide)))⟩
      refine V.iload_n X dX12_undo_22 rfl ?_
      refine V.sipush (v := nI 1178) X dX12_undo_23 (by decide) ?_
      refine V.icmp_ge 56 X dX12_undo_26 (by decide) (fun c26 => ?_) (fun c26 => False.elim (by rw [nI_leI (by omega) (by omega)] at c26; omega))
      rw [nI_leI (by omega) (by omega)] at c26
      refine V.aload_n X dX12_undo_56 rfl ?_
      refine V.mgf (x := nI (k - 1)) X K fX12_undo_37 dX12_undo_57 rfl ((cpy_o (by decide)).trans mput_at) ?_
      exact V.iret X Y9 dX12_undo_60 (Or.inr ⟨hk0, rfl, _, rfl, SS⟩) (Nat.le_of_ble_eq_true rfl) (Nat.le_of_ble_eq_true rfl)
    | succ n ih =>
      intro a g1
      refine V.iload_n X dX12_undo_22 rfl ?_
      refine V.sipush (v := nI 1178) X dX12_undo_23 (by decide) ?_
      refine V.icmp_ge 56 X dX12_undo_26 (by decide) (fun c26 => False.elim (by rw [nI_leI (by omega) (by omega)] at c26; omega)) (fun c26 => ?_)
      rw [nI_leI (by omega) (by omega)] at c26
      refine V.aload_n X dX12_undo_29 rfl ?_
      refine V.mgr (k := 0) (a := 1) X K fX12_undo_7 dX12_undo_30 (by decide) ?_
      refine V.iload_n X dX12_undo_33 rfl ?_
      refine V.aload_n X dX12_undo_34 rfl ?_
      refine V.mgr (k := 2) (a := 3) X K fX12_undo_16 dX12_undo_35 (by decide) ?_
      refine V.sipush (v := nI 1178) X dX12_undo_38 (by decide) ?_
      refine V.aload_n X dX12_undo_41 rfl ?_
      refine V.mgf (x := nI (k - 1)) X K fX12_undo_37 dX12_undo_42 rfl ((cpy_o (by decide)).trans mput_at) ?_
      refine V.imulN X dX12_undo_45 ?_
      refine V.iload_n X dX12_undo_46 rfl ?_
      refine V.iaddN X dX12_undo_47 ?_
      refine V.mld  X K 3 7068  dX12_undo_48 rfl rfl (by omega) rfl ?_
      refine V.mst X K 1 1178  dX12_undo_49 rfl rfl (by omega) ?_
      rw [cpy_q (by omega) (cpy_r (by omega) (by omega))]
      refine V.iinc  X dX12_undo_50 [(0, _), (1, _)] rfl (nI_1 _) rfl rfl rfl ?_
      refine V.goto 22 X dX12_undo_53 (by decide) ?_
      exact ih (a + 1) (by omega)
  refine V.aload_n X dX12_undo_0 rfl ?_
  refine V.mgf  X K fX12_undo_37 dX12_undo_1 rfl hp ?_
  refine V.if_ne 10 X dX12_undo_4 (by decide) (fun c4 => ?_) (fun c4 => ?_)
  · rw [show (0 : Int32) = nI 0 from rfl, nI_eq (by omega) (by omega)] at c4
    refine V.aload_n X dX12_undo_10 rfl ?_
    refine V.dup X dX12_undo_11 rfl ?_
    refine V.mgf  X K fX12_undo_37 dX12_undo_12 rfl hp ?_
    refine V.iconst (v := nI 1) X dX12_undo_15 (by decide) ?_
    refine V.isubN X dX12_undo_16 (by omega) ?_
    refine V.mpf X K fX12_undo_37 dX12_undo_17 rfl rfl rfl ?_
    refine V.iconst (v := nI 0) X dX12_undo_20 (by decide) ?_
    refine V.istore_n X dX12_undo_21 [(0, _), (1, _)] rfl rfl rfl ?_
    have l9 := loop (by omega) 1178 0 rfl
    rw [cpy_0] at l9
    exact l9
  · rw [show (0 : Int32) = nI 0 from rfl, nI_eq (by omega) (by omega)] at c4
    refine V.bipush (v := -2) X dX12_undo_7 (by decide) ?_
    exact V.iret X Y9 dX12_undo_9 (Or.inl ⟨by omega, rfl, rfl⟩) (Nat.le_of_ble_eq_true rfl) (Nat.le_of_ble_eq_true rfl)
theorem c_X12_load (l : Launch) (G : GG) {h : Hp} {M : Nat} {m : Md} (K : MdK h M) {t : List Nat} {c : Cmp} {r : Xr} {k : Nat} {ps : Nat → Cmp × Xr} (hS : MSt m t c r k ps)  : Con l G yX12_loadComponent wsX12_loadComponent 9 194 0 0 [.ref M] (Hm h M m) (pI (fun y h2 => (∃ r1, pCmp 200 cmp0 (toks t) = (none, r1) ∧ y = -10 - nI (offR t.length r1) ∧ ∃ m2, h2 = Hm h M m2 ∧ MSt m2 t c r k ps) ∨ ∃ c2 r1, pCmp 200 cmp0 (toks t) = (some c2, r1) ∧ y = nI c2.2.2.length ∧ ∃ m2, h2 = Hm h M m2 ∧ MSt m2 [] c2 (rst c2 r) (nxK k) (noteP ps k (c, r)))) := by
  obtain ⟨hT, hC, hX, ok, hp, hp6, hP⟩ := id hS
  refine (c_X12_loadComponent l G K hT hp hp6).mono (pI_mono (fun y h2 hq => ?_))
  have kp : ∀ m1, MFr drP m m1 → MSt m1 t c r k ps := fun m1 f => hS.keep (fun x => f 3 x (fun z => z.elim (fun z => by have := z.1; omega) (fun z => by omega))) (f 0 3 (fun z => z.elim (fun z => by have := z.2.1; omega) (fun z => by omega))) (fun x => f 1 x (fun z => z.elim (fun z => by have := z.1; omega) (fun z => by omega))) (hT.fr f (fun z => z.elim (fun z => by have := z.2.1; omega) (fun z => by omega)) (fun x z => z.elim (fun z => by have := z.1; omega) (fun z => by omega)))
  rcases hq with ⟨r1, g1, g2, m2, e, f⟩ | ⟨c2, r1, m1, g1, g2, f, C1, o1, e⟩
  · exact Or.inl ⟨r1, g1, g2, m2, e, kp m2 f⟩
  · have S1 := kp m1 f
    have x6 := ok.1.2.2.2.1
    refine Or.inr ⟨c2, r1, g1, g2, _, e, S1.edit (fun x => (mput_a (by decide)).trans ((bareM_o (Or.inl (by decide))).trans (cpy_o (by decide)))) ((mput_k (by decide)).trans ((bareM_o (Or.inl (by decide))).trans (cpy_o (by decide)))) (TxM.nil mput_at) ?_ ?_ (ok.rst o1)⟩
    · refine C1.same o1 (fun x hx => ?_)
      rw [mput_a (by decide), bareM_o (Or.inr (by omega)), cpy_i (by omega) (by omega), noteM_o (by decide) (fun z => absurd z.1 (by decide))]
      exact congrArg (m1 2) (by omega)
    · refine (XmR.bare (m := cpy (noteM m1 k) 1 2 0 0 272) (c := c2) (r := r) ((cpy_n (by omega)).trans (noteM_1.trans S1.2.2.1.1.1)) x6).same (by show 1 ≤ 40; decide) (Nat.zero_le _) (fun x h1 h2 => mput_a (by decide))
theorem c_X12_expl (l : Launch) (G : GG) {h : Hp} {M : Nat} {m : Md} (K : MdK h M) {t : List Nat} {c : Cmp} {r : Xr} {k : Nat} {ps : Nat → Cmp × Xr} (hS : MSt m t c r k ps) {z : Int32} : Con l G yX12_explore wsX12_explore 8 182 0 0 [.ref M, .int z] (Hm h M m) (pI (fun y h2 => ((z < nI 1 ∨ ¬ z ≤ nI 200) ∧ y = -1 ∧ h2 = Hm h M m) ∨ ∃ n, 1 ≤ n ∧ n ≤ 200 ∧ z = nI n ∧ ((fos c r 40 0 = none ∧ y = -2 ∧ h2 = Hm h M m) ∨ (¬ fos c r 40 0 = none ∧ y = nI (stps c n 0 r).1 ∧ ∃ m2, h2 = Hm h M m2 ∧ MSt m2 t c (stps c n 0 r).2 (nxK k) (noteP ps k (c, r)))))) := by
  obtain ⟨hT, hC, hX, ok, hp, hp6, hP⟩ := id hS
  refine (c_X12_explore l G K hC hX ok hp hp6).mono (pI_mono (fun y h2 hq => ?_))
  rcases hq with hq | ⟨n, n1, n2, hz, hq | ⟨q1, q2, q3, m2, e, f, X2⟩⟩
  · exact Or.inl hq
  · exact Or.inr ⟨n, n1, n2, hz, Or.inl hq⟩
  · refine Or.inr ⟨n, n1, n2, hz, Or.inr ⟨q1, q2, m2, e, hS.edit (fun x => f _ _ (fun z => by unfold kpP at z; omega)) (f _ _ (fun z => by unfold kpP at z; omega)) (hT.same ((f _ _ (fun z => by unfold kpP at z; omega)).trans noteM_5) (fun x => (f _ _ (fun z => by unfold kpP at z; omega)).trans noteM_4)) (hC.same ok.2.1 (fun x hx => (f _ _ (fun z => by unfold kpP at z; omega)).trans noteM_1)) X2 q3⟩⟩
theorem fX12_runText_19 : FL wsX12_runText RX12 19 14 4 (.array .int) true := ⟨_, rfl, by decide, Or.inl ⟨"ContractTesterModel", by decide +kernel, Or.inl rfl⟩, by decide +kernel, by decide +kernel, rfl⟩
theorem fX12_runText_44 : FL wsX12_runText RX12 44 14 5 .int false := ⟨_, rfl, by decide, Or.inl ⟨"ContractTesterModel", by decide +kernel, Or.inl rfl⟩, by decide +kernel, by decide +kernel, rfl⟩
theorem fX12_runText_7 : FL wsX12_runText RX12 7 14 0 (.array .int) true := ⟨_, rfl, by decide, Or.inl ⟨"ContractTesterModel", by decide +kernel, Or.inl rfl⟩, by decide +kernel, by decide +kernel, rfl⟩
set_option maxHeartbeats 4000000 in
set_option maxRecDepth 100000 in
theorem c_X12_runText (l : Launch) (G : GG) {h : Hp} {M : Nat} {m : Md} (K : MdK h M) {t : List Nat} {c : Cmp} {r : Xr} {k : Nat} {ps : Nat → Cmp × Xr} (hS : MSt m t c r k ps)  : Con l G yX12_runText wsX12_runText 4 92 0 0 [.ref M] (Hm h M m) (pI (fun y h2 => (∃ j, dgB c.2.2.length t 0 = some j ∧ y = -10 - nI j ∧ h2 = Hm h M m) ∨ (dgB c.2.2.length t 0 = none ∧ y = runT c t 0 c.1 ∧ ∃ m2, h2 = Hm h M m2 ∧ MSt m2 [] c r k ps))) := by
  refine Con.of (cc := cX12_runText) (nL := 4) (ret := (some .int)) (by decide) rfl rfl rfl rfl (fun Γ hG hl X Y9 => ?_)
  subst hG
  subst hl
  obtain ⟨hT, hC, hX, ok, hp, hp6, hP⟩ := id hS
  obtain ⟨⟨⟨x1, x2⟩, ⟨x3, x4⟩, x5, x6, x7⟩, ok2, x8, x9⟩ := id ok
  have ok21 := ok2.2.1
  have tl := hT.2.1
  have loop2 : (∀ x ∈ t, 48 ≤ x ∧ x - 48 < c.2.2.length) → dgB c.2.2.length t 0 = none → ∀ (n j : Nat) (m1 : Md) (s : St), j + n = t.length → MFr (fun a k => scP a k ∨ (a = 0 ∧ k = 5)) m m1 → m1 0 5 = nI 0 → stM m1 5 = s → runT c (t.drop j) j s = runT c t 0 c.1 → V Γ 0 0 61 [(0, .ref M), (1, .int (nI t.length)), (2, .int (nI j))] [] (Hm h M m1) := by
    intro hd e0 n
    induction n with
    | zero =>
      intro j m1 s g1 F1 z5 h5 g3
      rw [List.drop_eq_nil_of_le (by omega)] at g3
      have g3 : nI 0 = runT c t 0 c.1 := g3
      have SS : MSt m1 [] c r k ps := hS.keep (fun x => F1 _ _ (fun z => by unfold scP at z; omega)) (F1 _ _ (fun z => by unfold scP at z; omega)) (fun x => F1 _ _ (fun z => by unfold scP at z; omega)) (TxM.nil z5)
      refine V.iload_n X dX12_runText_61 rfl ?_
      refine V.iload_n X dX12_runText_62 rfl ?_
      refine V.icmp_ge 97 X dX12_runText_63 (by decide) (fun c63 => ?_) (fun c63 => False.elim (by rw [nI_leI (by omega) (by omega)] at c63; omega))
      rw [nI_leI (by omega) (by omega)] at c63
      refine V.iconst (v := nI 0) X dX12_runText_97 (by decide) ?_
      exact V.iret X Y9 dX12_runText_98 (Or.inr ⟨e0, g3, m1, rfl, SS⟩) (Nat.le_of_ble_eq_true rfl) (Nat.le_of_ble_eq_true rfl)
    | succ n ih =>
      intro j m1 s g1 F1 z5 h5 g3
      have hj : j < t.length := by omega
      have SS : MSt m1 [] c r k ps := hS.keep (fun x => F1 _ _ (fun z => by unfold scP at z; omega)) (F1 _ _ (fun z => by unfold scP at z; omega)) (fun x => F1 _ _ (fun z => by unfold scP at z; omega)) (TxM.nil z5)
      have hdj := hd (ch t j) (getD_mem hj)
      have tx := hT.2.2 j hj
      obtain ⟨q, hq⟩ := get_some hdj.2
      have v4 : verd c (ch t j - 48) s ≤ 4 := verd_le
      rw [runT_drop hj] at g3
      have g3 : (if verd c (ch t j - 48) s = 0 then runT c (t.drop (j + 1)) (j + 1) (nxt c (ch t j - 48) s) else nI (10 * j + verd c (ch t j - 48) s)) = runT c t 0 c.1 := g3
      refine V.iload_n X dX12_runText_61 rfl ?_
      refine V.iload_n X dX12_runText_62 rfl ?_
      refine V.icmp_ge 97 X dX12_runText_63 (by decide) (fun c63 => False.elim (by rw [nI_leI (by omega) (by omega)] at c63; omega)) (fun c63 => ?_)
      rw [nI_leI (by omega) (by omega)] at c63
      refine V.aload_n X dX12_runText_66 rfl ?_
      refine V.aload_n X dX12_runText_67 rfl ?_
      refine V.mgr (k := 4) (a := 4) X K fX12_runText_19 dX12_runText_68 (by decide) ?_
      refine V.iload_n X dX12_runText_71 rfl ?_
      refine V.mld (x := nI (ch t j)) X K 4 200  dX12_runText_72 rfl rfl (by omega) ((F1 4 j (fun z => by unfold scP at z; omega)).trans tx.1) ?_
      refine V.bipush (v := nI 48) X dX12_runText_73 (by decide) ?_
      refine V.isubN X dX12_runText_75 (by omega) ?_
      refine V.callVi (n := 1) X dX12_runText_76 gX12_runText_X12_calls (c_X12_calls _ _ K SS.2.1 ok2 hq) rfl (by decide +kernel) rfl rfl rfl K.1 rfl rfl ⟨Nat.le_of_ble_eq_true rfl, Nat.le_of_ble_eq_true rfl⟩ (fun r76 h76 hp76 => ?_)
      obtain ⟨rfl, m2, rfl, G2, X2⟩ := hp76
      rw [h5] at X2 ⊢
      have F2 : MFr (fun a k => scP a k ∨ (a = 0 ∧ k = 5)) m m2 := F1.tr (G2.mono (fun _ _ z => Or.inl z))
      have z2 : m2 0 5 = nI 0 := (G2 0 5 (fun z => by unfold scP at z; omega)).trans z5
      refine V.istore_n X dX12_runText_79 [(0, _), (1, _), (2, _), (3, _)] rfl rfl rfl ?_
      refine V.iload_n X dX12_runText_80 rfl ?_
      refine V.if_eq 91 X dX12_runText_81 (by decide) (fun c81 => ?_) (fun c81 => ?_)
      · rw [show (0 : Int32) = nI 0 from rfl, nI_eq (by omega) (by omega)] at c81
        rw [if_pos c81] at g3
        refine V.iinc  X dX12_runText_91 [(0, _), (1, _), (2, _), (3, _)] rfl (nI_1 _) rfl rfl rfl ?_
        refine V.goto 61 X dX12_runText_94 (by decide) ?_
        refine V.drop [(0, _), (1, _), (2, _)] [0, 1, 2] rfl ?_
        exact ih (j + 1) m2 _ (by omega) F2 z2 (X2 c81) g3
      · rw [show (0 : Int32) = nI 0 from rfl, nI_eq (by omega) (by omega)] at c81
        rw [if_neg c81] at g3
        refine V.bipush (v := nI 10) X dX12_runText_84 (by decide) ?_
        refine V.iload_n X dX12_runText_86 rfl ?_
        refine V.imulN X dX12_runText_87 ?_
        refine V.iload_n X dX12_runText_88 rfl ?_
        refine V.iaddN X dX12_runText_89 ?_
        exact V.iret X Y9 dX12_runText_90 (Or.inr ⟨e0, g3, m2, rfl, SS.keep (fun x => G2 _ _ (fun z => by unfold scP at z; omega)) (G2 _ _ (fun z => by unfold scP at z; omega)) (fun x => G2 _ _ (fun z => by unfold scP at z; omega)) (TxM.nil z2)⟩) (Nat.le_of_ble_eq_true rfl) (Nat.le_of_ble_eq_true rfl)
  have loop1 : ∀ (n j : Nat), j + n = t.length → dgB c.2.2.length (t.drop j) j = dgB c.2.2.length t 0 → V Γ 0 0 2 [(0, .ref M), (1, .int (nI j))] [] (Hm h M m) := by
    intro n
    induction n with
    | zero =>
      intro j g1 g3
      rw [List.drop_eq_nil_of_le (by omega)] at g3
      have e0 : dgB c.2.2.length t 0 = none := g3.symm
      have tb : ∀ x ∈ t, x < 256 := fun x hx => by
        obtain ⟨i, hi, rfl⟩ := List.getElem_of_mem hx
        have := (hT.2.2 i hi).2
        unfold ch at this
        rwa [List.getD_eq_getElem?_getD, List.getElem?_eq_getElem hi] at this
      have hd := dgB_ok (by omega) t 0 tb e0
      refine V.iload_n X dX12_runText_2 rfl ?_
      refine V.aload_n X dX12_runText_3 rfl ?_
      refine V.mgf  X K fX12_runText_44 dX12_runText_4 rfl hT.1 ?_
      refine V.icmp_ge 45 X dX12_runText_7 (by decide) (fun c7 => ?_) (fun c7 => False.elim (by rw [nI_leI (by omega) (by omega)] at c7; omega))
      rw [nI_leI (by omega) (by omega)] at c7
      refine V.aload_n X dX12_runText_45 rfl ?_
      refine V.mgf  X K fX12_runText_44 dX12_runText_46 rfl hT.1 ?_
      refine V.istore_n X dX12_runText_49 [(0, _), (1, _)] rfl rfl rfl ?_
      refine V.aload_n X dX12_runText_50 rfl ?_
      refine V.iconst (v := nI 0) X dX12_runText_51 (by decide) ?_
      refine V.mpf X K fX12_runText_44 dX12_runText_52 rfl rfl rfl ?_
      refine V.aload_n X dX12_runText_55 rfl ?_
      refine V.callVv (n := 0) X dX12_runText_56 gX12_runText_X12_begin (c_X12_begin _ _ K) rfl (by decide +kernel) rfl rfl rfl K.1 rfl rfl ⟨Nat.le_of_ble_eq_true rfl, Nat.le_of_ble_eq_true rfl⟩ (fun h56 hp56 => ?_)
      obtain rfl := hp56.symm
      refine V.iconst (v := nI 0) X dX12_runText_59 (by decide) ?_
      refine V.istore_n X dX12_runText_60 [(0, _), (1, _), (2, _)] rfl rfl rfl ?_
      have F1 : MFr (fun a k => scP a k ∨ (a = 0 ∧ k = 5)) m (cpy (mput m 0 5 (nI 0)) 5 1 0 0 3) := fun a x hx => (if_neg (fun z => hx (Or.inl ⟨Or.inl z.1, by omega⟩))).trans (if_neg (fun z => hx (Or.inr z)))
      have h5 : stM (cpy (mput m 0 5 (nI 0)) 5 1 0 0 3) 5 = c.1 := by
        show (m 1 0, m 1 1, m 1 2) = _
        rw [hC.1.1, hC.1.2.1, hC.1.2.2]
      exact loop2 hd e0 t.length 0 _ c.1 (Nat.zero_add _) F1 rfl h5 rfl
    | succ n ih =>
      intro j g1 g3
      have hj : j < t.length := by omega
      have tx := hT.2.2 j hj
      rw [dgB_drop hj] at g3
      have g3 : (if isIx (nI (ch t j) - nI 48) c.2.2.length = true then dgB c.2.2.length (t.drop (j + 1)) (j + 1) else some j) = dgB c.2.2.length t 0 := g3
      refine V.iload_n X dX12_runText_2 rfl ?_
      refine V.aload_n X dX12_runText_3 rfl ?_
      refine V.mgf  X K fX12_runText_44 dX12_runText_4 rfl hT.1 ?_
      refine V.icmp_ge 45 X dX12_runText_7 (by decide) (fun c7 => False.elim (by rw [nI_leI (by omega) (by omega)] at c7; omega)) (fun c7 => ?_)
      rw [nI_leI (by omega) (by omega)] at c7
      refine V.aload_n X dX12_runText_10 rfl ?_
      refine V.mgr (k := 4) (a := 4) X K fX12_runText_19 dX12_runText_11 (by decide) ?_
      refine V.iload_n X dX12_runText_14 rfl ?_
      refine V.mld  X K 4 200  dX12_runText_15 rfl rfl (by omega) tx.1 ?_
      refine V.bipush (v := nI 48) X dX12_runText_16 (by decide) ?_
      refine V.isub X dX12_runText_18 ?_
      refine V.iconst (v := nI 0) X dX12_runText_19 (by decide) ?_
      refine V.aload_n X dX12_runText_20 rfl ?_
      refine V.mgr (k := 0) (a := 1) X K fX12_runText_7 dX12_runText_21 (by decide) ?_
      refine V.iconst (v := nI 4) X dX12_runText_24 (by decide) ?_
      refine V.mld  X K 1 1178  dX12_runText_25 rfl rfl (by omega) hC.2.2.1 ?_
      refine V.iconst (v := nI 1) X dX12_runText_26 (by decide) ?_
      refine V.isub X dX12_runText_27 ?_
      refine V.callSi (n := 3) X dX12_runText_28 gX12_runText_X12_in (c_X12_in _ _) rfl (by decide +kernel) rfl rfl rfl ⟨Nat.le_of_ble_eq_true rfl, Nat.le_of_ble_eq_true rfl⟩ (fun r28 h28 hp28 => ?_)
      obtain ⟨rfl, e9⟩ := hp28; obtain rfl := e9.symm
      rw [inB_ix (by omega)]
      refine V.if_ne 39 X dX12_runText_31 (by decide) (fun c31 => ?_) (fun c31 => ?_)
      · have c31 := bI_ne c31
        rw [if_pos c31] at g3
        refine V.iinc  X dX12_runText_39 [(0, _), (1, _)] rfl (nI_1 _) rfl rfl rfl ?_
        refine V.goto 2 X dX12_runText_42 (by decide) ?_
        exact ih (j + 1) (by omega) g3
      · have c31 := bI_eq c31
        rw [if_neg (by rw [c31]; decide)] at g3
        refine V.bipush (v := -10) X dX12_runText_34 (by decide) ?_
        refine V.iload_n X dX12_runText_36 rfl ?_
        refine V.isub X dX12_runText_37 ?_
        exact V.iret X Y9 dX12_runText_38 (Or.inl ⟨j, g3.symm, rfl, rfl⟩) (Nat.le_of_ble_eq_true rfl) (Nat.le_of_ble_eq_true rfl)
  refine V.iconst (v := nI 0) X dX12_runText_0 (by decide) ?_
  refine V.istore_n X dX12_runText_1 [(0, _), (1, _)] rfl rfl rfl ?_
  exact loop1 t.length 0 (Nat.zero_add _) rfl
