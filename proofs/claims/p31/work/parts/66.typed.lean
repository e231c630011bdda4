/-! A COMPONENT IS TYPED -/
def AI (h : Hp) (A : Nat) (hv : Nat → Int32) : Prop := Hk h A = some (.inr (0, 64)) ∧ ∀ k, Hv h A k = .int (hv k)
def TY (G : GG) (h : Hp) (T A : Nat) (t : List Nat) (z : Zt) (hv : Nat → Int32) : Prop := TX G h T t z ∧ AI h A hv ∧ WF h
theorem TY.put {G : GG} {h : Hp} {T A : Nat} {t : List Nat} {z : Zt} {hv : Nat → Int32} (q : TY G h T A t z hv) (hA : T + 1213 ≤ A) (j : Nat) (x : Int32) : ∃ hv', TY G (Hput h A j (.int x)) T A t z hv' ∧ hv' j = x ∧ ∀ i, ¬ i = j → hv' i = hv i := by
  obtain ⟨a, ⟨b, c⟩, w⟩ := q
  refine ⟨fup hv j x, ⟨a.arr w hA b, ⟨b, fun k => ?_⟩, w⟩, fup_at, fun i hi => fup_ne hi⟩
  by_cases e : k = j
  · subst e
    rw [Hv_put_at, fup_at]
  · rw [Hv_put_k _ _ _ _ e, fup_ne e]
    exact c k
theorem TY.cal {G : GG} {h h2 : Hp} {T A : Nat} {t x : List Nat} {z : Zt} {hv : Nat → Int32} (q : TY G h T A t z hv) (hA : T + 1213 ≤ A) (hp : TX G h2 T (t ++ x) z ∧ Kp T h h2) (w : WF h2) (k : Nat) (hk : x.length ≤ k) : ∃ t', TY G h2 T A t' z hv ∧ t' = t ++ x ∧ t'.length ≤ t.length + k := by
  obtain ⟨a, ⟨b, c⟩, -⟩ := q
  obtain ⟨k1, k2⟩ := hp.2 A 64 hA b
  refine ⟨_, ⟨hp.1, ⟨k1, fun j => (k2 j).trans (c j)⟩, w⟩, rfl, ?_⟩
  rw [List.length_append]
  omega
theorem ini_v : ∀ j, j < 15 → nI j - nI 7 = nI (j + 93) - nI 100 := by decide +kernel
theorem sgn_v : ∀ j, j < 3 → (nI j - nI 1 = 0 ↔ j = 1) ∧ (nI j - nI 1 ≤ 0 ↔ j ≤ 1) := by decide +kernel
theorem and_1 (x : Int32) : ∃ j, j < 2 ∧ x &&& nI 1 = nI j := by
  obtain ⟨j, h1, h2⟩ := pk_andE x (m := nI 1) 1 (by decide)
  exact ⟨j, h1, h2⟩
theorem wd_init : wOk 452823970848 ∧ wdB 452823970848 8 = [105, 110, 105, 116, 32] := by
  unfold wOk
  decide +kernel
theorem wd_inva : wOk 7597139782324019566 ∧ wdB 7597139782324019566 8 = [105, 110, 118, 97, 114, 105, 97, 110] := by
  unfold wOk
  decide +kernel
theorem wd_t : wOk 29728 ∧ wdB 29728 8 = [116, 32] := by
  unfold wOk
  decide +kernel
theorem wd_meth : wOk 30792323104203808 ∧ wdB 30792323104203808 8 = [109, 101, 116, 104, 111, 100, 32] := by
  unfold wOk
  decide +kernel
theorem wd_req : wOk 8243119442065777952 ∧ wdB 8243119442065777952 8 = [114, 101, 113, 117, 105, 114, 101, 32] := by
  unfold wOk
  decide +kernel
theorem wd_do : wOk 6582048 ∧ wdB 6582048 8 = [100, 111, 32] := by
  unfold wOk
  decide +kernel
theorem wd_ens : wOk 2334393424032195872 ∧ wdB 2334393424032195872 8 = [32, 101, 110, 115, 117, 114, 101, 32] := by
  unfold wOk
  decide +kernel
theorem cat_in (f v : Nat) : [105, 110, 105, 116, 32] ++ [120 + f] ++ catL (odS v) ++ [59] = catL (inS f v) := by
  simp [inS, wInit, catL, catL_app, List.append_assoc]
theorem cat_iv (S : List (List Nat)) (a l b : Nat) : catL S ++ [105, 110, 118, 97, 114, 105, 97, 110] ++ [116, 32] ++ catL (cnS a l b) ++ [59] = catL (S ++ ivS a l b) := by
  simp [ivS, wInv, catL, catL_app, List.append_assoc]
theorem cat_mA0 (S : List (List Nat)) : catL S ++ [109, 101, 116, 104, 111, 100, 32] = catL (S ++ mtA none) := by
  simp [mtA, rqT, wMeth, catL, catL_app]
theorem cat_mA1 (S : List (List Nat)) (a l b : Nat) : catL S ++ [109, 101, 116, 104, 111, 100, 32] ++ [114, 101, 113, 117, 105, 114, 101, 32] ++ catL (cnS a l b) ++ [32] = catL (S ++ mtA (some (a, l, b))) := by
  simp [mtA, rqT, rqS, wMeth, wReq, catL, catL_app, List.append_assoc]
theorem cat_mB0 (S : List (List Nat)) (q : Option (Nat × Nat × Nat)) (f a : Nat) : catL (S ++ mtA q) ++ [100, 111, 32] ++ [120 + f] ++ [61] ++ catL (odS a) = catL (S ++ mtB q f a none) := by
  simp [mtB, asS, sgS, catL, catL_app, List.append_assoc]
theorem cat_mB1 (S : List (List Nat)) (q : Option (Nat × Nat × Nat)) (f a c b : Nat) : catL (S ++ mtA q) ++ [100, 111, 32] ++ [120 + f] ++ [61] ++ catL (odS a) ++ [c] ++ catL (odS b) = catL (S ++ mtB q f a (some (c, b))) := by
  simp [mtB, asS, sgS, catL, catL_app, List.append_assoc]
theorem cat_mC0 (S : List (List Nat)) (q : Option (Nat × Nat × Nat)) (f a : Nat) (g : Option (Nat × Nat)) : catL (S ++ mtB q f a g) = catL (S ++ mtC q f a g none) := by
  simp [mtC, enT, catL, catL_app, List.append_assoc]
theorem cat_mC1 (S : List (List Nat)) (q : Option (Nat × Nat × Nat)) (f a : Nat) (g : Option (Nat × Nat)) (x l y : Nat) : catL (S ++ mtB q f a g) ++ [32, 101, 110, 115, 117, 114, 101, 32] ++ catL (cnS x l y) = catL (S ++ mtC q f a g (some (x, l, y))) := by
  simp [mtC, enT, rqS, wEns, catL, catL_app, List.append_assoc]
theorem cat_mD (S : List (List Nat)) (q : Option (Nat × Nat × Nat)) (f a : Nat) (g : Option (Nat × Nat)) (e : Option (Nat × Nat × Nat)) : catL (S ++ mtC q f a g e) ++ [59] = catL (S ++ (mtC q f a g e ++ [[59]])) := by
  simp [catL, catL_app, List.append_assoc]
set_option maxHeartbeats 4000000 in
set_option maxRecDepth 100000 in
theorem c_L_typed (l : Launch) (G : GG) {h : Hp} {T A : Nat} {z : Zt} (hA : T + 1213 ≤ A) {hv0 : Nat → Int32} (q0 : TX G h T [] z) (a0 : AI h A hv0) : Con l G yL_typed wsL_typed 10 221 328 131856 [.ref T, .ref (gX G).1, .int (nI 46), .ref A] h (pI (fun y h2 => ∃ j m S, Pg j m S ∧ j ≤ 5 ∧ 1 ≤ m ∧ m ≤ 3 ∧ y = nI m ∧ TX G h2 T (catL S) z)) := by
  refine Con.of (cc := cL_typed) (nL := 10) (ret := (some .int)) (by decide) rfl rfl rfl rfl (fun Γ hG hl X Y9 => ?_)
  subst hG
  subst hl
  have s237 : ∀ v : Int32, ∀ (M jj : Nat), 1 ≤ M → M ≤ 3 → jj ≤ 2 → ∀ (n m kc ks : Nat) (S : List (List Nat)) (h1 : Hp) (hv1 : Nat → Int32), m + n = M → kc ≤ 49 + 93 * m → ks ≤ 402 * (49 + 93 * m) → Pg (jj + m) m S → TY (cxG Γ) h1 T A (catL S) z hv1 → hv1 7 = nI M → (catL S).length ≤ 26 + 53 * m → V Γ kc ks 237 [(0, .ref T), (1, .ref (gX (cxG Γ)).1), (2, .int (nI 46)), (3, .ref A), (4, .int v), (6, .int (nI m))] [] h1 := by
    intro v M jj hM hM3 hj n
    induction n with
    | zero =>
      intro m kc ks S h1 hv1 g0 g1 g2 pg q1 e7 hl
      refine V.iload X dL_typed_237 rfl ?_
      refine V.aload_n X dL_typed_239 rfl ?_
      refine V.bipush (v := nI 7) X dL_typed_240 (by decide) ?_
      refine V.iald (j := _) (v := .int (nI M)) X dL_typed_242 q1.2.1.1 rfl (by omega) (by omega) ((q1.2.1.2 _).trans (congrArg Value.int (e7))) ?_
      refine V.icmp_ge 657 X dL_typed_243 (by decide) (fun c243 => ?_) (fun c243 => absurd (nI_le (show M ≤ m by omega) (by omega)) c243)
      refine V.aload_n X dL_typed_657 rfl ?_
      refine V.bipush (v := nI 7) X dL_typed_658 (by decide) ?_
      refine V.iald (j := _) (v := .int (nI M)) X dL_typed_660 q1.2.1.1 rfl (by omega) (by omega) ((q1.2.1.2 _).trans (congrArg Value.int (e7))) ?_
      exact V.iret X Y9 dL_typed_661 ⟨jj + m, m, S, pg, by omega, by omega, by omega, by rw [show M = m by omega], q1.1⟩ (by omega) (by omega)
    | succ n ih =>
      intro m kc ks S h1 hv1 g0 g1 g2 pg q1 e7 hl
      have hm2 : m ≤ 2 := by omega
      have s644 : ∀ (u : Int32) (q : Option (Nat × Nat × Nat)) (f a : Nat) (g : Option (Nat × Nat)) (e : Option (Nat × Nat × Nat)) (kc ks : Nat) (h1 : Hp) (hv1 : Nat → Int32), kc ≤ 49 + 93 * m + 92 → ks ≤ 402 * (49 + 93 * m + 92) → okm q f a g e → TY (cxG Γ) h1 T A (catL (S ++ mtC q f a g e)) z hv1 → hv1 7 = nI M → (catL (S ++ mtC q f a g e)).length ≤ 26 + 53 * m + 52 → V Γ kc ks 644 [(0, .ref T), (1, .ref (gX (cxG Γ)).1), (2, .int (nI 46)), (3, .ref A), (4, .int v), (6, .int (nI m)), (7, .int u), (8, .int (nI (8 + 12 * m)))] [] h1 := by
        intro u q f a g e kc ks h1 hv1 g1 g2 ok q1 e7 hl
        refine V.aload_n X dL_typed_644 rfl ?_
        refine V.bipush (v := nI 59) X dL_typed_645 (by decide) ?_
        refine V.callVi (n := 1) X dL_typed_647 gL_typed_X11_appendCharacter (c_app _ _ q1.1 (by omega) (by omega)) rfl (by decide +kernel) rfl rfl rfl q1.1.k rfl rfl ⟨by omega, by omega⟩ (fun r647 h647 hp647 => ?_)
        refine V.wf (fun w647 => ?_)
        obtain ⟨t647, q647, g647, l647⟩ := q1.cal hA hp647 w647 1 (Nat.le_refl _)
        refine V.pop X dL_typed_650 rfl ?_
        refine V.iinc (v := nI (m + 1)) X dL_typed_651 [(0, _), (1, _), (2, _), (3, _), (4, _), (6, _), (7, _), (8, _)] rfl (nI_1 m) rfl rfl rfl ?_
        refine V.goto 237 X dL_typed_654 (by decide) ?_
        have tx : t647 = catL (S ++ (mtC q f a g e ++ [[59]])) := by rw [g647, cat_mD]
        rw [tx] at q647 l647
        refine V.drop [(0, .ref T), (1, .ref (gX (cxG Γ)).1), (2, .int (nI 46)), (3, .ref A), (4, .int v), (6, .int (nI (m + 1)))] [0, 1, 2, 3, 4, 5] rfl ?_
        exact ih (m + 1) _ _ _ _ _ (by omega) (by omega) (by omega) (pg.mth (by omega) ok) q647 e7 (by omega)
      have s519 : ∀ (u : Int32) (q : Option (Nat × Nat × Nat)) (f a : Nat) (g : Option (Nat × Nat)) (kc ks : Nat) (h1 : Hp) (hv1 : Nat → Int32), kc ≤ 49 + 93 * m + 65 → ks ≤ 402 * (49 + 93 * m + 65) → okm q f a g none → TY (cxG Γ) h1 T A (catL (S ++ mtB q f a g)) z hv1 → hv1 7 = nI M → (catL (S ++ mtB q f a g)).length ≤ 26 + 53 * m + 33 → V Γ kc ks 519 [(0, .ref T), (1, .ref (gX (cxG Γ)).1), (2, .int (nI 46)), (3, .ref A), (4, .int v), (6, .int (nI m)), (7, .int u), (8, .int (nI (8 + 12 * m)))] [] h1 := by
        intro u q f a g kc ks h1 hv1 g1 g2 ok q1 e7 hl
        refine V.aload_n X dL_typed_519 rfl ?_
        refine V.iload X dL_typed_520 rfl ?_
        refine V.bipush (v := nI 8) X dL_typed_522 (by decide) ?_
        refine V.iadd X dL_typed_524 ?_
        refine V.iload X dL_typed_525 rfl ?_
        refine V.bipush (v := nI 20) X dL_typed_527 (by decide) ?_
        refine V.ishr X dL_typed_529 ?_
        refine V.iconst (v := nI 4) X dL_typed_530 (by decide) ?_
        refine V.callSi (n := 2) X dL_typed_531 gL_typed_L_low (c_L_low _ _ (n := 4) (by decide) (by decide)) rfl (by decide +kernel) rfl rfl rfl ⟨by omega, by omega⟩ (fun r531 h531 hp531 => ?_)
        obtain ⟨⟨j531, k531, rfl⟩, e9⟩ := hp531; obtain rfl := e9.symm
        have s542 : ∀ b kc ks : Nat, kc ≤ 49 + 93 * m + 65 → ks ≤ 402 * (49 + 93 * m + 65) → b < 2 → V Γ kc ks 542 [(0, .ref T), (1, .ref (gX (cxG Γ)).1), (2, .int (nI 46)), (3, .ref A), (4, .int v), (6, .int (nI m)), (7, .int u), (8, .int (nI (8 + 12 * m)))] [.int (nI b), .int (nI (8 + 12 * m) + nI 8), .ref A] h1 := by
          intro b kc ks g1 g2 hb
          refine V.iast (j := _) X dL_typed_542 q1.2.1.1 (nI_add _ _) (by omega) (by omega) ?_
          obtain ⟨v542, q542, e542, o542⟩ := q1.put hA (8 + 12 * m + 8) (nI b)
          generalize Hput h1 A (8 + 12 * m + 8) (.int (nI b)) = h542 at q542 ⊢
          refine V.aload_n X dL_typed_543 rfl ?_
          refine V.iload X dL_typed_544 rfl ?_
          refine V.bipush (v := nI 8) X dL_typed_546 (by decide) ?_
          refine V.iadd X dL_typed_548 ?_
          refine V.iald (j := _) (v := .int (nI b)) X dL_typed_549 q542.2.1.1 (nI_add _ _) (by omega) (by omega) ((q542.2.1.2 _).trans (congrArg Value.int (e542))) ?_
          refine V.iconst (v := nI 1) X dL_typed_550 (by decide) ?_
          refine V.icmp_ne 644 X dL_typed_551 (by decide) (fun c551 => ?_) (fun c551 => ?_)
          · rw [cat_mC0] at q542 hl
            exact s644 u q f a g none _ _ _ _ (by omega) (by omega) ok q542 ((o542 _ (by omega)).trans e7) (by omega)
          · refine V.aload_n X dL_typed_554 rfl ?_
            refine V.iload_n X dL_typed_555 rfl ?_
            refine V.bipush (v := nI 8) X dL_typed_556 (by decide) ?_
            refine V.iadd X dL_typed_558 ?_
            refine V.iload X dL_typed_559 rfl ?_
            refine V.iadd X dL_typed_561 ?_
            rw [nI_add, nI_add]
            refine V.callSi (n := 2) X dL_typed_562 gL_typed_L_cell (c_L_cell _ _ (by omega)) rfl (by decide +kernel) rfl rfl rfl ⟨by omega, by omega⟩ (fun r562 h562 hp562 => ?_)
            obtain rfl := hp562.symm
            refine V.istore X dL_typed_565 [(0, _), (1, _), (2, _), (3, _), (4, _), (6, _), (7, _), (8, _), (9, _)] rfl rfl rfl ?_
            refine V.aload_n X dL_typed_567 rfl ?_
            refine V.iload X dL_typed_568 rfl ?_
            refine V.bipush (v := nI 9) X dL_typed_570 (by decide) ?_
            refine V.iadd X dL_typed_572 ?_
            refine V.iload X dL_typed_573 rfl ?_
            refine V.bipush (v := nI 6) X dL_typed_575 (by decide) ?_
            refine V.callSi (n := 2) X dL_typed_577 gL_typed_L_low (c_L_low _ _ (n := 6) (by decide) (by decide)) rfl (by decide +kernel) rfl rfl rfl ⟨by omega, by omega⟩ (fun r577 h577 hp577 => ?_)
            obtain ⟨⟨j577, k577, rfl⟩, e9⟩ := hp577; obtain rfl := e9.symm
            refine V.iast (j := _) X dL_typed_580 q542.2.1.1 (nI_add _ _) (by omega) (by omega) ?_
            obtain ⟨v580, q580, e580, o580⟩ := q542.put hA (8 + 12 * m + 9) (nI j577)
            generalize Hput h542 A (8 + 12 * m + 9) (.int (nI j577)) = h580 at q580 ⊢
            refine V.aload_n X dL_typed_581 rfl ?_
            refine V.iload X dL_typed_582 rfl ?_
            refine V.bipush (v := nI 10) X dL_typed_584 (by decide) ?_
            refine V.iadd X dL_typed_586 ?_
            refine V.iload X dL_typed_587 rfl ?_
            refine V.iconst (v := nI 3) X dL_typed_589 (by decide) ?_
            refine V.ishr X dL_typed_590 ?_
            refine V.iconst (v := nI 3) X dL_typed_591 (by decide) ?_
            refine V.callSi (n := 2) X dL_typed_592 gL_typed_L_low (c_L_low _ _ (n := 3) (by decide) (by decide)) rfl (by decide +kernel) rfl rfl rfl ⟨by omega, by omega⟩ (fun r592 h592 hp592 => ?_)
            obtain ⟨⟨j592, k592, rfl⟩, e9⟩ := hp592; obtain rfl := e9.symm
            refine V.iast (j := _) X dL_typed_595 q580.2.1.1 (nI_add _ _) (by omega) (by omega) ?_
            obtain ⟨v595, q595, e595, o595⟩ := q580.put hA (8 + 12 * m + 10) (nI j592)
            generalize Hput h580 A (8 + 12 * m + 10) (.int (nI j592)) = h595 at q595 ⊢
            refine V.aload_n X dL_typed_596 rfl ?_
            refine V.iload X dL_typed_597 rfl ?_
            refine V.bipush (v := nI 11) X dL_typed_599 (by decide) ?_
            refine V.iadd X dL_typed_601 ?_
            refine V.iload X dL_typed_602 rfl ?_
            refine V.iconst (v := nI 5) X dL_typed_604 (by decide) ?_
            refine V.ishr X dL_typed_605 ?_
            refine V.bipush (v := nI 6) X dL_typed_606 (by decide) ?_
            refine V.callSi (n := 2) X dL_typed_608 gL_typed_L_drawn (c_L_drawn _ _ (n := 6) (by decide) (by decide)) rfl (by decide +kernel) rfl rfl rfl ⟨by omega, by omega⟩ (fun r608 h608 hp608 => ?_)
            obtain ⟨⟨j608, k608, rfl⟩, e9⟩ := hp608; obtain rfl := e9.symm
            refine V.iast (j := _) X dL_typed_611 q595.2.1.1 (nI_add _ _) (by omega) (by omega) ?_
            obtain ⟨v611, q611, e611, o611⟩ := q595.put hA (8 + 12 * m + 11) (nI j608)
            generalize Hput h595 A (8 + 12 * m + 11) (.int (nI j608)) = h611 at q611 ⊢
            refine V.aload_n X dL_typed_612 rfl ?_
            refine V.ldc2 (v := 2334393424032195872) X dL_typed_613 (by decide +kernel) ?_
            refine V.callSv (n := 2) X dL_typed_616 gL_typed_L_word (c_L_word _ _ q611.1 wd_ens.1 (by rw [wd_ens.2]; have : (([32, 101, 110, 115, 117, 114, 101, 32] : List Nat)).length = 8 := rfl; omega)) rfl (by decide +kernel) rfl rfl rfl ⟨by omega, by omega⟩ (fun h616 hp616 => ?_)
            rw [wd_ens.2] at hp616
            refine V.wf (fun w616 => ?_)
            obtain ⟨t616, q616, g616, l616⟩ := q611.cal hA hp616 w616 8 (Nat.le_refl _)
            refine V.aload_n X dL_typed_619 rfl ?_
            refine V.aload_n X dL_typed_620 rfl ?_
            refine V.iload X dL_typed_621 rfl ?_
            refine V.bipush (v := nI 9) X dL_typed_623 (by decide) ?_
            refine V.iadd X dL_typed_625 ?_
            refine V.iald (j := _) (v := .int (nI j577)) X dL_typed_626 q616.2.1.1 (nI_add _ _) (by omega) (by omega) ((q616.2.1.2 _).trans (congrArg Value.int ((o611 _ (by omega)).trans ((o595 _ (by omega)).trans e580)))) ?_
            refine V.aload_n X dL_typed_627 rfl ?_
            refine V.iload X dL_typed_628 rfl ?_
            refine V.bipush (v := nI 10) X dL_typed_630 (by decide) ?_
            refine V.iadd X dL_typed_632 ?_
            refine V.iald (j := _) (v := .int (nI j592)) X dL_typed_633 q616.2.1.1 (nI_add _ _) (by omega) (by omega) ((q616.2.1.2 _).trans (congrArg Value.int ((o611 _ (by omega)).trans e595))) ?_
            refine V.aload_n X dL_typed_634 rfl ?_
            refine V.iload X dL_typed_635 rfl ?_
            refine V.bipush (v := nI 11) X dL_typed_637 (by decide) ?_
            refine V.iadd X dL_typed_639 ?_
            refine V.iald (j := _) (v := .int (nI j608)) X dL_typed_640 q616.2.1.1 (nI_add _ _) (by omega) (by omega) ((q616.2.1.2 _).trans (congrArg Value.int (e611))) ?_
            have oa := od_l j577 (by omega)
            have ob := od_l j608 (by omega)
            refine V.callSv (n := 4) X dL_typed_641 gL_typed_L_condition (c_L_condition _ _ q616.1 (a := j577) (m := j592) (b := j608) (by omega) (by omega) (by omega) (by rw [cnS_len]; omega)) rfl (by decide +kernel) rfl rfl rfl ⟨by omega, by omega⟩ (fun h641 hp641 => ?_)
            refine V.wf (fun w641 => ?_)
            obtain ⟨t641, q641, g641, l641⟩ := q616.cal hA hp641 w641 11 (by rw [cnS_len]; omega)
            have tx : t641 = catL (S ++ mtC q f a g (some (j577, j592, j608))) := by rw [g641, g616, cat_mC1]
            rw [tx] at q641 l641
            refine V.drop [(0, .ref T), (1, .ref (gX (cxG Γ)).1), (2, .int (nI 46)), (3, .ref A), (4, .int v), (6, .int (nI m)), (7, .int u), (8, .int (nI (8 + 12 * m)))] [0, 1, 2, 3, 4, 5, 6, 7] rfl ?_
            exact s644 u q f a g (some (j577, j592, j608)) _ _ _ _ (by omega) (by omega) ⟨ok.1, ok.2.1, ok.2.2.1, ok.2.2.2.1, ok.2.2.2.2.1, by omega, k592, by omega, fun _ _ => rfl, fun _ _ => rfl⟩ q641 ((o611 _ (by omega)).trans ((o595 _ (by omega)).trans ((o580 _ (by omega)).trans ((o542 _ (by omega)).trans e7)))) (by omega)
        refine V.if_ne 541 X dL_typed_534 (by decide) (fun c534 => ?_) (fun c534 => ?_)
        · refine V.iconst (v := nI 0) X dL_typed_541 (by decide) ?_
          exact s542 _ _ _ (by omega) (by omega) (by decide)
        · refine V.iconst (v := nI 1) X dL_typed_537 (by decide) ?_
          refine V.goto 542 X dL_typed_538 (by decide) ?_
          exact s542 _ _ _ (by omega) (by omega) (by decide)
      have s369 : ∀ (u : Int32) (q : Option (Nat × Nat × Nat)) (kc ks : Nat) (h1 : Hp) (hv1 : Nat → Int32), kc ≤ 49 + 93 * m + 36 → ks ≤ 402 * (49 + 93 * m + 36) → okq false q → TY (cxG Γ) h1 T A (catL (S ++ mtA q)) z hv1 → hv1 7 = nI M → (catL (S ++ mtA q)).length ≤ 26 + 53 * m + 21 → V Γ kc ks 369 [(0, .ref T), (1, .ref (gX (cxG Γ)).1), (2, .int (nI 46)), (3, .ref A), (4, .int v), (6, .int (nI m)), (7, .int u), (8, .int (nI (8 + 12 * m)))] [] h1 := by
        intro u q kc ks h1 hv1 g1 g2 ok q1 e7 hl
        refine V.aload_n X dL_typed_369 rfl ?_
        refine V.iload X dL_typed_370 rfl ?_
        refine V.iconst (v := nI 4) X dL_typed_372 (by decide) ?_
        refine V.iadd X dL_typed_373 ?_
        refine V.iload X dL_typed_374 rfl ?_
        refine V.bipush (v := nI 11) X dL_typed_376 (by decide) ?_
        refine V.ishr X dL_typed_378 ?_
        refine V.iconst (v := nI 3) X dL_typed_379 (by decide) ?_
        refine V.callSi (n := 2) X dL_typed_380 gL_typed_L_low (c_L_low _ _ (n := 3) (by decide) (by decide)) rfl (by decide +kernel) rfl rfl rfl ⟨by omega, by omega⟩ (fun r380 h380 hp380 => ?_)
        obtain ⟨⟨j380, k380, rfl⟩, e9⟩ := hp380; obtain rfl := e9.symm
        refine V.iast (j := _) X dL_typed_383 q1.2.1.1 (nI_add _ _) (by omega) (by omega) ?_
        obtain ⟨v383, q383, e383, o383⟩ := q1.put hA (8 + 12 * m + 4) (nI j380)
        generalize Hput h1 A (8 + 12 * m + 4) (.int (nI j380)) = h383 at q383 ⊢
        refine V.aload_n X dL_typed_384 rfl ?_
        refine V.iload X dL_typed_385 rfl ?_
        refine V.iconst (v := nI 5) X dL_typed_387 (by decide) ?_
        refine V.iadd X dL_typed_388 ?_
        refine V.iload X dL_typed_389 rfl ?_
        refine V.bipush (v := nI 13) X dL_typed_391 (by decide) ?_
        refine V.ishr X dL_typed_393 ?_
        refine V.iconst (v := nI 3) X dL_typed_394 (by decide) ?_
        refine V.callSi (n := 2) X dL_typed_395 gL_typed_L_drawn (c_L_drawn _ _ (n := 3) (by decide) (by decide)) rfl (by decide +kernel) rfl rfl rfl ⟨by omega, by omega⟩ (fun r395 h395 hp395 => ?_)
        obtain ⟨⟨j395, k395, rfl⟩, e9⟩ := hp395; obtain rfl := e9.symm
        refine V.iast (j := _) X dL_typed_398 q383.2.1.1 (nI_add _ _) (by omega) (by omega) ?_
        obtain ⟨v398, q398, e398, o398⟩ := q383.put hA (8 + 12 * m + 5) (nI j395)
        generalize Hput h383 A (8 + 12 * m + 5) (.int (nI j395)) = h398 at q398 ⊢
        refine V.aload_n X dL_typed_399 rfl ?_
        refine V.iload X dL_typed_400 rfl ?_
        refine V.bipush (v := nI 6) X dL_typed_402 (by decide) ?_
        refine V.iadd X dL_typed_404 ?_
        refine V.iload X dL_typed_405 rfl ?_
        refine V.bipush (v := nI 18) X dL_typed_407 (by decide) ?_
        refine V.ishr X dL_typed_409 ?_
        refine V.iconst (v := nI 3) X dL_typed_410 (by decide) ?_
        refine V.callSi (n := 2) X dL_typed_411 gL_typed_L_low (c_L_low _ _ (n := 3) (by decide) (by decide)) rfl (by decide +kernel) rfl rfl rfl ⟨by omega, by omega⟩ (fun r411 h411 hp411 => ?_)
        obtain ⟨⟨j411, k411, rfl⟩, e9⟩ := hp411; obtain rfl := e9.symm
        refine V.iconst (v := nI 1) X dL_typed_414 (by decide) ?_
        refine V.isub X dL_typed_415 ?_
        refine V.iast (j := _) X dL_typed_416 q398.2.1.1 (nI_add _ _) (by omega) (by omega) ?_
        obtain ⟨v416, q416, e416, o416⟩ := q398.put hA (8 + 12 * m + 6) (nI j411 - nI 1)
        generalize Hput h398 A (8 + 12 * m + 6) (.int (nI j411 - nI 1)) = h416 at q416 ⊢
        refine V.aload_n X dL_typed_417 rfl ?_
        refine V.iload X dL_typed_418 rfl ?_
        refine V.bipush (v := nI 7) X dL_typed_420 (by decide) ?_
        refine V.iadd X dL_typed_422 ?_
        refine V.aload_n X dL_typed_423 rfl ?_
        refine V.iload_n X dL_typed_424 rfl ?_
        refine V.iconst (v := nI 5) X dL_typed_425 (by decide) ?_
        refine V.iadd X dL_typed_426 ?_
        refine V.iload X dL_typed_427 rfl ?_
        refine V.iadd X dL_typed_429 ?_
        rw [nI_add, nI_add]
        refine V.callSi (n := 2) X dL_typed_430 gL_typed_L_cell (c_L_cell _ _ (by omega)) rfl (by decide +kernel) rfl rfl rfl ⟨by omega, by omega⟩ (fun r430 h430 hp430 => ?_)
        obtain rfl := hp430.symm
        refine V.iconst (v := nI 3) X dL_typed_433 (by decide) ?_
        refine V.callSi (n := 2) X dL_typed_434 gL_typed_L_drawn (c_L_drawn _ _ (n := 3) (by decide) (by decide)) rfl (by decide +kernel) rfl rfl rfl ⟨by omega, by omega⟩ (fun r434 h434 hp434 => ?_)
        obtain ⟨⟨j434, k434, rfl⟩, e9⟩ := hp434; obtain rfl := e9.symm
        refine V.iast (j := _) X dL_typed_437 q416.2.1.1 (nI_add _ _) (by omega) (by omega) ?_
        obtain ⟨v437, q437, e437, o437⟩ := q416.put hA (8 + 12 * m + 7) (nI j434)
        generalize Hput h416 A (8 + 12 * m + 7) (.int (nI j434)) = h437 at q437 ⊢
        refine V.aload_n X dL_typed_438 rfl ?_
        refine V.ldc2 (v := 6582048) X dL_typed_439 (by decide +kernel) ?_
        refine V.callSv (n := 2) X dL_typed_442 gL_typed_L_word (c_L_word _ _ q437.1 wd_do.1 (by rw [wd_do.2]; have : (([100, 111, 32] : List Nat)).length = 3 := rfl; omega)) rfl (by decide +kernel) rfl rfl rfl ⟨by omega, by omega⟩ (fun h442 hp442 => ?_)
        rw [wd_do.2] at hp442
        refine V.wf (fun w442 => ?_)
        obtain ⟨t442, q442, g442, l442⟩ := q437.cal hA hp442 w442 3 (Nat.le_refl _)
        refine V.aload_n X dL_typed_445 rfl ?_
        refine V.bipush (v := nI 120) X dL_typed_446 (by decide) ?_
        refine V.aload_n X dL_typed_448 rfl ?_
        refine V.iload X dL_typed_449 rfl ?_
        refine V.iconst (v := nI 4) X dL_typed_451 (by decide) ?_
        refine V.iadd X dL_typed_452 ?_
        refine V.iald (j := _) (v := .int (nI j380)) X dL_typed_453 q442.2.1.1 (nI_add _ _) (by omega) (by omega) ((q442.2.1.2 _).trans (congrArg Value.int ((o437 _ (by omega)).trans ((o416 _ (by omega)).trans ((o398 _ (by omega)).trans e383))))) ?_
        refine V.iadd X dL_typed_454 ?_
        rw [nI_add]
        refine V.callVi (n := 1) X dL_typed_455 gL_typed_X11_appendCharacter (c_app _ _ q442.1 (by omega) (by omega)) rfl (by decide +kernel) rfl rfl rfl q442.1.k rfl rfl ⟨by omega, by omega⟩ (fun r455 h455 hp455 => ?_)
        refine V.wf (fun w455 => ?_)
        obtain ⟨t455, q455, g455, l455⟩ := q442.cal hA hp455 w455 1 (Nat.le_refl _)
        refine V.pop X dL_typed_458 rfl ?_
        refine V.aload_n X dL_typed_459 rfl ?_
        refine V.bipush (v := nI 61) X dL_typed_460 (by decide) ?_
        refine V.callVi (n := 1) X dL_typed_462 gL_typed_X11_appendCharacter (c_app _ _ q455.1 (by omega) (by omega)) rfl (by decide +kernel) rfl rfl rfl q455.1.k rfl rfl ⟨by omega, by omega⟩ (fun r462 h462 hp462 => ?_)
        refine V.wf (fun w462 => ?_)
        obtain ⟨t462, q462, g462, l462⟩ := q455.cal hA hp462 w462 1 (Nat.le_refl _)
        refine V.pop X dL_typed_465 rfl ?_
        refine V.aload_n X dL_typed_466 rfl ?_
        refine V.aload_n X dL_typed_467 rfl ?_
        refine V.iload X dL_typed_468 rfl ?_
        refine V.iconst (v := nI 5) X dL_typed_470 (by decide) ?_
        refine V.iadd X dL_typed_471 ?_
        refine V.iald (j := _) (v := .int (nI j395)) X dL_typed_472 q462.2.1.1 (nI_add _ _) (by omega) (by omega) ((q462.2.1.2 _).trans (congrArg Value.int ((o437 _ (by omega)).trans ((o416 _ (by omega)).trans e398)))) ?_
        have oa := od_l j395 (by omega)
        refine V.callSv (n := 2) X dL_typed_473 gL_typed_L_operand (c_L_operand _ _ q462.1 (v := j395) (by omega) (by omega)) rfl (by decide +kernel) rfl rfl rfl ⟨by omega, by omega⟩ (fun h473 hp473 => ?_)
        refine V.wf (fun w473 => ?_)
        obtain ⟨t473, q473, g473, l473⟩ := q462.cal hA hp473 w473 3 (by omega)
        have e7b : v437 7 = nI M := (o437 _ (by omega)).trans ((o416 _ (by omega)).trans ((o398 _ (by omega)).trans ((o383 _ (by omega)).trans e7)))
        have sg := sgn_v j411 k411
        have s504 : ∀ c kc ks : Nat, kc ≤ 49 + 93 * m + 55 → ks ≤ 402 * (49 + 93 * m + 55) → (c = 43 ∨ c = 45) → V Γ kc ks 504 [(0, .ref T), (1, .ref (gX (cxG Γ)).1), (2, .int (nI 46)), (3, .ref A), (4, .int v), (6, .int (nI m)), (7, .int u), (8, .int (nI (8 + 12 * m)))] [.int (nI c), .ref T] h473 := by
          intro c kc ks g1 g2 hc
          refine V.callVi (n := 1) X dL_typed_504 gL_typed_X11_appendCharacter (c_app _ _ q473.1 (by omega) (by omega)) rfl (by decide +kernel) rfl rfl rfl q473.1.k rfl rfl ⟨by omega, by omega⟩ (fun r504 h504 hp504 => ?_)
          refine V.wf (fun w504 => ?_)
          obtain ⟨t504, q504, g504, l504⟩ := q473.cal hA hp504 w504 1 (Nat.le_refl _)
          refine V.pop X dL_typed_507 rfl ?_
          refine V.aload_n X dL_typed_508 rfl ?_
          refine V.aload_n X dL_typed_509 rfl ?_
          refine V.iload X dL_typed_510 rfl ?_
          refine V.bipush (v := nI 7) X dL_typed_512 (by decide) ?_
          refine V.iadd X dL_typed_514 ?_
          refine V.iald (j := _) (v := .int (nI j434)) X dL_typed_515 q504.2.1.1 (nI_add _ _) (by omega) (by omega) ((q504.2.1.2 _).trans (congrArg Value.int (e437))) ?_
          have ob := od_l j434 (by omega)
          refine V.callSv (n := 2) X dL_typed_516 gL_typed_L_operand (c_L_operand _ _ q504.1 (v := j434) (by omega) (by omega)) rfl (by decide +kernel) rfl rfl rfl ⟨by omega, by omega⟩ (fun h516 hp516 => ?_)
          refine V.wf (fun w516 => ?_)
          obtain ⟨t516, q516, g516, l516⟩ := q504.cal hA hp516 w516 3 (by omega)
          have tx : t516 = catL (S ++ mtB q j380 j395 (some (c, j434))) := by rw [g516, g504, g473, g462, g455, g442, cat_mB1]
          rw [tx] at q516 l516
          exact s519 u q j380 j395 (some (c, j434)) _ _ _ _ (by omega) (by omega) ⟨ok, k380, by omega, by omega, ⟨hc, by omega, by omega⟩, trivial⟩ q516 e7b (by omega)
        refine V.aload_n X dL_typed_476 rfl ?_
        refine V.iload X dL_typed_477 rfl ?_
        refine V.bipush (v := nI 6) X dL_typed_479 (by decide) ?_
        refine V.iadd X dL_typed_481 ?_
        refine V.iald (j := _) (v := .int (nI j411 - nI 1)) X dL_typed_482 q473.2.1.1 (nI_add _ _) (by omega) (by omega) ((q473.2.1.2 _).trans (congrArg Value.int ((o437 _ (by omega)).trans e416))) ?_
        refine V.if_eq 519 X dL_typed_483 (by decide) (fun c483 => ?_) (fun c483 => ?_)
        · have tx : t473 = catL (S ++ mtB q j380 j395 none) := by rw [g473, g462, g455, g442, cat_mB0]
          rw [tx] at q473 l473
          exact s519 u q j380 j395 none _ _ _ _ (by omega) (by omega) ⟨ok, k380, by omega, by omega, trivial, trivial⟩ q473 e7b (by omega)
        · refine V.aload_n X dL_typed_486 rfl ?_
          refine V.aload_n X dL_typed_487 rfl ?_
          refine V.iload X dL_typed_488 rfl ?_
          refine V.bipush (v := nI 6) X dL_typed_490 (by decide) ?_
          refine V.iadd X dL_typed_492 ?_
          refine V.iald (j := _) (v := .int (nI j411 - nI 1)) X dL_typed_493 q473.2.1.1 (nI_add _ _) (by omega) (by omega) ((q473.2.1.2 _).trans (congrArg Value.int ((o437 _ (by omega)).trans e416))) ?_
          refine V.if_le 502 X dL_typed_494 (by decide) (fun c494 => ?_) (fun c494 => ?_)
          · refine V.bipush (v := nI 45) X dL_typed_502 (by decide) ?_
            first
              | exact s504 43 _ _ (by omega) (by omega) (Or.inl rfl)
              | exact s504 45 _ _ (by omega) (by omega) (Or.inr rfl)
          · refine V.bipush (v := nI 43) X dL_typed_497 (by decide) ?_
            refine V.goto 504 X dL_typed_499 (by decide) ?_
            first
              | exact s504 43 _ _ (by omega) (by omega) (Or.inl rfl)
              | exact s504 45 _ _ (by omega) (by omega) (Or.inr rfl)
      refine V.iload X dL_typed_237 rfl ?_
      refine V.aload_n X dL_typed_239 rfl ?_
      refine V.bipush (v := nI 7) X dL_typed_240 (by decide) ?_
      refine V.iald (j := _) (v := .int (nI M)) X dL_typed_242 q1.2.1.1 rfl (by omega) (by omega) ((q1.2.1.2 _).trans (congrArg Value.int (e7))) ?_
      refine V.icmp_ge 657 X dL_typed_243 (by decide) (fun c243 => absurd c243 (nI_nle9 (show m < M by omega) (by omega))) (fun c243 => ?_)
      refine V.aload_n X dL_typed_246 rfl ?_
      refine V.iload_n X dL_typed_247 rfl ?_
      refine V.iconst (v := nI 2) X dL_typed_248 (by decide) ?_
      refine V.iadd X dL_typed_249 ?_
      refine V.iload X dL_typed_250 rfl ?_
      refine V.iadd X dL_typed_252 ?_
      rw [nI_add, nI_add]
      refine V.callSi (n := 2) X dL_typed_253 gL_typed_L_cell (c_L_cell _ _ (by omega)) rfl (by decide +kernel) rfl rfl rfl ⟨by omega, by omega⟩ (fun r253 h253 hp253 => ?_)
      obtain rfl := hp253.symm
      refine V.istore X dL_typed_256 [(0, _), (1, _), (2, _), (3, _), (4, _), (6, _), (7, _)] rfl rfl rfl ?_
      refine V.bipush (v := nI 8) X dL_typed_258 (by decide) ?_
      refine V.bipush (v := nI 12) X dL_typed_260 (by decide) ?_
      refine V.iload X dL_typed_262 rfl ?_
      refine V.imul X dL_typed_264 ?_
      refine V.iadd X dL_typed_265 ?_
      rw [nI_mul, nI_add]
      refine V.istore X dL_typed_266 [(0, _), (1, _), (2, _), (3, _), (4, _), (6, _), (7, _), (8, _)] rfl rfl rfl ?_
      refine V.aload_n X dL_typed_268 rfl ?_
      refine V.ldc2 (v := 30792323104203808) X dL_typed_269 (by decide +kernel) ?_
      refine V.callSv (n := 2) X dL_typed_272 gL_typed_L_word (c_L_word _ _ q1.1 wd_meth.1 (by rw [wd_meth.2]; have : (([109, 101, 116, 104, 111, 100, 32] : List Nat)).length = 7 := rfl; omega)) rfl (by decide +kernel) rfl rfl rfl ⟨by omega, by omega⟩ (fun h272 hp272 => ?_)
      rw [wd_meth.2] at hp272
      refine V.wf (fun w272 => ?_)
      obtain ⟨t272, q272, g272, l272⟩ := q1.cal hA hp272 w272 7 (Nat.le_refl _)
      refine V.aload_n X dL_typed_275 rfl ?_
      refine V.iload X dL_typed_276 rfl ?_
      refine V.iload X dL_typed_278 rfl ?_
      refine V.iconst (v := nI 1) X dL_typed_280 (by decide) ?_
      refine V.iand X dL_typed_281 ?_
      obtain ⟨j282, k282, e282x⟩ := and_1 r253
      rw [e282x]
      refine V.iast (j := _) X dL_typed_282 q272.2.1.1 rfl (by omega) (by omega) ?_
      obtain ⟨v282, q282, e282, o282⟩ := q272.put hA (8 + 12 * m) (nI j282)
      generalize Hput h272 A (8 + 12 * m) (.int (nI j282)) = h282 at q282 ⊢
      refine V.aload_n X dL_typed_283 rfl ?_
      refine V.iload X dL_typed_284 rfl ?_
      refine V.iald (j := _) (v := .int (nI j282)) X dL_typed_286 q282.2.1.1 rfl (by omega) (by omega) ((q282.2.1.2 _).trans (congrArg Value.int (e282))) ?_
      refine V.iconst (v := nI 1) X dL_typed_287 (by decide) ?_
      refine V.icmp_ne 369 X dL_typed_288 (by decide) (fun c288 => ?_) (fun c288 => ?_)
      · have tx : t272 = catL (S ++ mtA none) := by rw [g272, cat_mA0]
        rw [tx] at q282 l272
        exact s369 r253 none _ _ _ _ (by omega) (by omega) trivial q282 ((o282 _ (by omega)).trans e7) (by omega)
      · refine V.aload_n X dL_typed_291 rfl ?_
        refine V.iload X dL_typed_292 rfl ?_
        refine V.iconst (v := nI 1) X dL_typed_294 (by decide) ?_
        refine V.iadd X dL_typed_295 ?_
        refine V.iload X dL_typed_296 rfl ?_
        refine V.iconst (v := nI 1) X dL_typed_298 (by decide) ?_
        refine V.ishr X dL_typed_299 ?_
        refine V.iconst (v := nI 3) X dL_typed_300 (by decide) ?_
        refine V.callSi (n := 2) X dL_typed_301 gL_typed_L_low (c_L_low _ _ (n := 3) (by decide) (by decide)) rfl (by decide +kernel) rfl rfl rfl ⟨by omega, by omega⟩ (fun r301 h301 hp301 => ?_)
        obtain ⟨⟨j301, k301, rfl⟩, e9⟩ := hp301; obtain rfl := e9.symm
        refine V.iast (j := _) X dL_typed_304 q282.2.1.1 (nI_add _ _) (by omega) (by omega) ?_
        obtain ⟨v304, q304, e304, o304⟩ := q282.put hA (8 + 12 * m + 1) (nI j301)
        generalize Hput h282 A (8 + 12 * m + 1) (.int (nI j301)) = h304 at q304 ⊢
        refine V.aload_n X dL_typed_305 rfl ?_
        refine V.iload X dL_typed_306 rfl ?_
        refine V.iconst (v := nI 2) X dL_typed_308 (by decide) ?_
        refine V.iadd X dL_typed_309 ?_
        refine V.iload X dL_typed_310 rfl ?_
        refine V.iconst (v := nI 3) X dL_typed_312 (by decide) ?_
        refine V.ishr X dL_typed_313 ?_
        refine V.iconst (v := nI 3) X dL_typed_314 (by decide) ?_
        refine V.callSi (n := 2) X dL_typed_315 gL_typed_L_low (c_L_low _ _ (n := 3) (by decide) (by decide)) rfl (by decide +kernel) rfl rfl rfl ⟨by omega, by omega⟩ (fun r315 h315 hp315 => ?_)
        obtain ⟨⟨j315, k315, rfl⟩, e9⟩ := hp315; obtain rfl := e9.symm
        refine V.iast (j := _) X dL_typed_318 q304.2.1.1 (nI_add _ _) (by omega) (by omega) ?_
        obtain ⟨v318, q318, e318, o318⟩ := q304.put hA (8 + 12 * m + 2) (nI j315)
        generalize Hput h304 A (8 + 12 * m + 2) (.int (nI j315)) = h318 at q318 ⊢
        refine V.aload_n X dL_typed_319 rfl ?_
        refine V.iload X dL_typed_320 rfl ?_
        refine V.iconst (v := nI 3) X dL_typed_322 (by decide) ?_
        refine V.iadd X dL_typed_323 ?_
        refine V.iload X dL_typed_324 rfl ?_
        refine V.iconst (v := nI 5) X dL_typed_326 (by decide) ?_
        refine V.ishr X dL_typed_327 ?_
        refine V.iconst (v := nI 3) X dL_typed_328 (by decide) ?_
        refine V.callSi (n := 2) X dL_typed_329 gL_typed_L_drawn (c_L_drawn _ _ (n := 3) (by decide) (by decide)) rfl (by decide +kernel) rfl rfl rfl ⟨by omega, by omega⟩ (fun r329 h329 hp329 => ?_)
        obtain ⟨⟨j329, k329, rfl⟩, e9⟩ := hp329; obtain rfl := e9.symm
        refine V.iast (j := _) X dL_typed_332 q318.2.1.1 (nI_add _ _) (by omega) (by omega) ?_
        obtain ⟨v332, q332, e332, o332⟩ := q318.put hA (8 + 12 * m + 3) (nI j329)
        generalize Hput h318 A (8 + 12 * m + 3) (.int (nI j329)) = h332 at q332 ⊢
        refine V.aload_n X dL_typed_333 rfl ?_
        refine V.ldc2 (v := 8243119442065777952) X dL_typed_334 (by decide +kernel) ?_
        refine V.callSv (n := 2) X dL_typed_337 gL_typed_L_word (c_L_word _ _ q332.1 wd_req.1 (by rw [wd_req.2]; have : (([114, 101, 113, 117, 105, 114, 101, 32] : List Nat)).length = 8 := rfl; omega)) rfl (by decide +kernel) rfl rfl rfl ⟨by omega, by omega⟩ (fun h337 hp337 => ?_)
        rw [wd_req.2] at hp337
        refine V.wf (fun w337 => ?_)
        obtain ⟨t337, q337, g337, l337⟩ := q332.cal hA hp337 w337 8 (Nat.le_refl _)
        refine V.aload_n X dL_typed_340 rfl ?_
        refine V.aload_n X dL_typed_341 rfl ?_
        refine V.iload X dL_typed_342 rfl ?_
        refine V.iconst (v := nI 1) X dL_typed_344 (by decide) ?_
        refine V.iadd X dL_typed_345 ?_
        refine V.iald (j := _) (v := .int (nI j301)) X dL_typed_346 q337.2.1.1 (nI_add _ _) (by omega) (by omega) ((q337.2.1.2 _).trans (congrArg Value.int ((o332 _ (by omega)).trans ((o318 _ (by omega)).trans e304)))) ?_
        refine V.aload_n X dL_typed_347 rfl ?_
        refine V.iload X dL_typed_348 rfl ?_
        refine V.iconst (v := nI 2) X dL_typed_350 (by decide) ?_
        refine V.iadd X dL_typed_351 ?_
        refine V.iald (j := _) (v := .int (nI j315)) X dL_typed_352 q337.2.1.1 (nI_add _ _) (by omega) (by omega) ((q337.2.1.2 _).trans (congrArg Value.int ((o332 _ (by omega)).trans e318))) ?_
        refine V.aload_n X dL_typed_353 rfl ?_
        refine V.iload X dL_typed_354 rfl ?_
        refine V.iconst (v := nI 3) X dL_typed_356 (by decide) ?_
        refine V.iadd X dL_typed_357 ?_
        refine V.iald (j := _) (v := .int (nI j329)) X dL_typed_358 q337.2.1.1 (nI_add _ _) (by omega) (by omega) ((q337.2.1.2 _).trans (congrArg Value.int (e332))) ?_
        have oa := od_l j301 (by omega)
        have ob := od_l j329 (by omega)
        refine V.callSv (n := 4) X dL_typed_359 gL_typed_L_condition (c_L_condition _ _ q337.1 (a := j301) (m := j315) (b := j329) (by omega) (by omega) (by omega) (by rw [cnS_len]; omega)) rfl (by decide +kernel) rfl rfl rfl ⟨by omega, by omega⟩ (fun h359 hp359 => ?_)
        refine V.wf (fun w359 => ?_)
        obtain ⟨t359, q359, g359, l359⟩ := q337.cal hA hp359 w359 5 (by rw [cnS_len]; omega)
        refine V.aload_n X dL_typed_362 rfl ?_
        refine V.bipush (v := nI 32) X dL_typed_363 (by decide) ?_
        refine V.callVi (n := 1) X dL_typed_365 gL_typed_X11_appendCharacter (c_app _ _ q359.1 (by omega) (by omega)) rfl (by decide +kernel) rfl rfl rfl q359.1.k rfl rfl ⟨by omega, by omega⟩ (fun r365 h365 hp365 => ?_)
        refine V.wf (fun w365 => ?_)
        obtain ⟨t365, q365, g365, l365⟩ := q359.cal hA hp365 w365 1 (Nat.le_refl _)
        refine V.pop X dL_typed_368 rfl ?_
        have tx : t365 = catL (S ++ mtA (some (j301, j315, j329))) := by rw [g365, g359, g337, g272, cat_mA1]
        rw [tx] at q365 l365
        exact s369 r253 (some (j301, j315, j329)) _ _ _ _ (by omega) (by omega) ⟨by omega, k315, by omega, fun h1 h2 => by omega, fun h1 h2 => by omega⟩ q365 ((o332 _ (by omega)).trans ((o318 _ (by omega)).trans ((o304 _ (by omega)).trans ((o282 _ (by omega)).trans e7)))) (by omega)
  have s219 : ∀ v : Int32, ∀ (kc ks jj : Nat) (S : List (List Nat)) (h1 : Hp) (hv1 : Nat → Int32), jj ≤ 2 → kc ≤ 49 → ks ≤ 402 * 49 → Pg jj 0 S → TX (cxG Γ) h1 T (catL S) z → (∃ t0, TY (cxG Γ) h1 T A t0 z hv1) → (catL S).length ≤ 26 → V Γ kc ks 219 [(0, .ref T), (1, .ref (gX (cxG Γ)).1), (2, .int (nI 46)), (3, .ref A), (4, .int v)] [] h1 := by
    intro v kc ks jj S h1 hv1 hj g1 g2 pg tx ty hl
    obtain ⟨t0, -, ai, wf1⟩ := ty
    have q1 : TY (cxG Γ) h1 T A (catL S) z hv1 := ⟨tx, ai, wf1⟩
    refine V.aload_n X dL_typed_219 rfl ?_
    refine V.bipush (v := nI 7) X dL_typed_220 (by decide) ?_
    refine V.iconst (v := nI 1) X dL_typed_222 (by decide) ?_
    refine V.iload X dL_typed_223 rfl ?_
    refine V.bipush (v := nI 7) X dL_typed_225 (by decide) ?_
    refine V.ishr X dL_typed_227 ?_
    refine V.iconst (v := nI 3) X dL_typed_228 (by decide) ?_
    refine V.callSi (n := 2) X dL_typed_229 gL_typed_L_low (c_L_low _ _ (n := 3) (by decide) (by decide)) rfl (by decide +kernel) rfl rfl rfl ⟨by omega, by omega⟩ (fun r229 h229 hp229 => ?_)
    obtain ⟨⟨j229, k229, rfl⟩, e9⟩ := hp229; obtain rfl := e9.symm
    refine V.iadd X dL_typed_232 ?_
    rw [nI_add]
    refine V.iast (j := _) X dL_typed_233 q1.2.1.1 rfl (by omega) (by omega) ?_
    obtain ⟨v233, q233, e233, o233⟩ := q1.put hA (7) (nI (1 + j229))
    generalize Hput h1 A (7) (.int (nI (1 + j229))) = h233 at q233 ⊢
    refine V.iconst (v := nI 0) X dL_typed_234 (by decide) ?_
    refine V.istore X dL_typed_235 [(0, _), (1, _), (2, _), (3, _), (4, _), (6, _)] rfl rfl rfl ?_
    exact s237 v (1 + j229) jj (by omega) (by omega) hj _ 0 _ _ S _ _ (Nat.zero_add _) (by omega) (by omega) pg q233 e233 hl
  have s27 : ∀ v : Int32, ∀ (j : Nat) (h1 : Hp) (hv1 : Nat → Int32), TY (cxG Γ) h1 T A [] z hv1 → V Γ 0 0 27 [(0, .ref T), (1, .ref (gX (cxG Γ)).1), (2, .int (nI 46)), (3, .ref A), (4, .int v), (5, .int (nI j))] [] h1 := by
    intro v j0 h1 hv1 q1
    have l0 : ([] : List Nat).length = 0 := rfl
    refine V.iload X dL_typed_27 rfl ?_
    refine V.iconst (v := nI 3) X dL_typed_29 (by decide) ?_
    refine V.callSi (n := 2) X dL_typed_30 gL_typed_L_low (c_L_low _ _ (n := 3) (by decide) (by decide)) rfl (by decide +kernel) rfl rfl rfl ⟨by omega, by omega⟩ (fun r30 h30 hp30 => ?_)
    obtain ⟨⟨j30, k30, rfl⟩, e9⟩ := hp30; obtain rfl := e9.symm
    refine V.istore X dL_typed_33 [(0, _), (1, _), (2, _), (3, _), (4, _), (5, _)] rfl rfl rfl ?_
    refine V.aload_n X dL_typed_35 rfl ?_
    refine V.iload X dL_typed_36 rfl ?_
    refine V.iload X dL_typed_38 rfl ?_
    refine V.iconst (v := nI 2) X dL_typed_40 (by decide) ?_
    refine V.ishr X dL_typed_41 ?_
    refine V.bipush (v := nI 15) X dL_typed_42 (by decide) ?_
    refine V.callSi (n := 2) X dL_typed_44 gL_typed_L_low (c_L_low _ _ (n := 15) (by decide) (by decide)) rfl (by decide +kernel) rfl rfl rfl ⟨by omega, by omega⟩ (fun r44 h44 hp44 => ?_)
    obtain ⟨⟨j44, k44, rfl⟩, e9⟩ := hp44; obtain rfl := e9.symm
    refine V.bipush (v := nI 7) X dL_typed_47 (by decide) ?_
    refine V.isub X dL_typed_49 ?_
    refine V.iast (j := _) X dL_typed_50 q1.2.1.1 rfl (by omega) (by omega) ?_
    obtain ⟨v50, q50, e50, o50⟩ := q1.put hA (j30) (nI j44 - nI 7)
    generalize Hput h1 A (j30) (.int (nI j44 - nI 7)) = h50 at q50 ⊢
    refine V.aload_n X dL_typed_51 rfl ?_
    refine V.ldc2 (v := 452823970848) X dL_typed_52 (by decide +kernel) ?_
    refine V.callSv (n := 2) X dL_typed_55 gL_typed_L_word (c_L_word _ _ q50.1 wd_init.1 (by rw [wd_init.2]; have : (([105, 110, 105, 116, 32] : List Nat)).length = 5 := rfl; omega)) rfl (by decide +kernel) rfl rfl rfl ⟨by omega, by omega⟩ (fun h55 hp55 => ?_)
    rw [wd_init.2] at hp55
    refine V.wf (fun w55 => ?_)
    obtain ⟨t55, q55, g55, l55⟩ := q50.cal hA hp55 w55 5 (Nat.le_refl _)
    refine V.aload_n X dL_typed_58 rfl ?_
    refine V.bipush (v := nI 120) X dL_typed_59 (by decide) ?_
    refine V.iload X dL_typed_61 rfl ?_
    refine V.iadd X dL_typed_63 ?_
    rw [nI_add]
    refine V.callVi (n := 1) X dL_typed_64 gL_typed_X11_appendCharacter (c_app _ _ q55.1 (by omega) (by omega)) rfl (by decide +kernel) rfl rfl rfl q55.1.k rfl rfl ⟨by omega, by omega⟩ (fun r64 h64 hp64 => ?_)
    refine V.wf (fun w64 => ?_)
    obtain ⟨t64, q64, g64, l64⟩ := q55.cal hA hp64 w64 1 (Nat.le_refl _)
    refine V.pop X dL_typed_67 rfl ?_
    refine V.aload_n X dL_typed_68 rfl ?_
    refine V.aload_n X dL_typed_69 rfl ?_
    refine V.iload X dL_typed_70 rfl ?_
    refine V.iald (j := _) (v := .int (nI (j44 + 93) - nI 100)) X dL_typed_72 q64.2.1.1 rfl (by omega) (by omega) ((q64.2.1.2 _).trans (congrArg Value.int (e50.trans (ini_v j44 k44)))) ?_
    have od73 := od_l (j44 + 93) (by omega)
    refine V.callSv (n := 2) X dL_typed_73 gL_typed_L_number (c_L_number _ _ q64.1 (v := j44 + 93) (by omega) (by omega) (by omega)) rfl (by decide +kernel) rfl rfl rfl ⟨by omega, by omega⟩ (fun h73 hp73 => ?_)
    refine V.wf (fun w73 => ?_)
    obtain ⟨t73, q73, g73, l73⟩ := q64.cal hA hp73 w73 3 (by omega)
    refine V.aload_n X dL_typed_76 rfl ?_
    refine V.bipush (v := nI 59) X dL_typed_77 (by decide) ?_
    refine V.callVi (n := 1) X dL_typed_79 gL_typed_X11_appendCharacter (c_app _ _ q73.1 (by omega) (by omega)) rfl (by decide +kernel) rfl rfl rfl q73.1.k rfl rfl ⟨by omega, by omega⟩ (fun r79 h79 hp79 => ?_)
    refine V.wf (fun w79 => ?_)
    obtain ⟨t79, q79, g79, l79⟩ := q73.cal hA hp79 w79 1 (Nat.le_refl _)
    refine V.pop X dL_typed_82 rfl ?_
    have pg : Pg 1 0 (inS j30 (j44 + 93)) := Pg.ini k30 (by omega) (by omega)
    have tx : t79 = catL (inS j30 (j44 + 93)) := by rw [g79, g73, g64, g55, ← cat_in]; rfl
    refine V.drop [(0, .ref T), (1, .ref (gX (cxG Γ)).1), (2, .int (nI 46)), (3, .ref A), (4, .int v)] [0, 1, 2, 3, 4] rfl ?_
    refine V.aload_n X dL_typed_83 rfl ?_
    refine V.iconst (v := nI 3) X dL_typed_84 (by decide) ?_
    refine V.iload X dL_typed_85 rfl ?_
    refine V.bipush (v := nI 6) X dL_typed_87 (by decide) ?_
    refine V.ishr X dL_typed_89 ?_
    refine V.iconst (v := nI 1) X dL_typed_90 (by decide) ?_
    refine V.iand X dL_typed_91 ?_
    obtain ⟨j92, k92, e92x⟩ := and_1 (v >>> (nI 6 &&& 31))
    rw [e92x]
    refine V.iast (j := _) X dL_typed_92 q79.2.1.1 rfl (by omega) (by omega) ?_
    obtain ⟨v92, q92, e92, o92⟩ := q79.put hA (3) (nI j92)
    generalize Hput h79 A (3) (.int (nI j92)) = h92 at q92 ⊢
    refine V.aload_n X dL_typed_93 rfl ?_
    refine V.iconst (v := nI 3) X dL_typed_94 (by decide) ?_
    refine V.iald (j := _) (v := .int (nI j92)) X dL_typed_95 q92.2.1.1 rfl (by omega) (by omega) ((q92.2.1.2 _).trans (congrArg Value.int (e92))) ?_
    refine V.iconst (v := nI 1) X dL_typed_96 (by decide) ?_
    refine V.icmp_ne 219 X dL_typed_97 (by decide) (fun c97 => ?_) (fun c97 => ?_)
    · exact s219 v _ _ 1 _ _ _ (by omega) (by omega) (by omega) pg (q92.1.txt tx) ⟨_, q92⟩ (by rw [← tx]; omega)
    · refine V.aload_n X dL_typed_100 rfl ?_
      refine V.iload_n X dL_typed_101 rfl ?_
      refine V.iconst (v := nI 1) X dL_typed_102 (by decide) ?_
      refine V.iadd X dL_typed_103 ?_
      rw [nI_add]
      refine V.callSi (n := 2) X dL_typed_104 gL_typed_L_cell (c_L_cell _ _ (by omega)) rfl (by decide +kernel) rfl rfl rfl ⟨by omega, by omega⟩ (fun r104 h104 hp104 => ?_)
      obtain rfl := hp104.symm
      refine V.istore X dL_typed_107 [(0, _), (1, _), (2, _), (3, _), (4, _), (6, _)] rfl rfl rfl ?_
      refine V.aload_n X dL_typed_109 rfl ?_
      refine V.iconst (v := nI 4) X dL_typed_110 (by decide) ?_
      refine V.iload X dL_typed_111 rfl ?_
      refine V.iconst (v := nI 3) X dL_typed_113 (by decide) ?_
      refine V.callSi (n := 2) X dL_typed_114 gL_typed_L_low (c_L_low _ _ (n := 3) (by decide) (by decide)) rfl (by decide +kernel) rfl rfl rfl ⟨by omega, by omega⟩ (fun r114 h114 hp114 => ?_)
      obtain ⟨⟨j114, k114, rfl⟩, e9⟩ := hp114; obtain rfl := e9.symm
      refine V.iast (j := _) X dL_typed_117 q92.2.1.1 rfl (by omega) (by omega) ?_
      obtain ⟨v117, q117, e117, o117⟩ := q92.put hA (4) (nI j114)
      generalize Hput h92 A (4) (.int (nI j114)) = h117 at q117 ⊢
      refine V.aload_n X dL_typed_118 rfl ?_
      refine V.iconst (v := nI 5) X dL_typed_119 (by decide) ?_
      refine V.iload X dL_typed_120 rfl ?_
      refine V.iconst (v := nI 2) X dL_typed_122 (by decide) ?_
      refine V.ishr X dL_typed_123 ?_
      refine V.iconst (v := nI 3) X dL_typed_124 (by decide) ?_
      refine V.callSi (n := 2) X dL_typed_125 gL_typed_L_low (c_L_low _ _ (n := 3) (by decide) (by decide)) rfl (by decide +kernel) rfl rfl rfl ⟨by omega, by omega⟩ (fun r125 h125 hp125 => ?_)
      obtain ⟨⟨j125, k125, rfl⟩, e9⟩ := hp125; obtain rfl := e9.symm
      refine V.iast (j := _) X dL_typed_128 q117.2.1.1 rfl (by omega) (by omega) ?_
      obtain ⟨v128, q128, e128, o128⟩ := q117.put hA (5) (nI j125)
      generalize Hput h117 A (5) (.int (nI j125)) = h128 at q128 ⊢
      refine V.aload_n X dL_typed_129 rfl ?_
      have s183 : ∀ b kc ks : Nat, kc ≤ 13 → ks ≤ 402 * 13 → b < 200 → ¬ (3 ≤ b ∧ b ≤ 5) → V Γ kc ks 183 [(0, .ref T), (1, .ref (gX (cxG Γ)).1), (2, .int (nI 46)), (3, .ref A), (4, .int v), (6, .int r104)] [.int (nI b), .int (nI 6), .ref A] h128 := by
        intro b kc ks g1 g2 b1 b2
        refine V.iast (j := _) X dL_typed_183 q128.2.1.1 rfl (by omega) (by omega) ?_
        obtain ⟨v183, q183, e183, o183⟩ := q128.put hA (6) (nI b)
        generalize Hput h128 A (6) (.int (nI b)) = h183 at q183 ⊢
        refine V.aload_n X dL_typed_184 rfl ?_
        refine V.ldc2 (v := 7597139782324019566) X dL_typed_185 (by decide +kernel) ?_
        refine V.callSv (n := 2) X dL_typed_188 gL_typed_L_word (c_L_word _ _ q183.1 wd_inva.1 (by rw [wd_inva.2]; have : (([105, 110, 118, 97, 114, 105, 97, 110] : List Nat)).length = 8 := rfl; omega)) rfl (by decide +kernel) rfl rfl rfl ⟨by omega, by omega⟩ (fun h188 hp188 => ?_)
        rw [wd_inva.2] at hp188
        refine V.wf (fun w188 => ?_)
        obtain ⟨t188, q188, g188, l188⟩ := q183.cal hA hp188 w188 8 (Nat.le_refl _)
        refine V.aload_n X dL_typed_191 rfl ?_
        refine V.ldc2 (v := 29728) X dL_typed_192 (by decide +kernel) ?_
        refine V.callSv (n := 2) X dL_typed_195 gL_typed_L_word (c_L_word _ _ q188.1 wd_t.1 (by rw [wd_t.2]; have : (([116, 32] : List Nat)).length = 2 := rfl; omega)) rfl (by decide +kernel) rfl rfl rfl ⟨by omega, by omega⟩ (fun h195 hp195 => ?_)
        rw [wd_t.2] at hp195
        refine V.wf (fun w195 => ?_)
        obtain ⟨t195, q195, g195, l195⟩ := q188.cal hA hp195 w195 2 (Nat.le_refl _)
        refine V.aload_n X dL_typed_198 rfl ?_
        refine V.aload_n X dL_typed_199 rfl ?_
        refine V.iconst (v := nI 4) X dL_typed_200 (by decide) ?_
        refine V.iald (j := _) (v := .int (nI j114)) X dL_typed_201 q195.2.1.1 rfl (by omega) (by omega) ((q195.2.1.2 _).trans (congrArg Value.int ((o183 _ (by omega)).trans ((o128 _ (by omega)).trans e117)))) ?_
        refine V.aload_n X dL_typed_202 rfl ?_
        refine V.iconst (v := nI 5) X dL_typed_203 (by decide) ?_
        refine V.iald (j := _) (v := .int (nI j125)) X dL_typed_204 q195.2.1.1 rfl (by omega) (by omega) ((q195.2.1.2 _).trans (congrArg Value.int ((o183 _ (by omega)).trans e128))) ?_
        refine V.aload_n X dL_typed_205 rfl ?_
        refine V.bipush (v := nI 6) X dL_typed_206 (by decide) ?_
        refine V.iald (j := _) (v := .int (nI b)) X dL_typed_208 q195.2.1.1 rfl (by omega) (by omega) ((q195.2.1.2 _).trans (congrArg Value.int (e183))) ?_
        have oa := od_l j114 (by omega)
        have ob := od_l b b1
        refine V.callSv (n := 4) X dL_typed_209 gL_typed_L_condition (c_L_condition _ _ q195.1 (a := j114) (m := j125) (b := b) (by omega) (by omega) (by omega) (by rw [cnS_len]; omega)) rfl (by decide +kernel) rfl rfl rfl ⟨by omega, by omega⟩ (fun h209 hp209 => ?_)
        refine V.wf (fun w209 => ?_)
        obtain ⟨t209, q209, g209, l209⟩ := q195.cal hA hp209 w209 5 (by rw [cnS_len]; omega)
        refine V.aload_n X dL_typed_212 rfl ?_
        refine V.bipush (v := nI 59) X dL_typed_213 (by decide) ?_
        refine V.callVi (n := 1) X dL_typed_215 gL_typed_X11_appendCharacter (c_app _ _ q209.1 (by omega) (by omega)) rfl (by decide +kernel) rfl rfl rfl q209.1.k rfl rfl ⟨by omega, by omega⟩ (fun r215 h215 hp215 => ?_)
        refine V.wf (fun w215 => ?_)
        obtain ⟨t215, q215, g215, l215⟩ := q209.cal hA hp215 w215 1 (Nat.le_refl _)
        refine V.pop X dL_typed_218 rfl ?_
        have tx2 : t215 = catL (inS j30 (j44 + 93) ++ ivS j114 j125 b) := by rw [g215, g209, g195, g188, tx, cat_iv]
        refine V.drop [(0, .ref T), (1, .ref (gX (cxG Γ)).1), (2, .int (nI 46)), (3, .ref A), (4, .int v)] [0, 1, 2, 3, 4] rfl ?_
        exact s219 v _ _ 2 _ _ _ (by omega) (by omega) (by omega) (pg.inv (by omega) (by omega) k125 b1 (by omega) b2) (q215.1.txt tx2) ⟨_, q215⟩ (by rw [← tx2]; omega)
      refine V.bipush (v := nI 6) X dL_typed_130 (by decide) ?_
      refine V.aload_n X dL_typed_132 rfl ?_
      refine V.iconst (v := nI 5) X dL_typed_133 (by decide) ?_
      refine V.iald (j := _) (v := .int (nI j125)) X dL_typed_134 q128.2.1.1 rfl (by omega) (by omega) ((q128.2.1.2 _).trans (congrArg Value.int (e128))) ?_
      refine V.if_ne 153 X dL_typed_135 (by decide) (fun c135 => ?_) (fun c135 => ?_)
      · refine V.aload_n X dL_typed_153 rfl ?_
        refine V.iconst (v := nI 5) X dL_typed_154 (by decide) ?_
        refine V.iald (j := _) (v := .int (nI j125)) X dL_typed_155 q128.2.1.1 rfl (by omega) (by omega) ((q128.2.1.2 _).trans (congrArg Value.int (e128))) ?_
        refine V.iconst (v := nI 2) X dL_typed_156 (by decide) ?_
        refine V.icmp_ne 175 X dL_typed_157 (by decide) (fun c157 => ?_) (fun c157 => ?_)
        · refine V.iload X dL_typed_175 rfl ?_
          refine V.iconst (v := nI 4) X dL_typed_177 (by decide) ?_
          refine V.ishr X dL_typed_178 ?_
          refine V.iconst (v := nI 3) X dL_typed_179 (by decide) ?_
          refine V.callSi (n := 2) X dL_typed_180 gL_typed_L_drawn (c_L_drawn _ _ (n := 3) (by decide) (by decide)) rfl (by decide +kernel) rfl rfl rfl ⟨by omega, by omega⟩ (fun r180 h180 hp180 => ?_)
          obtain ⟨⟨j180, k180, rfl⟩, e9⟩ := hp180; obtain rfl := e9.symm
          exact s183 _ _ _ (by omega) (by omega) (by omega) (by omega)
        · refine V.bipush (v := nI 96) X dL_typed_160 (by decide) ?_
          refine V.iload X dL_typed_162 rfl ?_
          refine V.iconst (v := nI 4) X dL_typed_164 (by decide) ?_
          refine V.ishr X dL_typed_165 ?_
          refine V.bipush (v := nI 9) X dL_typed_166 (by decide) ?_
          refine V.callSi (n := 2) X dL_typed_168 gL_typed_L_low (c_L_low _ _ (n := 9) (by decide) (by decide)) rfl (by decide +kernel) rfl rfl rfl ⟨by omega, by omega⟩ (fun r168 h168 hp168 => ?_)
          obtain ⟨⟨j168, k168, rfl⟩, e9⟩ := hp168; obtain rfl := e9.symm
          refine V.isub X dL_typed_171 ?_
          rw [nI_sub9 (by omega)]
          refine V.goto 183 X dL_typed_172 (by decide) ?_
          exact s183 _ _ _ (by omega) (by omega) (by omega) (by omega)
      · refine V.bipush (v := nI 104) X dL_typed_138 (by decide) ?_
        refine V.iload X dL_typed_140 rfl ?_
        refine V.iconst (v := nI 4) X dL_typed_142 (by decide) ?_
        refine V.ishr X dL_typed_143 ?_
        refine V.bipush (v := nI 9) X dL_typed_144 (by decide) ?_
        refine V.callSi (n := 2) X dL_typed_146 gL_typed_L_low (c_L_low _ _ (n := 9) (by decide) (by decide)) rfl (by decide +kernel) rfl rfl rfl ⟨by omega, by omega⟩ (fun r146 h146 hp146 => ?_)
        obtain ⟨⟨j146, k146, rfl⟩, e9⟩ := hp146; obtain rfl := e9.symm
        refine V.iadd X dL_typed_149 ?_
        rw [nI_add]
        refine V.goto 183 X dL_typed_150 (by decide) ?_
        exact s183 _ _ _ (by omega) (by omega) (by omega) (by omega)
  have zero : ∀ v : Int32, ∀ (n j : Nat) (h1 : Hp) (hv1 : Nat → Int32), j + n = 3 → TY (cxG Γ) h1 T A [] z hv1 → V Γ 0 0 10 [(0, .ref T), (1, .ref (gX (cxG Γ)).1), (2, .int (nI 46)), (3, .ref A), (4, .int v), (5, .int (nI j))] [] h1 := by
    intro v n
    induction n with
    | zero =>
      intro j h1 hv1 e1 q1
      refine V.iload X dL_typed_10 rfl ?_
      refine V.iconst (v := nI 3) X dL_typed_12 (by decide) ?_
      refine V.icmp_ge 27 X dL_typed_13 (by decide) (fun c13 => ?_) (fun c13 => absurd (nI_le (show 3 ≤ j by omega) (by omega)) c13)
      exact s27 v _ _ _ q1
    | succ n ih =>
      intro j h1 hv1 e1 q1
      refine V.iload X dL_typed_10 rfl ?_
      refine V.iconst (v := nI 3) X dL_typed_12 (by decide) ?_
      refine V.icmp_ge 27 X dL_typed_13 (by decide) (fun c13 => absurd c13 (nI_nle9 (show j < 3 by omega) (by omega))) (fun c13 => ?_)
      refine V.aload_n X dL_typed_16 rfl ?_
      refine V.iload X dL_typed_17 rfl ?_
      refine V.iconst (v := nI 0) X dL_typed_19 (by decide) ?_
      refine V.iast (j := _) X dL_typed_20 q1.2.1.1 rfl (by omega) (by omega) ?_
      obtain ⟨v20, q20, e20, o20⟩ := q1.put hA (j) (nI 0)
      generalize Hput h1 A (j) (.int (nI 0)) = h20 at q20 ⊢
      refine V.iinc (v := nI (j + 1)) X dL_typed_21 [(0, _), (1, _), (2, _), (3, _), (4, _), (5, _)] rfl (nI_1 j) rfl rfl rfl ?_
      refine V.goto 10 X dL_typed_24 (by decide) ?_
      exact ih (j + 1) _ _ (by omega) q20
  refine V.wf (fun w0 => ?_)
  refine V.aload_n X dL_typed_0 rfl ?_
  refine V.iload_n X dL_typed_1 rfl ?_
  refine V.callSi (n := 2) X dL_typed_2 gL_typed_L_cell (c_L_cell _ _ (by omega)) rfl (by decide +kernel) rfl rfl rfl ⟨by omega, by omega⟩ (fun r2 h2 hp2 => ?_)
  obtain rfl := hp2.symm
  refine V.istore X dL_typed_5 [(0, _), (1, _), (2, _), (3, _), (4, _)] rfl rfl rfl ?_
  refine V.iconst (v := nI 0) X dL_typed_7 (by decide) ?_
  refine V.istore X dL_typed_8 [(0, _), (1, _), (2, _), (3, _), (4, _), (5, _)] rfl rfl rfl ?_
  exact zero r2 3 0 h hv0 (by decide) ⟨q0, a0, w0⟩
