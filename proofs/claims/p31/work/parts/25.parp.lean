theorem pCmp_e {n : Nat} {c : Cmp} {r : List Tok} (h : r.isEmpty = true) : pCmp (n + 1) c r = (some c, r) := by
  simp [pCmp, h]
theorem pCmp_d {n : Nat} {c : Cmp} {r r1 : List Tok} (h : r.isEmpty = false) (e : pDcl c r = (none, r1)) : pCmp (n + 1) c r = (none, r1) := by
  simp [pCmp, h, e]
theorem pCmp_x {n : Nat} {c c1 : Cmp} {r r1 : List Tok} (h : r.isEmpty = false) (e : pDcl c r = (some c1, r1)) (e2 : acc 59 r1 = none) : pCmp (n + 1) c r = (none, r1) := by
  simp [pCmp, h, e, e2]
theorem pCmp_o {n : Nat} {c c1 : Cmp} {r r1 r2 : List Tok} (h : r.isEmpty = false) (e : pDcl c r = (some c1, r1)) (e2 : acc 59 r1 = some r2) : pCmp (n + 1) c r = pCmp n c1 r2 := by
  simp [pCmp, h, e, e2]
theorem pDcl_i1 {c : Cmp} {r r1 r2 : List Tok} (e : acc 300 r = some r1) (e2 : pIni r1 = (none, r2)) : pDcl c r = (none, r2) := by
  simp [pDcl, e, e2]
theorem pDcl_i2 {c : Cmp} {r r1 r2 : List Tok} {f : Nat} {v : Int32} (e : acc 300 r = some r1) (e2 : pIni r1 = (some (f, v), r2)) : pDcl c r = (some (setF c.1 (nI f) v, c.2.1, c.2.2), r2) := by
  simp [pDcl, e, e2]
theorem pDcl_v1 {c : Cmp} {r r1 r2 : List Tok} (e : acc 300 r = none) (b : (if c.2.1.length < 3 then acc 301 r else none) = some r1) (e2 : pCnd false r1 = (none, r2)) : pDcl c r = (none, r2) := by
  simp [pDcl, e, b, e2]
theorem pDcl_v2 {c : Cmp} {r r1 r2 : List Tok} {q : Cnd} (e : acc 300 r = none) (b : (if c.2.1.length < 3 then acc 301 r else none) = some r1) (e2 : pCnd false r1 = (some q, r2)) : pDcl c r = (some (c.1, c.2.1 ++ [q], c.2.2), r2) := by
  simp [pDcl, e, b, e2]
theorem pDcl_m0 {c : Cmp} {r : List Tok} (e : acc 300 r = none) (b : (if c.2.1.length < 3 then acc 301 r else none) = none) (d : (if c.2.2.length < 6 then acc 302 r else none) = none) : pDcl c r = (none, r) := by
  simp [pDcl, e, b, d]
theorem pDcl_m1 {c : Cmp} {r r1 r2 : List Tok} (e : acc 300 r = none) (b : (if c.2.1.length < 3 then acc 301 r else none) = none) (d : (if c.2.2.length < 6 then acc 302 r else none) = some r1) (e2 : pMth r1 = (none, r2)) : pDcl c r = (none, r2) := by
  simp [pDcl, e, b, d, e2]
theorem pDcl_m2 {c : Cmp} {r r1 r2 : List Tok} {q : Mth} (e : acc 300 r = none) (b : (if c.2.1.length < 3 then acc 301 r else none) = none) (d : (if c.2.2.length < 6 then acc 302 r else none) = some r1) (e2 : pMth r1 = (some q, r2)) : pDcl c r = (some (c.1, c.2.1, c.2.2 ++ [q]), r2) := by
  simp [pDcl, e, b, d, e2]
theorem fX8_parse_12 : FL wsX8_parse RX8 12 10 0 (.object "ContractTester$Lexemes") true := ⟨_, rfl, by decide, Or.inl ⟨"ContractTester$Parser", by decide +kernel, Or.inl rfl⟩, by decide +kernel, by decide +kernel, rfl⟩
theorem fX8_parse_41 : FL wsX8_parse RX8 41 3 1 (.object "java/util/ArrayList") true := ⟨_, rfl, by decide, Or.inr ⟨"ContractTester", by decide +kernel⟩, by decide +kernel, by decide +kernel, rfl⟩
theorem fX8_parse_54 : FL wsX8_parse RX8 54 3 2 (.object "java/util/ArrayList") true := ⟨_, rfl, by decide, Or.inr ⟨"ContractTester", by decide +kernel⟩, by decide +kernel, by decide +kernel, rfl⟩
set_option maxHeartbeats 4000000 in
set_option maxRecDepth 100000 in
theorem c_X8_parse (l : Launch) (G : GG) {h : Hp} {p lx n0 p0 : Nat} {ts0 : List Tok} (hP : Hk h p = some (.inl 10)) (hPv : Hv h p 0 = .ref lx) (hA : LxAt h lx n0 ts0 p0) {sb d : Nat} {t : List Nat} (hL : t.length ≤ 200) (hS : SbAt h sb d t) (hd1 : ¬ lexS lx sb) (hd2 : ¬ lexS lx d) : Con l G yX8_parse wsX8_parse 8 179 214 927 [.ref p, .ref sb] h (pR (fun v h2 => Fr (lexS lx) h h2 ∧ ((∃ c r', pCmp 200 cmp0 (toks t) = (some c, r') ∧ LxR h2 lx t.length (toks t) r' ∧ ∃ A, v = .ref A ∧ Hz h ≤ A ∧ CpAt (fun q => Hz h ≤ q) G h2 A c) ∨ (∃ r', pCmp 200 cmp0 (toks t) = (none, r') ∧ v = .null ∧ LxR h2 lx t.length (toks t) r')))) := by
  refine Con.of (cc := cX8_parse) (nL := 5) (ret := (some (.object "ContractTester$Component"))) (by decide) rfl rfl rfl rfl (fun Γ hG hl X Y9 => ?_)
  subst hG
  subst hl
  refine V.wf (fun w => ?_)
  have hpx : ¬ lexS lx p := fun e => by
    obtain ⟨k0, -, -, -, -, -, -, k7, k8, k9, -⟩ := hA
    rcases e with e | e | e | e
    · rw [e, k0] at hP; cases hP
    · rw [e, k7] at hP; cases hP
    · rw [e, k8] at hP; cases hP
    · rw [e, k9] at hP; cases hP
  have hne : ¬ p = lx := fun e => hpx (Or.inl e)
  have hll := w _ _ hA.ob
  have loop : ∀ (A : Nat), Hz h ≤ A → ∀ (m j : Nat) (c : Cmp) (ei em : List Nat) (r1 : List Tok) (h1 : Hp), j + m = 200 → pCmp m c r1 = pCmp 200 cmp0 (toks t) → IvP (cxG Γ) h1 A c ei em → Fr (lexS lx) h h1 → LxR h1 lx t.length (toks t) r1 → V Γ (4 + 4 * c.2.1.length + 33 * c.2.2.length) (12 + 17 * c.2.1.length + 144 * c.2.2.length) 18 [(0, .ref p), (1, .ref sb), (2, .ref A), (3, .int (nI j))] [] h1 := by
    intro A hA0 m
    induction m with
    | zero =>
      intro j c ei em r1 h1 g1 g2 pI pF pA
      have ej : j = 200 := by omega
      subst ej
      have hb := pI.2.2.2.1
      have e0 : pCmp 200 cmp0 (toks t) = (some c, r1) := g2.symm
      refine V.wf (fun w1 => ?_)
      have hP1 := pF.k w hP
      have hPv1 : Hv h1 p 0 = .ref lx := by
        rw [pF.v w hP hpx]
        exact hPv
      refine V.aload_n X dX8_parse_18 rfl ?_
      refine V.getf  X fX8_parse_12 dX8_parse_19 hP1 hPv1 ?_
      refine V.callVi (n := 0) X dX8_parse_22 gX8_parse_X5_hasMore (c_X5_hasMore _ _ pA) rfl (by decide +kernel) rfl rfl rfl pA.ob rfl rfl ⟨by omega, by omega⟩ (fun r22 h22 hp22 => ?_)
      obtain ⟨rfl, e9⟩ := hp22; obtain rfl := e9.symm
      refine V.if_eq 159 X dX8_parse_25 (by decide) (fun c25 => ?_) (fun c25 => ?_)
      · refine V.aload_n X dX8_parse_159 rfl ?_
        exact V.aret X Y9 (Or.inl ⟨_, rfl⟩) dX8_parse_160 (Or.inr ⟨_, rfl⟩) ⟨pF, Or.inl ⟨_, _, e0, pA, _, rfl, hA0, pI.cp hA0⟩⟩ (by omega) (by omega)
      · refine V.iload_n X dX8_parse_28 rfl ?_
        refine V.sipush (v := nI 200) X dX8_parse_29 (by decide) ?_
        refine V.icmp_ge 159 X dX8_parse_32 (by decide) (fun c32 => ?_) (fun c32 => absurd (by decide) c32)
        refine V.aload_n X dX8_parse_159 rfl ?_
        exact V.aret X Y9 (Or.inl ⟨_, rfl⟩) dX8_parse_160 (Or.inr ⟨_, rfl⟩) ⟨pF, Or.inl ⟨_, _, e0, pA, _, rfl, hA0, pI.cp hA0⟩⟩ (by omega) (by omega)
    | succ m ih =>
      intro j c ei em r1 h1 g1 g2 pI pF pA
      refine V.wf (fun w1 => ?_)
      refine V.wfE X (fun hE => ?_)
      have hb := pI.2.2.2.1
      have hP1 := pF.k w hP
      have hPv1 : Hv h1 p 0 = .ref lx := by
        rw [pF.v w hP hpx]
        exact hPv
      have bad : ∀ (kk9 ks9 : Nat) (h2 : Hp) (r2 : List Tok), kk9 ≤ 214 → ks9 ≤ 927 → Fr (lexS lx) h h2 → LxR h2 lx t.length (toks t) r2 → (none, r2) = pCmp 200 cmp0 (toks t) → V Γ kk9 ks9 134 [(0, .ref p), (1, .ref sb), (2, .ref A), (3, .int (nI j)), (4, .int 0)] [] h2 := by
        intro kk9 ks9 h2 r2 b1 b2 b3 b4 b5
        refine V.iload X dX8_parse_134 rfl ?_
        refine V.if_eq 151 X dX8_parse_136 (by decide) (fun c136 => ?_) (fun c136 => absurd rfl c136)
        refine V.null X dX8_parse_151 ?_
        exact V.aret X Y9 (Or.inl ⟨_, rfl⟩) dX8_parse_152 (Or.inl rfl) ⟨b3, Or.inr ⟨_, b5.symm, rfl, b4⟩⟩ (by omega) (by omega)
      have good : ∀ (kk9 ks9 : Nat) (h2 : Hp) (c2 : Cmp) (ei2 em2 : List Nat) (r2 : List Tok), r1.isEmpty = false → kk9 ≤ 4 + 4 * c2.2.1.length + 33 * c2.2.2.length → ks9 ≤ 12 + 17 * c2.2.1.length + 144 * c2.2.2.length → IvP (cxG Γ) h2 A c2 ei2 em2 → Fr (lexS lx) h h2 → LxR h2 lx t.length (toks t) r2 → pDcl c r1 = (some c2, r2) → V Γ kk9 ks9 134 [(0, .ref p), (1, .ref sb), (2, .ref A), (3, .int (nI j)), (4, .int 1)] [] h2 := by
        intro kk9 ks9 h2 c2 ei2 em2 r2 hr b1 b2 b6 b3 b4 b5
        refine V.wf (fun w2 => ?_)
        have hb2 := b6.2.2.2.1
        have hP2 := b3.k w hP
        have hPv2 : Hv h2 p 0 = .ref lx := by
          rw [b3.v w hP hpx]
          exact hPv
        refine V.iload X dX8_parse_134 rfl ?_
        refine V.if_eq 151 X dX8_parse_136 (by decide) (fun c136 => absurd c136 (by decide)) (fun c136 => ?_)
        refine V.aload_n X dX8_parse_139 rfl ?_
        refine V.getf  X fX8_parse_12 dX8_parse_140 hP2 hPv2 ?_
        refine V.bipush (v := nI 59) X dX8_parse_143 (by decide) ?_
        refine V.callVi (n := 1) X dX8_parse_145 gX8_parse_X5_accept (c_X5_accept _ _ b4 (c := 59) (by decide)) rfl (by decide +kernel) rfl rfl rfl b4.ob rfl rfl ⟨by omega, by omega⟩ (fun r145 h145 hp145 => ?_)
        rcases hp145 with ⟨r3, e3, rfl, hA3, f3⟩ | ⟨e3, rfl, e9⟩
        rotate_left
        · obtain rfl := e9.symm
          refine V.if_ne 153 X dX8_parse_148 (by decide) (fun c15 => absurd rfl c15) (fun c15 => ?_)
          have e5 : (none, r2) = pCmp 200 cmp0 (toks t) := by
            rw [← g2, pCmp_x hr b5 e3]
          refine V.null X dX8_parse_151 ?_
          exact V.aret X Y9 (Or.inl ⟨_, rfl⟩) dX8_parse_152 (Or.inl rfl) ⟨b3, Or.inr ⟨_, e5.symm, rfl, b4⟩⟩ (by omega) (by omega)
        refine V.if_ne 153 X dX8_parse_148 (by decide) (fun c15 => ?_) (fun c15 => absurd c15 (by decide))
        have F3 := b3.then f3 (fun q hq z => Or.inl z)
        have pI3 := b6.kept w2 f3 (fun q z => by omega)
        refine V.iinc (v := nI (j + 1)) X dX8_parse_153 [(0, _), (1, _), (2, _), (3, _), (4, _)] rfl (nI_1 j) rfl rfl rfl ?_
        refine V.goto 18 X dX8_parse_156 (by decide) ?_
        refine V.drop [(0, _), (1, _), (2, _), (3, _)] [0, 1, 2, 3] rfl ?_
        refine V.widen (4 + 4 * c2.2.1.length + 33 * c2.2.2.length) (12 + 17 * c2.2.1.length + 144 * c2.2.2.length) (by omega) (by omega) ?_
        exact ih (j + 1) c2 ei2 em2 _ _ (by omega) (by rw [← pCmp_o hr b5 e3]; exact g2) pI3 F3 hA3
      refine V.aload_n X dX8_parse_18 rfl ?_
      refine V.getf  X fX8_parse_12 dX8_parse_19 hP1 hPv1 ?_
      refine V.callVi (n := 0) X dX8_parse_22 gX8_parse_X5_hasMore (c_X5_hasMore _ _ pA) rfl (by decide +kernel) rfl rfl rfl pA.ob rfl rfl ⟨by omega, by omega⟩ (fun r22 h22 hp22 => ?_)
      obtain ⟨rfl, e9⟩ := hp22; obtain rfl := e9.symm
      refine V.if_eq 159 X dX8_parse_25 (by decide) (fun c25 => ?_) (fun c25 => ?_)
      · have hr : r1.isEmpty = true := by
          have := bI_eq c25
          simpa using this
        have e0 : pCmp 200 cmp0 (toks t) = (some c, r1) := by
          rw [← g2, pCmp_e hr]
        refine V.aload_n X dX8_parse_159 rfl ?_
        exact V.aret X Y9 (Or.inl ⟨_, rfl⟩) dX8_parse_160 (Or.inr ⟨_, rfl⟩) ⟨pF, Or.inl ⟨_, _, e0, pA, _, rfl, hA0, pI.cp hA0⟩⟩ (by omega) (by omega)
      · have hr : r1.isEmpty = false := by
          have := bI_ne c25
          simpa using this
        refine V.iload_n X dX8_parse_28 rfl ?_
        refine V.sipush (v := nI 200) X dX8_parse_29 (by decide) ?_
        refine V.icmp_ge 159 X dX8_parse_32 (by decide) (fun c32 => absurd c32 (nI_nle9 (show j < 200 by omega) (by omega))) (fun c32 => ?_)
        refine V.iconst (v := nI 0) X dX8_parse_35 (by decide) ?_
        refine V.istore X dX8_parse_36 [(0, _), (1, _), (2, _), (3, _), (4, _)] rfl rfl rfl ?_
        refine V.aload_n X dX8_parse_38 rfl ?_
        refine V.getf  X fX8_parse_12 dX8_parse_39 hP1 hPv1 ?_
        refine V.sipush (v := nI 300) X dX8_parse_42 (by decide) ?_
        refine V.callVi (n := 1) X dX8_parse_45 gX8_parse_X5_accept (c_X5_accept _ _ pA (c := 300) (by decide)) rfl (by decide +kernel) rfl rfl rfl pA.ob rfl rfl ⟨by omega, by omega⟩ (fun r45 h45 hp45 => ?_)
        rcases hp45 with ⟨r2, e2, rfl, hA2, fA⟩ | ⟨e2, rfl, e9⟩
        rotate_left
        · obtain rfl := e9.symm
          refine V.if_eq 61 X dX8_parse_48 (by decide) (fun c15 => ?_) (fun c15 => absurd rfl c15)
          refine V.aload_n X dX8_parse_61 rfl ?_
          refine V.getf  X fX8_parse_41 dX8_parse_62 pI.2.1.1 pI.2.1.2.2.1 ?_
          refine V.callVi (n := 0) X dX8_parse_65 gX8_parse_Jx4a65c_size_8abf5 (c_Jx4a65c_size_8abf5 _ _ pI.li) rfl (by decide +kernel) rfl rfl rfl pI.li.1 rfl rfl ⟨by omega, by omega⟩ (fun r65 h65 hp65 => ?_)
          obtain ⟨rfl, e9⟩ := hp65; obtain rfl := e9.symm
          rw [pI.2.2.2.2.1.2.1]
          refine V.iconst (v := nI 3) X dX8_parse_68 (by decide) ?_
          refine V.icmp_ge 99 X dX8_parse_69 (by decide) (fun c69 => ?_) (fun c69 => ?_)
          · rw [nI_leI (by omega) (by omega)] at c69
            have hb3 : ¬ c.2.1.length < 3 := by omega
            have ev : (if c.2.1.length < 3 then acc 301 r1 else none) = none := if_neg hb3
            refine V.aload_n X dX8_parse_99 rfl ?_
            refine V.getf  X fX8_parse_54 dX8_parse_100 pI.2.1.1 pI.2.1.2.2.2 ?_
            refine V.callVi (n := 0) X dX8_parse_103 gX8_parse_Jx4a65c_size_8abf5 (c_Jx4a65c_size_8abf5 _ _ pI.lm) rfl (by decide +kernel) rfl rfl rfl pI.lm.1 rfl rfl ⟨by omega, by omega⟩ (fun r103 h103 hp103 => ?_)
            obtain ⟨rfl, e9⟩ := hp103; obtain rfl := e9.symm
            rw [pI.2.2.2.2.2.2.1]
            refine V.bipush (v := nI 6) X dX8_parse_106 (by decide) ?_
            refine V.icmp_ge 134 X dX8_parse_108 (by decide) (fun c108 => ?_) (fun c108 => ?_)
            · rw [nI_leI (by omega) (by omega)] at c108
              have hb6 : ¬ c.2.2.length < 6 := by omega
              exact bad _ _ _ _ (by omega) (by omega) pF pA (by rw [← g2, pCmp_d hr (pDcl_m0 e2 ev (if_neg hb6))])
            · rw [nI_leI (by omega) (by omega)] at c108
              have hb6 : c.2.2.length < 6 := by omega
              refine V.aload_n X dX8_parse_111 rfl ?_
              refine V.getf  X fX8_parse_12 dX8_parse_112 hP1 hPv1 ?_
              refine V.sipush (v := nI 302) X dX8_parse_115 (by decide) ?_
              refine V.callVi (n := 1) X dX8_parse_118 gX8_parse_X5_accept (c_X5_accept _ _ pA (c := 302) (by decide)) rfl (by decide +kernel) rfl rfl rfl pA.ob rfl rfl ⟨by omega, by omega⟩ (fun r118 h118 hp118 => ?_)
              rcases hp118 with ⟨r2, e8, rfl, hA2, fA⟩ | ⟨e8, rfl, e9⟩
              rotate_left
              · obtain rfl := e9.symm
                refine V.if_eq 134 X dX8_parse_121 (by decide) (fun c15 => ?_) (fun c15 => absurd rfl c15)
                exact bad _ _ _ _ (by omega) (by omega) pF pA (by rw [← g2, pCmp_d hr (pDcl_m0 e2 ev (by rw [if_pos hb6, e8]))])
              refine V.if_eq 134 X dX8_parse_121 (by decide) (fun c15 => absurd c15 (by decide)) (fun c15 => ?_)
              have em' : (if c.2.2.length < 6 then acc 302 r1 else none) = some r2 := by rw [if_pos hb6, e8]
              refine V.wf (fun w2 => ?_)
              refine V.wfE X (fun hE2 => ?_)
              have F2 := pF.then fA (fun q hq z => Or.inl z)
              have pI2 := pI.kept w1 fA (fun q z => by omega)
              have hP2 := fA.k w1 hP1
              have hPv2 := V17 fA w1 hP1 hPv1 hne
              refine V.aload_n X dX8_parse_124 rfl ?_
              refine V.aload_n X dX8_parse_125 rfl ?_
              refine V.getf  X fX8_parse_54 dX8_parse_126 pI2.2.1.1 pI2.2.1.2.2.2 ?_
              refine V.callVi (n := 1) X dX8_parse_129 gX8_parse_X8_readMethod (c_X8_readMethod _ _ hP2 hPv2 hA2 pI2.lm (by have := pI2.2.2.2.2.2.2.1; omega) (pI2.fm w2 hE2)) rfl (by decide +kernel) rfl rfl rfl hP2 rfl rfl ⟨by omega, by omega⟩ (fun r129 h129 hp129 => ?_)
              obtain ⟨f129, hq129⟩ := hp129
              have F129 : Fr (lexS lx) h h129 := F2.then f129 (fun q hq z => by
                rcases z with z | z | ⟨z, -, -⟩
                · exact Or.inl z
                · omega
                · have := z.1; omega)
              rcases hq129 with ⟨mn, r3, e3, rfl, hA3, en3, hL3, hr3, hC3⟩ | ⟨r3, e3, rfl, hA3⟩
              rotate_left
              · refine V.istore X dX8_parse_132 [(0, _), (1, _), (2, _), (3, _), (4, _)] rfl rfl rfl ?_
                exact bad _ _ _ _ (by omega) (by omega) F129 hA3 (by rw [← g2, pCmp_d hr (pDcl_m1 e2 ev em' e3)])
              refine V.istore X dX8_parse_132 [(0, _), (1, _), (2, _), (3, _), (4, _)] rfl rfl rfl ?_
              exact good _ _ _ _ _ _ _ hr (by simp; omega) (by simp; omega) (pI2.mth w2 hE2 (by omega) hA2.ob hb6 f129 hL3 hr3 hC3) F129 hA3 (pDcl_m2 e2 ev em' e3)
          · rw [nI_leI (by omega) (by omega)] at c69
            have hb3 : c.2.1.length < 3 := by omega
            refine V.aload_n X dX8_parse_72 rfl ?_
            refine V.getf  X fX8_parse_12 dX8_parse_73 hP1 hPv1 ?_
            refine V.sipush (v := nI 301) X dX8_parse_76 (by decide) ?_
            refine V.callVi (n := 1) X dX8_parse_79 gX8_parse_X5_accept (c_X5_accept _ _ pA (c := 301) (by decide)) rfl (by decide +kernel) rfl rfl rfl pA.ob rfl rfl ⟨by omega, by omega⟩ (fun r79 h79 hp79 => ?_)
            rcases hp79 with ⟨r2, e7, rfl, hA2, fA⟩ | ⟨e7, rfl, e9⟩
            rotate_left
            · obtain rfl := e9.symm
              refine V.if_eq 99 X dX8_parse_82 (by decide) (fun c15 => ?_) (fun c15 => absurd rfl c15)
              have ev : (if c.2.1.length < 3 then acc 301 r1 else none) = none := by rw [if_pos hb3, e7]
              refine V.aload_n X dX8_parse_99 rfl ?_
              refine V.getf  X fX8_parse_54 dX8_parse_100 pI.2.1.1 pI.2.1.2.2.2 ?_
              refine V.callVi (n := 0) X dX8_parse_103 gX8_parse_Jx4a65c_size_8abf5 (c_Jx4a65c_size_8abf5 _ _ pI.lm) rfl (by decide +kernel) rfl rfl rfl pI.lm.1 rfl rfl ⟨by omega, by omega⟩ (fun r103 h103 hp103 => ?_)
              obtain ⟨rfl, e9⟩ := hp103; obtain rfl := e9.symm
              rw [pI.2.2.2.2.2.2.1]
              refine V.bipush (v := nI 6) X dX8_parse_106 (by decide) ?_
              refine V.icmp_ge 134 X dX8_parse_108 (by decide) (fun c108 => ?_) (fun c108 => ?_)
              · rw [nI_leI (by omega) (by omega)] at c108
                have hb6 : ¬ c.2.2.length < 6 := by omega
                exact bad _ _ _ _ (by omega) (by omega) pF pA (by rw [← g2, pCmp_d hr (pDcl_m0 e2 ev (if_neg hb6))])
              · rw [nI_leI (by omega) (by omega)] at c108
                have hb6 : c.2.2.length < 6 := by omega
                refine V.aload_n X dX8_parse_111 rfl ?_
                refine V.getf  X fX8_parse_12 dX8_parse_112 hP1 hPv1 ?_
                refine V.sipush (v := nI 302) X dX8_parse_115 (by decide) ?_
                refine V.callVi (n := 1) X dX8_parse_118 gX8_parse_X5_accept (c_X5_accept _ _ pA (c := 302) (by decide)) rfl (by decide +kernel) rfl rfl rfl pA.ob rfl rfl ⟨by omega, by omega⟩ (fun r118 h118 hp118 => ?_)
                rcases hp118 with ⟨r2, e8, rfl, hA2, fA⟩ | ⟨e8, rfl, e9⟩
                rotate_left
                · obtain rfl := e9.symm
                  refine V.if_eq 134 X dX8_parse_121 (by decide) (fun c15 => ?_) (fun c15 => absurd rfl c15)
                  exact bad _ _ _ _ (by omega) (by omega) pF pA (by rw [← g2, pCmp_d hr (pDcl_m0 e2 ev (by rw [if_pos hb6, e8]))])
                refine V.if_eq 134 X dX8_parse_121 (by decide) (fun c15 => absurd c15 (by decide)) (fun c15 => ?_)
                have em' : (if c.2.2.length < 6 then acc 302 r1 else none) = some r2 := by rw [if_pos hb6, e8]
                refine V.wf (fun w2 => ?_)
                refine V.wfE X (fun hE2 => ?_)
                have F2 := pF.then fA (fun q hq z => Or.inl z)
                have pI2 := pI.kept w1 fA (fun q z => by omega)
                have hP2 := fA.k w1 hP1
                have hPv2 := V17 fA w1 hP1 hPv1 hne
                refine V.aload_n X dX8_parse_124 rfl ?_
                refine V.aload_n X dX8_parse_125 rfl ?_
                refine V.getf  X fX8_parse_54 dX8_parse_126 pI2.2.1.1 pI2.2.1.2.2.2 ?_
                refine V.callVi (n := 1) X dX8_parse_129 gX8_parse_X8_readMethod (c_X8_readMethod _ _ hP2 hPv2 hA2 pI2.lm (by have := pI2.2.2.2.2.2.2.1; omega) (pI2.fm w2 hE2)) rfl (by decide +kernel) rfl rfl rfl hP2 rfl rfl ⟨by omega, by omega⟩ (fun r129 h129 hp129 => ?_)
                obtain ⟨f129, hq129⟩ := hp129
                have F129 : Fr (lexS lx) h h129 := F2.then f129 (fun q hq z => by
                  rcases z with z | z | ⟨z, -, -⟩
                  · exact Or.inl z
                  · omega
                  · have := z.1; omega)
                rcases hq129 with ⟨mn, r3, e3, rfl, hA3, en3, hL3, hr3, hC3⟩ | ⟨r3, e3, rfl, hA3⟩
                rotate_left
                · refine V.istore X dX8_parse_132 [(0, _), (1, _), (2, _), (3, _), (4, _)] rfl rfl rfl ?_
                  exact bad _ _ _ _ (by omega) (by omega) F129 hA3 (by rw [← g2, pCmp_d hr (pDcl_m1 e2 ev em' e3)])
                refine V.istore X dX8_parse_132 [(0, _), (1, _), (2, _), (3, _), (4, _)] rfl rfl rfl ?_
                exact good _ _ _ _ _ _ _ hr (by simp; omega) (by simp; omega) (pI2.mth w2 hE2 (by omega) hA2.ob hb6 f129 hL3 hr3 hC3) F129 hA3 (pDcl_m2 e2 ev em' e3)
            refine V.if_eq 99 X dX8_parse_82 (by decide) (fun c15 => absurd c15 (by decide)) (fun c15 => ?_)
            have ev : (if c.2.1.length < 3 then acc 301 r1 else none) = some r2 := by rw [if_pos hb3, e7]
            refine V.wf (fun w2 => ?_)
            refine V.wfE X (fun hE2 => ?_)
            have F2 := pF.then fA (fun q hq z => Or.inl z)
            have pI2 := pI.kept w1 fA (fun q z => by omega)
            have hP2 := fA.k w1 hP1
            have hPv2 := V17 fA w1 hP1 hPv1 hne
            refine V.aload_n X dX8_parse_85 rfl ?_
            refine V.aload_n X dX8_parse_86 rfl ?_
            refine V.getf  X fX8_parse_41 dX8_parse_87 pI2.2.1.1 pI2.2.1.2.2.1 ?_
            refine V.iconst (v := nI 0) X dX8_parse_90 (by decide) ?_
            refine V.callVi (n := 2) X dX8_parse_91 gX8_parse_X8_readCondition (c_X8_readCondition _ _ false hP2 hPv2 hA2 pI2.li (by have := pI2.2.2.2.2.1.2.1; omega) (pI2.fi w2 hE2)) rfl (by decide +kernel) rfl rfl rfl hP2 rfl rfl ⟨by omega, by omega⟩ (fun r91 h91 hp91 => ?_)
            obtain ⟨f91, hq91⟩ := hp91
            have F91 : Fr (lexS lx) h h91 := F2.then f91 (fun q hq z => by
              rcases z with z | z | ⟨z, -, -⟩
              · exact Or.inl z
              · omega
              · have := z.1; omega)
            rcases hq91 with ⟨cn, r3, e3, rfl, hA3, en3, hL3, hC3⟩ | ⟨r3, e3, rfl, hA3⟩
            rotate_left
            · refine V.istore X dX8_parse_94 [(0, _), (1, _), (2, _), (3, _), (4, _)] rfl rfl rfl ?_
              refine V.goto 134 X dX8_parse_96 (by decide) ?_
              exact bad _ _ _ _ (by omega) (by omega) F91 hA3 (by rw [← g2, pCmp_d hr (pDcl_v1 e2 ev e3)])
            refine V.istore X dX8_parse_94 [(0, _), (1, _), (2, _), (3, _), (4, _)] rfl rfl rfl ?_
            refine V.goto 134 X dX8_parse_96 (by decide) ?_
            exact good _ _ _ _ _ _ _ hr (by simp; omega) (by simp; omega) (pI2.inv w2 hE2 (by omega) hA2.ob hb3 f91 hL3 hC3) F91 hA3 (pDcl_v2 e2 ev e3)
        refine V.if_eq 61 X dX8_parse_48 (by decide) (fun c15 => absurd c15 (by decide)) (fun c15 => ?_)
        refine V.wf (fun w2 => ?_)
        have F2 := pF.then fA (fun q hq z => Or.inl z)
        have pI2 := pI.kept w1 fA (fun q z => by omega)
        have hP2 := fA.k w1 hP1
        have hPv2 := V17 fA w1 hP1 hPv1 hne
        refine V.aload_n X dX8_parse_51 rfl ?_
        refine V.aload_n X dX8_parse_52 rfl ?_
        refine V.callVi (n := 1) X dX8_parse_53 gX8_parse_X8_readInitialValue (c_X8_readInitialValue _ _ hP2 hPv2 hA2 pI2.2.1.1 pI2.2.1.2.1 pI2.2.2.1) rfl (by decide +kernel) rfl rfl rfl hP2 rfl rfl ⟨by omega, by omega⟩ (fun r53 h53 hp53 => ?_)
        obtain ⟨f53, hq53⟩ := hp53
        have F53 : Fr (lexS lx) h h53 := F2.then f53 (fun q hq z => by
          rcases z with z | z
          · exact Or.inl z
          · omega)
        rcases hq53 with ⟨fd, vv, r3, e3, rfl, hA3, hS3⟩ | ⟨r3, e3, rfl, hA3⟩
        rotate_left
        · refine V.istore X dX8_parse_56 [(0, _), (1, _), (2, _), (3, _), (4, _)] rfl rfl rfl ?_
          refine V.goto 134 X dX8_parse_58 (by decide) ?_
          exact bad _ _ _ _ (by omega) (by omega) F53 hA3 (by rw [← g2, pCmp_d hr (pDcl_i1 e2 e3)])
        refine V.istore X dX8_parse_56 [(0, _), (1, _), (2, _), (3, _), (4, _)] rfl rfl rfl ?_
        refine V.goto 134 X dX8_parse_58 (by decide) ?_
        exact good _ _ _ (setF c.1 (nI fd) vv, c.2.1, c.2.2) _ _ _ hr (Nat.le_refl _) (Nat.le_refl _) (show IvP (cxG Γ) h53 A (setF c.1 (nI fd) vv, c.2.1, c.2.2) ei em from pI2.st (s := setF c.1 (nI fd) vv) w2 f53 (fun q z => by omega) hS3) F53 hA3 (pDcl_i2 e2 e3)
  refine V.aload_n X dX8_parse_0 rfl ?_
  refine V.getf  X fX8_parse_12 dX8_parse_1 hP hPv ?_
  refine V.aload_n X dX8_parse_4 rfl ?_
  refine V.callVv (n := 1) X dX8_parse_5 gX8_parse_X5_scan (c_X5_scan _ _ hA hL hS hd1 hd2) rfl (by decide +kernel) rfl rfl rfl hA.ob rfl rfl ⟨Nat.le_of_ble_eq_true rfl, Nat.le_of_ble_eq_true rfl⟩ (fun h5 hp5 => ?_)
  obtain ⟨hA5, f5⟩ := hp5
  refine V.wf (fun w5 => ?_)
  refine V.new (ci := 3) X dX8_parse_8 rfl (by decide +kernel) (by decide +kernel) (by decide +kernel) (by decide +kernel) tyX1 tyX1_ok rfl rfl ?_
  refine V.dup X dX8_parse_11 rfl ?_
  refine V.callINv (n := 0) X dX8_parse_12 (host := "ContractTester") gX8_parse_X1_init_n28 (c_X1_init _ _ (by rw [Hk_new, if_pos rfl])) rfl (by decide +kernel) (by decide +kernel) (by decide +kernel) rfl (by decide +kernel) rfl rfl rfl ⟨Nat.le_of_ble_eq_true rfl, Nat.le_of_ble_eq_true rfl⟩ (fun h12 hp12 => ?_)
  obtain ⟨⟨m0, m1, m2, m3⟩, ⟨q1, q2, q3⟩, f12, z12⟩ := hp12
  rw [Hz_new] at m1 m2 m3 q1 q2 q3 z12
  have f12b : Fr (fun q => q = Hz h5) h5 h12 := (Fr.new).tr f12
  have F12 : Fr (lexS lx) h h12 := f5.then f12b (fun q hq z => by have := f5.1; omega)
  have A12 := hA5.keptN w5 f12b (fun q z z2 => by omega)
  have I12 : IvP (cxG Γ) h12 (Hz h5) cmp0 [] [] := ⟨by omega, ⟨m0, m1, m2, m3⟩, q1, by decide, ⟨q2.nil, rfl, fun i x hx => by simp [cmp0] at hx⟩, q3.nil, rfl, fun i x hx => by simp [cmp0] at hx⟩
  refine V.astore_n X dX8_parse_15 [(0, _), (1, _), (2, _)] rfl rfl rfl ?_
  refine V.iconst (v := nI 0) X dX8_parse_16 (by decide) ?_
  refine V.istore_n X dX8_parse_17 [(0, _), (1, _), (2, _), (3, _)] rfl rfl rfl ?_
  exact loop (Hz h5) f5.1 200 0 cmp0 [] [] _ _ rfl rfl I12 F12 A12
