/-- the lexemes are changed -/
theorem CtAt.lex {G : GG} {h h1 : Hp} {T d : Nat} {t : List Nat} {c : Cmp} {r : Xr} {l k n : Nat} {sx : Nat → Cmp × Xr} {ts r1 : List Tok} (q : CtAt G h T d t c r l k sx) (w : WF h) (f : Fr (lexS (T + 4)) h h1) (s : LxR h1 (T + 4) n ts r1) : CtAt G h1 T d t c r l k sx := by
  obtain ⟨a, b, ⟨c1, c3, c4⟩, e, x, y, ys, zs, z⟩ := q
  have ns : ∀ q, (q < T + 4 ∨ T + 8 ≤ q) → ¬ lexS (T + 4) q := fun q hq e => by unfold lexS at e; omega
  have hp : ∀ q, CtP T d q → ¬ lexS (T + 4) q := fun q z e => z (Or.inl (by unfold lexS at e; omega))
  obtain ⟨p, -, -, s⟩ := s
  exact ⟨a.kept w f (ns _ (by omega)), b.kept w f (ns _ (by omega)), ⟨c1.kept w f (ns _ (by omega)) (ns _ (by omega)), c3, c4⟩, ⟨f.k w e.1, by rw [f.v w e.1 (ns _ (by omega))]; exact e.2.1, n, ts, p, s⟩, x.kept w f (fun q e z => ns q (by have := XS_rng z; omega) e) hp, y.kept w f (fun q e => by unfold lexS at e; omega) hp, ys, zs, z.kept w f (fun q e z => ns q (by unfold ZS at z; omega) e)⟩
theorem CtP_1 {T d q : Nat} (h : CtP T d q) : ¬ q = T + 1 := fun e => h (Or.inl (by omega))
/-- the first character that is not the number of a method -/
def dgB (n : Nat) : List Nat → Nat → Option Nat
  | [], _ => none
  | x :: r, k => if isIx (nI x - nI 48) n = true then dgB n r (k + 1) else some k
theorem dgB_drop {n : Nat} {t : List Nat} {j : Nat} (h : j < t.length) : dgB n (t.drop j) j = if isIx (nI (t.getD j 0) - nI 48) n = true then dgB n (t.drop (j + 1)) (j + 1) else some j := by
  rw [List.drop_eq_getElem_cons h, List.getD_eq_getElem?_getD, List.getElem?_eq_getElem h]
  rfl
theorem isIx_48 : ∀ x, x < 256 → ∀ n, n < 11 → isIx (nI x - nI 48) n = true → 48 ≤ x ∧ x - 48 < n := by decide +kernel
theorem dgB_ok {n : Nat} (hn : n < 11) : ∀ (t : List Nat) (k : Nat), (∀ x ∈ t, x < 256) → dgB n t k = none → ∀ x ∈ t, 48 ≤ x ∧ x - 48 < n := by
  intro t
  induction t with
  | nil => intro k _ _ x hx; cases hx
  | cons y r ih =>
    intro k hb h x hx
    unfold dgB at h
    split at h
    next hc =>
      rcases List.mem_cons.mp hx with rfl | hx
      · exact isIx_48 _ (hb _ List.mem_cons_self) n hn hc
      · exact ih (k + 1) (fun z hz => hb z (List.mem_cons_of_mem _ hz)) h x hx
    next => cases h
theorem SbAt.mem {h : Hp} {a d : Nat} {t : List Nat} (q : SbAt h a d t) : ∀ x ∈ t, x < 256 := by
  intro x hx
  obtain ⟨i, hi, rfl⟩ := List.getElem_of_mem hx
  have := q.lt i hi
  rwa [List.getD_eq_getElem?_getD, List.getElem?_eq_getElem hi] at this
theorem getD_mem {t : List Nat} {i : Nat} (hi : i < t.length) : t.getD i 0 ∈ t := by
  rw [List.getD_eq_getElem?_getD, List.getElem?_eq_getElem hi]
  exact List.getElem_mem hi
theorem fX11_loadComponent_19 : FL wsX11_loadComponent RX11 19 13 1 (.object "ContractTester$Parser") true := ⟨_, rfl, by decide, Or.inl ⟨"ContractTester", by decide +kernel, Or.inl rfl⟩, by decide +kernel, by decide +kernel, rfl⟩
theorem fX11_loadComponent_10 : FL wsX11_loadComponent RX11 10 13 0 (.object "java/lang/StringBuilder") true := ⟨_, rfl, by decide, Or.inl ⟨"ContractTester", by decide +kernel, Or.inl rfl⟩, by decide +kernel, by decide +kernel, rfl⟩
theorem fX11_loadComponent_80 : FL wsX11_loadComponent RX11 80 3 2 (.object "java/util/ArrayList") true := ⟨_, rfl, by decide, Or.inr ⟨"ContractTester", by decide +kernel⟩, by decide +kernel, by decide +kernel, rfl⟩
set_option maxHeartbeats 4000000 in
set_option maxRecDepth 100000 in
theorem c_X11_loadComponent (l : Launch) (G : GG) {h : Hp} {T d : Nat} {t : List Nat} {c : Cmp} {r : Xr} {la k : Nat} {sx : Nat → Cmp × Xr} (hC : CtAt G h T d t c r la k sx)  : Con l G yX11_loadComponent wsX11_loadComponent 9 203 215 1329 [.ref T] h (pI (fun y2 h2 => (∃ r1, pCmp 200 cmp0 (toks t) = (none, r1) ∧ y2 = -10 - nI (offR t.length r1) ∧ CtAt G h2 T d t c r la k sx ∧ Fr (CtW T d) h h2) ∨ (∃ c2 r1, pCmp 200 cmp0 (toks t) = (some c2, r1) ∧ y2 = nI c2.2.2.length ∧ CtAt G h2 T d [] c2 (rst c2 r) (nxL la) (nxK k) (fup sx (nxL la) (c, r)) ∧ Fr (CtW T d) h h2))) := by
  refine Con.of (cc := cX11_loadComponent) (nL := 2) (ret := (some .int)) (by decide) rfl rfl rfl rfl (fun Γ hG hl X Y9 => ?_)
  subst hG
  subst hl
  refine V.wf (fun w => ?_)
  obtain ⟨a, b, ⟨s, c2, c3⟩, ⟨e0, e1, n0, ts0, p0, e2⟩, -⟩ := id hC
  refine V.aload_n X dX11_loadComponent_0 rfl ?_
  refine V.getf  X fX11_loadComponent_19 dX11_loadComponent_1 a.1 a.2.2.1 ?_
  refine V.aload_n X dX11_loadComponent_4 rfl ?_
  refine V.getf  X fX11_loadComponent_10 dX11_loadComponent_5 a.1 a.2.1 ?_
  refine V.callVr (n := 1) X dX11_loadComponent_8 gX11_loadComponent_X8_parse (c_X8_parse _ _ e0 e1 e2 c2 s (fun z => by unfold lexS at z; omega) (fun z => by unfold lexS at z; omega)) rfl (by decide +kernel) rfl rfl rfl e0 rfl rfl ⟨Nat.le_of_ble_eq_true rfl, Nat.le_of_ble_eq_true rfl⟩ (fun r8 h8 hp8 => ?_)
  obtain ⟨-, f8, hp8⟩ := hp8
  refine V.wf (fun w8 => ?_)
  rcases hp8 with ⟨c2, r1, g2, hL2, A, rfl, hA, pC⟩ | ⟨r1, g2, rfl, hL2⟩
  · have C8 := hC.lex w f8 hL2
    obtain ⟨a8, b8, ⟨s8, -, -⟩, -⟩ := id C8
    have pC1 : CpAt (CtP T d) (cxG Γ) h8 A c2 := pC.tr (fun q t z hk => ⟨hC.new w q z, hk, fun _ => rfl⟩)
    refine V.astore_n X dX11_loadComponent_11 [(0, _), (1, _)] rfl rfl rfl ?_
    refine V.aload_n X dX11_loadComponent_12 rfl ?_
    refine V.ifnonnull 27 X dX11_loadComponent_13 (by decide) ?_
    refine V.aload_n X dX11_loadComponent_27 rfl ?_
    refine V.getf  X fX11_loadComponent_10 dX11_loadComponent_28 a8.1 a8.2.1 ?_
    refine V.iconst (v := nI 0) X dX11_loadComponent_31 (by decide) ?_
    refine V.callVv (n := 1) X dX11_loadComponent_32 gX11_loadComponent_J4_setLength_d00df (c_J4_setLength_d00df _ _ s8) rfl (by decide +kernel) rfl rfl rfl s8.ob rfl rfl ⟨Nat.le_of_ble_eq_true rfl, Nat.le_of_ble_eq_true rfl⟩ (fun h32 hp32 => ?_)
    obtain ⟨s32, f32⟩ := hp32
    have C32 := C8.txt w8 (f32.mono (fun q _ e => Or.inl e)) s32 (by simp) (Or.inl rfl)
    have pC2 := pC1.un (f32.un w8 (fun q z => CtP_1 z))
    refine V.wf (fun w32 => ?_)
    refine V.aload_n X dX11_loadComponent_35 rfl ?_
    refine V.aload_n X dX11_loadComponent_36 rfl ?_
    refine V.callVv (n := 1) X dX11_loadComponent_37 gX11_loadComponent_X11_replaceComponent (c_X11_replaceComponent _ _ C32 pC2) rfl (by decide +kernel) rfl rfl rfl C32.1.1 rfl rfl ⟨Nat.le_of_ble_eq_true rfl, Nat.le_of_ble_eq_true rfl⟩ (fun h37 hp37 => ?_)
    obtain ⟨C37, f37⟩ := hp37
    have pC3 := pC2.un (f37.un w32 (fun q z e => e.elim (CtP_x z) (CtP_h z)))
    obtain ⟨xx, yy, zz, hp, hx, k0, k1, k2, k3, k4, k5, k6, es, k7, k8, -⟩ := id pC3
    refine V.aload_n X dX11_loadComponent_40 rfl ?_
    refine V.getf  X fX11_loadComponent_80 dX11_loadComponent_41 k0 k3 ?_
    refine V.callVi (n := 0) X dX11_loadComponent_44 gX11_loadComponent_Jx4a65c_size_8abf5 (c_Jx4a65c_size_8abf5 _ _ k7) rfl (by decide +kernel) rfl rfl rfl k7.1 rfl rfl ⟨Nat.le_of_ble_eq_true rfl, Nat.le_of_ble_eq_true rfl⟩ (fun r44 h44 hp44 => ?_)
    obtain ⟨rfl, e9⟩ := hp44; obtain rfl := e9.symm
    exact V.iret X Y9 dX11_loadComponent_47 (Or.inr ⟨c2, r1, g2, by rw [k8], C37, ((fr_lo f8 (fun q e => Or.inl (by unfold lexS at e; omega))).tr (fr_lo f32 (fun q e => Or.inl (by omega)))).tr (fr_xh f37)⟩) (Nat.le_of_ble_eq_true rfl) (Nat.le_of_ble_eq_true rfl)
  · have C8 := hC.lex w f8 hL2
    obtain ⟨a8, b8, -, ⟨e80, e81, -⟩, -⟩ := id C8
    refine V.astoreN_n X dX11_loadComponent_11 [(0, _), (1, _)] rfl rfl rfl ?_
    refine V.aload_nN X dX11_loadComponent_12 rfl ?_
    refine V.ifnonnullN X dX11_loadComponent_13 ?_
    refine V.bipush (v := -10) X dX11_loadComponent_16 (by decide) ?_
    refine V.aload_n X dX11_loadComponent_18 rfl ?_
    refine V.getf  X fX11_loadComponent_19 dX11_loadComponent_19 a8.1 a8.2.2.1 ?_
    refine V.callVi (n := 0) X dX11_loadComponent_22 gX11_loadComponent_X8_errorOffset (c_X8_errorOffset _ _ e80 e81 hL2) rfl (by decide +kernel) rfl rfl rfl e80 rfl rfl ⟨Nat.le_of_ble_eq_true rfl, Nat.le_of_ble_eq_true rfl⟩ (fun r22 h22 hp22 => ?_)
    obtain ⟨rfl, e9⟩ := hp22; obtain rfl := e9.symm
    refine V.isub X dX11_loadComponent_25 ?_
    exact V.iret X Y9 dX11_loadComponent_26 (Or.inl ⟨r1, g2, rfl, C8, fr_lo f8 (fun q e => Or.inl (by unfold lexS at e; omega))⟩) (Nat.le_of_ble_eq_true rfl) (Nat.le_of_ble_eq_true rfl)
theorem fX11_runText_10 : FL wsX11_runText RX11 10 13 0 (.object "java/lang/StringBuilder") true := ⟨_, rfl, by decide, Or.inl ⟨"ContractTester", by decide +kernel, Or.inl rfl⟩, by decide +kernel, by decide +kernel, rfl⟩
theorem fX11_runText_26 : FL wsX11_runText RX11 26 13 2 (.object "ContractTester$Exploration") true := ⟨_, rfl, by decide, Or.inl ⟨"ContractTester", by decide +kernel, Or.inl rfl⟩, by decide +kernel, by decide +kernel, rfl⟩
theorem fX11_runText_91 : FL wsX11_runText RX11 91 5 0 (.object "ContractTester$Component") false := ⟨_, rfl, by decide, Or.inr ⟨"ContractTester", by decide +kernel⟩, by decide +kernel, by decide +kernel, rfl⟩
set_option maxHeartbeats 4000000 in
set_option maxRecDepth 100000 in
theorem c_X11_runText (l : Launch) (G : GG) {h : Hp} {T d : Nat} {t : List Nat} {c : Cmp} {r : Xr} {la k : Nat} {sx : Nat → Cmp × Xr} (hC : CtAt G h T d t c r la k sx)  : Con l G yX11_runText wsX11_runText 6 137 1 402 [.ref T] h (pI (fun y2 h2 => (∃ j, dgB c.2.2.length t 0 = some j ∧ y2 = -10 - nI j ∧ h2 = h) ∨ (dgB c.2.2.length t 0 = none ∧ y2 = runT c t 0 c.1 ∧ CtAt G h2 T d [] c r la k sx ∧ Fr (CtW T d) h h2))) := by
  refine Con.of (cc := cX11_runText) (nL := 3) (ret := (some .int)) (by decide) rfl rfl rfl rfl (fun Γ hG hl X Y9 => ?_)
  subst hG
  subst hl
  refine V.wf (fun w => ?_)
  obtain ⟨a, b, ⟨s, t0, d0⟩, -, x, y, ys, zs, hz⟩ := id hC
  obtain ⟨⟨rs0, l0⟩, o0, v0, p0⟩ := id x
  have hl10 := p0.len
  have loop : ∀ (m j : Nat), j + m = t.length → dgB c.2.2.length (t.drop j) j = dgB c.2.2.length t 0 → V Γ 0 0 10 [(0, .ref T), (1, .ref o0), (2, .int (nI j))] [] h := by
    intro m
    induction m with
    | zero =>
      intro j g1 g3
      rw [List.drop_eq_nil_of_le (by omega)] at g3
      have e0 : dgB c.2.2.length t 0 = none := g3.symm
      have hok := dgB_ok (by omega) t 0 s.mem e0
      refine V.iload_n X dX11_runText_10 rfl ?_
      refine V.aload_n X dX11_runText_11 rfl ?_
      refine V.getf  X fX11_runText_10 dX11_runText_12 a.1 a.2.1 ?_
      refine V.callVi (n := 0) X dX11_runText_15 gX11_runText_J4_length_8abf5 (c_J4_length_8abf5 _ _ s) rfl (by decide +kernel) rfl rfl rfl s.ob rfl rfl ⟨Nat.le_of_ble_eq_true rfl, Nat.le_of_ble_eq_true rfl⟩ (fun r15 h15 hp15 => ?_)
      obtain ⟨rfl, e9⟩ := hp15; obtain rfl := e9.symm
      refine V.icmp_ge 50 X dX11_runText_18 (by decide) (fun c18 => ?_) (fun c18 => absurd (nI_le (show t.length ≤ j by omega) (by omega)) c18)
      refine V.aload_n X dX11_runText_50 rfl ?_
      refine V.aload_n X dX11_runText_51 rfl ?_
      refine V.callVi (n := 1) X dX11_runText_52 gX11_runText_X11_firstVerdictInText (c_X11_firstVerdictInText _ _ b a.2.1 s (by omega) t0 p0 (fun q z => CtP_z z) hz (fun i hi => (hok _ (getD_mem hi)).1)) rfl (by decide +kernel) rfl rfl rfl a.1 rfl rfl ⟨Nat.le_of_ble_eq_true rfl, Nat.le_of_ble_eq_true rfl⟩ (fun r52 h52 hp52 => ?_)
      obtain ⟨rfl, f52, z52⟩ := hp52
      have C52 := hC.scr w (f52.mono (fun q _ e => by unfold ZS; omega)) z52
      obtain ⟨a52, b52, ⟨s52, -⟩, -⟩ := id C52
      refine V.wf (fun w52 => ?_)
      refine V.istore_n X dX11_runText_55 [(0, _), (1, _), (2, _)] rfl rfl rfl ?_
      refine V.aload_n X dX11_runText_56 rfl ?_
      refine V.getf  X fX11_runText_10 dX11_runText_57 a52.1 a52.2.1 ?_
      refine V.iconst (v := nI 0) X dX11_runText_60 (by decide) ?_
      refine V.callVv (n := 1) X dX11_runText_61 gX11_runText_J4_setLength_d00df (c_J4_setLength_d00df _ _ s52) rfl (by decide +kernel) rfl rfl rfl s52.ob rfl rfl ⟨Nat.le_of_ble_eq_true rfl, Nat.le_of_ble_eq_true rfl⟩ (fun h61 hp61 => ?_)
      obtain ⟨s61, f61⟩ := hp61
      have C61 := C52.txt w52 (f61.mono (fun q _ e => Or.inl e)) s61 (by simp) (Or.inl rfl)
      refine V.iload_n X dX11_runText_64 rfl ?_
      exact V.iret X Y9 dX11_runText_65 (Or.inr ⟨e0, rfl, C61, (fr_lo f52 (fun q e => Or.inr (by unfold ZS; omega))).tr (fr_lo f61 (fun q e => Or.inl (by omega)))⟩) (Nat.le_of_ble_eq_true rfl) (Nat.le_of_ble_eq_true rfl)
    | succ m ih =>
      intro j g1 g3
      have hj : j < t.length := by omega
      have hcl := s.lt j hj
      rw [dgB_drop hj] at g3
      refine V.iload_n X dX11_runText_10 rfl ?_
      refine V.aload_n X dX11_runText_11 rfl ?_
      refine V.getf  X fX11_runText_10 dX11_runText_12 a.1 a.2.1 ?_
      refine V.callVi (n := 0) X dX11_runText_15 gX11_runText_J4_length_8abf5 (c_J4_length_8abf5 _ _ s) rfl (by decide +kernel) rfl rfl rfl s.ob rfl rfl ⟨Nat.le_of_ble_eq_true rfl, Nat.le_of_ble_eq_true rfl⟩ (fun r15 h15 hp15 => ?_)
      obtain ⟨rfl, e9⟩ := hp15; obtain rfl := e9.symm
      refine V.icmp_ge 50 X dX11_runText_18 (by decide) (fun c18 => absurd c18 (nI_nle9 (show j < t.length by omega) (by omega))) (fun c18 => ?_)
      refine V.aload_n X dX11_runText_21 rfl ?_
      refine V.aload_n X dX11_runText_22 rfl ?_
      refine V.getf  X fX11_runText_10 dX11_runText_23 a.1 a.2.1 ?_
      refine V.iload_n X dX11_runText_26 rfl ?_
      refine V.callV (n := 1) X dX11_runText_27 gX11_runText_J4_charAt_5068e (c_J4_charAt_5068e _ _ s (i := j) hj) rfl (by decide +kernel) rfl rfl rfl s.ob rfl rfl ⟨Nat.le_of_ble_eq_true rfl, Nat.le_of_ble_eq_true rfl⟩ (fun v27 h27 hp27 => ?_)
      obtain ⟨rfl, e9⟩ := hp27; obtain rfl := e9.symm
      refine V.bipush (v := nI 48) X dX11_runText_30 (by decide) ?_
      refine V.isub X dX11_runText_32 ?_
      refine V.callVi (n := 1) X dX11_runText_33 gX11_runText_X1_hasMethod (c_X1_hasMethod _ _ p0) rfl (by decide +kernel) rfl rfl rfl p0.k rfl rfl ⟨Nat.le_of_ble_eq_true rfl, Nat.le_of_ble_eq_true rfl⟩ (fun r33 h33 hp33 => ?_)
      obtain ⟨rfl, e9⟩ := hp33; obtain rfl := e9.symm
      refine V.if_ne 44 X dX11_runText_36 (by decide) (fun c36 => ?_) (fun c36 => ?_)
      · have hz9 := bI_ne c36
        rw [if_pos hz9] at g3
        refine V.iinc (v := nI (j + 1)) X dX11_runText_44 [(0, _), (1, _), (2, _)] rfl (nI_1 j) rfl rfl rfl ?_
        refine V.goto 10 X dX11_runText_47 (by decide) ?_
        refine V.drop [(0, _), (1, _), (2, _)] [0, 1, 2] rfl ?_
        exact ih (j + 1) (by omega) g3
      · have hz9 : ¬ isIx (nI (t.getD j 0) - nI 48) c.2.2.length = true := by rw [bI_eq c36]; decide
        rw [if_neg hz9] at g3
        refine V.bipush (v := -10) X dX11_runText_39 (by decide) ?_
        refine V.iload_n X dX11_runText_41 rfl ?_
        refine V.isub X dX11_runText_42 ?_
        exact V.iret X Y9 dX11_runText_43 (Or.inl ⟨j, g3.symm, rfl, rfl⟩) (Nat.le_of_ble_eq_true rfl) (Nat.le_of_ble_eq_true rfl)
  refine V.aload_n X dX11_runText_0 rfl ?_
  refine V.getf  X fX11_runText_26 dX11_runText_1 a.1 a.2.2.2.1 ?_
  refine V.getf  X fX11_runText_91 dX11_runText_4 l0.1.1.1 v0 ?_
  refine V.astore_n X dX11_runText_7 [(0, _), (1, _)] rfl rfl rfl ?_
  refine V.iconst (v := nI 0) X dX11_runText_8 (by decide) ?_
  refine V.istore_n X dX11_runText_9 [(0, _), (1, _), (2, _)] rfl rfl rfl ?_
  exact loop t.length 0 (Nat.zero_add _) rfl
