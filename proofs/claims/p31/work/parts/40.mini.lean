def WkZ (h : Hp) (T Z : Nat) : Prop := Hk h T = some (.inl 13) ∧ Hv h T 4 = .ref Z ∧ Hv h T 5 = .ref (Z + 1) ∧ Hv h T 6 = .ref (Z + 2) ∧ Hv h T 7 = .ref (Z + 4)
theorem WkZ.kept {S : Nat → Prop} {h h1 : Hp} {T Z : Nat} (q : WkZ h T Z) (w : WF h) (f : Fr S h h1) (n : ¬ S T) : WkZ h1 T Z :=
  ⟨f.k w q.1, by rw [f.v w q.1 n]; exact q.2.1, by rw [f.v w q.1 n]; exact q.2.2.1, by rw [f.v w q.1 n]; exact q.2.2.2.1, by rw [f.v w q.1 n]; exact q.2.2.2.2⟩
def ScZ (h : Hp) (Z : Nat) (ys zs : List Nat) : Prop := (∃ s, StAt h Z s) ∧ (∃ s, StAt h (Z + 1) s) ∧ SqAt h (Z + 2) ys ∧ SqAt h (Z + 4) zs
def ZS (Z : Nat) : Nat → Prop := fun q => Z ≤ q ∧ q < Z + 6
def dropC (c : Cmp) (v : Nat) (ys : List Nat) : Nat → Nat → Option (List Nat)
  | 0, _ => none
  | n + 1, j => if runE c (ys.eraseIdx j) c.1 v = true then some (ys.eraseIdx j) else dropC c v ys n (j + 1)
theorem mem_b {ys : List Nat} {b i : Nat} (h : ∀ m ∈ ys, m < b) (hi : i < ys.length) : ys.getD i 0 < b := by
  rw [List.getD_eq_getElem?_getD, List.getElem?_eq_getElem hi]
  exact h _ (List.getElem_mem hi)
theorem erase_b {ys : List Nat} {b j : Nat} (h : ∀ m ∈ ys, m < b) : ∀ m ∈ ys.eraseIdx j, m < b := fun m hm => h m (List.mem_of_mem_eraseIdx hm)
theorem erase_len {ys : List Nat} {j : Nat} (h : j + 1 < ys.length) : (ys.eraseIdx j).length = ys.length - 1 := by
  rw [List.length_eraseIdx, if_pos (by omega)]
theorem dropC_ok {c : Cmp} {v b : Nat} {ys zs : List Nat} (hb : ∀ m ∈ ys, m < b) : ∀ (n j : Nat), j + n = ys.length - 1 → dropC c v ys n j = some zs → zs.length = ys.length - 1 ∧ 0 < zs.length ∧ ∀ m ∈ zs, m < b := by
  intro n
  induction n with
  | zero => intro j _ h; cases h
  | succ n ih =>
    intro j hj h
    unfold dropC at h
    by_cases hc : runE c (ys.eraseIdx j) c.1 v = true
    · rw [if_pos hc] at h
      cases h
      have hl := erase_len (ys := ys) (j := j) (by omega)
      exact ⟨hl, by omega, erase_b hb⟩
    · rw [if_neg hc] at h
      exact ih (j + 1) (by omega) h
def minC (c : Cmp) (v : Nat) : Nat → List Nat → List Nat
  | 0, ys => ys
  | n + 1, ys => match dropC c v ys (ys.length - 1) 0 with
    | none => ys
    | some zs => minC c v n zs
theorem fX11_dropOneCall_50 : FL wsX11_dropOneCall RX11 50 13 6 (.object "ContractTester$Sequence") true := ⟨_, rfl, by decide, Or.inl ⟨"ContractTester", by decide +kernel, Or.inl rfl⟩, by decide +kernel, by decide +kernel, rfl⟩
theorem fX11_dropOneCall_181 : FL wsX11_dropOneCall RX11 181 11 1 .int false := ⟨_, rfl, by decide, Or.inr ⟨"ContractTester", by decide +kernel⟩, by decide +kernel, by decide +kernel, rfl⟩
theorem fX11_dropOneCall_54 : FL wsX11_dropOneCall RX11 54 13 7 (.object "ContractTester$Sequence") true := ⟨_, rfl, by decide, Or.inl ⟨"ContractTester", by decide +kernel, Or.inl rfl⟩, by decide +kernel, by decide +kernel, rfl⟩
set_option maxHeartbeats 4000000 in
set_option maxRecDepth 100000 in
theorem c_X11_dropOneCall (l : Launch) (G : GG) {h : Hp} {T E Z : Nat} (hT : WkZ h T Z) (hTZ : T < Z ∧ E < Z) (hT2 : Hv h T 2 = .ref E) (hE : Hk h E = some (.inl 5)) {P : Nat → Prop} {o : Nat} {c : Cmp} (hO : Hv h E 0 = .ref o) (hC : CpAt P G h o c) (hP : ∀ q, P q → ¬ ZS Z q) {v : Nat} (hv : v < 1000) {ys zs : List Nat} (hS : ScZ h Z ys zs) (hy : 0 < ys.length) (hb : ∀ m ∈ ys, m < 1000) : Con l G yX11_dropOneCall wsX11_dropOneCall 6 139 0 0 [.ref T, .int (nI v)] h (pI (fun y h2 => Fr (ZS Z) h h2 ∧ ((∃ ws zs', dropC c v ys (ys.length - 1) 0 = some ws ∧ y = 1 ∧ ScZ h2 Z ws zs') ∨ (∃ zs', dropC c v ys (ys.length - 1) 0 = none ∧ y = 0 ∧ ScZ h2 Z ys zs')))) := by
  refine Con.of (cc := cX11_dropOneCall) (nL := 3) (ret := (some .boolean)) (by decide) rfl rfl rfl rfl (fun Γ hG hl X Y9 => ?_)
  subst hG
  subst hl
  refine V.wf (fun w => ?_)
  have h8 := hS.2.2.1.2.2.2.1
  have loop : ∀ (m j : Nat) (zs : List Nat) (h1 : Hp), j + m = ys.length - 1 → Fr (ZS Z) h h1 → ScZ h1 Z ys zs → dropC c v ys m j = dropC c v ys (ys.length - 1) 0 → V Γ 0 0 2 [(0, .ref T), (1, .int (nI v)), (2, .int (nI j))] [] h1 := by
    intro m
    induction m with
    | zero =>
      intro j zs h1 g1 pF pS g3
      have e0 : dropC c v ys (ys.length - 1) 0 = none := g3.symm
      refine V.wf (fun w1 => ?_)
      have nT : ¬ ZS Z T := fun e => by unfold ZS at e; omega
      have nE : ¬ ZS Z E := fun e => by unfold ZS at e; omega
      have pT := hT.kept w pF nT
      have pT2 : Hv h1 T 2 = .ref E := by rw [pF.v w hT.1 nT]; exact hT2
      have pE := pF.k w hE
      have pO : Hv h1 E 0 = .ref o := by rw [pF.v w hE nE]; exact hO
      have pC := hC.un (pF.un w hP)
      refine V.iload_n X dX11_dropOneCall_2 rfl ?_
      refine V.aload_n X dX11_dropOneCall_3 rfl ?_
      refine V.getf  X fX11_dropOneCall_50 dX11_dropOneCall_4 pT.1 pT.2.2.2.1 ?_
      refine V.getf  X fX11_dropOneCall_181 dX11_dropOneCall_7 pS.2.2.1.1 pS.2.2.1.2.2.1 ?_
      refine V.iconst (v := nI 1) X dX11_dropOneCall_10 (by decide) ?_
      refine V.isub X dX11_dropOneCall_11 ?_
      rw [nI_sub9 (show 1 ≤ ys.length by omega)]
      refine V.icmp_ge 58 X dX11_dropOneCall_12 (by decide) (fun c12 => ?_) (fun c12 => absurd (nI_le (show ys.length - 1 ≤ j by omega) (by omega)) c12)
      refine V.iconst (v := nI 0) X dX11_dropOneCall_58 (by decide) ?_
      exact V.bret X Y9 dX11_dropOneCall_59 false rfl ⟨pF, Or.inr ⟨_, e0, rfl, pS⟩⟩ (Nat.le_of_ble_eq_true rfl) (Nat.le_of_ble_eq_true rfl)
    | succ m ih =>
      intro j zs h1 g1 pF pS g3
      refine V.wf (fun w1 => ?_)
      have nT : ¬ ZS Z T := fun e => by unfold ZS at e; omega
      have nE : ¬ ZS Z E := fun e => by unfold ZS at e; omega
      have pT := hT.kept w pF nT
      have pT2 : Hv h1 T 2 = .ref E := by rw [pF.v w hT.1 nT]; exact hT2
      have pE := pF.k w hE
      have pO : Hv h1 E 0 = .ref o := by rw [pF.v w hE nE]; exact hO
      have pC := hC.un (pF.un w hP)
      obtain ⟨⟨sB, pB⟩, ⟨sA, pA⟩, pY, pZ⟩ := id pS
      have hl := erase_len (ys := ys) (j := j) (by omega)
      refine V.iload_n X dX11_dropOneCall_2 rfl ?_
      refine V.aload_n X dX11_dropOneCall_3 rfl ?_
      refine V.getf  X fX11_dropOneCall_50 dX11_dropOneCall_4 pT.1 pT.2.2.2.1 ?_
      refine V.getf  X fX11_dropOneCall_181 dX11_dropOneCall_7 pY.1 pY.2.2.1 ?_
      refine V.iconst (v := nI 1) X dX11_dropOneCall_10 (by decide) ?_
      refine V.isub X dX11_dropOneCall_11 ?_
      rw [nI_sub9 (show 1 ≤ ys.length by omega)]
      refine V.icmp_ge 58 X dX11_dropOneCall_12 (by decide) (fun c12 => absurd c12 (nI_nle9 (show j < ys.length - 1 by omega) (by omega))) (fun c12 => ?_)
      refine V.aload_n X dX11_dropOneCall_15 rfl ?_
      refine V.getf  X fX11_dropOneCall_54 dX11_dropOneCall_16 pT.1 pT.2.2.2.2 ?_
      refine V.aload_n X dX11_dropOneCall_19 rfl ?_
      refine V.getf  X fX11_dropOneCall_50 dX11_dropOneCall_20 pT.1 pT.2.2.2.1 ?_
      refine V.iload_n X dX11_dropOneCall_23 rfl ?_
      refine V.callVv (n := 2) X dX11_dropOneCall_24 gX11_dropOneCall_X9_copyWithout (c_X9_copyWithout _ _ (k := nI j) pZ pY (by omega)) rfl (by decide +kernel) rfl rfl rfl pZ.1 rfl rfl ⟨Nat.le_of_ble_eq_true rfl, Nat.le_of_ble_eq_true rfl⟩ (fun h24 hp24 => ?_)
      obtain ⟨s24, f24⟩ := hp24
      rw [show nI j = nI (0 + j) by rw [Nat.zero_add], wo_at _ _ _ (by omega)] at s24
      refine V.wf (fun w24 => ?_)
      have T24 := pT.kept w1 f24 (by omega)
      have T24b : Hv h24 T 2 = .ref E := by rw [f24.v w1 pT.1 (by omega)]; exact pT2
      have E24 := f24.k w1 pE
      have O24 : Hv h24 E 0 = .ref o := by rw [f24.v w1 pE (by omega)]; exact pO
      have C24 := pC.un (f24.un w1 (fun q z e => hP q z (by unfold ZS; omega)))
      have B24 := pB.kept w1 f24 (by omega)
      have A24 := pA.kept w1 f24 (by omega)
      have Y24 := pY.kept w1 f24 (by omega) (by omega)
      have F24 : Fr (ZS Z) h h24 := pF.then f24 (fun q _ e => by unfold ZS; omega)
      refine V.aload_n X dX11_dropOneCall_27 rfl ?_
      refine V.aload_n X dX11_dropOneCall_28 rfl ?_
      refine V.getf  X fX11_dropOneCall_54 dX11_dropOneCall_29 T24.1 T24.2.2.2.2 ?_
      refine V.iload_n X dX11_dropOneCall_32 rfl ?_
      refine V.callVi (n := 2) X dX11_dropOneCall_33 gX11_dropOneCall_X11_endsWithVerdict (c_X11_endsWithVerdict _ _ ⟨T24.1, T24.2.1, T24.2.2.1⟩ T24b E24 O24 C24 ⟨fun z => hP _ z (by unfold ZS; omega), fun z => hP _ z (by unfold ZS; omega)⟩ B24 A24 (by omega) s24 (by omega) (fun i hi => mem_b (erase_b hb) hi) hv (by omega)) rfl (by decide +kernel) rfl rfl rfl T24.1 rfl rfl ⟨Nat.le_of_ble_eq_true rfl, Nat.le_of_ble_eq_true rfl⟩ (fun r33 h33 hp33 => ?_)
      obtain ⟨rfl, f33, ⟨sB3, B33⟩, sA3, A33⟩ := hp33
      refine V.wf (fun w33 => ?_)
      have Y33 := Y24.kept w24 f33 (by omega) (by omega)
      have K33 := s24.kept w24 f33 (by omega) (by omega)
      have T33 := T24.kept w24 f33 (by omega)
      have F33 : Fr (ZS Z) h h33 := F24.then f33 (fun q _ e => by unfold ZS; omega)
      refine V.if_eq 52 X dX11_dropOneCall_36 (by decide) (fun c36 => ?_) (fun c36 => ?_)
      · have hr : runE c (ys.eraseIdx j) c.1 v = false := bI_eq c36
        have g4 : dropC c v ys m (j + 1) = dropC c v ys (ys.length - 1) 0 := by
          rw [← g3]
          show _ = (if runE c (ys.eraseIdx j) c.1 v = true then some (ys.eraseIdx j) else dropC c v ys m (j + 1))
          rw [hr]
          rfl
        refine V.iinc (v := nI (j + 1)) X dX11_dropOneCall_52 [(0, _), (1, _), (2, _)] rfl (nI_1 j) rfl rfl rfl ?_
        refine V.goto 2 X dX11_dropOneCall_55 (by decide) ?_
        exact ih (j + 1) _ _ (by omega) F33 ⟨⟨_, B33⟩, ⟨_, A33⟩, Y33, K33⟩ g4
      · have hr : runE c (ys.eraseIdx j) c.1 v = true := bI_ne c36
        have e0 : dropC c v ys (ys.length - 1) 0 = some (ys.eraseIdx j) := by
          rw [← g3]
          exact if_pos hr
        refine V.aload_n X dX11_dropOneCall_39 rfl ?_
        refine V.getf  X fX11_dropOneCall_50 dX11_dropOneCall_40 T33.1 T33.2.2.2.1 ?_
        refine V.aload_n X dX11_dropOneCall_43 rfl ?_
        refine V.getf  X fX11_dropOneCall_54 dX11_dropOneCall_44 T33.1 T33.2.2.2.2 ?_
        refine V.callVv (n := 1) X dX11_dropOneCall_47 gX11_dropOneCall_X9_copyFrom (c_X9_copyFrom _ _ Y33 K33 (by omega)) rfl (by decide +kernel) rfl rfl rfl Y33.1 rfl rfl ⟨Nat.le_of_ble_eq_true rfl, Nat.le_of_ble_eq_true rfl⟩ (fun h47 hp47 => ?_)
        obtain ⟨s47, f47⟩ := hp47
        have F47 : Fr (ZS Z) h h47 := F33.then f47 (fun q _ e => by unfold ZS; omega)
        have S47 : ScZ h47 Z (ys.eraseIdx j) (ys.eraseIdx j) := ⟨⟨_, B33.kept w33 f47 (by omega)⟩, ⟨_, A33.kept w33 f47 (by omega)⟩, s47, K33.kept w33 f47 (by omega) (by omega)⟩
        refine V.iconst (v := nI 1) X dX11_dropOneCall_50 (by decide) ?_
        exact V.bret X Y9 dX11_dropOneCall_51 true rfl ⟨F47, Or.inl ⟨_, _, e0, rfl, S47⟩⟩ (Nat.le_of_ble_eq_true rfl) (Nat.le_of_ble_eq_true rfl)
  refine V.iconst (v := nI 0) X dX11_dropOneCall_0 (by decide) ?_
  refine V.istore_n X dX11_dropOneCall_1 [(0, _), (1, _), (2, _)] rfl rfl rfl ?_
  exact loop (ys.length - 1) 0 _ _ (Nat.zero_add _) Fr.rf hS rfl
theorem fX11_minimize_50 : FL wsX11_minimize RX11 50 13 6 (.object "ContractTester$Sequence") true := ⟨_, rfl, by decide, Or.inl ⟨"ContractTester", by decide +kernel, Or.inl rfl⟩, by decide +kernel, by decide +kernel, rfl⟩
set_option maxHeartbeats 4000000 in
set_option maxRecDepth 100000 in
theorem c_X11_minimize (l : Launch) (G : GG) {h : Hp} {T E Z : Nat} (hT : WkZ h T Z) (hTZ : T < Z ∧ E < Z) (hT2 : Hv h T 2 = .ref E) (hE : Hk h E = some (.inl 5)) {P : Nat → Prop} {o : Nat} {c : Cmp} (hO : Hv h E 0 = .ref o) (hC : CpAt P G h o c) (hP : ∀ q, P q → ¬ ZS Z q) {v : Nat} (hv : v < 1000) {s0 : Nat} {xs ys zs : List Nat} (hS : ScZ h Z ys zs) (hX : SqAt h s0 xs) (hs0 : s0 + 1 < Z) (hy : 0 < xs.length) (hb : ∀ m ∈ xs, m < 1000) : Con l G yX11_minimize wsX11_minimize 7 161 0 0 [.ref T, .ref s0, .int (nI v)] h (pV (fun h2 => Fr (ZS Z) h h2 ∧ ∃ zs', ScZ h2 Z (minC c v 8 xs) zs')) := by
  refine Con.of (cc := cX11_minimize) (nL := 5) (ret := none) (by decide) rfl rfl rfl rfl (fun Γ hG hl X Y9 => ?_)
  subst hG
  subst hl
  refine V.wf (fun w => ?_)
  have nT : ¬ ZS Z T := fun e => by unfold ZS at e; omega
  have nE : ¬ ZS Z E := fun e => by unfold ZS at e; omega
  have stop : ∀ (m j : Nat) (h1 : Hp) (zs : List Nat), j + m = 8 → Fr (ZS Z) h h1 → ScZ h1 Z (minC c v 8 xs) zs → V Γ 0 0 13 [(0, .ref T), (1, .ref s0), (2, .int (nI v)), (3, .int 0), (4, .int (nI j))] [] h1 := by
    intro m j h1 zs g1 pF pS
    rcases Nat.eq_zero_or_pos m with z | z
    · have ej : j = 8 := by omega
      subst ej
      refine V.iload X dX11_minimize_13 rfl ?_
      refine V.bipush (v := nI 8) X dX11_minimize_15 (by decide) ?_
      refine V.icmp_ge 36 X dX11_minimize_17 (by decide) (fun c17 => ?_) (fun c17 => absurd (by decide) c17)
      exact V.vret X Y9 dX11_minimize_36 ⟨rfl, pF, _, pS⟩ (Nat.le_of_ble_eq_true rfl) (Nat.le_of_ble_eq_true rfl)
    · have z9 : 0 < m := z
      refine V.iload X dX11_minimize_13 rfl ?_
      refine V.bipush (v := nI 8) X dX11_minimize_15 (by decide) ?_
      refine V.icmp_ge 36 X dX11_minimize_17 (by decide) (fun c17 => absurd c17 (nI_nle9 (show j < 8 by omega) (by omega))) (fun c17 => ?_)
      refine V.iload_n X dX11_minimize_20 rfl ?_
      refine V.if_eq 36 X dX11_minimize_21 (by decide) (fun c21 => ?_) (fun c21 => absurd rfl c21)
      exact V.vret X Y9 dX11_minimize_36 ⟨rfl, pF, _, pS⟩ (Nat.le_of_ble_eq_true rfl) (Nat.le_of_ble_eq_true rfl)
  have loop : ∀ (m j : Nat) (ys zs : List Nat) (h1 : Hp), j + m = 8 → Fr (ZS Z) h h1 → ScZ h1 Z ys zs → 0 < ys.length → (∀ m ∈ ys, m < 1000) → minC c v m ys = minC c v 8 xs → V Γ 0 0 13 [(0, .ref T), (1, .ref s0), (2, .int (nI v)), (3, .int 1), (4, .int (nI j))] [] h1 := by
    intro m
    induction m with
    | zero =>
      intro j ys zs h1 g1 pF pS p0 pb g3
      have ej : j = 8 := by omega
      subst ej
      have e0 : ys = minC c v 8 xs := g3
      rw [e0] at pS
      refine V.iload X dX11_minimize_13 rfl ?_
      refine V.bipush (v := nI 8) X dX11_minimize_15 (by decide) ?_
      refine V.icmp_ge 36 X dX11_minimize_17 (by decide) (fun c17 => ?_) (fun c17 => absurd (by decide) c17)
      exact V.vret X Y9 dX11_minimize_36 ⟨rfl, pF, _, pS⟩ (Nat.le_of_ble_eq_true rfl) (Nat.le_of_ble_eq_true rfl)
    | succ m ih =>
      intro j ys zs h1 g1 pF pS p0 pb g3
      refine V.wf (fun w1 => ?_)
      have nT : ¬ ZS Z T := fun e => by unfold ZS at e; omega
      have nE : ¬ ZS Z E := fun e => by unfold ZS at e; omega
      have pT := hT.kept w pF nT
      have pT2 : Hv h1 T 2 = .ref E := by rw [pF.v w hT.1 nT]; exact hT2
      have pE := pF.k w hE
      have pO : Hv h1 E 0 = .ref o := by rw [pF.v w hE nE]; exact hO
      have pC := hC.un (pF.un w hP)
      refine V.iload X dX11_minimize_13 rfl ?_
      refine V.bipush (v := nI 8) X dX11_minimize_15 (by decide) ?_
      refine V.icmp_ge 36 X dX11_minimize_17 (by decide) (fun c17 => absurd c17 (nI_nle9 (show j < 8 by omega) (by omega))) (fun c17 => ?_)
      refine V.iload_n X dX11_minimize_20 rfl ?_
      refine V.if_eq 36 X dX11_minimize_21 (by decide) (fun c21 => absurd c21 (by decide)) (fun c21 => ?_)
      refine V.aload_n X dX11_minimize_24 rfl ?_
      refine V.iload_n X dX11_minimize_25 rfl ?_
      refine V.callVi (n := 1) X dX11_minimize_26 gX11_minimize_X11_dropOneCall (c_X11_dropOneCall _ _ pT hTZ pT2 pE pO pC hP hv pS p0 pb) rfl (by decide +kernel) rfl rfl rfl pT.1 rfl rfl ⟨Nat.le_of_ble_eq_true rfl, Nat.le_of_ble_eq_true rfl⟩ (fun r26 h26 hp26 => ?_)
      obtain ⟨f26, hq26⟩ := hp26
      have F26 := pF.tr f26
      rcases hq26 with ⟨us, zs2, e2, rfl, S26⟩ | ⟨zs2, e2, rfl, S26⟩
      rotate_left
      · have e0 : minC c v 8 xs = ys := by
          rw [← g3]
          simp [minC, e2]
        refine V.istore_n X dX11_minimize_29 [(0, _), (1, _), (2, _), (3, _), (4, _)] rfl rfl rfl ?_
        refine V.iinc (v := nI (j + 1)) X dX11_minimize_30 [(0, _), (1, _), (2, _), (3, _), (4, _)] rfl (nI_1 j) rfl rfl rfl ?_
        refine V.goto 13 X dX11_minimize_33 (by decide) ?_
        exact stop m (j + 1) _ zs2 (by omega) F26 (by rw [e0]; exact S26)
      obtain ⟨d1, d2, d3⟩ := dropC_ok pb _ 0 (Nat.zero_add _) e2
      have e0 : minC c v m us = minC c v 8 xs := by
        rw [← g3]
        simp [minC, e2]
      refine V.istore_n X dX11_minimize_29 [(0, _), (1, _), (2, _), (3, _), (4, _)] rfl rfl rfl ?_
      refine V.iinc (v := nI (j + 1)) X dX11_minimize_30 [(0, _), (1, _), (2, _), (3, _), (4, _)] rfl (nI_1 j) rfl rfl rfl ?_
      refine V.goto 13 X dX11_minimize_33 (by decide) ?_
      exact ih (j + 1) us zs2 _ (by omega) F26 S26 d2 d3 e0
  refine V.aload_n X dX11_minimize_0 rfl ?_
  refine V.getf  X fX11_minimize_50 dX11_minimize_1 hT.1 hT.2.2.2.1 ?_
  refine V.aload_n X dX11_minimize_4 rfl ?_
  refine V.callVv (n := 1) X dX11_minimize_5 gX11_minimize_X9_copyFrom (c_X9_copyFrom _ _ hS.2.2.1 hX (by omega)) rfl (by decide +kernel) rfl rfl rfl hS.2.2.1.1 rfl rfl ⟨Nat.le_of_ble_eq_true rfl, Nat.le_of_ble_eq_true rfl⟩ (fun h5 hp5 => ?_)
  obtain ⟨s5, f5⟩ := hp5
  have F5 : Fr (ZS Z) h h5 := f5.mono (fun q _ e => by unfold ZS; omega)
  obtain ⟨⟨sB, pB⟩, ⟨sA, pA⟩, pY, pZ⟩ := id hS
  have S5 : ScZ h5 Z xs zs := ⟨⟨_, pB.kept w f5 (by omega)⟩, ⟨_, pA.kept w f5 (by omega)⟩, s5, pZ.kept w f5 (by omega) (by omega)⟩
  refine V.iconst (v := nI 1) X dX11_minimize_8 (by decide) ?_
  refine V.istore_n X dX11_minimize_9 [(0, _), (1, _), (2, _), (3, _)] rfl rfl rfl ?_
  refine V.iconst (v := nI 0) X dX11_minimize_10 (by decide) ?_
  refine V.istore X dX11_minimize_11 [(0, _), (1, _), (2, _), (3, _), (4, _)] rfl rfl rfl ?_
  exact loop 8 0 xs zs _ rfl F5 S5 hy hb rfl
