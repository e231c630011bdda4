/-! THE START -/
theorem st_cl {s : State} {args : Array Value} (h : ∀ w ∈ T2, w.before args s = true) : ∃ D : va_G, ∀ (c : Nat) (q : vw_C), vwCl[c]? = some q → u_Kn s q.1 q.2.1 q.2.2 (D.1 c) (D.2 c) := by
  have h0 : ∀ c : Nat, ∃ x : ClassId × (Nat → Nat), ∀ q : vw_C, vwCl[c]? = some q → u_Kn s q.1 q.2.1 q.2.2 x.1 x.2 := by
    intro c
    match c with
    | 0 => obtain ⟨cC, iS, hk⟩ := u_known (C := RJ4) (T := TJ4) (N := 4) (n := 4) h inJ4 (h (.instantiable RJ4 4) (by decide +kernel)); exact ⟨(cC, iS), fun q hq => by cases hq; exact hk⟩
    | 1 => obtain ⟨cC, iS, hk⟩ := u_known (C := RJx4a65c) (T := TJx4a65c) (N := 3) (n := 3) h inJx4a65c (h (.instantiable RJx4a65c 3) (by decide +kernel)); exact ⟨(cC, iS), fun q hq => by cases hq; exact hk⟩
    | 2 => obtain ⟨cC, iS, hk⟩ := u_known (C := RX0) (T := TX0) (N := 4) (n := 4) h inX0 (h (.instantiable RX0 4) (by decide +kernel)); exact ⟨(cC, iS), fun q hq => by cases hq; exact hk⟩
    | 3 => obtain ⟨cC, iS, hk⟩ := u_known (C := RX1) (T := TX1) (N := 3) (n := 3) h inX1 (h (.instantiable RX1 3) (by decide +kernel)); exact ⟨(cC, iS), fun q hq => by cases hq; exact hk⟩
    | 4 => obtain ⟨cC, iS, hk⟩ := u_known (C := RX2) (T := TX2) (N := 3) (n := 3) h inX2 (h (.instantiable RX2 3) (by decide +kernel)); exact ⟨(cC, iS), fun q hq => by cases hq; exact hk⟩
    | 5 => obtain ⟨cC, iS, hk⟩ := u_known (C := RX3) (T := TX3) (N := 13) (n := 13) h inX3 (h (.instantiable RX3 13) (by decide +kernel)); exact ⟨(cC, iS), fun q hq => by cases hq; exact hk⟩
    | 6 => obtain ⟨cC, iS, hk⟩ := u_known (C := RX4) (T := TX4) (N := 3) (n := 3) h inX4 (h (.instantiable RX4 3) (by decide +kernel)); exact ⟨(cC, iS), fun q hq => by cases hq; exact hk⟩
    | 7 => obtain ⟨cC, iS, hk⟩ := u_known (C := RX5) (T := TX5) (N := 6) (n := 6) h inX5 (h (.instantiable RX5 6) (by decide +kernel)); exact ⟨(cC, iS), fun q hq => by cases hq; exact hk⟩
    | 8 => obtain ⟨cC, iS, hk⟩ := u_known (C := RX6) (T := TX6) (N := 3) (n := 3) h inX6 (h (.instantiable RX6 3) (by decide +kernel)); exact ⟨(cC, iS), fun q hq => by cases hq; exact hk⟩
    | 9 => obtain ⟨cC, iS, hk⟩ := u_known (C := RX7) (T := TX7) (N := 2) (n := 2) h inX7 (h (.instantiable RX7 2) (by decide +kernel)); exact ⟨(cC, iS), fun q hq => by cases hq; exact hk⟩
    | 10 => obtain ⟨cC, iS, hk⟩ := u_known (C := RX8) (T := TX8) (N := 1) (n := 1) h inX8 (h (.instantiable RX8 1) (by decide +kernel)); exact ⟨(cC, iS), fun q hq => by cases hq; exact hk⟩
    | 11 => obtain ⟨cC, iS, hk⟩ := u_known (C := RX9) (T := TX9) (N := 2) (n := 2) h inX9 (h (.instantiable RX9 2) (by decide +kernel)); exact ⟨(cC, iS), fun q hq => by cases hq; exact hk⟩
    | 12 => obtain ⟨cC, iS, hk⟩ := u_known (C := RX10) (T := TX10) (N := 3) (n := 3) h inX10 (h (.instantiable RX10 3) (by decide +kernel)); exact ⟨(cC, iS), fun q hq => by cases hq; exact hk⟩
    | 13 => obtain ⟨cC, iS, hk⟩ := u_known (C := RX11) (T := TX11) (N := 8) (n := 8) h inX11 (h (.instantiable RX11 8) (by decide +kernel)); exact ⟨(cC, iS), fun q hq => by cases hq; exact hk⟩
    | n + 14 => exact ⟨((0 : Nat), fun _ => 0), fun q hq => by simp at hq⟩
  obtain ⟨ad, had⟩ := Classical.axiomOfChoice h0
  exact ⟨(fun c => (ad c).1, fun c => (ad c).2), fun c q hq => had c q hq⟩
theorem st_ai {s : State} {args : Array Value} (h : (Cond.arrayClass .int).before args s = true) : ∃ cA : ClassId, ArrOfT s cA .int ∧ va_RA s cA .int := by
  obtain ⟨c, k, comp, h1, h2, h3⟩ := Cond.arrayClass_spec h
  exact ⟨c, fun n z => ⟨fun k h => (by cases h), k, h2, comp, h3⟩, h1⟩
theorem st_ab {s : State} {args : Array Value} (h : (Cond.arrayClass .byte).before args s = true) : ∃ cA : ClassId, ArrOfT s cA .byte ∧ va_RA s cA .byte := by
  obtain ⟨c, k, comp, h1, h2, h3⟩ := Cond.arrayClass_spec h
  exact ⟨c, fun n z => ⟨fun k h => (by cases h), k, h2, comp, h3⟩, h1⟩
theorem st_ao {s : State} {args : Array Value} {C : String} (h : (Cond.arrayOver (.object C)).before args s = true) : ∃ cA : ClassId, ArrOfT s cA (.object C) ∧ va_RA s cA (.object C) := by
  obtain ⟨comp, c, k, h1, h2, h3, h4, h5⟩ := Cond.arrayOver_spec h
  exact ⟨c, fun n z => ⟨fun k h => (by cases h), k, h3, comp, h4⟩, k, comp, h3, h4, h1, h5⟩
def wNar : List Cond := flatC (Jvm.Cond.and given_1 narrow_1)
def tmS (i : Nat) : Term := .string RX5 (idxS.getD i 0)
def tmV (i : Nat) : Term := .field (tmS i) "java/lang/String" "value" "[B"
theorem n_ex : ∀ i, i < 7 → Cond.exactly (tmS i) "java/lang/String" ∈ wNar := by decide +kernel
theorem n_co : ∀ i, i < 7 → Cond.eq (.field (tmS i) "java/lang/String" "coder" "B") (.int 0) ∈ wNar := by decide +kernel
theorem n_ar : ∀ i, i < 7 → Cond.arrayOf (tmV i) .byte ∈ wNar := by decide +kernel
theorem n_le : ∀ i, i < 7 → Cond.eq (.length (tmV i)) (.int (Int32.ofNat (lenS.getD i 0))) ∈ wNar := by decide +kernel
theorem n_el : ∀ i, i < 7 → ∀ j, j < lenS.getD i 0 → Cond.eq (.elem (tmV i) (.int (Int32.ofNat j))) (.int ((bytS.getD i []).getD j 0)) ∈ wNar := by decide +kernel
theorem n_ne : ∀ i, i < 7 → ∀ j, j < 7 → i ≠ j → Cond.not (Cond.eq (tmS i) (tmS j)) ∈ wNar ∨ Cond.not (Cond.eq (tmS j) (tmS i)) ∈ wNar := by decide +kernel
theorem n_sr : ∀ i, i < 7 → Cond.stringRef RX5 (idxS.getD i 0) (texS.getD i "") ∈ lw_tbl := by decide +kernel
theorem n_ns : ∀ w ∈ nestW, w ∈ lw_tbl ∧ w.onTables = true := by decide +kernel
theorem n_len : ∀ i, i < 7 → lenS.getD i 0 < 2 ^ 31 := by decide +kernel
def tmE : Term := .static "java/util/ArrayList" "DEFAULTCAPACITY_EMPTY_ELEMENTDATA" "[Ljava/lang/Object;"
theorem st_glob {s : State} {args : Array Value} {b L : Nat} {xs : Nat → Int32} (hX : va_X b L xs s s.heap) (hbl : b < s.heap.size) (hL : L < 2 ^ 31) (hts : ∀ w ∈ lw_tbl, w.before args s = true) (hgv : (Jvm.Cond.and given_1 narrow_1).before args s = true) : ∃ G : GG, gX G = (b, L, xs) ∧ gB G = s.heap.size ∧ va_K (gD G) vwCl (tysG G) s ∧ Glob G s s.heap := by
  have hs : ∀ w ∈ wNar, w.before args s = true := flat_of_before _ hgv
  have hA : ∀ a : Nat, a < s.heap.size → ¬ (fun q : Nat => s.heap.size ≤ q) a := fun a h => Nat.not_le.mpr h
  have z1 := va_Zof (A := fun q : Nat => s.heap.size ≤ q) (hts (.laysStatic "java/lang/String" "COMPACT_STRINGS" "Z") (by decide +kernel)) (hts (.initialized "java/lang/String") (by decide +kernel)) (va_eqt (hs (.eq (.static "java/lang/String" "COMPACT_STRINGS" "Z") (.int 1)) (by decide +kernel))) hA
  obtain ⟨t, ht, hT⟩ := va_Tof (A := fun q : Nat => s.heap.size ≤ q) (N := 0) (tm := tmE) (ty := .object "java/lang/Object") (f := fun _ => .null) (by decide) (hs (.arrayOf tmE (.object "java/lang/Object")) (by decide +kernel)) (va_eqt (hs (.eq (.length tmE) (.int 0)) (by decide +kernel))) (fun j hj => absurd hj (Nat.not_lt_zero _)) hA
  have z2 := va_Zref (A := fun q : Nat => s.heap.size ≤ q) (hts (.laysStatic "java/util/ArrayList" "DEFAULTCAPACITY_EMPTY_ELEMENTDATA" "[Ljava/lang/Object;") (by decide +kernel)) (hts (.initialized "java/util/ArrayList") (by decide +kernel)) ht hA
  obtain ⟨v, hv, hvr⟩ := Cond.isRef_spec (hs (.isRef (.static "jdk/internal/util/Preconditions" "SIOOBE_FORMATTER" "Ljava/util/function/BiFunction;")) (by decide +kernel))
  have z4 := va_Zof (A := fun q : Nat => s.heap.size ≤ q) (hts (.laysStatic "jdk/internal/util/Preconditions" "SIOOBE_FORMATTER" "Ljava/util/function/BiFunction;") (by decide +kernel)) (hts (.initialized "jdk/internal/util/Preconditions") (by decide +kernel)) hv hA
  have hvn : v = .null ∨ ∃ t : Nat, v = .ref t := by
    cases v with
    | null => exact Or.inl rfl
    | ref a => exact Or.inr ⟨a, rfl⟩
    | _ => cases hvr
  obtain ⟨adK, adV, hK, hKe⟩ := vk_Sof (args := args) (s := s) (A := fun q : Nat => s.heap.size ≤ q) (N := 7) (tm := tmS) (len := lenS) (byt := bytS) n_len (fun i hi => hs _ (n_ex i hi)) (fun i hi => hs _ (n_co i hi)) (fun i hi => hs _ (n_ar i hi)) (fun i hi => hs _ (n_le i hi)) (fun i hi j hj => hs _ (n_el i hi j hj)) (fun i j hi hj hij => (n_ne i hi j hj hij).elim (fun z => Or.inl (hs _ z)) (fun z => Or.inr (hs _ z))) hA
  obtain ⟨D, hD⟩ := st_cl (hts2 hts)
  have o2 := hts (.arrayOver (.object "java/lang/Object")) (by decide +kernel)
  have o3 := hts (.arrayOver (.object "ContractTester$Sequence")) (by decide +kernel)
  have o4 := hts (.arrayOver (.object "ContractTester$State")) (by decide +kernel)
  have o5 := hts (.arrayOver (.object "ContractTester$Exploration")) (by decide +kernel)
  obtain ⟨c0, a0⟩ := st_ai (hts (.arrayClass .int) (by decide +kernel))
  obtain ⟨c1, a1⟩ := st_ab (hts (.arrayClass .byte) (by decide +kernel))
  obtain ⟨c2, a2⟩ := st_ao o2
  obtain ⟨c3, a3⟩ := st_ao o3
  obtain ⟨c4, a4⟩ := st_ao o4
  obtain ⟨c5, a5⟩ := st_ao o5
  refine ⟨(D, (fun k => match k with | 0 => c0 | 1 => c1 | 2 => c2 | 3 => c3 | 4 => c4 | _ => c5), s.heap.size, t, adK, adV, v, b, L, xs), rfl, rfl, ⟨hD, fun k q hq => ?_⟩, z1, z2, hT, z4, hvn, hK, fun i hi => vk_R.of (hts _ (n_sr i hi)) (hKe i hi), va_Nw.of rfl (hts (.castable RX0 "java/lang/Object") (by decide +kernel)), va_Nw.of rfl (hts (.castable RX2 "java/lang/Object") (by decide +kernel)), va_Nw.of rfl (hts (.castable RX6 "java/lang/Object") (by decide +kernel)), fun w hw => va_Nw.of (n_ns w hw).2 (hts w (n_ns w hw).1), va_AO.of o2, va_AO.of o3, va_AO.of o4, va_AO.of o5, hX, hbl, hL⟩
  match k, hq with
  | 0, hq => cases hq; exact a0
  | 1, hq => cases hq; exact a1
  | 2, hq => cases hq; exact a2
  | 3, hq => cases hq; exact a3
  | 4, hq => cases hq; exact a4
  | 5, hq => cases hq; exact a5
  | n + 6, hq => simp [tysG] at hq
