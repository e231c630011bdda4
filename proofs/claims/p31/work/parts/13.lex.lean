/-! LEXEMES, PURE -/
theorem nI_mul (a b : Nat) : nI a * nI b = nI (a * b) := (Int32.ofNat_mul a b).symm
def kd (c : Nat) : Nat := if c = 32 then 0 else if 97 ≤ c ∧ c ≤ 122 then 1 else if 48 ≤ c ∧ c ≤ 57 then 2 else 3
def ch (t : List Nat) (i : Nat) : Nat := t.getD i 0
def stx (t : List Nat) (o : Nat) : Bool := !(kd (ch t o) == 0) && (kd (ch t o) == 3 || o == 0 || !(kd (ch t o) == kd (ch t (o - 1))))
def enL (t : List Nat) (k : Nat) : Nat → Nat → Nat
  | 0, e => e
  | n + 1, e => if e < t.length ∧ ¬ k = 3 ∧ kd (ch t e) = k then enL t k n (e + 1) else e
def enO (t : List Nat) (o : Nat) : Nat := enL t (kd (ch t o)) t.length (o + 1)
def wdL (t : List Nat) (s i : Nat) : Nat → Bool
  | 0 => true
  | n + 1 => wdL t s i n && (ch t (s + n) == chS i n)
def wdA (t : List Nat) (s e i : Nat) : Bool := (e - s == lenS.getD i 0) && wdL t s i (lenS.getD i 0)
def cdW (t : List Nat) (s e : Nat) : Nat := if wdA t s e 0 = true then 300 else if wdA t s e 1 = true then 301 else if wdA t s e 2 = true then 302 else if wdA t s e 3 = true then 303 else if wdA t s e 4 = true then 304 else if wdA t s e 5 = true then 305 else if wdA t s e 6 = true then 306 else 308
def cdO (t : List Nat) (s e : Nat) : Nat := if kd (ch t s) = 2 then (if e - s ≤ 2 then 307 else 308) else if e - s = 1 then ch t s else cdW t s e
def nmO (t : List Nat) (s : Nat) : Nat → Nat
  | 0 => 0
  | n + 1 => 10 * nmO t s n + ch t (s + n) - 48
abbrev Tok : Type := Nat × Nat × Nat
def tkO (t : List Nat) (o : Nat) : Tok := (o, cdO t o (enO t o), if cdO t o (enO t o) = 307 then nmO t o (enO t o - o) else 0)
def tkF (t : List Nat) : Nat → Nat → List Tok
  | 0, _ => []
  | n + 1, o => if stx t o = true then tkO t o :: tkF t n (o + 1) else tkF t n (o + 1)
def toks (t : List Nat) : List Tok := tkF t t.length 0
theorem enL_ge (t : List Nat) (k : Nat) : ∀ n e, e ≤ enL t k n e := by
  intro n
  induction n with
  | zero => intro e; exact Nat.le_refl _
  | succ n ih =>
    intro e
    unfold enL
    split
    · exact Nat.le_trans (Nat.le_succ _) (ih (e + 1))
    · exact Nat.le_refl _
theorem enL_le (t : List Nat) (k : Nat) : ∀ n e, e ≤ t.length → enL t k n e ≤ t.length := by
  intro n
  induction n with
  | zero => intro e h; exact h
  | succ n ih =>
    intro e h
    unfold enL
    split
    · exact ih (e + 1) (by omega)
    · exact h
theorem enL_kd (t : List Nat) (k : Nat) : ∀ n e j, e ≤ j → j < enL t k n e → kd (ch t j) = k := by
  intro n
  induction n with
  | zero => intro e j h1 h2; unfold enL at h2; omega
  | succ n ih =>
    intro e j h1 h2
    unfold enL at h2
    split at h2
    next hc =>
      by_cases he : j = e
      · rw [he]; exact hc.2.2
      · exact ih (e + 1) j (by omega) h2
    next => omega
theorem kd_digit {c : Nat} (h : kd c = 2) : 48 ≤ c ∧ c ≤ 57 := by
  unfold kd at h
  split at h
  · cases h
  · split at h
    · cases h
    · split at h
      · assumption
      · cases h
theorem kd_lt (c : Nat) : kd c < 4 := by
  unfold kd
  split
  · decide
  · split
    · decide
    · split <;> decide
theorem enO_gt (t : List Nat) (o : Nat) : o < enO t o := enL_ge t _ _ (o + 1)
theorem enO_le (t : List Nat) (o : Nat) (h : o < t.length) : enO t o ≤ t.length := enL_le t _ _ (o + 1) h
theorem cdO_lt (t : List Nat) (o e : Nat) (hb : ch t o < 256) : cdO t o e < 309 := by
  unfold cdO cdW
  repeat' split
  all_goals omega
theorem nmO_lt {t : List Nat} {o : Nat} (hd : ∀ j, j < 2 → 48 ≤ ch t (o + j) ∧ ch t (o + j) ≤ 57) : nmO t o 1 ≤ 9 ∧ nmO t o 2 ≤ 99 := by
  have h0 := hd 0 (by decide)
  have h1 := hd 1 (by decide)
  simp only [nmO]
  omega
/-- a lexeme's number: below a hundred, where it is one -/
theorem tkO_num (t : List Nat) (o : Nat) (hb : ch t o < 256) : (tkO t o).2.2 ≤ 99 := by
  unfold tkO
  dsimp only
  split
  next h =>
    unfold cdO at h
    split at h
    next hk =>
      split at h
      next hl =>
        have hg := enO_gt t o
        have hd : ∀ j, o ≤ j → j < enO t o → 48 ≤ ch t j ∧ ch t j ≤ 57 := by
          intro j h1 h2
          by_cases he : j = o
          · rw [he]; exact kd_digit hk
          · have h3 := enL_kd t (kd (ch t o)) t.length (o + 1) j (by omega) h2
            rw [hk] at h3
            exact kd_digit h3
        rcases (show enO t o - o = 1 ∨ enO t o - o = 2 by omega) with e | e
        · rw [e]
          have h0 := hd o (Nat.le_refl _) hg
          simp only [nmO, Nat.add_zero]
          omega
        · rw [e]
          have h0 := hd o (Nat.le_refl _) hg
          have h1 := hd (o + 1) (by omega) (by omega)
          simp only [nmO, Nat.add_zero]
          omega
      next => cases h
    next hk =>
      split at h
      next he =>
        exfalso
        omega
      next => 
        exfalso
        unfold cdW at h
        repeat' split at h
        all_goals omega
  next => omega
def dTok : Tok := (0, 0, 0)
/-- what a row of lexemes keeps to -/
def TokOk (n : Nat) (k : Tok) : Prop := k.1 < n ∧ k.2.1 < 309 ∧ k.2.2 ≤ 99
theorem tkO_ok {t : List Nat} (hb : ∀ i, i < t.length → ch t i < 256) {o : Nat} (ho : o < t.length) : TokOk t.length (tkO t o) := ⟨ho, cdO_lt t o _ (hb o ho), tkO_num t o (hb o ho)⟩
/-- the lexemes at a (their rows at a + 1, a + 2, a + 3), the text's length, how many are read -/
def LxAt (h : Hp) (a n : Nat) (ts : List Tok) (p : Nat) : Prop := Hk h a = some (.inl 7) ∧ Hv h a 0 = .ref (a + 1) ∧ Hv h a 1 = .ref (a + 2) ∧ Hv h a 2 = .ref (a + 3) ∧ Hv h a 3 = .int (nI ts.length) ∧ Hv h a 4 = .int (nI n) ∧ Hv h a 5 = .int (nI p) ∧ Hk h (a + 1) = some (.inr (0, 200)) ∧ Hk h (a + 2) = some (.inr (0, 200)) ∧ Hk h (a + 3) = some (.inr (0, 200)) ∧ ts.length ≤ 200 ∧ n ≤ 200 ∧ (∀ i k, ts[i]? = some k → TokOk n k ∧ Hv h (a + 1) i = .int (nI k.2.1) ∧ Hv h (a + 2) i = .int (nI k.1) ∧ Hv h (a + 3) i = .int (nI k.2.2))
def lexS (a : Nat) : Nat → Prop := fun q => q = a ∨ q = a + 1 ∨ q = a + 2 ∨ q = a + 3
theorem LxAt.ob {h : Hp} {a n p : Nat} {ts : List Tok} (q : LxAt h a n ts p) : Hk h a = some (.inl 7) := q.1
theorem LxAt.kept {S : Nat → Prop} {h h1 : Hp} {a n p : Nat} {ts : List Tok} (q : LxAt h a n ts p) (w : WF h) (f : Fr S h h1) (hs : ∀ q, S q → ¬ lexS a q) : LxAt h1 a n ts p := by
  obtain ⟨k0, k1, k2, k3, k4, k5, k6, k7, k8, k9, k10, k11, k12⟩ := q
  have n0 : ¬ S a := fun z => hs _ z (Or.inl rfl)
  have n1 : ¬ S (a + 1) := fun z => hs _ z (Or.inr (Or.inl rfl))
  have n2 : ¬ S (a + 2) := fun z => hs _ z (Or.inr (Or.inr (Or.inl rfl)))
  have n3 : ¬ S (a + 3) := fun z => hs _ z (Or.inr (Or.inr (Or.inr rfl)))
  exact ⟨f.k w k0, by rw [f.v w k0 n0]; exact k1, by rw [f.v w k0 n0]; exact k2, by rw [f.v w k0 n0]; exact k3, by rw [f.v w k0 n0]; exact k4, by rw [f.v w k0 n0]; exact k5, by rw [f.v w k0 n0]; exact k6, f.k w k7, f.k w k8, f.k w k9, k10, k11, fun i k hk => by
    obtain ⟨g0, g1, g2, g3⟩ := k12 i k hk
    exact ⟨g0, by rw [f.v w k7 n1]; exact g1, by rw [f.v w k8 n2]; exact g2, by rw [f.v w k9 n3]; exact g3⟩⟩
theorem LxAt.pos {h : Hp} {a n p : Nat} {ts : List Tok} (q : LxAt h a n ts p) (p' : Nat) : LxAt (Hput h a 5 (.int (nI p'))) a n ts p' := by
  obtain ⟨k0, k1, k2, k3, k4, k5, k6, k7, k8, k9, k10, k11, k12⟩ := q
  refine ⟨k0, ?_, ?_, ?_, ?_, ?_, ?_, k7, k8, k9, k10, k11, fun i k hk => ?_⟩
  · rw [Hv_put_k _ _ _ _ (by decide)]; exact k1
  · rw [Hv_put_k _ _ _ _ (by decide)]; exact k2
  · rw [Hv_put_k _ _ _ _ (by decide)]; exact k3
  · rw [Hv_put_k _ _ _ _ (by decide)]; exact k4
  · rw [Hv_put_k _ _ _ _ (by decide)]; exact k5
  · rw [Hv_put_at]
  · obtain ⟨g0, g1, g2, g3⟩ := k12 i k hk
    exact ⟨g0, by rw [Hv_put_a _ _ _ _ (by omega)]; exact g1, by rw [Hv_put_a _ _ _ _ (by omega)]; exact g2, by rw [Hv_put_a _ _ _ _ (by omega)]; exact g3⟩
/-- one lexeme more -/
theorem LxAt.push {h : Hp} {a n p : Nat} {ts : List Tok} (q : LxAt h a n ts p) (hl : ts.length < 200) {k : Tok} (hk : TokOk n k) : LxAt (Hput (Hput (Hput (Hput h (a + 2) ts.length (.int (nI k.1))) (a + 1) ts.length (.int (nI k.2.1))) (a + 3) ts.length (.int (nI k.2.2))) a 3 (.int (nI (ts.length + 1)))) a n (ts ++ [k]) p := by
  obtain ⟨k0, k1, k2, k3, k4, k5, k6, k7, k8, k9, k10, k11, k12⟩ := q
  have e1 : ∀ j : Nat, Hv (Hput (Hput (Hput (Hput h (a + 2) ts.length (.int (nI k.1))) (a + 1) ts.length (.int (nI k.2.1))) (a + 3) ts.length (.int (nI k.2.2))) a 3 (.int (nI (ts.length + 1)))) a j = if j = 3 then .int (nI (ts.length + 1)) else Hv h a j := by
    intro j
    simp [Hv_put]
  refine ⟨k0, ?_, ?_, ?_, ?_, ?_, ?_, k7, k8, k9, by simp; omega, k11, fun i k' hk' => ?_⟩
  · rw [e1]; exact k1
  · rw [e1]; exact k2
  · rw [e1]; exact k3
  · rw [e1]; simp
  · rw [e1]; exact k5
  · rw [e1]; exact k6
  · by_cases hi : i < ts.length
    · rw [List.getElem?_append_left hi] at hk'
      obtain ⟨g0, g1, g2, g3⟩ := k12 i k' hk'
      have hne : ¬ i = ts.length := by omega
      refine ⟨g0, ?_, ?_, ?_⟩
      · simp [Hv_put, hne]; exact g1
      · simp [Hv_put, hne]; exact g2
      · simp [Hv_put, hne]; exact g3
    · have hl2 := (List.getElem?_eq_some_iff.mp hk').1
      simp at hl2
      have he : i = ts.length := by omega
      subst he
      rw [List.getElem?_append_right (Nat.le_refl _), Nat.sub_self] at hk'
      cases hk'
      refine ⟨hk, ?_, ?_, ?_⟩ <;> simp [Hv_put]
/-! READING LEXEMES, PURE: on what is left -/
def acc (c : Nat) (r : List Tok) : Option (List Tok) := match r with
  | [] => none
  | k :: r' => if k.2.1 = c then some r' else none
theorem acc_cons (c : Nat) (k : Tok) (r : List Tok) : acc c (k :: r) = if k.2.1 = c then some r else none := rfl
def LxR (h : Hp) (a n : Nat) (ts r : List Tok) : Prop := ∃ p, p ≤ ts.length ∧ ts.drop p = r ∧ LxAt h a n ts p
def offR (n : Nat) (r : List Tok) : Nat := match r with
  | [] => n
  | k :: _ => k.1
def pFld (r : List Tok) : Option (Nat × List Tok) := match acc 120 r with
  | some r' => some (0, r')
  | none => match acc 121 r with
    | some r' => some (1, r')
    | none => match acc 122 r with
      | some r' => some (2, r')
      | none => none
def numR (r : List Tok) : Nat := match r with
  | [] => 0
  | k :: _ => k.2.2
def pNum (r : List Tok) : Option Int32 × List Tok := match acc 45 r with
  | some r1 => (match acc 307 r1 with
    | some r2 => (some (-1 * nI (numR r1)), r2)
    | none => (none, r1))
  | none => (match acc 307 r with
    | some r2 => (some (nI 1 * nI (numR r)), r2)
    | none => (none, r))
theorem LxR.ob {h : Hp} {a n : Nat} {ts r : List Tok} (q : LxR h a n ts r) : Hk h a = some (.inl 7) := by
  obtain ⟨p, -, -, q⟩ := q
  exact q.1
theorem LxR.kept {S : Nat → Prop} {h h1 : Hp} {a n : Nat} {ts r : List Tok} (q : LxR h a n ts r) (w : WF h) (f : Fr S h h1) (hs : ∀ q, S q → ¬ lexS a q) : LxR h1 a n ts r := by
  obtain ⟨p, h1, h2, h3⟩ := q
  exact ⟨p, h1, h2, h3.kept w f hs⟩
theorem LxR.num {h : Hp} {a n : Nat} {ts r : List Tok} (q : LxR h a n ts r) : numR r ≤ 99 := by
  obtain ⟨p, h1, rfl, h3⟩ := q
  obtain ⟨k0, k1, k2, k3, k4, k5, k6, k7, k8, k9, k10, k11, k12⟩ := h3
  by_cases hp : p < ts.length
  · rw [List.drop_eq_getElem_cons hp]
    exact (k12 p _ (List.getElem?_eq_some_iff.mpr ⟨hp, rfl⟩)).1.2.2
  · rw [List.drop_eq_nil_of_le (by omega)]
    exact Nat.zero_le _
theorem drop_hd {ts : List Tok} {p : Nat} {k : Tok} (h : ts[p]? = some k) : ts.drop p = k :: ts.drop (p + 1) := by
  obtain ⟨hp, e⟩ := List.getElem?_eq_some_iff.mp h
  rw [List.drop_eq_getElem_cons hp, e]
theorem tkF_ok {t : List Nat} (hb : ∀ i, i < t.length → ch t i < 256) : ∀ n o, o + n = t.length → ∀ k ∈ tkF t n o, TokOk t.length k := by
  intro n
  induction n with
  | zero => intro o _ k hk; cases hk
  | succ n ih =>
    intro o ho k hk
    unfold tkF at hk
    split at hk
    · rcases List.mem_cons.mp hk with e | hk
      · rw [e]; exact tkO_ok hb (by omega)
      · exact ih (o + 1) (by omega) k hk
    · exact ih (o + 1) (by omega) k hk
theorem cdO_307 {t : List Nat} {o e : Nat} (hb : ch t o < 256) (h : cdO t o e = 307) : kd (ch t o) = 2 ∧ e - o ≤ 2 := by
  unfold cdO at h
  split at h
  next hk =>
    split at h
    next hl => exact ⟨hk, hl⟩
    next => cases h
  next =>
    split at h
    · omega
    · unfold cdW at h
      repeat' split at h
      all_goals omega
theorem nmO_bd {t : List Nat} {o n : Nat} (hd : ∀ j, j < n → 48 ≤ ch t (o + j) ∧ ch t (o + j) ≤ 57) (hn : n ≤ 2) : ∀ j, j ≤ n → nmO t o j ≤ 99 := by
  intro j hj
  rcases (show j = 0 ∨ j = 1 ∨ j = 2 by omega) with rfl | rfl | rfl
  · exact Nat.zero_le _
  · have h0 := hd 0 (by omega)
    simp only [nmO, Nat.add_zero] at *
    omega
  · have h0 := hd 0 (by omega)
    have h1 := hd 1 (by omega)
    simp only [nmO, Nat.add_zero] at *
    omega
theorem num_ne {sg : Int32} {n : Nat} (h : sg = -1 ∨ sg = nI 1) (hn : n ≤ 99) : ¬ sg * nI n = -1000 := by
  have k : ∀ n, n < 100 → (¬ (-1 : Int32) * nI n = -1000) ∧ ¬ nI 1 * nI n = -1000 := by decide +kernel
  rcases h with rfl | rfl
  · exact (k n (by omega)).1
  · exact (k n (by omega)).2
