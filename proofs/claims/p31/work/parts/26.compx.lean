/-! A COPY OF A COMPONENT UNDER CONSTRUCTION: its elements are shared -/
def CwP (G : GG) (h : Hp) (A : Nat) (s : St) (ei em : List Nat) : Prop := A + 4 ≤ Hz h ∧ (Hk h A = some (.inl 3) ∧ Hv h A 0 = .ref (A + 1) ∧ Hv h A 1 = .ref (A + 2) ∧ Hv h A 2 = .ref (A + 3)) ∧ StAt h (A + 1) s ∧ LsAt (fun q => A + 4 ≤ q ∧ ¬ Hv h (A + 3) 1 = .ref q) G h (A + 2) ei ∧ LsAt (fun q => A + 4 ≤ q ∧ ¬ Hv h (A + 2) 1 = .ref q) G h (A + 3) em
def PMx (h : Hp) (A : Nat) : Nat → Prop := fun q => A + 4 ≤ q ∧ ¬ Hv h (A + 2) 1 = .ref q ∧ (Hv h (A + 3) 1 = .ref q ∨ Hz h ≤ q)
theorem CwP.li {G : GG} {h : Hp} {A : Nat} {s : St} {ei em : List Nat} (q : CwP G h A s ei em) : LsAt (PIv h A) G h (A + 2) ei :=
  q.2.2.2.1.mono (fun d pd _ hv => ⟨pd.1, pd.2, Or.inl hv⟩)
theorem CwP.lm {G : GG} {h : Hp} {A : Nat} {s : St} {ei em : List Nat} (q : CwP G h A s ei em) : LsAt (PMx h A) G h (A + 3) em :=
  q.2.2.2.2.mono (fun d pd _ hv => ⟨pd.1, pd.2, Or.inl hv⟩)
theorem CwP.fi {G : GG} {h : Hp} {A : Nat} {s : St} {ei em : List Nat} (q : CwP G h A s ei em) (w : WF h) (hE : gE G < Hz h) : PIv h A (Hz h) :=
  ⟨by have := q.1; omega, fun e => by have := q.lm.old w hE e; omega, Or.inr (Nat.le_refl _)⟩
theorem CwP.fm {G : GG} {h : Hp} {A : Nat} {s : St} {ei em : List Nat} (q : CwP G h A s ei em) (w : WF h) (hE : gE G < Hz h) : PMx h A (Hz h) :=
  ⟨by have := q.1; omega, fun e => by have := q.li.old w hE e; omega, Or.inr (Nat.le_refl _)⟩
theorem CwP.addI {G : GG} {h h1 : Hp} {A e : Nat} {s : St} {ei em : List Nat} (q : CwP G h A s ei em) (w : WF h) (f : Fr (fun q => q = A + 2 ∨ (PIv h A q ∧ Hk h q = some (.inr (2, 10)) ∧ Hv h (A + 2) 1 = .ref q)) h h1) (L : LsAt (PIv h A) G h1 (A + 2) (ei ++ [e])) : CwP G h1 A s (ei ++ [e]) em := by
  obtain ⟨z, ⟨a0, a1, a2, a3⟩, s0, li, lm⟩ := q
  have ns : ∀ q, (A ≤ q ∧ q ≤ A + 1 ∨ q = A + 3) → ¬ (q = A + 2 ∨ (PIv h A q ∧ Hk h q = some (.inr (2, 10)) ∧ Hv h (A + 2) 1 = .ref q)) := fun q hq e => by
    rcases e with e | ⟨e, -⟩
    · omega
    · have := e.1; omega
  have e3 := f.v w lm.1 (ns _ (by omega)) 1
  obtain ⟨d, pd, vd, kd⟩ := L.row
  have hold : ∀ b, b < Hz h → ¬ Hv h (A + 2) 1 = .ref b → ¬ Hv h1 (A + 2) 1 = .ref b := fun b hb hn e => by
    rw [vd] at e
    cases e
    rcases pd.2.2 with e | e
    · exact hn e
    · omega
  refine ⟨Nat.le_trans z f.1, ⟨f.k w a0, by rw [f.v w a0 (ns _ (by omega))]; exact a1, by rw [f.v w a0 (ns _ (by omega))]; exact a2, by rw [f.v w a0 (ns _ (by omega))]; exact a3⟩, s0.kept w f (ns _ (by omega)), L.mono (fun d pd _ _ => ⟨pd.1, fun e => pd.2.1 (e3.symm.trans e)⟩), ?_⟩
  have lm2 : LsAt (fun q => A + 4 ≤ q ∧ ¬ Hv h (A + 2) 1 = .ref q ∧ q < Hz h) G h (A + 3) em := lm.mono (fun d pd hk _ => ⟨pd.1, pd.2, w _ _ hk⟩)
  exact (lm2.kept w f (ns _ (by omega)) (fun d pd _ e => by
    rcases e with e | ⟨-, -, e⟩
    · have := pd.1; omega
    · exact pd.2.1 e)).mono (fun d pd _ _ => ⟨pd.1, hold d pd.2.2 pd.2.1⟩)
theorem CwP.addM {G : GG} {h h1 : Hp} {A e : Nat} {s : St} {ei em : List Nat} (q : CwP G h A s ei em) (w : WF h) (f : Fr (fun q => q = A + 3 ∨ (PMx h A q ∧ Hk h q = some (.inr (2, 10)) ∧ Hv h (A + 3) 1 = .ref q)) h h1) (L : LsAt (PMx h A) G h1 (A + 3) (em ++ [e])) : CwP G h1 A s ei (em ++ [e]) := by
  obtain ⟨z, ⟨a0, a1, a2, a3⟩, s0, li, lm⟩ := q
  have ns : ∀ q, (A ≤ q ∧ q ≤ A + 2) → ¬ (q = A + 3 ∨ (PMx h A q ∧ Hk h q = some (.inr (2, 10)) ∧ Hv h (A + 3) 1 = .ref q)) := fun q hq e => by
    rcases e with e | ⟨e, -⟩
    · omega
    · have := e.1; omega
  have e2 := f.v w li.1 (ns _ (by omega)) 1
  obtain ⟨d, pd, vd, kd⟩ := L.row
  have hold : ∀ b, b < Hz h → ¬ Hv h (A + 3) 1 = .ref b → ¬ Hv h1 (A + 3) 1 = .ref b := fun b hb hn e => by
    rw [vd] at e
    cases e
    rcases pd.2.2 with e | e
    · exact hn e
    · omega
  refine ⟨Nat.le_trans z f.1, ⟨f.k w a0, by rw [f.v w a0 (ns _ (by omega))]; exact a1, by rw [f.v w a0 (ns _ (by omega))]; exact a2, by rw [f.v w a0 (ns _ (by omega))]; exact a3⟩, s0.kept w f (ns _ (by omega)), ?_, L.mono (fun d pd _ _ => ⟨pd.1, fun e => pd.2.1 (e2.symm.trans e)⟩)⟩
  have li2 : LsAt (fun q => A + 4 ≤ q ∧ ¬ Hv h (A + 3) 1 = .ref q ∧ q < Hz h) G h (A + 2) ei := li.mono (fun d pd hk _ => ⟨pd.1, pd.2, w _ _ hk⟩)
  exact (li2.kept w f (ns _ (by omega)) (fun d pd _ e => by
    rcases e with e | ⟨-, -, e⟩
    · have := pd.1; omega
    · exact pd.2.1 e)).mono (fun d pd _ _ => ⟨pd.1, hold d pd.2.2 pd.2.1⟩)
theorem CwP.st {S : Nat → Prop} {G : GG} {h h1 : Hp} {A : Nat} {s s' : St} {ei em : List Nat} (q : CwP G h A s ei em) (w : WF h) (f : Fr S h h1) (hs : ∀ q, S q → q < A ∨ q = A + 1) (st : StAt h1 (A + 1) s') : CwP G h1 A s' ei em := by
  obtain ⟨z, ⟨a0, a1, a2, a3⟩, s0, li, lm⟩ := q
  have ns : ∀ q, (q = A ∨ A + 2 ≤ q) → ¬ S q := fun q hq e => by rcases hs q e with e | e <;> omega
  have e2 := f.v w li.1 (ns _ (by omega)) 1
  have e3 := f.v w lm.1 (ns _ (by omega)) 1
  refine ⟨Nat.le_trans z f.1, ⟨f.k w a0, by rw [f.v w a0 (ns _ (by omega))]; exact a1, by rw [f.v w a0 (ns _ (by omega))]; exact a2, by rw [f.v w a0 (ns _ (by omega))]; exact a3⟩, st, ?_, ?_⟩
  · exact (li.kept w f (ns _ (by omega)) (fun d pd _ => ns d (by have := pd.1; omega))).mono (fun d pd _ _ => ⟨pd.1, fun e => pd.2 (e3.symm.trans e)⟩)
  · exact (lm.kept w f (ns _ (by omega)) (fun d pd _ => ns d (by have := pd.1; omega))).mono (fun d pd _ _ => ⟨pd.1, fun e => pd.2 (e2.symm.trans e)⟩)
/-- the elements of a list, each in its picture -/
def EL {α : Type} (E : Nat → α → Prop) (es : List Nat) (xs : List α) : Prop := es.length = xs.length ∧ ∀ (i : Nat) (x : α), xs[i]? = some x → E (es.getD i 0) x
theorem EL.snoc {α : Type} {E : Nat → α → Prop} {es : List Nat} {xs : List α} {e : Nat} {x : α} (q : EL E es xs) (hx : E e x) : EL E (es ++ [e]) (xs ++ [x]) :=
  ⟨by simp [q.1], snoc_all q.1 q.2 (fun _ _ z => z) hx⟩
theorem EL.nil {α : Type} {E : Nat → α → Prop} : EL E [] ([] : List α) := ⟨rfl, fun i x hx => by simp at hx⟩
theorem CwP.cp {P : Nat → Prop} {G : GG} {h h0 : Hp} {s : St} {ei em : List Nat} {is : List Cnd} {ms : List Mth} (q : CwP G h (Hz h0) s ei em) (w : WF h0) (f : Fr (fun _ => False) h0 h) (hi : EL (CnAt P h0) ei is) (hm : EL (MtAt P G h0) em ms) : CpAt (fun q => P q ∨ Hz h0 ≤ q) G h (Hz h0) (s, is, ms) := by
  obtain ⟨z, ⟨a0, a1, a2, a3⟩, s0, li, lm⟩ := q
  refine ⟨_, _, _, Or.inr (Nat.le_refl _), Or.inr (by omega), a0, a1, a2, a3, s0, ⟨Or.inr (by omega), ei, li.mono (fun d pd _ _ => Or.inr (by have := pd.1; omega)), hi.1, fun i x hx => (hi.2 i x hx).tr (fun a t _ pa hk => ⟨Or.inl pa, f.k w hk, f.v w hk (fun z => z)⟩)⟩, Or.inr (by omega), em, lm.mono (fun d pd _ _ => Or.inr (by have := pd.1; omega)), hm.1, fun i x hx => (hm.2 i x hx).tr (fun a t pa hk => ⟨Or.inl pa, f.k w hk, f.v w hk (fun z => z)⟩)⟩
/-- a list without its element at k -/
def wom {α : Type} : List α → Nat → Int32 → List α
  | [], _, _ => []
  | x :: r, j, k => if nI j = k then wom r (j + 1) k else x :: wom r (j + 1) k
theorem wom_none {α : Type} : ∀ (r : List α) (j : Nat), j + r.length < 2 ^ 31 → wom r j (-1000) = r := by
  intro r
  induction r with
  | nil => intro j _; rfl
  | cons x r ih =>
    intro j hj
    unfold wom
    simp at hj
    have hne : ¬ nI j = -1000 := fun z => by
      have h1 := nI_toInt (n := j) (by omega)
      rw [z] at h1
      have h2 : (-1000 : Int32).toInt = -1000 := by decide
      omega
    rw [if_neg hne, ih (j + 1) (by omega)]
theorem wom_id {α : Type} {j : Nat} : ∀ (r : List α) (i : Nat), i + r.length < 2 ^ 31 → j < i → wom r i (nI j) = r := by
  intro r
  induction r with
  | nil => intro i _ _; rfl
  | cons y r ih2 =>
    intro i hi hji
    unfold wom
    simp at hi
    rw [if_neg (fun z => absurd ((nI_eq (by omega) (by omega)).mp z) (by omega)), ih2 (i + 1) (by omega) (by omega)]
theorem wom_at {α : Type} : ∀ (r : List α) (j k : Nat), j + r.length + k < 2 ^ 31 → wom r j (nI (j + k)) = r.eraseIdx k := by
  intro r
  induction r with
  | nil => intro j k _; rfl
  | cons x r ih =>
    intro j k hj
    unfold wom
    simp at hj
    by_cases hk : k = 0
    · subst hk
      rw [if_pos (by rw [Nat.add_zero]), wom_id r (j + 1) (by omega) (by omega)]
      rfl
    · obtain ⟨k', rfl⟩ : ∃ k', k = k' + 1 := ⟨k - 1, by omega⟩
      rw [if_neg (fun z => absurd ((nI_eq (by omega) (by omega)).mp z) (by omega)), show j + (k' + 1) = (j + 1) + k' by omega, ih (j + 1) k' (by omega)]
      rfl
theorem wom_drop {α : Type} {xs : List α} {j : Nat} {q : α} {k : Int32} (h : xs[j]? = some q) : wom (xs.drop j) j k = if nI j = k then wom (xs.drop (j + 1)) (j + 1) k else q :: wom (xs.drop (j + 1)) (j + 1) k := by
  obtain ⟨hj, e⟩ := List.getElem?_eq_some_iff.mp h
  rw [List.drop_eq_getElem_cons hj, e]
  rfl
theorem wom_drop0 {α : Type} {xs : List α} {j : Nat} {k : Int32} (h : xs.length ≤ j) : wom (xs.drop j) j k = [] := by
  rw [List.drop_eq_nil_of_le h]
  rfl
theorem take_snoc {α : Type} {xs : List α} {j : Nat} {q : α} (h : xs[j]? = some q) : xs.take (j + 1) = xs.take j ++ [q] := by
  rw [List.take_add_one, h]
  rfl
