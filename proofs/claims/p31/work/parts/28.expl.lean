/-! AN EXPLORATION: what its cells tell. The numbers: longest, pool, failures, skipped, redundant, dropped; then the pool's calls, states, progress; the failures' calls, verdicts -/
abbrev Xr : Type := (Nat × Nat × Nat × Nat × Nat × Nat) × (Nat → List Nat) × (Nat → St) × (Nat → Nat) × (Nat → List Nat) × (Nat → Nat)
def xmx (r : Xr) : Nat := r.1.1
def xpc (r : Xr) : Nat := r.1.2.1
def xfl (r : Xr) : Nat := r.1.2.2.1
def xsk (r : Xr) : Nat := r.1.2.2.2.1
def xrd (r : Xr) : Nat := r.1.2.2.2.2.1
def xdr (r : Xr) : Nat := r.1.2.2.2.2.2
def xsq (r : Xr) : Nat → List Nat := r.2.1
def xss (r : Xr) : Nat → St := r.2.2.1
def xpr (r : Xr) : Nat → Nat := r.2.2.2.1
def xfs (r : Xr) : Nat → List Nat := r.2.2.2.2.1
def xvd (r : Xr) : Nat → Nat := r.2.2.2.2.2
def fup {α : Type} (f : Nat → α) (i : Nat) (v : α) : Nat → α := fun j => if j = i then v else f j
theorem fup_at {α : Type} {f : Nat → α} {i : Nat} {v : α} : fup f i v i = v := if_pos rfl
theorem fup_ne {α : Type} {f : Nat → α} {i j : Nat} {v : α} (h : ¬ j = i) : fup f i v j = f j := if_neg h
/-- what never changes -/
def XlA (h : Hp) (E : Nat) : Prop := (Hk h E = some (.inl 5) ∧ Hv h E 2 = .ref (E + 5) ∧ Hv h E 3 = .ref (E + 6) ∧ Hv h E 4 = .ref (E + 7) ∧ Hv h E 6 = .ref (E + 8) ∧ Hv h E 7 = .ref (E + 9) ∧ Hv h E 12 = .ref (E + 10)) ∧ (Hk h (E + 5) = some (.inr (3, 40)) ∧ Hk h (E + 6) = some (.inr (4, 40)) ∧ Hk h (E + 7) = some (.inr (0, 40)) ∧ Hk h (E + 8) = some (.inr (3, 20)) ∧ Hk h (E + 9) = some (.inr (0, 20))) ∧ (∀ i, i < 40 → Hv h (E + 5) i = .ref (E + 11 + 3 * i) ∧ Hv h (E + 6) i = .ref (E + 13 + 3 * i)) ∧ ∀ i, i < 20 → Hv h (E + 8) i = .ref (E + 131 + 2 * i)
def XlN (h : Hp) (E : Nat) (q : Nat × Nat × Nat × Nat × Nat × Nat) : Prop := Hv h E 1 = .int (nI q.1) ∧ Hv h E 5 = .int (nI q.2.1) ∧ Hv h E 8 = .int (nI q.2.2.1) ∧ Hv h E 9 = .int (nI q.2.2.2.1) ∧ Hv h E 10 = .int (nI q.2.2.2.2.1) ∧ Hv h E 11 = .int (nI q.2.2.2.2.2)
def XlQ (h : Hp) (E i : Nat) (xs : List Nat) (s : St) (p : Nat) : Prop := SqAt h (E + 11 + 3 * i) xs ∧ StAt h (E + 13 + 3 * i) s ∧ Hv h (E + 7) i = .int (nI p)
def XlF (h : Hp) (E j : Nat) (xs : List Nat) (v : Nat) : Prop := SqAt h (E + 131 + 2 * j) xs ∧ Hv h (E + 9) j = .int (nI v)
def XlAt (h : Hp) (E : Nat) (r : Xr) (rs : St) : Prop := XlA h E ∧ XlN h E r.1 ∧ (∀ i, i < 40 → XlQ h E i (xsq r i) (xss r i) (xpr r i)) ∧ (∀ j, j < 20 → XlF h E j (xfs r j) (xvd r j)) ∧ StAt h (E + 10) rs
def XS (E : Nat) : Nat → Prop := fun q => q = E ∨ (E + 5 ≤ q ∧ q < E + 171)
/-- of an exploration's cells the head, the two rows of numbers, the state and what hangs below may be written -/
theorem XlA.kept {S : Nat → Prop} {h h1 : Hp} {E : Nat} (q : XlA h E) (w : WF h) (f : Fr S h h1) (h0 : ¬ S E) (h5 : ¬ S (E + 5)) (h6 : ¬ S (E + 6)) (h8 : ¬ S (E + 8)) : XlA h1 E := by
  obtain ⟨⟨a0, a1, a2, a3, a4, a5, a6⟩, ⟨b0, b1, b2, b3, b4⟩, c, d⟩ := q
  have v0 := f.v w a0 h0
  have v5 := f.v w b0 h5
  have v6 := f.v w b1 h6
  have v8 := f.v w b3 h8
  exact ⟨⟨f.k w a0, by rw [v0]; exact a1, by rw [v0]; exact a2, by rw [v0]; exact a3, by rw [v0]; exact a4, by rw [v0]; exact a5, by rw [v0]; exact a6⟩, ⟨f.k w b0, f.k w b1, f.k w b2, f.k w b3, f.k w b4⟩, fun i hi => ⟨by rw [v5]; exact (c i hi).1, by rw [v6]; exact (c i hi).2⟩, fun i hi => by rw [v8]; exact d i hi⟩
theorem XlA.putN {h : Hp} {E k : Nat} {x : Value} (q : XlA h E) (hk : k = 0 ∨ k = 1 ∨ k = 5 ∨ k = 8 ∨ k = 9 ∨ k = 10 ∨ k = 11) : XlA (Hput h E k x) E := by
  obtain ⟨⟨a0, a1, a2, a3, a4, a5, a6⟩, ⟨b0, b1, b2, b3, b4⟩, c, d⟩ := q
  have hv : ∀ j, (j = 2 ∨ j = 3 ∨ j = 4 ∨ j = 6 ∨ j = 7 ∨ j = 12) → Hv (Hput h E k x) E j = Hv h E j := fun j hj => Hv_put_k _ _ _ _ (by omega)
  exact ⟨⟨a0, by rw [hv _ (by omega)]; exact a1, by rw [hv _ (by omega)]; exact a2, by rw [hv _ (by omega)]; exact a3, by rw [hv _ (by omega)]; exact a4, by rw [hv _ (by omega)]; exact a5, by rw [hv _ (by omega)]; exact a6⟩, ⟨b0, b1, b2, b3, b4⟩, fun i hi => ⟨by rw [Hv_put_a _ _ _ _ (by omega)]; exact (c i hi).1, by rw [Hv_put_a _ _ _ _ (by omega)]; exact (c i hi).2⟩, fun i hi => by rw [Hv_put_a _ _ _ _ (by omega)]; exact d i hi⟩
theorem XlQ.kept {S : Nat → Prop} {h h1 : Hp} {E i p : Nat} {xs : List Nat} {s : St} (q : XlQ h E i xs s p) (a : XlA h E) (w : WF h) (f : Fr S h h1) (h7 : ¬ S (E + 7)) (n0 : ¬ S (E + 11 + 3 * i)) (n1 : ¬ S (E + 11 + 3 * i + 1)) (n2 : ¬ S (E + 13 + 3 * i)) : XlQ h1 E i xs s p :=
  ⟨q.1.kept w f n0 n1, q.2.1.kept w f n2, by rw [f.v w a.2.1.2.2.1 h7]; exact q.2.2⟩
theorem XlF.kept {S : Nat → Prop} {h h1 : Hp} {E j v : Nat} {xs : List Nat} (q : XlF h E j xs v) (a : XlA h E) (w : WF h) (f : Fr S h h1) (h9 : ¬ S (E + 9)) (n0 : ¬ S (E + 131 + 2 * j)) (n1 : ¬ S (E + 131 + 2 * j + 1)) : XlF h1 E j xs v :=
  ⟨q.1.kept w f n0 n1, by rw [f.v w a.2.1.2.2.2.2 h9]; exact q.2⟩
theorem XlN.kept {S : Nat → Prop} {h h1 : Hp} {E : Nat} {n : Nat × Nat × Nat × Nat × Nat × Nat} (q : XlN h E n) (a : XlA h E) (w : WF h) (f : Fr S h h1) (h0 : ¬ S E) : XlN h1 E n := by
  have v0 := f.v w a.1.1 h0
  exact ⟨by rw [v0]; exact q.1, by rw [v0]; exact q.2.1, by rw [v0]; exact q.2.2.1, by rw [v0]; exact q.2.2.2.1, by rw [v0]; exact q.2.2.2.2.1, by rw [v0]; exact q.2.2.2.2.2⟩
theorem XlAt.kept {S : Nat → Prop} {h h1 : Hp} {E : Nat} {r : Xr} {rs : St} (q : XlAt h E r rs) (w : WF h) (f : Fr S h h1) (hs : ∀ q, S q → ¬ XS E q) : XlAt h1 E r rs := by
  obtain ⟨a, n, p, g, s⟩ := q
  have ns : ∀ q, XS E q → ¬ S q := fun q z e => hs q e z
  refine ⟨a.kept w f (ns _ (Or.inl rfl)) (ns _ (Or.inr (by omega))) (ns _ (Or.inr (by omega))) (ns _ (Or.inr (by omega))), n.kept a w f (ns _ (Or.inl rfl)), fun i hi => (p i hi).kept a w f (ns _ (Or.inr (by omega))) (ns _ (Or.inr (by omega))) (ns _ (Or.inr (by omega))) (ns _ (Or.inr (by omega))), fun j hj => (g j hj).kept a w f (ns _ (Or.inr (by omega))) (ns _ (Or.inr (by omega))) (ns _ (Or.inr (by omega))), s.kept w f (ns _ (Or.inr (by omega)))⟩
/-- one head field is written -/
theorem XlAt.putN {h : Hp} {E k : Nat} {x : Value} {r : Xr} {rs : St} {n : Nat × Nat × Nat × Nat × Nat × Nat} (q : XlAt h E r rs) (w : WF h) (hk : k = 0 ∨ k = 1 ∨ k = 5 ∨ k = 8 ∨ k = 9 ∨ k = 10 ∨ k = 11) (hn : XlN (Hput h E k x) E n) : XlAt (Hput h E k x) E (n, r.2) rs := by
  obtain ⟨a, -, p, g, s⟩ := q
  have f : Fr (fun q => q = E) h (Hput h E k x) := Fr.put (Or.inl rfl)
  exact ⟨a.putN hk, hn, fun i hi => (p i hi).kept a w f (by omega) (by omega) (by omega) (by omega), fun j hj => (g j hj).kept a w f (by omega) (by omega) (by omega), s.kept w f (by omega)⟩
/-! WHAT THE EXPLORATION ANSWERS -/
def opn (c : Cmp) (r : Xr) (i : Nat) : Nat := if i < xpc r ∧ (xsq r i).length < xmx r then c.2.2.length - xpr r i else 0
def cop (c : Cmp) (r : Xr) : Nat → Nat → Nat
  | 0, _ => 0
  | n + 1, i => opn c r i + cop c r n (i + 1)
def fos (c : Cmp) (r : Xr) : Nat → Nat → Option Nat
  | 0, _ => none
  | n + 1, i => if 0 < opn c r i then some i else fos c r n (i + 1)
def sws (r : Xr) (t : St) : Nat → Nat → Option Nat
  | 0, _ => none
  | n + 1, i => if i < xpc r ∧ xss r i = t then some i else sws r t n (i + 1)
def hpp (r : Xr) : Nat → Nat → Bool
  | 0, _ => false
  | n + 1, i => if i < xpc r ∧ 0 < xpr r i then true else hpp r n (i + 1)
def oI (o : Option Nat) : Int32 := match o with
  | none => -1000
  | some i => nI i
def addR (r : Xr) (xs : List Nat) (m : Nat) (t : St) : Xr := match sws r t 40 0 with
  | some _ => ((xmx r, xpc r, xfl r, xsk r, xrd r + 1, xdr r), r.2)
  | none => if xpc r < 40 then ((xmx r, xpc r + 1, xfl r, xsk r, xrd r, xdr r), fup (xsq r) (xpc r) (xs ++ [m]), fup (xss r) (xpc r) t, fup (xpr r) (xpc r) 0, xfs r, xvd r) else ((xmx r, xpc r, xfl r, xsk r, xrd r, xdr r + 1), r.2)
def addF (r : Xr) (xs : List Nat) (m v : Nat) : Xr := if xfl r < 20 then ((xmx r, xpc r, xfl r + 1, xsk r, xrd r, xdr r), xsq r, xss r, xpr r, fup (xfs r) (xfl r) (xs ++ [m]), fup (xvd r) (xfl r) v) else ((xmx r, xpc r, xfl r, xsk r, xrd r, xdr r + 1), r.2)
/-- one step of the exploration at sequence i -/
def stpA (c : Cmp) (r : Xr) (i : Nat) : Xr := (r.1, xsq r, xss r, fup (xpr r) i (xpr r i + 1), xfs r, xvd r)
def stp (c : Cmp) (r : Xr) (i : Nat) : Xr := if verd c (xpr r i) (xss r i) = 1 then ((xmx r, xpc r, xfl r, xsk r + 1, xrd r, xdr r), (stpA c r i).2) else if verd c (xpr r i) (xss r i) = 0 then addR (stpA c r i) (xsq r i) (xpr r i) (nxt c (xpr r i) (xss r i)) else addF (stpA c r i) (xsq r i) (xpr r i) (verd c (xpr r i) (xss r i))
/-- steps until n are done or nothing is left: how many, and what then is -/
def stps (c : Cmp) : Nat → Nat → Xr → Nat × Xr
  | 0, k, r => (k, r)
  | n + 1, k, r => match fos c r 40 0 with
    | none => (k, r)
    | some i => stps c n (k + 1) (stp c r i)
def rst (c : Cmp) (r : Xr) : Xr := ((xmx r, 1, 0, 0, 0, 0), xsq r, fup (xss r) 0 c.1, fup (xpr r) 0 0, xfs r, xvd r)
/-- what holds of an exploration at all times -/
def XOk (c : Cmp) (r : Xr) : Prop := (1 ≤ xmx r ∧ xmx r ≤ 8) ∧ (1 ≤ xpc r ∧ xpc r ≤ 40) ∧ xfl r ≤ 20 ∧ xsq r 0 = [] ∧ (∀ i, i < xpc r → xpr r i ≤ c.2.2.length)
