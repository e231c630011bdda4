/-! THE COMPONENT UNDER CONSTRUCTION: at A, its state at A + 1, its lists at A + 2 and A + 3 -/
def IvP (G : GG) (h : Hp) (A : Nat) (c : Cmp) (ei em : List Nat) : Prop := A + 4 ≤ Hz h ∧ (Hk h A = some (.inl 3) ∧ Hv h A 0 = .ref (A + 1) ∧ Hv h A 1 = .ref (A + 2) ∧ Hv h A 2 = .ref (A + 3)) ∧ StAt h (A + 1) c.1 ∧ (c.2.1.length ≤ 3 ∧ c.2.2.length ≤ 6) ∧ (LsAt (fun q => A + 4 ≤ q ∧ ¬ Hv h (A + 3) 1 = .ref q) G h (A + 2) ei ∧ ei.length = c.2.1.length ∧ ∀ (i : Nat) (x : Cnd), c.2.1[i]? = some x → CnAt (fun q => A + 4 ≤ q) h (ei.getD i 0) x) ∧ LsAt (fun q => A + 4 ≤ q ∧ ¬ Hv h (A + 2) 1 = .ref q) G h (A + 3) em ∧ em.length = c.2.2.length ∧ ∀ (i : Nat) (x : Mth), c.2.2[i]? = some x → MtAt (fun q => A + 4 ≤ q ∧ ¬ Hv h (A + 2) 1 = .ref q ∧ ¬ Hv h (A + 3) 1 = .ref q) G h (em.getD i 0) x
theorem IvP.st {S : Nat → Prop} {G : GG} {h h1 : Hp} {A : Nat} {c : Cmp} {ei em : List Nat} {s : St} (q : IvP G h A c ei em) (w : WF h) (f : Fr S h h1) (hs : ∀ q, S q → q < A ∨ q = A + 1) (st : StAt h1 (A + 1) s) : IvP G h1 A (s, c.2) ei em := by
  obtain ⟨z, ⟨a0, a1, a2, a3⟩, s0, b, ⟨li, ni, xi⟩, lm, nm, xm⟩ := q
  have ns : ∀ q, (q = A ∨ A + 2 ≤ q) → ¬ S q := fun q hq e => by rcases hs q e with e | e <;> omega
  have e2 := f.v w li.1 (ns _ (by omega)) 1
  have e3 := f.v w lm.1 (ns _ (by omega)) 1
  refine ⟨Nat.le_trans z f.1, ⟨f.k w a0, by rw [f.v w a0 (ns _ (by omega))]; exact a1, by rw [f.v w a0 (ns _ (by omega))]; exact a2, by rw [f.v w a0 (ns _ (by omega))]; exact a3⟩, st, b, ⟨?_, ni, fun i x hx => (xi i x hx).tr ?_⟩, ?_, nm, fun i x hx => (xm i x hx).tr ?_⟩
  · exact (li.kept w f (ns _ (by omega)) (fun d pd _ => ns d (by have := pd.1; omega))).mono (fun d pd _ _ => ⟨pd.1, fun e => pd.2 (e3.symm.trans e)⟩)
  · exact fun a t _ pa hk => ⟨pa, f.k w hk, f.v w hk (ns a (by omega))⟩
  · exact (lm.kept w f (ns _ (by omega)) (fun d pd _ => ns d (by have := pd.1; omega))).mono (fun d pd _ _ => ⟨pd.1, fun e => pd.2 (e2.symm.trans e)⟩)
  · exact fun a t pa hk => ⟨⟨pa.1, fun e => pa.2.1 (e2.symm.trans e), fun e => pa.2.2 (e3.symm.trans e)⟩, f.k w hk, f.v w hk (ns a (by have := pa.1; omega))⟩
theorem IvP.kept {S : Nat → Prop} {G : GG} {h h1 : Hp} {A : Nat} {c : Cmp} {ei em : List Nat} (q : IvP G h A c ei em) (w : WF h) (f : Fr S h h1) (hs : ∀ q, S q → q < A) : IvP G h1 A c ei em :=
  q.st w f (fun q e => Or.inl (hs q e)) (q.2.2.1.kept w f (fun e => by have := hs _ e; omega))
theorem IvP.cp {G : GG} {h h0 : Hp} {A : Nat} {c : Cmp} {ei em : List Nat} (q : IvP G h A c ei em) (hA : Hz h0 ≤ A) : CpAt (fun q => Hz h0 ≤ q) G h A c := by
  obtain ⟨z, ⟨a0, a1, a2, a3⟩, s0, b, ⟨li, ni, xi⟩, lm, nm, xm⟩ := q
  refine ⟨A + 1, A + 2, A + 3, hA, by omega, a0, a1, a2, a3, s0, ⟨by omega, ei, li.mono (fun d pd _ _ => by have := pd.1; omega), ni, fun i x hx => (xi i x hx).tr (fun a t _ pa hk => ⟨by omega, hk, fun _ => rfl⟩)⟩, by omega, em, lm.mono (fun d pd _ _ => by have := pd.1; omega), nm, fun i x hx => (xm i x hx).tr (fun a t pa hk => ⟨by have := pa.1; omega, hk, fun _ => rfl⟩)⟩
def PIv (h : Hp) (A : Nat) : Nat → Prop := fun q => A + 4 ≤ q ∧ ¬ Hv h (A + 3) 1 = .ref q ∧ (Hv h (A + 2) 1 = .ref q ∨ Hz h ≤ q)
def PMv (h : Hp) (A : Nat) : Nat → Prop := fun q => A + 4 ≤ q ∧ ¬ Hv h (A + 2) 1 = .ref q
theorem IvP.li {G : GG} {h : Hp} {A : Nat} {c : Cmp} {ei em : List Nat} (q : IvP G h A c ei em) : LsAt (PIv h A) G h (A + 2) ei :=
  q.2.2.2.2.1.1.mono (fun d pd _ hv => ⟨pd.1, pd.2, Or.inl hv⟩)
theorem IvP.lm {G : GG} {h : Hp} {A : Nat} {c : Cmp} {ei em : List Nat} (q : IvP G h A c ei em) : LsAt (PMv h A) G h (A + 3) em :=
  q.2.2.2.2.2.1
theorem IvP.fi {G : GG} {h : Hp} {A : Nat} {c : Cmp} {ei em : List Nat} (q : IvP G h A c ei em) (w : WF h) (hE : gE G < Hz h) : ∀ q, Hz h ≤ q → PIv h A q := fun d hd =>
  ⟨by have := q.1; omega, fun e => by have := q.lm.old w hE e; omega, Or.inr hd⟩
theorem IvP.fm {G : GG} {h : Hp} {A : Nat} {c : Cmp} {ei em : List Nat} (q : IvP G h A c ei em) (w : WF h) (hE : gE G < Hz h) : ∀ q, Hz h ≤ q → PMv h A q := fun d hd =>
  ⟨by have := q.1; omega, fun e => by have := q.li.old w hE e; omega⟩
theorem lsS_k {P : Nat → Prop} {h : Hp} {lx a : Nat} (klx : Hk h lx = some (.inl 7)) (ka : Hk h a = some (.inl 1)) : ∀ q t, lsS P h lx a q → Hk h q = some t → t = .inl 7 ∨ t = .inl 1 ∨ t = .inr (2, 10) ∨ t = .inl 12 := by
  intro q t e hk
  rcases e with rfl | rfl | ⟨-, e, -⟩
  · rw [klx] at hk; cases hk; exact Or.inl rfl
  · rw [ka] at hk; cases hk; exact Or.inr (Or.inl rfl)
  · rw [e] at hk; cases hk; exact Or.inr (Or.inr (Or.inl rfl))
theorem snoc_all {α : Type} {E E' : Nat → α → Prop} {es : List Nat} {xs : List α} {e : Nat} {x : α} (hl : es.length = xs.length) (hE : ∀ (i : Nat) (y : α), xs[i]? = some y → E (es.getD i 0) y) (m : ∀ a y, E a y → E' a y) (hx : E' e x) : ∀ (i : Nat) (y : α), (xs ++ [x])[i]? = some y → E' ((es ++ [e]).getD i 0) y := by
  intro i y hy
  by_cases hi : i < xs.length
  · rw [List.getElem?_append_left hi] at hy
    rw [getD_snoc_lt (by omega)]
    exact m _ _ (hE i y hy)
  · have hb := (List.getElem?_eq_some_iff.mp hy).1
    simp at hb
    have he : i = xs.length := by omega
    subst he
    rw [List.getElem?_append_right (Nat.le_refl _), Nat.sub_self] at hy
    cases hy
    rw [← hl, getD_snoc_at]
    exact hx
theorem IvP.inv {G : GG} {h h1 : Hp} {A lx e : Nat} {c : Cmp} {x : Cnd} {ei em : List Nat} (q : IvP G h A c ei em) (w : WF h) (hE : gE G < Hz h) (hl : lx < A) (klx : Hk h lx = some (.inl 7)) (hlen : c.2.1.length < 3) (f : Fr (lsS (PIv h A) h lx (A + 2)) h h1) (L : LsAt (PIv h A) G h1 (A + 2) (ei ++ [e])) (C : CnAt (fun q => Hz h ≤ q) h1 e x) : IvP G h1 A (c.1, c.2.1 ++ [x], c.2.2) (ei ++ [e]) em := by
  have hli := q.li
  obtain ⟨z, ⟨a0, a1, a2, a3⟩, s0, b, ⟨li, ni, xi⟩, lm, nm, xm⟩ := q
  have ns : ∀ q, (A ≤ q ∧ q ≤ A + 1 ∨ q = A + 3) → ¬ lsS (PIv h A) h lx (A + 2) q := fun q hq e => by
    rcases e with e | e | ⟨e, -⟩
    · omega
    · omega
    · have := e.1; omega
  have nr : ∀ q, A + 4 ≤ q → ¬ Hv h (A + 2) 1 = .ref q → ¬ lsS (PIv h A) h lx (A + 2) q := fun q hq hn e => by
    rcases e with e | e | ⟨-, -, e⟩
    · omega
    · omega
    · exact hn e
  have e3 := f.v w lm.1 (ns _ (by omega)) 1
  obtain ⟨d, pd, vd, kd⟩ := L.row
  have hold : ∀ b, b < Hz h → ¬ Hv h (A + 2) 1 = .ref b → ¬ Hv h1 (A + 2) 1 = .ref b := fun b hb hn e => by
    rw [vd] at e
    cases e
    rcases pd.2.2 with e | e
    · exact hn e
    · omega
  refine ⟨Nat.le_trans z f.1, ⟨f.k w a0, by rw [f.v w a0 (ns _ (by omega))]; exact a1, by rw [f.v w a0 (ns _ (by omega))]; exact a2, by rw [f.v w a0 (ns _ (by omega))]; exact a3⟩, s0.kept w f (ns _ (by omega)), ⟨by simp; omega, b.2⟩, ⟨L.mono (fun d pd _ _ => ⟨pd.1, fun e => pd.2.1 (e3.symm.trans e)⟩), by simp; omega, ?_⟩, ?_, nm, fun i x hx => (xm i x hx).tr ?_⟩
  · exact snoc_all ni xi (fun a y hy => hy.tr (trE_of w f (lsS_k klx li.1) (fun q z => z))) (C.tr (fun a t _ pa hk => ⟨by omega, hk, fun _ => rfl⟩))
  · have lm2 : LsAt (fun q => A + 4 ≤ q ∧ ¬ Hv h (A + 2) 1 = .ref q ∧ q < Hz h) G h (A + 3) em := lm.mono (fun d pd hk _ => ⟨pd.1, pd.2, w _ _ hk⟩)
    exact (lm2.kept w f (ns _ (by omega)) (fun d pd _ => nr d pd.1 pd.2.1)).mono (fun d pd _ _ => ⟨pd.1, hold d pd.2.2 pd.2.1⟩)
  · exact fun a t pa hk => ⟨⟨pa.1, hold a (w _ _ hk) pa.2.1, fun e => pa.2.2 (e3.symm.trans e)⟩, f.k w hk, f.v w hk (nr a pa.1 pa.2.1)⟩
theorem IvP.mth {G : GG} {h h1 : Hp} {A lx e : Nat} {c : Cmp} {x : Mth} {ei em : List Nat} (q : IvP G h A c ei em) (w : WF h) (hE : gE G < Hz h) (hl : lx < A) (klx : Hk h lx = some (.inl 7)) (hlen : c.2.2.length < 6) (f : Fr (lsS (PMv h A) h lx (A + 3)) h h1) (L : LsAt (PMv h A) G h1 (A + 3) (em ++ [e])) (hr : ∀ b, Hv h1 (A + 3) 1 = .ref b → Hv h (A + 3) 1 = .ref b ∨ Hz h ≤ b) (M : MtAt (fun b => Hz h ≤ b ∧ ¬ Hv h1 (A + 3) 1 = .ref b) G h1 e x) : IvP G h1 A (c.1, c.2.1, c.2.2 ++ [x]) ei (em ++ [e]) := by
  have hli := q.li
  obtain ⟨z, ⟨a0, a1, a2, a3⟩, s0, b, ⟨li, ni, xi⟩, lm, nm, xm⟩ := q
  have ns : ∀ q, (A ≤ q ∧ q ≤ A + 2) → ¬ lsS (PMv h A) h lx (A + 3) q := fun q hq e => by
    rcases e with e | e | ⟨e, -⟩
    · omega
    · omega
    · have := e.1; omega
  have nr : ∀ q, A + 4 ≤ q → ¬ Hv h (A + 3) 1 = .ref q → ¬ lsS (PMv h A) h lx (A + 3) q := fun q hq hn e => by
    rcases e with e | e | ⟨-, -, e⟩
    · omega
    · omega
    · exact hn e
  have e2 := f.v w li.1 (ns _ (by omega)) 1
  have hold : ∀ b, b < Hz h → ¬ Hv h (A + 3) 1 = .ref b → ¬ Hv h1 (A + 3) 1 = .ref b := fun b hb hn e => by
    rcases hr b e with e | e
    · exact hn e
    · omega
  refine ⟨Nat.le_trans z f.1, ⟨f.k w a0, by rw [f.v w a0 (ns _ (by omega))]; exact a1, by rw [f.v w a0 (ns _ (by omega))]; exact a2, by rw [f.v w a0 (ns _ (by omega))]; exact a3⟩, s0.kept w f (ns _ (by omega)), ⟨b.1, by simp; omega⟩, ⟨?_, ni, fun i x hx => (xi i x hx).tr (trE_of w f (lsS_k klx lm.1) (fun q z => z))⟩, L.mono (fun d pd _ _ => ⟨pd.1, fun e => pd.2 (e2.symm.trans e)⟩), by simp; omega, ?_⟩
  · have li2 : LsAt (fun q => A + 4 ≤ q ∧ ¬ Hv h (A + 3) 1 = .ref q ∧ q < Hz h) G h (A + 2) ei := li.mono (fun d pd hk _ => ⟨pd.1, pd.2, w _ _ hk⟩)
    exact (li2.kept w f (ns _ (by omega)) (fun d pd _ => nr d pd.1 pd.2.1)).mono (fun d pd _ _ => ⟨pd.1, hold d pd.2.2 pd.2.1⟩)
  · exact snoc_all nm xm (fun a y hy => hy.tr (fun a t pa hk => ⟨⟨pa.1, fun e => pa.2.1 (e2.symm.trans e), hold a (w _ _ hk) pa.2.2⟩, f.k w hk, f.v w hk (nr a pa.1 pa.2.2)⟩)) (M.tr (fun a t pa hk => ⟨⟨by omega, fun e => by have := hli.old w hE (e2.symm.trans e); omega, pa.2⟩, hk, fun _ => rfl⟩))
