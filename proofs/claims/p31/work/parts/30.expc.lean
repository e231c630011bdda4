/-! AN EXPLORATION IS CHANGED -/
theorem XlAt.put1 {h : Hp} {E v : Nat} {r : Xr} {rs : St} (q : XlAt h E r rs) (w : WF h) : XlAt (Hput h E 1 (.int (nI v))) E ((v, xpc r, xfl r, xsk r, xrd r, xdr r), r.2) rs :=
  q.putN w (by decide) ⟨Hv_put_at _ _ _ _, (Hv_put_k _ _ _ _ (by decide)).trans q.2.1.2.1, (Hv_put_k _ _ _ _ (by decide)).trans q.2.1.2.2.1, (Hv_put_k _ _ _ _ (by decide)).trans q.2.1.2.2.2.1, (Hv_put_k _ _ _ _ (by decide)).trans q.2.1.2.2.2.2.1, (Hv_put_k _ _ _ _ (by decide)).trans q.2.1.2.2.2.2.2⟩
theorem XlAt.put5 {h : Hp} {E v : Nat} {r : Xr} {rs : St} (q : XlAt h E r rs) (w : WF h) : XlAt (Hput h E 5 (.int (nI v))) E ((xmx r, v, xfl r, xsk r, xrd r, xdr r), r.2) rs :=
  q.putN w (by decide) ⟨(Hv_put_k _ _ _ _ (by decide)).trans q.2.1.1, Hv_put_at _ _ _ _, (Hv_put_k _ _ _ _ (by decide)).trans q.2.1.2.2.1, (Hv_put_k _ _ _ _ (by decide)).trans q.2.1.2.2.2.1, (Hv_put_k _ _ _ _ (by decide)).trans q.2.1.2.2.2.2.1, (Hv_put_k _ _ _ _ (by decide)).trans q.2.1.2.2.2.2.2⟩
theorem XlAt.put8 {h : Hp} {E v : Nat} {r : Xr} {rs : St} (q : XlAt h E r rs) (w : WF h) : XlAt (Hput h E 8 (.int (nI v))) E ((xmx r, xpc r, v, xsk r, xrd r, xdr r), r.2) rs :=
  q.putN w (by decide) ⟨(Hv_put_k _ _ _ _ (by decide)).trans q.2.1.1, (Hv_put_k _ _ _ _ (by decide)).trans q.2.1.2.1, Hv_put_at _ _ _ _, (Hv_put_k _ _ _ _ (by decide)).trans q.2.1.2.2.2.1, (Hv_put_k _ _ _ _ (by decide)).trans q.2.1.2.2.2.2.1, (Hv_put_k _ _ _ _ (by decide)).trans q.2.1.2.2.2.2.2⟩
theorem XlAt.put9 {h : Hp} {E v : Nat} {r : Xr} {rs : St} (q : XlAt h E r rs) (w : WF h) : XlAt (Hput h E 9 (.int (nI v))) E ((xmx r, xpc r, xfl r, v, xrd r, xdr r), r.2) rs :=
  q.putN w (by decide) ⟨(Hv_put_k _ _ _ _ (by decide)).trans q.2.1.1, (Hv_put_k _ _ _ _ (by decide)).trans q.2.1.2.1, (Hv_put_k _ _ _ _ (by decide)).trans q.2.1.2.2.1, Hv_put_at _ _ _ _, (Hv_put_k _ _ _ _ (by decide)).trans q.2.1.2.2.2.2.1, (Hv_put_k _ _ _ _ (by decide)).trans q.2.1.2.2.2.2.2⟩
theorem XlAt.put10 {h : Hp} {E v : Nat} {r : Xr} {rs : St} (q : XlAt h E r rs) (w : WF h) : XlAt (Hput h E 10 (.int (nI v))) E ((xmx r, xpc r, xfl r, xsk r, v, xdr r), r.2) rs :=
  q.putN w (by decide) ⟨(Hv_put_k _ _ _ _ (by decide)).trans q.2.1.1, (Hv_put_k _ _ _ _ (by decide)).trans q.2.1.2.1, (Hv_put_k _ _ _ _ (by decide)).trans q.2.1.2.2.1, (Hv_put_k _ _ _ _ (by decide)).trans q.2.1.2.2.2.1, Hv_put_at _ _ _ _, (Hv_put_k _ _ _ _ (by decide)).trans q.2.1.2.2.2.2.2⟩
theorem XlAt.put11 {h : Hp} {E v : Nat} {r : Xr} {rs : St} (q : XlAt h E r rs) (w : WF h) : XlAt (Hput h E 11 (.int (nI v))) E ((xmx r, xpc r, xfl r, xsk r, xrd r, v), r.2) rs :=
  q.putN w (by decide) ⟨(Hv_put_k _ _ _ _ (by decide)).trans q.2.1.1, (Hv_put_k _ _ _ _ (by decide)).trans q.2.1.2.1, (Hv_put_k _ _ _ _ (by decide)).trans q.2.1.2.2.1, (Hv_put_k _ _ _ _ (by decide)).trans q.2.1.2.2.2.1, (Hv_put_k _ _ _ _ (by decide)).trans q.2.1.2.2.2.2.1, Hv_put_at _ _ _ _⟩
theorem XlAt.put0 {h : Hp} {E : Nat} {x : Value} {r : Xr} {rs : St} (q : XlAt h E r rs) (w : WF h) : XlAt (Hput h E 0 x) E r rs :=
  q.putN w (by decide) ⟨(Hv_put_k _ _ _ _ (by decide)).trans q.2.1.1, (Hv_put_k _ _ _ _ (by decide)).trans q.2.1.2.1, (Hv_put_k _ _ _ _ (by decide)).trans q.2.1.2.2.1, (Hv_put_k _ _ _ _ (by decide)).trans q.2.1.2.2.2.1, (Hv_put_k _ _ _ _ (by decide)).trans q.2.1.2.2.2.2.1, (Hv_put_k _ _ _ _ (by decide)).trans q.2.1.2.2.2.2.2⟩
theorem XlAt.setQ {S : Nat → Prop} {h h1 : Hp} {E i : Nat} {r r' : Xr} {rs : St} (q : XlAt h E r rs) (w : WF h) (f : Fr S h h1) (hi : i < 40) (hS : ∀ q, S q → q = E + 11 + 3 * i ∨ q = E + 11 + 3 * i + 1 ∨ q = E + 13 + 3 * i ∨ q = E + 7) (hp : ∀ j, ¬ j = i → Hv h1 (E + 7) j = Hv h (E + 7) j) (e1 : r'.1 = r.1) (eo : ∀ j, ¬ j = i → xsq r' j = xsq r j ∧ xss r' j = xss r j ∧ xpr r' j = xpr r j) (ef : xfs r' = xfs r) (ev : xvd r' = xvd r) (n : XlQ h1 E i (xsq r' i) (xss r' i) (xpr r' i)) : XlAt h1 E r' rs := by
  obtain ⟨a, n0, p, g, s⟩ := q
  have ns : ∀ q, (¬ q = E + 11 + 3 * i ∧ ¬ q = E + 11 + 3 * i + 1 ∧ ¬ q = E + 13 + 3 * i ∧ ¬ q = E + 7) → ¬ S q := fun q z e => by have := hS q e; omega
  refine ⟨a.kept w f (ns _ (by omega)) (ns _ (by omega)) (ns _ (by omega)) (ns _ (by omega)), by rw [e1]; exact n0.kept a w f (ns _ (by omega)), fun j hj => ?_, fun j hj => by rw [ef, ev]; exact (g j hj).kept a w f (ns _ (by omega)) (ns _ (by omega)) (ns _ (by omega)), s.kept w f (ns _ (by omega))⟩
  by_cases hji : j = i
  · rw [hji]
    exact n
  · obtain ⟨o1, o2, o3⟩ := eo j hji
    obtain ⟨q1, q2, q3⟩ := p j hj
    rw [o1, o2, o3]
    exact ⟨q1.kept w f (ns _ (by omega)) (ns _ (by omega)), q2.kept w f (ns _ (by omega)), (hp j hji).trans q3⟩
theorem XlAt.setF {S : Nat → Prop} {h h1 : Hp} {E i : Nat} {r r' : Xr} {rs : St} (q : XlAt h E r rs) (w : WF h) (f : Fr S h h1) (hi : i < 20) (hS : ∀ q, S q → q = E + 131 + 2 * i ∨ q = E + 131 + 2 * i + 1 ∨ q = E + 9) (hp : ∀ j, ¬ j = i → Hv h1 (E + 9) j = Hv h (E + 9) j) (e1 : r'.1 = r.1) (eq : xsq r' = xsq r) (es : xss r' = xss r) (ep : xpr r' = xpr r) (eo : ∀ j, ¬ j = i → xfs r' j = xfs r j ∧ xvd r' j = xvd r j) (n : XlF h1 E i (xfs r' i) (xvd r' i)) : XlAt h1 E r' rs := by
  obtain ⟨a, n0, p, g, s⟩ := q
  have ns : ∀ q, (¬ q = E + 131 + 2 * i ∧ ¬ q = E + 131 + 2 * i + 1 ∧ ¬ q = E + 9) → ¬ S q := fun q z e => by have := hS q e; omega
  refine ⟨a.kept w f (ns _ (by omega)) (ns _ (by omega)) (ns _ (by omega)) (ns _ (by omega)), by rw [e1]; exact n0.kept a w f (ns _ (by omega)), fun j hj => by rw [eq, es, ep]; exact (p j hj).kept a w f (ns _ (by omega)) (ns _ (by omega)) (ns _ (by omega)) (ns _ (by omega)), fun j hj => ?_, s.kept w f (ns _ (by omega))⟩
  by_cases hji : j = i
  · rw [hji]
    exact n
  · obtain ⟨o1, o2⟩ := eo j hji
    obtain ⟨q1, q2⟩ := g j hj
    rw [o1, o2]
    exact ⟨q1.kept w f (ns _ (by omega)) (ns _ (by omega)), (hp j hji).trans q2⟩
theorem XlAt.setR {h h1 : Hp} {E : Nat} {r : Xr} {rs s' : St} (q : XlAt h E r rs) (w : WF h) (f : Fr (fun q => q = E + 10) h h1) (st : StAt h1 (E + 10) s') : XlAt h1 E r s' := by
  obtain ⟨a, n, p, g, s⟩ := q
  exact ⟨a.kept w f (by omega) (by omega) (by omega) (by omega), n.kept a w f (by omega), fun i hi => (p i hi).kept a w f (by omega) (by omega) (by omega) (by omega), fun j hj => (g j hj).kept a w f (by omega) (by omega) (by omega), st⟩
theorem sws_lt {r : Xr} {t : St} : ∀ (n i j : Nat), sws r t n i = some j → j < i + n ∧ j < xpc r ∧ xss r j = t := by
  intro n
  induction n with
  | zero => intro i j h; cases h
  | succ n ih =>
    intro i j h
    unfold sws at h
    by_cases hc : i < xpc r ∧ xss r i = t
    · rw [if_pos hc] at h
      cases h
      exact ⟨by omega, hc⟩
    · rw [if_neg hc] at h
      have := ih (i + 1) j h
      exact ⟨by omega, this.2⟩
theorem fos_lt {c : Cmp} {r : Xr} : ∀ (n i j : Nat), fos c r n i = some j → j < i + n ∧ 0 < opn c r j := by
  intro n
  induction n with
  | zero => intro i j h; cases h
  | succ n ih =>
    intro i j h
    unfold fos at h
    by_cases hc : 0 < opn c r i
    · rw [if_pos hc] at h
      cases h
      exact ⟨by omega, hc⟩
    · rw [if_neg hc] at h
      have := ih (i + 1) j h
      exact ⟨by omega, this.2⟩
theorem opn_pos {c : Cmp} {r : Xr} {i : Nat} (h : 0 < opn c r i) : i < xpc r ∧ (xsq r i).length < xmx r ∧ xpr r i < c.2.2.length := by
  unfold opn at h
  by_cases hc : i < xpc r ∧ (xsq r i).length < xmx r
  · rw [if_pos hc] at h
    exact ⟨hc.1, hc.2, by omega⟩
  · rw [if_neg hc] at h
    omega
theorem verd_le {c : Cmp} {m : Nat} {s : St} : verd c m s ≤ 4 := by
  unfold verd
  repeat' split
  all_goals omega
theorem nI_m1000 {n : Nat} (h : n < 2 ^ 31) : ¬ nI n = -1000 := fun z => by
  have h1 := nI_toInt h
  rw [z] at h1
  have h2 : (-1000 : Int32).toInt = -1000 := by decide
  omega
theorem oI_none {o : Option Nat} (hb : ∀ j, o = some j → j < 2 ^ 31) (h : oI o = -1000) : o = none := by
  cases o with
  | none => rfl
  | some j => exact absurd h (nI_m1000 (hb j rfl))
theorem oI_some {o : Option Nat} (h : ¬ oI o = -1000) : ∃ j, o = some j := by
  cases o with
  | none => exact absurd rfl h
  | some j => exact ⟨j, rfl⟩
