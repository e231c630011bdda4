theorem lstC {Q P' S : Nat → Prop} {G : GG} {h1 h2 : Hp} {ls : Nat} {es : List Nat} {cs : List Cnd} (hL : LsAt Q G h1 ls es) (hl : es.length = cs.length) (hE : ∀ (i : Nat) (c : Cnd), cs[i]? = some c → CnAt Q h1 (es.getD i 0) c) (w1 : WF h1) (f : Fr S h1 h2) (ha : ¬ S ls) (hq : ∀ q, Q q → ¬ S q) (p1 : P' ls) (p2 : ∀ q, Q q → P' q) : LstAt P' G h2 (CnAt P' h2) ls cs := by
  refine ⟨p1, es, (hL.kept w1 f ha (fun d z _ => hq d z)).mono (fun d z _ _ => p2 d z), hl, fun i c hc => (hE i c hc).tr (fun a t _ pa hk => ⟨p2 a pa, f.k w1 hk, f.v w1 hk (hq a pa)⟩)⟩
theorem lstA {Q P' S : Nat → Prop} {G : GG} {h1 h2 : Hp} {ls : Nat} {es : List Nat} {cs : List Asg} (hL : LsAt Q G h1 ls es) (hl : es.length = cs.length) (hE : ∀ (i : Nat) (c : Asg), cs[i]? = some c → AsAt Q h1 (es.getD i 0) c) (w1 : WF h1) (f : Fr S h1 h2) (ha : ¬ S ls) (hq : ∀ q, Q q → ¬ S q) (p1 : P' ls) (p2 : ∀ q, Q q → P' q) : LstAt P' G h2 (AsAt P' h2) ls cs := by
  refine ⟨p1, es, (hL.kept w1 f ha (fun d z _ => hq d z)).mono (fun d z _ _ => p2 d z), hl, fun i c hc => (hE i c hc).tr (fun a t _ pa hk => ⟨p2 a pa, f.k w1 hk, f.v w1 hk (hq a pa)⟩)⟩
/-- where a list's row stands, if it has one: an old cell, or the static row -/
theorem LsAt.old {P : Nat → Prop} {G : GG} {h : Hp} {a b : Nat} {es : List Nat} (q : LsAt P G h a es) (w : WF h) (hE : gE G < Hz h) (hv : Hv h a 1 = .ref b) : b < Hz h := by
  obtain ⟨k0, k1, k2, k3⟩ := q
  rcases k3 with ⟨-, k3⟩ | ⟨d, -, k3, k4, -⟩
  · rw [hv] at k3; cases k3; exact hE
  · rw [hv] at k3; cases k3; exact w _ _ k4
/-- a list that has an element has a row -/
theorem LsAt.row {P : Nat → Prop} {G : GG} {h : Hp} {a e : Nat} {es : List Nat} (q : LsAt P G h a (es ++ [e])) : ∃ d, P d ∧ Hv h a 1 = .ref d ∧ Hk h d = some (.inr (2, 10)) := by
  obtain ⟨k0, k1, k2, k3⟩ := q
  rcases k3 with ⟨z, -⟩ | ⟨d, pd, k3, k4, -⟩
  · simp at z
  · exact ⟨d, pd, k3, k4⟩
theorem pMth_x1 {r r1 : List Tok} (e : pCnds 303 false 2 [] r = (none, r1)) : pMth r = (none, r1) := by
  simp [pMth, e]
theorem pMth_x2 {r r1 r2 : List Tok} {cs : List Cnd} (e : pCnds 303 false 2 [] r = (some cs, r1)) (e2 : pAsgs 3 [] r1 = (none, r2) ∨ pAsgs 3 [] r1 = (some [], r2)) : pMth r = (none, r2) := by
  rcases e2 with e2 | e2 <;> simp [pMth, e, e2]
theorem pMth_x3 {r r1 r2 r3 : List Tok} {cs : List Cnd} {as : List Asg} (e : pCnds 303 false 2 [] r = (some cs, r1)) (e2 : pAsgs 3 [] r1 = (some as, r2)) (e3 : as.isEmpty = false) (e4 : pCnds 305 true 2 [] r2 = (none, r3)) : pMth r = (none, r3) := by
  simp [pMth, e, e2, e3, e4]
theorem pMth_ok {r r1 r2 r3 : List Tok} {cs cs2 : List Cnd} {as : List Asg} (e : pCnds 303 false 2 [] r = (some cs, r1)) (e2 : pAsgs 3 [] r1 = (some as, r2)) (e3 : as.isEmpty = false) (e4 : pCnds 305 true 2 [] r2 = (some cs2, r3)) : pMth r = (some (cs, as, cs2), r3) := by
  simp [pMth, e, e2, e3, e4]
theorem pIni_x1 {r : List Tok} (e : pFld r = none) : pIni r = (none, r) := by
  simp [pIni, e]
theorem pIni_x2 {r r1 r2 : List Tok} {f : Nat} (e : pFld r = some (f, r1)) (e2 : pNum r1 = (none, r2)) : pIni r = (none, r2) := by
  simp [pIni, e, e2]
theorem pIni_ok {r r1 r2 : List Tok} {f : Nat} {v : Int32} (e : pFld r = some (f, r1)) (e2 : pNum r1 = (some v, r2)) : pIni r = (some (f, v), r2) := by
  simp [pIni, e, e2]
