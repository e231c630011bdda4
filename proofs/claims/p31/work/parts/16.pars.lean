/-! THE PARSER, PURE -/
def pOpd (old : Bool) (r : List Tok) : Option Opd × List Tok := match (if old = true then acc 306 r else none) with
  | some r1 => (match pFld r1 with
    | some (f, r2) => (some (nI 3 + nI f, nI 0), r2)
    | none => (none, r1))
  | none => (match pFld r with
    | some (f, r1) => (some (nI f, nI 0), r1)
    | none => (match pNum r with
      | (some v, r1) => (some (-1, v), r1)
      | (none, r1) => (none, r1)))
def pRel (r : List Tok) : Option (Int32 × List Tok) := match acc 60 r with
  | some r' => some (nI 60, r')
  | none => match acc 61 r with
    | some r' => some (nI 61, r')
    | none => match acc 62 r with
      | some r' => some (nI 62, r')
      | none => none
def pCnd (old : Bool) (r : List Tok) : Option Cnd × List Tok := match pOpd old r with
  | (none, r1) => (none, r1)
  | (some a, r1) => (match pRel r1 with
    | none => (none, r1)
    | some (k, r2) => (match pOpd old r2 with
      | (none, r3) => (none, r3)
      | (some b, r3) => (some (a, k, b), r3)))
def pSgn (r : List Tok) : Int32 × List Tok := match acc 43 r with
  | some r' => (nI 1, r')
  | none => match acc 45 r with
    | some r' => (-1, r')
    | none => (nI 0, r)
def pAsg (r : List Tok) : Option Asg × List Tok := match pFld r with
  | none => (none, r)
  | some (f, r1) => (match acc 61 r1 with
    | none => (none, r1)
    | some r2 => (match pOpd false r2 with
      | (none, r3) => (none, r3)
      | (some a, r3) => if (pSgn r3).1 = 0 then (some (nI f, a, (pSgn r3).1, a), (pSgn r3).2) else (match pOpd false (pSgn r3).2 with
        | (none, r5) => (none, r5)
        | (some b, r5) => (some (nI f, a, (pSgn r3).1, b), r5))))
def pCnds (w : Nat) (old : Bool) : Nat → List Cnd → List Tok → Option (List Cnd) × List Tok
  | 0, cs, r => (some cs, r)
  | n + 1, cs, r => match acc w r with
    | none => (some cs, r)
    | some r1 => (match pCnd old r1 with
      | (none, r2) => (none, r2)
      | (some c, r2) => pCnds w old n (cs ++ [c]) r2)
def pAsgs : Nat → List Asg → List Tok → Option (List Asg) × List Tok
  | 0, cs, r => (some cs, r)
  | n + 1, cs, r => match acc 304 r with
    | none => (some cs, r)
    | some r1 => (match pAsg r1 with
      | (none, r2) => (none, r2)
      | (some c, r2) => pAsgs n (cs ++ [c]) r2)
def pMth (r : List Tok) : Option Mth × List Tok := match pCnds 303 false 2 [] r with
  | (none, r1) => (none, r1)
  | (some p, r1) => (match pAsgs 3 [] r1 with
    | (none, r2) => (none, r2)
    | (some q, r2) => if q.isEmpty = true then (none, r2) else (match pCnds 305 true 2 [] r2 with
      | (none, r3) => (none, r3)
      | (some s, r3) => (some (p, q, s), r3)))
def pIni (r : List Tok) : Option (Nat × Int32) × List Tok := match pFld r with
  | none => (none, r)
  | some (f, r1) => (match pNum r1 with
    | (none, r2) => (none, r2)
    | (some v, r2) => (some (f, v), r2))
/-- one declaration, without its semicolon -/
def pDcl (c : Cmp) (r : List Tok) : Option Cmp × List Tok := match acc 300 r with
  | some r1 => (match pIni r1 with
    | (none, r2) => (none, r2)
    | (some (f, v), r2) => (some (setF c.1 (nI f) v, c.2.1, c.2.2), r2))
  | none => (match (if c.2.1.length < 3 then acc 301 r else none) with
    | some r1 => (match pCnd false r1 with
      | (none, r2) => (none, r2)
      | (some q, r2) => (some (c.1, c.2.1 ++ [q], c.2.2), r2))
    | none => (match (if c.2.2.length < 6 then acc 302 r else none) with
      | some r1 => (match pMth r1 with
        | (none, r2) => (none, r2)
        | (some q, r2) => (some (c.1, c.2.1, c.2.2 ++ [q]), r2))
      | none => (none, r)))
def pCmp : Nat → Cmp → List Tok → Option Cmp × List Tok
  | 0, c, r => (some c, r)
  | n + 1, c, r => if r.isEmpty = true then (some c, r) else (match pDcl c r with
    | (none, r1) => (none, r1)
    | (some c', r1) => (match acc 59 r1 with
      | none => (none, r1)
      | some r2 => pCmp n c' r2))
def cmp0 : Cmp := ((nI 0, nI 0, nI 0), [], [])
/-! PICTURES OF THE PARSER'S WORK -/
theorem LsAt.nil {P : Nat → Prop} {G : GG} {h : Hp} {a : Nat} {es : List Nat} (q : LsAt (fun _ => False) G h a es) : LsAt P G h a es := by
  obtain ⟨k0, k1, k2, k3⟩ := q
  exact ⟨k0, k1, k2, k3.imp (fun z => z) (fun ⟨d, z, _⟩ => z.elim)⟩
theorem LsAt.mono {P P' : Nat → Prop} {G : GG} {h : Hp} {a : Nat} {es : List Nat} (q : LsAt P G h a es) (m : ∀ d, P d → Hk h d = some (.inr (2, 10)) → Hv h a 1 = .ref d → P' d) : LsAt P' G h a es := by
  obtain ⟨k0, k1, k2, k3⟩ := q
  exact ⟨k0, k1, k2, k3.imp (fun z => z) (fun ⟨d, z, g1, g2, g3⟩ => ⟨d, m d z g2 g1, g1, g2, g3⟩)⟩
theorem LsAt.kept {P S : Nat → Prop} {G : GG} {h h1 : Hp} {a : Nat} {es : List Nat} (q : LsAt P G h a es) (w : WF h) (f : Fr S h h1) (ha : ¬ S a) (hd : ∀ d, P d → Hk h d = some (.inr (2, 10)) → ¬ S d) : LsAt P G h1 a es := by
  obtain ⟨k0, ⟨x, k1⟩, k2, k3⟩ := q
  refine ⟨f.k w k0, ⟨x, by rw [f.v w k0 ha]; exact k1⟩, by rw [f.v w k0 ha]; exact k2, ?_⟩
  rcases k3 with ⟨e, k3⟩ | ⟨d, pd, k3, k4, k5, k6⟩
  · exact Or.inl ⟨e, by rw [f.v w k0 ha]; exact k3⟩
  · exact Or.inr ⟨d, pd, by rw [f.v w k0 ha]; exact k3, f.k w k4, k5, fun i hi => by rw [f.v w k4 (hd d pd k4)]; exact k6 i hi⟩
/-- which old cells a reader into list a may write: the lexemes' head, the list, its row -/
def lsS (P : Nat → Prop) (h : Hp) (lx a : Nat) : Nat → Prop := fun q => q = lx ∨ q = a ∨ (P q ∧ Hk h q = some (.inr (2, 10)) ∧ Hv h a 1 = .ref q)
/-- elements stay, whatever is written into rows of Object, lists and lexemes -/
theorem trE_of {P P' S : Nat → Prop} {h h1 : Hp} (w : WF h) (f : Fr S h h1) (hs : ∀ q t, S q → Hk h q = some t → t = .inl 7 ∨ t = .inl 1 ∨ t = .inr (2, 10) ∨ t = .inl 12) (hp : ∀ q, P q → P' q) : TrE P P' h h1 := by
  intro a t ht pa hk
  have hn : ¬ S a := fun z => by
    have := hs a t z hk
    rcases ht with rfl | rfl | rfl <;> simp at this
  exact ⟨hp a pa, f.k w hk, f.v w hk hn⟩
theorem fr_add {P : Nat → Prop} {G : GG} {h h1 h2 : Hp} {lx a : Nat} {es : List Nat} (w : WF h) (hl : LsAt P G h a es) (hne : ¬ a = lx) (f1 : Fr (fun q => q = lx) h h1) (f2 : Fr (fun q => q = a ∨ (P q ∧ Hk h1 q = some (.inr (2, 10)) ∧ Hv h1 a 1 = .ref q)) h1 h2) : Fr (lsS P h lx a) h h2 := by
  refine (f1.mono (fun q _ e => Or.inl e)).then f2 (fun q hq z => ?_)
  rcases z with z | ⟨z1, z2, z3⟩
  · exact Or.inr (Or.inl z)
  · refine Or.inr (Or.inr ⟨z1, by rw [← f1.2.1 q hq]; exact z2, ?_⟩)
    rw [← f1.v w hl.1 hne]
    exact z3
theorem fld_ne {f : Nat} (h : f < 3) : ¬ nI f = -1000 := by
  have k : ∀ f, f < 3 → ¬ nI f = -1000 := by decide +kernel
  exact k f h
theorem pOpd_f {b : Bool} {r r1 : List Tok} {f : Nat} (e0 : (if b = true then acc 306 r else none) = none) (e1 : pFld r = some (f, r1)) : pOpd b r = (some (nI f, nI 0), r1) := by
  unfold pOpd
  rw [e0, e1]
theorem pOpd_n {b : Bool} {r r1 : List Tok} {v : Int32} (e0 : (if b = true then acc 306 r else none) = none) (e1 : pFld r = none) (e2 : pNum r = (some v, r1)) : pOpd b r = (some (-1, v), r1) := by
  unfold pOpd
  rw [e0, e1, e2]
theorem pOpd_x {b : Bool} {r r1 : List Tok} (e0 : (if b = true then acc 306 r else none) = none) (e1 : pFld r = none) (e2 : pNum r = (none, r1)) : pOpd b r = (none, r1) := by
  unfold pOpd
  rw [e0, e1, e2]
theorem pOpd_o {r r0 r1 : List Tok} {f : Nat} (e0 : acc 306 r = some r0) (e1 : pFld r0 = some (f, r1)) : pOpd true r = (some (nI 3 + nI f, nI 0), r1) := by
  simp [pOpd, e0, e1]
theorem pOpd_ox {r r0 : List Tok} (e0 : acc 306 r = some r0) (e1 : pFld r0 = none) : pOpd true r = (none, r0) := by
  simp [pOpd, e0, e1]
theorem LxR.keptN {S : Nat → Prop} {h h1 : Hp} {a n : Nat} {ts r : List Tok} (q : LxR h a n ts r) (w : WF h) (f : Fr S h h1) (hs : ∀ q, S q → q < Hz h → ¬ lexS a q) : LxR h1 a n ts r :=
  q.kept w (f.mono (S' := fun q => S q ∧ q < Hz h) (fun q hq z => ⟨z, hq⟩)) (fun q z => hs q z.1 z.2)
theorem LxR.kept3 {h : Hp} {a n : Nat} {ts r : List Tok} {t : Nat ⊕ (Nat × Nat)} {d : Nat → Value} {x y : Value} (q : LxR h a n ts r) (w : WF h) : LxR (Hput (Hput (Hnew h t d) (Hz h) 0 x) (Hz h) 1 y) a n ts r :=
  q.keptN (S := fun _ => False) w (((Fr.rf.thenNew).thenPut (Or.inr (Nat.le_refl _))).thenPut (Or.inr (Nat.le_refl _))) (fun q z => z.elim)
theorem P17 {S : Nat → Prop} {h h1 : Hp} (f : Fr S h h1) {p : Nat} {t} (w : WF h) (hP : Hk h p = some t) : Hk h1 p = some t := f.k w hP
theorem V17 {h h1 : Hp} {p lx : Nat} {t} (f : Fr (fun q => q = lx) h h1) (w : WF h) (hP : Hk h p = some t) {k : Nat} {v : Value} (hv : Hv h p k = v) (hne : ¬ p = lx) : Hv h1 p k = v := by rw [f.v w hP hne]; exact hv
