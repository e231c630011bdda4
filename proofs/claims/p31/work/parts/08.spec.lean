/-! THE PURE MODEL: values, conditions, assignments, methods, components -/
abbrev St : Type := Int32 × Int32 × Int32
abbrev Opd : Type := Int32 × Int32
abbrev Cnd : Type := Opd × Int32 × Opd
abbrev Asg : Type := Int32 × Opd × Int32 × Opd
abbrev Mth : Type := List Cnd × List Asg × List Cnd
abbrev Cmp : Type := St × List Cnd × List Mth
def opv (o : Opd) (b a : St) : Int32 := if o.1 = 0 then a.1 else if o.1 = 1 then a.2.1 else if o.1 = 2 then a.2.2 else if o.1 = 3 then b.1 else if o.1 = 4 then b.2.1 else if o.1 = 5 then b.2.2 else o.2
def chk (c : Cnd) (b a : St) : Bool := if c.2.1 = 60 then decide (opv c.1 b a < opv c.2.2 b a) else if c.2.1 = 61 then decide (opv c.1 b a = opv c.2.2 b a) else decide (opv c.2.2 b a < opv c.1 b a)
def allC (cs : List Cnd) (b a : St) : Bool := cs.all (fun c => chk c b a)
def getF (s : St) (f : Int32) : Int32 := if f = 0 then s.1 else if f = 1 then s.2.1 else s.2.2
def setF (s : St) (f : Int32) (v : Int32) : St := if f = 0 then (v, s.2.1, s.2.2) else if f = 1 then (s.1, v, s.2.2) else (s.1, s.2.1, v)
def asgV (x : Asg) (a : St) : Int32 := opv x.2.1 a a + x.2.2.1 * opv x.2.2.2 a a
def badV (v : Int32) : Bool := decide (v < -99) || decide (99 < v)
def runA : List Asg → St → Option St
  | [], a => some a
  | x :: r, a => if badV (asgV x a) = true then none else runA r (setF a x.1 (asgV x a))
/-- the verdict of a call of method m in a state -/
def verd (c : Cmp) (m : Nat) (b : St) : Nat := match c.2.2[m]? with
  | none => 1
  | some q => if allC q.1 b b = true then (match runA q.2.1 b with
    | none => 2
    | some a => if allC q.2.2 b a = true then (if allC c.2.1 b a = true then 0 else 4) else 3) else 1
/-- the state behind it, where the verdict is 0 -/
def nxt (c : Cmp) (m : Nat) (b : St) : St := match c.2.2[m]? with
  | none => b
  | some q => (runA q.2.1 b).getD b
theorem t6_out {x : Int32} (h0 : ¬ x = 0) (h1 : ¬ x = 1) (h2 : ¬ x = 2) (h3 : ¬ x = 3) (h4 : ¬ x = 4) (h5 : ¬ x = 5) : x.toInt < 0 ∨ 5 < x.toInt := by
  have k : ∀ (n : Int) (y : Int32), y.toInt = n → ¬ x = y → ¬ x.toInt = n := fun n y hy hn z => hn (Int32.toInt_inj.mp (z.trans hy.symm))
  have g0 := k 0 0 (by decide) h0
  have g1 := k 1 1 (by decide) h1
  have g2 := k 2 2 (by decide) h2
  have g3 := k 3 3 (by decide) h3
  have g4 := k 4 4 (by decide) h4
  have g5 := k 5 5 (by decide) h5
  omega
/-- lookupswitch on two keys -/
theorem ls2_a {a b : Int} {oa ob dflt : Int} {x : Int} (h : x = a) : Op.lookupswitch.offset [(a, oa), (b, ob)] dflt x = oa := by
  simp [Op.lookupswitch.offset, h]
theorem ls2_b {a b : Int} {oa ob dflt : Int} {x : Int} (h : x = b) (hab : a ≠ b) : Op.lookupswitch.offset [(a, oa), (b, ob)] dflt x = ob := by
  simp [Op.lookupswitch.offset, h, hab]
theorem ls2_d {a b : Int} {oa ob dflt : Int} {x : Int} (h : ¬ x = a) (h2 : ¬ x = b) : Op.lookupswitch.offset [(a, oa), (b, ob)] dflt x = dflt := by
  simp [Op.lookupswitch.offset, Ne.symm h, Ne.symm h2]
theorem i32_ne {x y : Int32} {n : Int} (hy : y.toInt = n) (h : ¬ x = y) : ¬ x.toInt = n := fun z => h (Int32.toInt_inj.mp (z.trans hy.symm))
/-! PICTURES -/
def StAt (h : Hp) (a : Nat) (s : St) : Prop := Hk h a = some (.inl 12) ∧ Hv h a 0 = .int s.1 ∧ Hv h a 1 = .int s.2.1 ∧ Hv h a 2 = .int s.2.2
def OpAt (P : Nat → Prop) (h : Hp) (a : Nat) (o : Opd) : Prop := P a ∧ Hk h a = some (.inl 9) ∧ Hv h a 0 = .int o.1 ∧ Hv h a 1 = .int o.2
def CnAt (P : Nat → Prop) (h : Hp) (a : Nat) (c : Cnd) : Prop := ∃ x y : Nat, P a ∧ Hk h a = some (.inl 4) ∧ Hv h a 0 = .ref x ∧ Hv h a 1 = .int c.2.1 ∧ Hv h a 2 = .ref y ∧ OpAt P h x c.1 ∧ OpAt P h y c.2.2
def AsAt (P : Nat → Prop) (h : Hp) (a : Nat) (c : Asg) : Prop := ∃ x y : Nat, P a ∧ Hk h a = some (.inl 2) ∧ Hv h a 0 = .int c.1 ∧ Hv h a 1 = .ref x ∧ Hv h a 2 = .int c.2.2.1 ∧ Hv h a 3 = .ref y ∧ OpAt P h x c.2.1 ∧ OpAt P h y c.2.2.2
def LstAt {α : Type} (P : Nat → Prop) (G : GG) (h : Hp) (E : Nat → α → Prop) (a : Nat) (xs : List α) : Prop := P a ∧ ∃ es : List Nat, LsAt P G h a es ∧ es.length = xs.length ∧ ∀ (i : Nat) (x : α), xs[i]? = some x → E (es.getD i 0) x
def MtAt (P : Nat → Prop) (G : GG) (h : Hp) (a : Nat) (q : Mth) : Prop := ∃ x y z : Nat, P a ∧ Hk h a = some (.inl 8) ∧ Hv h a 0 = .ref x ∧ Hv h a 1 = .ref y ∧ Hv h a 2 = .ref z ∧ LstAt P G h (CnAt P h) x q.1 ∧ LstAt P G h (AsAt P h) y q.2.1 ∧ LstAt P G h (CnAt P h) z q.2.2
def CpAt (P : Nat → Prop) (G : GG) (h : Hp) (a : Nat) (c : Cmp) : Prop := ∃ x y z : Nat, P a ∧ P x ∧ Hk h a = some (.inl 3) ∧ Hv h a 0 = .ref x ∧ Hv h a 1 = .ref y ∧ Hv h a 2 = .ref z ∧ StAt h x c.1 ∧ LstAt P G h (CnAt P h) y c.2.1 ∧ LstAt P G h (MtAt P G h) z c.2.2
/-- what P tells of stands in the next heap as it stood, and P' tells of it there -/
def Tr (P P' : Nat → Prop) (h h' : Hp) : Prop := ∀ a t, P a → Hk h a = some t → P' a ∧ Hk h' a = some t ∧ ∀ k, Hv h' a k = Hv h a k
/-- the same for operands, conditions, assignments alone -/
def TrE (P P' : Nat → Prop) (h h' : Hp) : Prop := ∀ a t, (t = .inl 9 ∨ t = .inl 4 ∨ t = .inl 2) → P a → Hk h a = some t → P' a ∧ Hk h' a = some t ∧ ∀ k, Hv h' a k = Hv h a k
theorem Tr.e {P P' : Nat → Prop} {h h' : Hp} (u : Tr P P' h h') : TrE P P' h h' := fun a t _ => u a t
/-- nothing of P is written -/
def Un (P : Nat → Prop) (h h' : Hp) : Prop := ∀ a t, P a → Hk h a = some t → Hk h' a = some t ∧ ∀ k, Hv h' a k = Hv h a k
theorem Un.tr {P : Nat → Prop} {h h' : Hp} (u : Un P h h') : Tr P P h h' := fun a t hp hk => ⟨hp, u a t hp hk⟩
theorem Fr.un {S P : Nat → Prop} {h h1 : Hp} (f : Fr S h h1) (w : WF h) (d : ∀ q, P q → ¬ S q) : Un P h h1 := fun _ _ hp hk => ⟨f.k w hk, f.v w hk (d _ hp)⟩
theorem StAt.un {P : Nat → Prop} {h h1 : Hp} {a : Nat} {s : St} (q : StAt h a s) (u : Un P h h1) (hp : P a) : StAt h1 a s := by
  obtain ⟨k0, k1, k2, k3⟩ := q
  obtain ⟨g, v⟩ := u a _ hp k0
  exact ⟨g, by rw [v]; exact k1, by rw [v]; exact k2, by rw [v]; exact k3⟩
theorem OpAt.tr {P P' : Nat → Prop} {h h1 : Hp} {a : Nat} {s : Opd} (q : OpAt P h a s) (u : TrE P P' h h1) : OpAt P' h1 a s := by
  obtain ⟨hp, k0, k1, k2⟩ := q
  obtain ⟨hp', g, v⟩ := u a _ (Or.inl rfl) hp k0
  exact ⟨hp', g, by rw [v]; exact k1, by rw [v]; exact k2⟩
theorem CnAt.tr {P P' : Nat → Prop} {h h1 : Hp} {a : Nat} {s : Cnd} (q : CnAt P h a s) (u : TrE P P' h h1) : CnAt P' h1 a s := by
  obtain ⟨x, y, hp, k0, k1, k2, k3, k4, k5⟩ := q
  obtain ⟨hp', g, v⟩ := u a _ (Or.inr (Or.inl rfl)) hp k0
  exact ⟨x, y, hp', g, by rw [v]; exact k1, by rw [v]; exact k2, by rw [v]; exact k3, k4.tr u, k5.tr u⟩
theorem AsAt.tr {P P' : Nat → Prop} {h h1 : Hp} {a : Nat} {s : Asg} (q : AsAt P h a s) (u : TrE P P' h h1) : AsAt P' h1 a s := by
  obtain ⟨x, y, hp, k0, k1, k2, k3, k4, k5, k6⟩ := q
  obtain ⟨hp', g, v⟩ := u a _ (Or.inr (Or.inr rfl)) hp k0
  exact ⟨x, y, hp', g, by rw [v]; exact k1, by rw [v]; exact k2, by rw [v]; exact k3, by rw [v]; exact k4, k5.tr u, k6.tr u⟩
theorem LsAt.tr {P P' : Nat → Prop} {G : GG} {h h1 : Hp} {a : Nat} {es : List Nat} (q : LsAt P G h a es) (u : Tr P P' h h1) (hp : P a) : LsAt P' G h1 a es := by
  obtain ⟨k0, ⟨x, k1⟩, k2, k3⟩ := q
  obtain ⟨-, g, v⟩ := u a _ hp k0
  refine ⟨g, ⟨x, by rw [v]; exact k1⟩, by rw [v]; exact k2, ?_⟩
  rcases k3 with ⟨e, k3⟩ | ⟨d, pd, k3, k4, k5, k6⟩
  · exact Or.inl ⟨e, by rw [v]; exact k3⟩
  · obtain ⟨pd', g', v'⟩ := u d _ pd k4
    exact Or.inr ⟨d, pd', by rw [v]; exact k3, g', k5, fun i hi => by rw [v']; exact k6 i hi⟩
theorem LstAt.tr {α : Type} {P P' : Nat → Prop} {G : GG} {h h1 : Hp} {E E1 : Nat → α → Prop} {a : Nat} {xs : List α} (q : LstAt P G h E a xs) (u : Tr P P' h h1) (hE : ∀ b x, E b x → E1 b x) : LstAt P' G h1 E1 a xs := by
  obtain ⟨hp, es, q, hl, he⟩ := q
  exact ⟨(u a _ hp q.1).1, es, q.tr u hp, hl, fun i x hx => hE _ _ (he i x hx)⟩
theorem MtAt.tr {P P' : Nat → Prop} {G : GG} {h h1 : Hp} {a : Nat} {s : Mth} (q : MtAt P G h a s) (u : Tr P P' h h1) : MtAt P' G h1 a s := by
  obtain ⟨x, y, z, hp, k0, k1, k2, k3, k4, k5, k6⟩ := q
  obtain ⟨hp', g, v⟩ := u a _ hp k0
  exact ⟨x, y, z, hp', g, by rw [v]; exact k1, by rw [v]; exact k2, by rw [v]; exact k3, k4.tr u (fun _ _ q => q.tr u.e), k5.tr u (fun _ _ q => q.tr u.e), k6.tr u (fun _ _ q => q.tr u.e)⟩
theorem CpAt.tr {P P' : Nat → Prop} {G : GG} {h h1 : Hp} {a : Nat} {s : Cmp} (q : CpAt P G h a s) (u : Tr P P' h h1) : CpAt P' G h1 a s := by
  obtain ⟨x, y, z, hp, hx, k0, k1, k2, k3, k4, k5, k6⟩ := q
  obtain ⟨hp', g, v⟩ := u a _ hp k0
  obtain ⟨s0, s1, s2, s3⟩ := k4
  obtain ⟨hx', g', v'⟩ := u x _ hx s0
  exact ⟨x, y, z, hp', hx', g, by rw [v]; exact k1, by rw [v]; exact k2, by rw [v]; exact k3, ⟨g', by rw [v']; exact s1, by rw [v']; exact s2, by rw [v']; exact s3⟩, k5.tr u (fun _ _ q => q.tr u.e), k6.tr u (fun _ _ q => q.tr u)⟩
theorem CnAt.un {P : Nat → Prop} {h h1 : Hp} {a : Nat} {s : Cnd} (q : CnAt P h a s) (u : Un P h h1) : CnAt P h1 a s := q.tr u.tr.e
theorem AsAt.un {P : Nat → Prop} {h h1 : Hp} {a : Nat} {s : Asg} (q : AsAt P h a s) (u : Un P h h1) : AsAt P h1 a s := q.tr u.tr.e
theorem LstAt.un {α : Type} {P : Nat → Prop} {G : GG} {h h1 : Hp} {E E1 : Nat → α → Prop} {a : Nat} {xs : List α} (q : LstAt P G h E a xs) (u : Un P h h1) (hE : ∀ b x, E b x → E1 b x) : LstAt P G h1 E1 a xs := q.tr u.tr hE
theorem MtAt.un {P : Nat → Prop} {G : GG} {h h1 : Hp} {a : Nat} {s : Mth} (q : MtAt P G h a s) (u : Un P h h1) : MtAt P G h1 a s := q.tr u.tr
theorem CpAt.un {P : Nat → Prop} {G : GG} {h h1 : Hp} {a : Nat} {s : Cmp} (q : CpAt P G h a s) (u : Un P h h1) : CpAt P G h1 a s := q.tr u.tr
/-! SEQUENCES: the object at a, its row at a + 1 -/
def isIx (x : Int32) (n : Nat) : Bool := decide (0 ≤ x.toInt) && decide (x.toInt < n)
theorem isIx_nI {j n : Nat} (hj : j < 2 ^ 31) : isIx (nI j) n = decide (j < n) := by
  unfold isIx
  rw [nI_toInt hj]
  by_cases h : j < n <;> simp [h] <;> omega
theorem isIx_t {x : Int32} {n : Nat} (h1 : ¬ x < 0) (h2 : ¬ nI n ≤ x) (hn : n < 2 ^ 31) : ∃ j, j < n ∧ x = nI j := by
  obtain ⟨j, hj, rfl⟩ := nI_of h1
  refine ⟨j, ?_, rfl⟩
  rw [nI_leI hn hj] at h2
  omega
theorem isIx_neg {x : Int32} {n : Nat} (h : x < 0) : isIx x n = false := by
  unfold isIx
  have : x.toInt < 0 := Int32.lt_iff_toInt_lt.mp h
  simp
  omega
theorem isIx_big {x : Int32} {n : Nat} (hn : n < 2 ^ 31) (h : nI n ≤ x) : isIx x n = false := by
  unfold isIx
  have h1 := Int32.le_iff_toInt_le.mp h
  rw [nI_toInt hn] at h1
  simp
  omega
def SqAt (h : Hp) (a : Nat) (xs : List Nat) : Prop := Hk h a = some (.inl 11) ∧ Hv h a 0 = .ref (a + 1) ∧ Hv h a 1 = .int (nI xs.length) ∧ xs.length ≤ 8 ∧ Hk h (a + 1) = some (.inr (0, 8)) ∧ ∀ i, i < xs.length → Hv h (a + 1) i = .int (nI (xs.getD i 0))
theorem SqAt.kept {S : Nat → Prop} {h h1 : Hp} {a : Nat} {xs : List Nat} (q : SqAt h a xs) (w : WF h) (f : Fr S h h1) (ha : ¬ S a) (hb : ¬ S (a + 1)) : SqAt h1 a xs := by
  obtain ⟨k0, k1, k2, k3, k4, k5⟩ := q
  exact ⟨f.k w k0, by rw [f.v w k0 ha]; exact k1, by rw [f.v w k0 ha]; exact k2, k3, f.k w k4, fun i hi => by rw [f.v w k4 hb]; exact k5 i hi⟩
theorem StAt.kept {S : Nat → Prop} {h h1 : Hp} {a : Nat} {s : St} (q : StAt h a s) (w : WF h) (f : Fr S h h1) (ha : ¬ S a) : StAt h1 a s := by
  obtain ⟨k0, k1, k2, k3⟩ := q
  exact ⟨f.k w k0, by rw [f.v w k0 ha]; exact k1, by rw [f.v w k0 ha]; exact k2, by rw [f.v w k0 ha]; exact k3⟩
def sqV (xs : List Nat) (x : Int32) : Int32 := if isIx x xs.length = true then nI (xs.getD x.toNatClampNeg 0) else -1000
/-- a list without its element at k (-1000: none) -/
def wo : List Nat → Nat → Int32 → List Nat
  | [], _, _ => []
  | x :: r, j, k => if nI j = k then wo r (j + 1) k else x :: wo r (j + 1) k
theorem wo_nil (j : Nat) (k : Int32) : wo [] j k = [] := rfl
theorem wo_cons (x : Nat) (r : List Nat) (j : Nat) (k : Int32) : wo (x :: r) j k = if nI j = k then wo r (j + 1) k else x :: wo r (j + 1) k := rfl
theorem wo_len : ∀ (r : List Nat) (j : Nat) (k : Int32), (wo r j k).length ≤ r.length := by
  intro r
  induction r with
  | nil => intro j k; exact Nat.le_refl _
  | cons x r ih =>
    intro j k
    unfold wo
    have := ih (j + 1) k
    split <;> simp <;> omega
theorem wo_none : ∀ (r : List Nat) (j : Nat), j + r.length < 2 ^ 31 → wo r j (-1000) = r := by
  intro r
  induction r with
  | nil => intro j _; rfl
  | cons x r ih =>
    intro j hj
    unfold wo
    simp at hj
    have hne : ¬ nI j = -1000 := fun z => by
      have h1 := nI_toInt (n := j) (by omega)
      rw [z] at h1
      have h2 : (-1000 : Int32).toInt = -1000 := by decide
      omega
    rw [if_neg hne, ih (j + 1) (by omega)]
theorem wo_at : ∀ (r : List Nat) (j k : Nat), j + r.length + k < 2 ^ 31 → wo r j (nI (j + k)) = r.eraseIdx k := by
  intro r
  induction r with
  | nil => intro j k _; rfl
  | cons x r ih =>
    intro j k hj
    unfold wo
    simp at hj
    by_cases hk : k = 0
    · subst hk
      rw [if_pos (by rw [Nat.add_zero])]
      have h9 : ∀ (r : List Nat) (i : Nat), i + r.length < 2 ^ 31 → j < i → wo r i (nI (j + 0)) = r := by
        intro r
        induction r with
        | nil => intro i _ _; rfl
        | cons y r ih2 =>
          intro i hi hji
          unfold wo
          simp at hi
          rw [if_neg (fun z => absurd ((nI_eq (by omega) (by omega)).mp z) (by omega)), ih2 (i + 1) (by omega) (by omega)]
      rw [h9 r (j + 1) (by omega) (by omega)]
      rfl
    · obtain ⟨k', rfl⟩ : ∃ k', k = k' + 1 := ⟨k - 1, by omega⟩
      rw [if_neg (fun z => absurd ((nI_eq (by omega) (by omega)).mp z) (by omega)), show j + (k' + 1) = (j + 1) + k' by omega, ih (j + 1) k' (by omega)]
      rfl
theorem SqAt.clr {h : Hp} {a : Nat} {xs : List Nat} (q : SqAt h a xs) : SqAt (Hput h a 1 (.int (nI 0))) a [] := by
  obtain ⟨k0, k1, k2, k3, k4, k5⟩ := q
  exact ⟨k0, by rw [Hv_put_k _ _ _ _ (by decide)]; exact k1, by rw [Hv_put_at]; rfl, by simp, k4, fun i hi => by simp at hi⟩
theorem bI_ne {b : Bool} (h : ¬ bI b = 0) : b = true := by
  cases b with
  | true => rfl
  | false => exact absurd rfl h
theorem bI_eq {b : Bool} (h : bI b = 0) : b = false := by
  cases b with
  | true => exact absurd h (by decide)
  | false => rfl
theorem allC_drop {cs : List Cnd} {j : Nat} {q : Cnd} {s t : St} (h : cs[j]? = some q) : allC (cs.drop j) s t = (chk q s t && allC (cs.drop (j + 1)) s t) := by
  obtain ⟨hj, e⟩ := List.getElem?_eq_some_iff.mp h
  rw [List.drop_eq_getElem_cons hj, e]
  rfl
theorem runA_drop {cs : List Asg} {j : Nat} {q : Asg} {s : St} (h : cs[j]? = some q) : runA (cs.drop j) s = if badV (asgV q s) = true then none else runA (cs.drop (j + 1)) (setF s q.1 (asgV q s)) := by
  obtain ⟨hj, e⟩ := List.getElem?_eq_some_iff.mp h
  rw [List.drop_eq_getElem_cons hj, e]
  rfl
theorem get_some {α : Type} {xs : List α} {j : Nat} (h : j < xs.length) : ∃ q, xs[j]? = some q := ⟨xs[j], List.getElem?_eq_some_iff.mpr ⟨h, rfl⟩⟩
theorem verd_1 {c : Cmp} {m : Nat} {s : St} (h : ¬ m < c.2.2.length) : verd c m s = 1 := by
  unfold verd
  rw [List.getElem?_eq_none (by omega)]
theorem verd_q {c : Cmp} {m : Nat} {s : St} {q : Mth} (h : c.2.2[m]? = some q) : verd c m s = if allC q.1 s s = true then (match runA q.2.1 s with
    | none => 2
    | some a => if allC q.2.2 s a = true then (if allC c.2.1 s a = true then 0 else 4) else 3) else 1 := by
  unfold verd
  rw [h]
theorem nxt_q {c : Cmp} {m : Nat} {s : St} {q : Mth} (h : c.2.2[m]? = some q) : nxt c m s = (runA q.2.1 s).getD s := by
  unfold nxt
  rw [h]
theorem CnAt.k {P : Nat → Prop} {h : Hp} {a : Nat} {c : Cnd} (q : CnAt P h a c) : Hk h a = some (.inl 4) := by
  obtain ⟨x, y, -, k, -⟩ := q
  exact k
theorem AsAt.k {P : Nat → Prop} {h : Hp} {a : Nat} {c : Asg} (q : AsAt P h a c) : Hk h a = some (.inl 2) := by
  obtain ⟨x, y, -, k, -⟩ := q
  exact k
theorem MtAt.k {P : Nat → Prop} {G : GG} {h : Hp} {a : Nat} {c : Mth} (q : MtAt P G h a c) : Hk h a = some (.inl 8) := by
  obtain ⟨x, y, z, -, k, -⟩ := q
  exact k
theorem CpAt.k {P : Nat → Prop} {G : GG} {h : Hp} {a : Nat} {c : Cmp} (q : CpAt P G h a c) : Hk h a = some (.inl 3) := by
  obtain ⟨x, y, z, -, -, k, -⟩ := q
  exact k
theorem CpAt.len {P : Nat → Prop} {G : GG} {h : Hp} {a : Nat} {c : Cmp} (q : CpAt P G h a c) : c.2.2.length ≤ 10 := by
  obtain ⟨x, y, z, -, -, -, -, -, -, -, -, -, es, hl, e, -⟩ := q
  have := hl.len
  omega
theorem verd_pre {c : Cmp} {m : Nat} {s : St} {q : Mth} (h : c.2.2[m]? = some q) (h1 : allC q.1 s s = false) : verd c m s = 1 := by
  rw [verd_q h, h1]
  rfl
theorem verd_rng {c : Cmp} {m : Nat} {s : St} {q : Mth} (h : c.2.2[m]? = some q) (h1 : allC q.1 s s = true) (h2 : runA q.2.1 s = none) : verd c m s = 2 := by
  rw [verd_q h, h1, h2]
  rfl
theorem verd_ok {c : Cmp} {m : Nat} {s t : St} {q : Mth} (h : c.2.2[m]? = some q) (h1 : allC q.1 s s = true) (h2 : runA q.2.1 s = some t) : verd c m s = if allC q.2.2 s t = true then (if allC c.2.1 s t = true then 0 else 4) else 3 := by
  rw [verd_q h, h1, h2]
  rfl
