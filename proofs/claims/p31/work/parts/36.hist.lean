/-! AN EXPLORATION WITH ITS COMPONENT; THE HISTORY: the head at H, its row at H + 1, what is saved at H + 2 + 171 * i -/
def XcAt (P : Nat → Prop) (G : GG) (h : Hp) (E : Nat) (c : Cmp) (r : Xr) : Prop := (∃ rs, XlAt h E r rs) ∧ ∃ o, Hv h E 0 = .ref o ∧ CpAt P G h o c
theorem XcAt.kept {P S : Nat → Prop} {G : GG} {h h1 : Hp} {E : Nat} {c : Cmp} {r : Xr} (q : XcAt P G h E c r) (w : WF h) (f : Fr S h h1) (hs : ∀ q, S q → ¬ XS E q) (hp : ∀ q, P q → ¬ S q) : XcAt P G h1 E c r := by
  obtain ⟨⟨rs, x⟩, o, v, p⟩ := q
  exact ⟨⟨rs, x.kept w f hs⟩, o, by rw [f.v w x.1.1.1 (fun e => hs _ e (Or.inl rfl))]; exact v, p.un (f.un w hp)⟩
theorem XcAt.mono {P P' : Nat → Prop} {G : GG} {h : Hp} {E : Nat} {c : Cmp} {r : Xr} (q : XcAt P G h E c r) (m : ∀ a t, P a → Hk h a = some t → P' a) : XcAt P' G h E c r := by
  obtain ⟨x, o, v, p⟩ := q
  exact ⟨x, o, v, p.tr (fun a t pa hk => ⟨m a t pa hk, hk, fun _ => rfl⟩)⟩
def HsS (H : Nat) : Nat → Prop := fun q => q = H ∨ ∃ i, i < 6 ∧ XS (H + 2 + 171 * i) q
def HsR (h : Hp) (H : Nat) : Prop := Hk h H = some (.inl 6) ∧ Hv h H 0 = .ref (H + 1) ∧ Hk h (H + 1) = some (.inr (5, 6)) ∧ ∀ i, i < 6 → Hv h (H + 1) i = .ref (H + 2 + 171 * i)
def HsAt (P : Nat → Prop) (G : GG) (h : Hp) (H l k : Nat) (sx : Nat → Cmp × Xr) : Prop := HsR h H ∧ (Hv h H 1 = .int (nI l) ∧ Hv h H 2 = .int (nI k)) ∧ (l < 6 ∧ k ≤ 6) ∧ ∀ i, i < 6 → XcAt P G h (H + 2 + 171 * i) (sx i).1 (sx i).2
theorem HsR.kept {S : Nat → Prop} {h h1 : Hp} {H : Nat} (q : HsR h H) (w : WF h) (f : Fr S h h1) (h0 : ¬ S H) (h1' : ¬ S (H + 1)) : HsR h1 H := by
  obtain ⟨a, b, c, d⟩ := q
  exact ⟨f.k w a, by rw [f.v w a h0]; exact b, f.k w c, fun i hi => by rw [f.v w c h1']; exact d i hi⟩
theorem HsR.put {h : Hp} {H k : Nat} {x : Value} (q : HsR h H) (hk : ¬ k = 0) : HsR (Hput h H k x) H := by
  obtain ⟨a, b, c, d⟩ := q
  exact ⟨a, by rw [Hv_put_k _ _ _ _ (fun e => hk e.symm)]; exact b, c, fun i hi => by rw [Hv_put_a _ _ _ _ (by omega)]; exact d i hi⟩
theorem HsAt.kept {P S : Nat → Prop} {G : GG} {h h1 : Hp} {H l k : Nat} {sx : Nat → Cmp × Xr} (q : HsAt P G h H l k sx) (w : WF h) (f : Fr S h h1) (hs : ∀ q, S q → q < H ∨ H + 1028 ≤ q) (hp : ∀ q, P q → ¬ S q) : HsAt P G h1 H l k sx := by
  obtain ⟨a, b, c, d⟩ := q
  have ns : ∀ q, H ≤ q → q < H + 1028 → ¬ S q := fun q h1 h2 e => by have := hs q e; omega
  refine ⟨a.kept w f (ns _ (by omega) (by omega)) (ns _ (by omega) (by omega)), ?_, c, fun i hi => (d i hi).kept w f (fun q e z => by have := hs q e; unfold XS at z; omega) hp⟩
  rw [f.v w a.1 (ns _ (by omega) (by omega)), f.v w a.1 (ns _ (by omega) (by omega))]
  exact b
theorem HsAt.mono {P P' : Nat → Prop} {G : GG} {h : Hp} {H l k : Nat} {sx : Nat → Cmp × Xr} (q : HsAt P G h H l k sx) (m : ∀ a t, P a → Hk h a = some t → P' a) : HsAt P' G h H l k sx :=
  ⟨q.1, q.2.1, q.2.2.1, fun i hi => (q.2.2.2 i hi).mono m⟩
def nxL (l : Nat) : Nat := if l < 5 then l + 1 else 0
def pvL (l : Nat) : Nat := if 0 < l then l - 1 else 5
def nxK (k : Nat) : Nat := if k < 6 then k + 1 else k
theorem nxL_lt (l : Nat) : nxL l < 6 := by
  unfold nxL
  split <;> omega
theorem pvL_lt {l : Nat} (h : l < 6) : pvL l < 6 := by
  unfold pvL
  split <;> omega
theorem nxK_le {k : Nat} (h : k ≤ 6) : nxK k ≤ 6 := by
  unfold nxK
  split <;> omega
