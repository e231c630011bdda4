/-! TWO EXPLORATIONS MIXED: the first of one, the rest of the other -/
def mix {α : Type} (f g : Nat → α) (j : Nat) : Nat → α := fun i => if i < j then f i else g i
theorem mix_ne {α : Type} {f g : Nat → α} {j k : Nat} (h : ¬ k = j) : mix f g (j + 1) k = mix f g j k := by
  unfold mix
  by_cases hk : k < j
  · rw [if_pos hk, if_pos (by omega)]
  · rw [if_neg hk, if_neg (by omega)]
theorem mix_at {α : Type} {f g : Nat → α} {j : Nat} : mix f g (j + 1) j = f j := if_pos (Nat.lt_succ_self j)
theorem mix_lt {α : Type} {f g : Nat → α} {i j : Nat} (h : i < j) : mix f g j i = f i := if_pos h
theorem mix_0 {α : Type} {f g : Nat → α} {i : Nat} : mix f g 0 i = g i := if_neg (Nat.not_lt_zero i)
theorem XlAt.ext {h : Hp} {E : Nat} {r r' : Xr} {rs : St} (q : XlAt h E r rs) (e1 : r'.1 = r.1) (e2 : ∀ i, i < 40 → xsq r' i = xsq r i ∧ xss r' i = xss r i ∧ xpr r' i = xpr r i) (e3 : ∀ j, j < 20 → xfs r' j = xfs r j ∧ xvd r' j = xvd r j) : XlAt h E r' rs := by
  obtain ⟨a, n, p, g, s⟩ := q
  exact ⟨a, by rw [e1]; exact n, fun i hi => by obtain ⟨z1, z2, z3⟩ := e2 i hi; rw [z1, z2, z3]; exact p i hi, fun j hj => by obtain ⟨z1, z2⟩ := e3 j hj; rw [z1, z2]; exact g j hj, s⟩
def mixQ (n : Nat × Nat × Nat × Nat × Nat × Nat) (r2 r : Xr) (j : Nat) : Xr := (n, mix (xsq r2) (xsq r) j, mix (xss r2) (xss r) j, mix (xpr r2) (xpr r) j, xfs r, xvd r)
def mixF (n : Nat × Nat × Nat × Nat × Nat × Nat) (r2 r : Xr) (j : Nat) : Xr := (n, mix (xsq r2) (xsq r) 40, mix (xss r2) (xss r) 40, mix (xpr r2) (xpr r) 40, mix (xfs r2) (xfs r) j, mix (xvd r2) (xvd r) j)
theorem fos_no {c : Cmp} {r : Xr} (hp : xpc r ≤ 40) (h : isIx (oI (fos c r 40 0)) (xpc r) = false) : fos c r 40 0 = none := by
  rcases hf : fos c r 40 0 with _ | i
  · rfl
  · have hl := fos_lt _ _ _ hf
    have ho := opn_pos hl.2
    rw [hf] at h
    rw [show oI (some i) = nI i from rfl, isIx_nI (by omega)] at h
    simp at h
    omega
theorem fos_yes {c : Cmp} {r : Xr} (h : isIx (oI (fos c r 40 0)) (xpc r) = true) : ∃ i, fos c r 40 0 = some i := by
  rcases hf : fos c r 40 0 with _ | i
  · rw [hf] at h
    rw [show oI none = -1000 from rfl, isIx_neg (by decide)] at h
    cases h
  · exact ⟨i, rfl⟩
