theorem XOk.st_A {c : Cmp} {r : Xr} {i : Nat} (q : XOk c r) (ho : 0 < opn c r i) : XOk c (stpA c r i) := by
  obtain ⟨a, b, d, e, g⟩ := q
  have hp := opn_pos ho
  refine ⟨a, b, d, e, fun j hj => ?_⟩
  show fup (xpr r) i (xpr r i + 1) j ≤ c.2.2.length
  by_cases hji : j = i
  · rw [hji, fup_at]
    omega
  · rw [fup_ne hji]
    exact g j hj
theorem XOk.ad_R {c : Cmp} {r : Xr} {xs : List Nat} {m : Nat} {t : St} (q : XOk c r) : XOk c (addR r xs m t) := by
  obtain ⟨a, b, d, e, g⟩ := q
  unfold addR
  split
  · exact ⟨a, b, d, e, g⟩
  · split
    · refine ⟨a, ⟨by show 1 ≤ xpc r + 1; omega, by show xpc r + 1 ≤ 40; omega⟩, d, ?_, fun j hj => ?_⟩
      · show fup (xsq r) (xpc r) (xs ++ [m]) 0 = []
        rw [fup_ne (by omega)]
        exact e
      · show fup (xpr r) (xpc r) 0 j ≤ c.2.2.length
        by_cases hji : j = xpc r
        · rw [hji, fup_at]
          omega
        · rw [fup_ne hji]
          refine g j ?_
          have hj2 : j < xpc r + 1 := hj
          omega
    · exact ⟨a, b, d, e, g⟩
theorem XOk.ad_F {c : Cmp} {r : Xr} {xs : List Nat} {m v : Nat} (q : XOk c r) : XOk c (addF r xs m v) := by
  obtain ⟨a, b, d, e, g⟩ := q
  unfold addF
  split
  · exact ⟨a, b, by show xfl r + 1 ≤ 20; omega, e, g⟩
  · exact ⟨a, b, d, e, g⟩
theorem XOk.st_p {c : Cmp} {r : Xr} {i : Nat} (q : XOk c r) (ho : 0 < opn c r i) : XOk c (stp c r i) := by
  have h := q.st_A ho
  unfold stp
  split
  · exact ⟨h.1, h.2.1, h.2.2.1, h.2.2.2.1, h.2.2.2.2⟩
  · split
    · exact h.ad_R
    · exact h.ad_F
