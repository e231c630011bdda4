def bN (b : Bool) : Nat := if b = true then 1 else 0
theorem LxR.keptK {S : Nat → Prop} {h h1 : Hp} {a n : Nat} {ts r : List Tok} (q : LxR h a n ts r) (w : WF h) (f : Fr S h h1) (hs : ∀ q, S q → Hk h q = some (.inl 7) → False) (hs2 : ∀ q, S q → Hk h q = some (.inr (0, 200)) → False) : LxR h1 a n ts r := by
  obtain ⟨p, g1, g2, g3⟩ := q
  refine ⟨p, g1, g2, ?_⟩
  refine g3.kept w f (fun q hq hl => ?_)
  obtain ⟨k0, k1, k2, k3, k4, k5, k6, k7, k8, k9, k10⟩ := g3
  rcases hl with rfl | rfl | rfl | rfl
  · exact hs _ hq k0
  · exact hs2 _ hq k7
  · exact hs2 _ hq k8
  · exact hs2 _ hq k9
theorem pRel_ne {r r' : List Tok} {k : Int32} (h : pRel r = some (k, r')) : ¬ k = -1000 := by
  unfold pRel at h
  split at h
  · cases h; decide
  · split at h
    · cases h; decide
    · split at h
      · cases h; decide
      · cases h
theorem pRel_1 {r r' : List Tok} (e : acc 60 r = some r') : pRel r = some (nI 60, r') := by
  unfold pRel
  rw [e]
theorem pRel_2 {r r' : List Tok} (e0 : acc 60 r = none) (e : acc 61 r = some r') : pRel r = some (nI 61, r') := by
  unfold pRel
  rw [e0, e]
theorem pRel_3 {r r' : List Tok} (e0 : acc 60 r = none) (e1 : acc 61 r = none) (e : acc 62 r = some r') : pRel r = some (nI 62, r') := by
  unfold pRel
  rw [e0, e1, e]
theorem pRel_x {r : List Tok} (e0 : acc 60 r = none) (e1 : acc 61 r = none) (e : acc 62 r = none) : pRel r = none := by
  unfold pRel
  rw [e0, e1, e]
theorem pSgn_1 {r r' : List Tok} (e : acc 43 r = some r') : pSgn r = (nI 1, r') := by
  unfold pSgn
  rw [e]
theorem pSgn_2 {r r' : List Tok} (e0 : acc 43 r = none) (e : acc 45 r = some r') : pSgn r = (-1, r') := by
  unfold pSgn
  rw [e0, e]
theorem pSgn_x {r : List Tok} (e0 : acc 43 r = none) (e : acc 45 r = none) : pSgn r = (nI 0, r) := by
  unfold pSgn
  rw [e0, e]
theorem pCnd_x1 {b : Bool} {r r1 : List Tok} (e : pOpd b r = (none, r1)) : pCnd b r = (none, r1) := by
  unfold pCnd
  rw [e]
theorem pCnd_x2 {b : Bool} {r r1 : List Tok} {o : Opd} (e : pOpd b r = (some o, r1)) (e2 : pRel r1 = none) : pCnd b r = (none, r1) := by
  simp [pCnd, e, e2]
theorem pCnd_x3 {b : Bool} {r r1 r2 r3 : List Tok} {o : Opd} {k : Int32} (e : pOpd b r = (some o, r1)) (e2 : pRel r1 = some (k, r2)) (e3 : pOpd b r2 = (none, r3)) : pCnd b r = (none, r3) := by
  simp [pCnd, e, e2, e3]
theorem pCnd_ok {b : Bool} {r r1 r2 r3 : List Tok} {o o2 : Opd} {k : Int32} (e : pOpd b r = (some o, r1)) (e2 : pRel r1 = some (k, r2)) (e3 : pOpd b r2 = (some o2, r3)) : pCnd b r = (some (o, k, o2), r3) := by
  simp [pCnd, e, e2, e3]
theorem pAsg_x1 {r : List Tok} (e : pFld r = none) : pAsg r = (none, r) := by
  simp [pAsg, e]
theorem pAsg_x2 {r r1 : List Tok} {f : Nat} (e : pFld r = some (f, r1)) (e2 : acc 61 r1 = none) : pAsg r = (none, r1) := by
  simp [pAsg, e, e2]
theorem pAsg_x3 {r r1 r2 r3 : List Tok} {f : Nat} (e : pFld r = some (f, r1)) (e2 : acc 61 r1 = some r2) (e3 : pOpd false r2 = (none, r3)) : pAsg r = (none, r3) := by
  simp [pAsg, e, e2, e3]
theorem pAsg_ok1 {r r1 r2 r3 : List Tok} {f : Nat} {a : Opd} (e : pFld r = some (f, r1)) (e2 : acc 61 r1 = some r2) (e3 : pOpd false r2 = (some a, r3)) (e4 : (pSgn r3).1 = 0) : pAsg r = (some (nI f, a, (pSgn r3).1, a), (pSgn r3).2) := by
  simp [pAsg, e, e2, e3, e4]
theorem pAsg_x4 {r r1 r2 r3 r5 : List Tok} {f : Nat} {a : Opd} (e : pFld r = some (f, r1)) (e2 : acc 61 r1 = some r2) (e3 : pOpd false r2 = (some a, r3)) (e4 : ¬ (pSgn r3).1 = 0) (e5 : pOpd false (pSgn r3).2 = (none, r5)) : pAsg r = (none, r5) := by
  simp [pAsg, e, e2, e3, e4, e5]
theorem pAsg_ok2 {r r1 r2 r3 r5 : List Tok} {f : Nat} {a b : Opd} (e : pFld r = some (f, r1)) (e2 : acc 61 r1 = some r2) (e3 : pOpd false r2 = (some a, r3)) (e4 : ¬ (pSgn r3).1 = 0) (e5 : pOpd false (pSgn r3).2 = (some b, r5)) : pAsg r = (some (nI f, a, (pSgn r3).1, b), r5) := by
  simp [pAsg, e, e2, e3, e4, e5]
theorem new4 {hc h2 : Hp} {t : Nat ⊕ (Nat × Nat)} {d : Nat → Value} {x y z u : Value} (e : h2 = Hput (Hput (Hput (Hput (Hnew hc t d) (Hz hc) 0 x) (Hz hc) 1 y) (Hz hc) 2 z) (Hz hc) 3 u) : Fr (fun _ => False) hc h2 ∧ Hk h2 (Hz hc) = some t ∧ Hv h2 (Hz hc) 0 = x ∧ Hv h2 (Hz hc) 1 = y ∧ Hv h2 (Hz hc) 2 = z ∧ Hv h2 (Hz hc) 3 = u := by
  subst e
  refine ⟨((((Fr.rf.thenNew).thenPut (Or.inr (Nat.le_refl _))).thenPut (Or.inr (Nat.le_refl _))).thenPut (Or.inr (Nat.le_refl _))).thenPut (Or.inr (Nat.le_refl _)), ?_, ?_, ?_, ?_, ?_⟩
  · rw [Hk_put, Hk_put, Hk_put, Hk_put, Hk_new, if_pos rfl]
  · simp [Hv_put]
  · simp [Hv_put]
  · simp [Hv_put]
  · simp [Hv_put]
theorem pAsgs_end {n : Nat} {cs : List Asg} {r : List Tok} (h : acc 304 r = none) : pAsgs (n + 1) cs r = (some cs, r) := by
  unfold pAsgs
  rw [h]
