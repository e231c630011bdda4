/-! LEXEMES AS THE REFERENCE READS THEM, PURE -/
def wdP0 (t : List Nat) (s e : Nat) : Prop := e - s = 4 ∧ ch t (s + 0) = 105 ∧ ch t (s + 1) = 110 ∧ ch t (s + 2) = 105 ∧ ch t (s + 3) = 116
theorem wd_0 (t : List Nat) (s e : Nat) : wdA t s e 0 = true ↔ wdP0 t s e := by
  have q0 : chS 0 0 = 105 := by decide +kernel
  have q1 : chS 0 1 = 110 := by decide +kernel
  have q2 : chS 0 2 = 105 := by decide +kernel
  have q3 : chS 0 3 = 116 := by decide +kernel
  have e0 : wdL t s 0 4 = ((((true && (ch t (s + 0) == chS 0 0)) && (ch t (s + 1) == chS 0 1)) && (ch t (s + 2) == chS 0 2)) && (ch t (s + 3) == chS 0 3)) := rfl
  have e1 : wdA t s e 0 = ((e - s == 4) && wdL t s 0 4) := rfl
  rw [e1, e0, q0, q1, q2, q3]
  unfold wdP0
  simp only [Bool.and_eq_true, beq_iff_eq, true_and, and_assoc]
def wdP1 (t : List Nat) (s e : Nat) : Prop := e - s = 9 ∧ ch t (s + 0) = 105 ∧ ch t (s + 1) = 110 ∧ ch t (s + 2) = 118 ∧ ch t (s + 3) = 97 ∧ ch t (s + 4) = 114 ∧ ch t (s + 5) = 105 ∧ ch t (s + 6) = 97 ∧ ch t (s + 7) = 110 ∧ ch t (s + 8) = 116
theorem wd_1 (t : List Nat) (s e : Nat) : wdA t s e 1 = true ↔ wdP1 t s e := by
  have q0 : chS 1 0 = 105 := by decide +kernel
  have q1 : chS 1 1 = 110 := by decide +kernel
  have q2 : chS 1 2 = 118 := by decide +kernel
  have q3 : chS 1 3 = 97 := by decide +kernel
  have q4 : chS 1 4 = 114 := by decide +kernel
  have q5 : chS 1 5 = 105 := by decide +kernel
  have q6 : chS 1 6 = 97 := by decide +kernel
  have q7 : chS 1 7 = 110 := by decide +kernel
  have q8 : chS 1 8 = 116 := by decide +kernel
  have e0 : wdL t s 1 9 = (((((((((true && (ch t (s + 0) == chS 1 0)) && (ch t (s + 1) == chS 1 1)) && (ch t (s + 2) == chS 1 2)) && (ch t (s + 3) == chS 1 3)) && (ch t (s + 4) == chS 1 4)) && (ch t (s + 5) == chS 1 5)) && (ch t (s + 6) == chS 1 6)) && (ch t (s + 7) == chS 1 7)) && (ch t (s + 8) == chS 1 8)) := rfl
  have e1 : wdA t s e 1 = ((e - s == 9) && wdL t s 1 9) := rfl
  rw [e1, e0, q0, q1, q2, q3, q4, q5, q6, q7, q8]
  unfold wdP1
  simp only [Bool.and_eq_true, beq_iff_eq, true_and, and_assoc]
def wdP2 (t : List Nat) (s e : Nat) : Prop := e - s = 6 ∧ ch t (s + 0) = 109 ∧ ch t (s + 1) = 101 ∧ ch t (s + 2) = 116 ∧ ch t (s + 3) = 104 ∧ ch t (s + 4) = 111 ∧ ch t (s + 5) = 100
theorem wd_2 (t : List Nat) (s e : Nat) : wdA t s e 2 = true ↔ wdP2 t s e := by
  have q0 : chS 2 0 = 109 := by decide +kernel
  have q1 : chS 2 1 = 101 := by decide +kernel
  have q2 : chS 2 2 = 116 := by decide +kernel
  have q3 : chS 2 3 = 104 := by decide +kernel
  have q4 : chS 2 4 = 111 := by decide +kernel
  have q5 : chS 2 5 = 100 := by decide +kernel
  have e0 : wdL t s 2 6 = ((((((true && (ch t (s + 0) == chS 2 0)) && (ch t (s + 1) == chS 2 1)) && (ch t (s + 2) == chS 2 2)) && (ch t (s + 3) == chS 2 3)) && (ch t (s + 4) == chS 2 4)) && (ch t (s + 5) == chS 2 5)) := rfl
  have e1 : wdA t s e 2 = ((e - s == 6) && wdL t s 2 6) := rfl
  rw [e1, e0, q0, q1, q2, q3, q4, q5]
  unfold wdP2
  simp only [Bool.and_eq_true, beq_iff_eq, true_and, and_assoc]
def wdP3 (t : List Nat) (s e : Nat) : Prop := e - s = 7 ∧ ch t (s + 0) = 114 ∧ ch t (s + 1) = 101 ∧ ch t (s + 2) = 113 ∧ ch t (s + 3) = 117 ∧ ch t (s + 4) = 105 ∧ ch t (s + 5) = 114 ∧ ch t (s + 6) = 101
theorem wd_3 (t : List Nat) (s e : Nat) : wdA t s e 3 = true ↔ wdP3 t s e := by
  have q0 : chS 3 0 = 114 := by decide +kernel
  have q1 : chS 3 1 = 101 := by decide +kernel
  have q2 : chS 3 2 = 113 := by decide +kernel
  have q3 : chS 3 3 = 117 := by decide +kernel
  have q4 : chS 3 4 = 105 := by decide +kernel
  have q5 : chS 3 5 = 114 := by decide +kernel
  have q6 : chS 3 6 = 101 := by decide +kernel
  have e0 : wdL t s 3 7 = (((((((true && (ch t (s + 0) == chS 3 0)) && (ch t (s + 1) == chS 3 1)) && (ch t (s + 2) == chS 3 2)) && (ch t (s + 3) == chS 3 3)) && (ch t (s + 4) == chS 3 4)) && (ch t (s + 5) == chS 3 5)) && (ch t (s + 6) == chS 3 6)) := rfl
  have e1 : wdA t s e 3 = ((e - s == 7) && wdL t s 3 7) := rfl
  rw [e1, e0, q0, q1, q2, q3, q4, q5, q6]
  unfold wdP3
  simp only [Bool.and_eq_true, beq_iff_eq, true_and, and_assoc]
def wdP4 (t : List Nat) (s e : Nat) : Prop := e - s = 2 ∧ ch t (s + 0) = 100 ∧ ch t (s + 1) = 111
theorem wd_4 (t : List Nat) (s e : Nat) : wdA t s e 4 = true ↔ wdP4 t s e := by
  have q0 : chS 4 0 = 100 := by decide +kernel
  have q1 : chS 4 1 = 111 := by decide +kernel
  have e0 : wdL t s 4 2 = ((true && (ch t (s + 0) == chS 4 0)) && (ch t (s + 1) == chS 4 1)) := rfl
  have e1 : wdA t s e 4 = ((e - s == 2) && wdL t s 4 2) := rfl
  rw [e1, e0, q0, q1]
  unfold wdP4
  simp only [Bool.and_eq_true, beq_iff_eq, true_and, and_assoc]
def wdP5 (t : List Nat) (s e : Nat) : Prop := e - s = 6 ∧ ch t (s + 0) = 101 ∧ ch t (s + 1) = 110 ∧ ch t (s + 2) = 115 ∧ ch t (s + 3) = 117 ∧ ch t (s + 4) = 114 ∧ ch t (s + 5) = 101
theorem wd_5 (t : List Nat) (s e : Nat) : wdA t s e 5 = true ↔ wdP5 t s e := by
  have q0 : chS 5 0 = 101 := by decide +kernel
  have q1 : chS 5 1 = 110 := by decide +kernel
  have q2 : chS 5 2 = 115 := by decide +kernel
  have q3 : chS 5 3 = 117 := by decide +kernel
  have q4 : chS 5 4 = 114 := by decide +kernel
  have q5 : chS 5 5 = 101 := by decide +kernel
  have e0 : wdL t s 5 6 = ((((((true && (ch t (s + 0) == chS 5 0)) && (ch t (s + 1) == chS 5 1)) && (ch t (s + 2) == chS 5 2)) && (ch t (s + 3) == chS 5 3)) && (ch t (s + 4) == chS 5 4)) && (ch t (s + 5) == chS 5 5)) := rfl
  have e1 : wdA t s e 5 = ((e - s == 6) && wdL t s 5 6) := rfl
  rw [e1, e0, q0, q1, q2, q3, q4, q5]
  unfold wdP5
  simp only [Bool.and_eq_true, beq_iff_eq, true_and, and_assoc]
def wdP6 (t : List Nat) (s e : Nat) : Prop := e - s = 3 ∧ ch t (s + 0) = 111 ∧ ch t (s + 1) = 108 ∧ ch t (s + 2) = 100
theorem wd_6 (t : List Nat) (s e : Nat) : wdA t s e 6 = true ↔ wdP6 t s e := by
  have q0 : chS 6 0 = 111 := by decide +kernel
  have q1 : chS 6 1 = 108 := by decide +kernel
  have q2 : chS 6 2 = 100 := by decide +kernel
  have e0 : wdL t s 6 3 = (((true && (ch t (s + 0) == chS 6 0)) && (ch t (s + 1) == chS 6 1)) && (ch t (s + 2) == chS 6 2)) := rfl
  have e1 : wdA t s e 6 = ((e - s == 3) && wdL t s 6 3) := rfl
  rw [e1, e0, q0, q1, q2]
  unfold wdP6
  simp only [Bool.and_eq_true, beq_iff_eq, true_and, and_assoc]
theorem cdW_rng (t : List Nat) (s e : Nat) : 300 ≤ cdW t s e ∧ cdW t s e ≤ 308 := by
  unfold cdW
  repeat' split
  all_goals omega
theorem cdW_0 (t : List Nat) (s e : Nat) : cdW t s e = 300 ↔ wdA t s e 0 = true := by
  rw [wd_0]
  unfold cdW
  by_cases a0 : wdA t s e 0 = true
  · rw [if_pos a0]
    have p0 := (wd_0 t s e).mp a0
    exact ⟨fun _ => p0, fun _ => rfl⟩
  rw [if_neg a0]
  have n0 : ¬ wdP0 t s e := fun z => a0 ((wd_0 t s e).mpr z)
  by_cases a1 : wdA t s e 1 = true
  · rw [if_pos a1]
    have p1 := (wd_1 t s e).mp a1
    exact ⟨fun z => absurd z (by decide), fun z => by
      unfold wdP1 at p1
      unfold wdP0 at z
      omega⟩
  rw [if_neg a1]
  have n1 : ¬ wdP1 t s e := fun z => a1 ((wd_1 t s e).mpr z)
  by_cases a2 : wdA t s e 2 = true
  · rw [if_pos a2]
    have p2 := (wd_2 t s e).mp a2
    exact ⟨fun z => absurd z (by decide), fun z => by
      unfold wdP2 at p2
      unfold wdP0 at z
      omega⟩
  rw [if_neg a2]
  have n2 : ¬ wdP2 t s e := fun z => a2 ((wd_2 t s e).mpr z)
  by_cases a3 : wdA t s e 3 = true
  · rw [if_pos a3]
    have p3 := (wd_3 t s e).mp a3
    exact ⟨fun z => absurd z (by decide), fun z => by
      unfold wdP3 at p3
      unfold wdP0 at z
      omega⟩
  rw [if_neg a3]
  have n3 : ¬ wdP3 t s e := fun z => a3 ((wd_3 t s e).mpr z)
  by_cases a4 : wdA t s e 4 = true
  · rw [if_pos a4]
    have p4 := (wd_4 t s e).mp a4
    exact ⟨fun z => absurd z (by decide), fun z => by
      unfold wdP4 at p4
      unfold wdP0 at z
      omega⟩
  rw [if_neg a4]
  have n4 : ¬ wdP4 t s e := fun z => a4 ((wd_4 t s e).mpr z)
  by_cases a5 : wdA t s e 5 = true
  · rw [if_pos a5]
    have p5 := (wd_5 t s e).mp a5
    exact ⟨fun z => absurd z (by decide), fun z => by
      unfold wdP5 at p5
      unfold wdP0 at z
      omega⟩
  rw [if_neg a5]
  have n5 : ¬ wdP5 t s e := fun z => a5 ((wd_5 t s e).mpr z)
  by_cases a6 : wdA t s e 6 = true
  · rw [if_pos a6]
    have p6 := (wd_6 t s e).mp a6
    exact ⟨fun z => absurd z (by decide), fun z => by
      unfold wdP6 at p6
      unfold wdP0 at z
      omega⟩
  rw [if_neg a6]
  have n6 : ¬ wdP6 t s e := fun z => a6 ((wd_6 t s e).mpr z)
  exact ⟨fun z => absurd z (by decide), fun z => absurd z n0⟩
theorem cdW_1 (t : List Nat) (s e : Nat) : cdW t s e = 301 ↔ wdA t s e 1 = true := by
  rw [wd_1]
  unfold cdW
  by_cases a0 : wdA t s e 0 = true
  · rw [if_pos a0]
    have p0 := (wd_0 t s e).mp a0
    exact ⟨fun z => absurd z (by decide), fun z => by
      unfold wdP0 at p0
      unfold wdP1 at z
      omega⟩
  rw [if_neg a0]
  have n0 : ¬ wdP0 t s e := fun z => a0 ((wd_0 t s e).mpr z)
  by_cases a1 : wdA t s e 1 = true
  · rw [if_pos a1]
    have p1 := (wd_1 t s e).mp a1
    exact ⟨fun _ => p1, fun _ => rfl⟩
  rw [if_neg a1]
  have n1 : ¬ wdP1 t s e := fun z => a1 ((wd_1 t s e).mpr z)
  by_cases a2 : wdA t s e 2 = true
  · rw [if_pos a2]
    have p2 := (wd_2 t s e).mp a2
    exact ⟨fun z => absurd z (by decide), fun z => by
      unfold wdP2 at p2
      unfold wdP1 at z
      omega⟩
  rw [if_neg a2]
  have n2 : ¬ wdP2 t s e := fun z => a2 ((wd_2 t s e).mpr z)
  by_cases a3 : wdA t s e 3 = true
  · rw [if_pos a3]
    have p3 := (wd_3 t s e).mp a3
    exact ⟨fun z => absurd z (by decide), fun z => by
      unfold wdP3 at p3
      unfold wdP1 at z
      omega⟩
  rw [if_neg a3]
  have n3 : ¬ wdP3 t s e := fun z => a3 ((wd_3 t s e).mpr z)
  by_cases a4 : wdA t s e 4 = true
  · rw [if_pos a4]
    have p4 := (wd_4 t s e).mp a4
    exact ⟨fun z => absurd z (by decide), fun z => by
      unfold wdP4 at p4
      unfold wdP1 at z
      omega⟩
  rw [if_neg a4]
  have n4 : ¬ wdP4 t s e := fun z => a4 ((wd_4 t s e).mpr z)
  by_cases a5 : wdA t s e 5 = true
  · rw [if_pos a5]
    have p5 := (wd_5 t s e).mp a5
    exact ⟨fun z => absurd z (by decide), fun z => by
      unfold wdP5 at p5
      unfold wdP1 at z
      omega⟩
  rw [if_neg a5]
  have n5 : ¬ wdP5 t s e := fun z => a5 ((wd_5 t s e).mpr z)
  by_cases a6 : wdA t s e 6 = true
  · rw [if_pos a6]
    have p6 := (wd_6 t s e).mp a6
    exact ⟨fun z => absurd z (by decide), fun z => by
      unfold wdP6 at p6
      unfold wdP1 at z
      omega⟩
  rw [if_neg a6]
  have n6 : ¬ wdP6 t s e := fun z => a6 ((wd_6 t s e).mpr z)
  exact ⟨fun z => absurd z (by decide), fun z => absurd z n1⟩
theorem cdW_2 (t : List Nat) (s e : Nat) : cdW t s e = 302 ↔ wdA t s e 2 = true := by
  rw [wd_2]
  unfold cdW
  by_cases a0 : wdA t s e 0 = true
  · rw [if_pos a0]
    have p0 := (wd_0 t s e).mp a0
    exact ⟨fun z => absurd z (by decide), fun z => by
      unfold wdP0 at p0
      unfold wdP2 at z
      omega⟩
  rw [if_neg a0]
  have n0 : ¬ wdP0 t s e := fun z => a0 ((wd_0 t s e).mpr z)
  by_cases a1 : wdA t s e 1 = true
  · rw [if_pos a1]
    have p1 := (wd_1 t s e).mp a1
    exact ⟨fun z => absurd z (by decide), fun z => by
      unfold wdP1 at p1
      unfold wdP2 at z
      omega⟩
  rw [if_neg a1]
  have n1 : ¬ wdP1 t s e := fun z => a1 ((wd_1 t s e).mpr z)
  by_cases a2 : wdA t s e 2 = true
  · rw [if_pos a2]
    have p2 := (wd_2 t s e).mp a2
    exact ⟨fun _ => p2, fun _ => rfl⟩
  rw [if_neg a2]
  have n2 : ¬ wdP2 t s e := fun z => a2 ((wd_2 t s e).mpr z)
  by_cases a3 : wdA t s e 3 = true
  · rw [if_pos a3]
    have p3 := (wd_3 t s e).mp a3
    exact ⟨fun z => absurd z (by decide), fun z => by
      unfold wdP3 at p3
      unfold wdP2 at z
      omega⟩
  rw [if_neg a3]
  have n3 : ¬ wdP3 t s e := fun z => a3 ((wd_3 t s e).mpr z)
  by_cases a4 : wdA t s e 4 = true
  · rw [if_pos a4]
    have p4 := (wd_4 t s e).mp a4
    exact ⟨fun z => absurd z (by decide), fun z => by
      unfold wdP4 at p4
      unfold wdP2 at z
      omega⟩
  rw [if_neg a4]
  have n4 : ¬ wdP4 t s e := fun z => a4 ((wd_4 t s e).mpr z)
  by_cases a5 : wdA t s e 5 = true
  · rw [if_pos a5]
    have p5 := (wd_5 t s e).mp a5
    exact ⟨fun z => absurd z (by decide), fun z => by
      unfold wdP5 at p5
      unfold wdP2 at z
      omega⟩
  rw [if_neg a5]
  have n5 : ¬ wdP5 t s e := fun z => a5 ((wd_5 t s e).mpr z)
  by_cases a6 : wdA t s e 6 = true
  · rw [if_pos a6]
    have p6 := (wd_6 t s e).mp a6
    exact ⟨fun z => absurd z (by decide), fun z => by
      unfold wdP6 at p6
      unfold wdP2 at z
      omega⟩
  rw [if_neg a6]
  have n6 : ¬ wdP6 t s e := fun z => a6 ((wd_6 t s e).mpr z)
  exact ⟨fun z => absurd z (by decide), fun z => absurd z n2⟩
theorem cdW_3 (t : List Nat) (s e : Nat) : cdW t s e = 303 ↔ wdA t s e 3 = true := by
  rw [wd_3]
  unfold cdW
  by_cases a0 : wdA t s e 0 = true
  · rw [if_pos a0]
    have p0 := (wd_0 t s e).mp a0
    exact ⟨fun z => absurd z (by decide), fun z => by
      unfold wdP0 at p0
      unfold wdP3 at z
      omega⟩
  rw [if_neg a0]
  have n0 : ¬ wdP0 t s e := fun z => a0 ((wd_0 t s e).mpr z)
  by_cases a1 : wdA t s e 1 = true
  · rw [if_pos a1]
    have p1 := (wd_1 t s e).mp a1
    exact ⟨fun z => absurd z (by decide), fun z => by
      unfold wdP1 at p1
      unfold wdP3 at z
      omega⟩
  rw [if_neg a1]
  have n1 : ¬ wdP1 t s e := fun z => a1 ((wd_1 t s e).mpr z)
  by_cases a2 : wdA t s e 2 = true
  · rw [if_pos a2]
    have p2 := (wd_2 t s e).mp a2
    exact ⟨fun z => absurd z (by decide), fun z => by
      unfold wdP2 at p2
      unfold wdP3 at z
      omega⟩
  rw [if_neg a2]
  have n2 : ¬ wdP2 t s e := fun z => a2 ((wd_2 t s e).mpr z)
  by_cases a3 : wdA t s e 3 = true
  · rw [if_pos a3]
    have p3 := (wd_3 t s e).mp a3
    exact ⟨fun _ => p3, fun _ => rfl⟩
  rw [if_neg a3]
  have n3 : ¬ wdP3 t s e := fun z => a3 ((wd_3 t s e).mpr z)
  by_cases a4 : wdA t s e 4 = true
  · rw [if_pos a4]
    have p4 := (wd_4 t s e).mp a4
    exact ⟨fun z => absurd z (by decide), fun z => by
      unfold wdP4 at p4
      unfold wdP3 at z
      omega⟩
  rw [if_neg a4]
  have n4 : ¬ wdP4 t s e := fun z => a4 ((wd_4 t s e).mpr z)
  by_cases a5 : wdA t s e 5 = true
  · rw [if_pos a5]
    have p5 := (wd_5 t s e).mp a5
    exact ⟨fun z => absurd z (by decide), fun z => by
      unfold wdP5 at p5
      unfold wdP3 at z
      omega⟩
  rw [if_neg a5]
  have n5 : ¬ wdP5 t s e := fun z => a5 ((wd_5 t s e).mpr z)
  by_cases a6 : wdA t s e 6 = true
  · rw [if_pos a6]
    have p6 := (wd_6 t s e).mp a6
    exact ⟨fun z => absurd z (by decide), fun z => by
      unfold wdP6 at p6
      unfold wdP3 at z
      omega⟩
  rw [if_neg a6]
  have n6 : ¬ wdP6 t s e := fun z => a6 ((wd_6 t s e).mpr z)
  exact ⟨fun z => absurd z (by decide), fun z => absurd z n3⟩
theorem cdW_4 (t : List Nat) (s e : Nat) : cdW t s e = 304 ↔ wdA t s e 4 = true := by
  rw [wd_4]
  unfold cdW
  by_cases a0 : wdA t s e 0 = true
  · rw [if_pos a0]
    have p0 := (wd_0 t s e).mp a0
    exact ⟨fun z => absurd z (by decide), fun z => by
      unfold wdP0 at p0
      unfold wdP4 at z
      omega⟩
  rw [if_neg a0]
  have n0 : ¬ wdP0 t s e := fun z => a0 ((wd_0 t s e).mpr z)
  by_cases a1 : wdA t s e 1 = true
  · rw [if_pos a1]
    have p1 := (wd_1 t s e).mp a1
    exact ⟨fun z => absurd z (by decide), fun z => by
      unfold wdP1 at p1
      unfold wdP4 at z
      omega⟩
  rw [if_neg a1]
  have n1 : ¬ wdP1 t s e := fun z => a1 ((wd_1 t s e).mpr z)
  by_cases a2 : wdA t s e 2 = true
  · rw [if_pos a2]
    have p2 := (wd_2 t s e).mp a2
    exact ⟨fun z => absurd z (by decide), fun z => by
      unfold wdP2 at p2
      unfold wdP4 at z
      omega⟩
  rw [if_neg a2]
  have n2 : ¬ wdP2 t s e := fun z => a2 ((wd_2 t s e).mpr z)
  by_cases a3 : wdA t s e 3 = true
  · rw [if_pos a3]
    have p3 := (wd_3 t s e).mp a3
    exact ⟨fun z => absurd z (by decide), fun z => by
      unfold wdP3 at p3
      unfold wdP4 at z
      omega⟩
  rw [if_neg a3]
  have n3 : ¬ wdP3 t s e := fun z => a3 ((wd_3 t s e).mpr z)
  by_cases a4 : wdA t s e 4 = true
  · rw [if_pos a4]
    have p4 := (wd_4 t s e).mp a4
    exact ⟨fun _ => p4, fun _ => rfl⟩
  rw [if_neg a4]
  have n4 : ¬ wdP4 t s e := fun z => a4 ((wd_4 t s e).mpr z)
  by_cases a5 : wdA t s e 5 = true
  · rw [if_pos a5]
    have p5 := (wd_5 t s e).mp a5
    exact ⟨fun z => absurd z (by decide), fun z => by
      unfold wdP5 at p5
      unfold wdP4 at z
      omega⟩
  rw [if_neg a5]
  have n5 : ¬ wdP5 t s e := fun z => a5 ((wd_5 t s e).mpr z)
  by_cases a6 : wdA t s e 6 = true
  · rw [if_pos a6]
    have p6 := (wd_6 t s e).mp a6
    exact ⟨fun z => absurd z (by decide), fun z => by
      unfold wdP6 at p6
      unfold wdP4 at z
      omega⟩
  rw [if_neg a6]
  have n6 : ¬ wdP6 t s e := fun z => a6 ((wd_6 t s e).mpr z)
  exact ⟨fun z => absurd z (by decide), fun z => absurd z n4⟩
theorem cdW_5 (t : List Nat) (s e : Nat) : cdW t s e = 305 ↔ wdA t s e 5 = true := by
  rw [wd_5]
  unfold cdW
  by_cases a0 : wdA t s e 0 = true
  · rw [if_pos a0]
    have p0 := (wd_0 t s e).mp a0
    exact ⟨fun z => absurd z (by decide), fun z => by
      unfold wdP0 at p0
      unfold wdP5 at z
      omega⟩
  rw [if_neg a0]
  have n0 : ¬ wdP0 t s e := fun z => a0 ((wd_0 t s e).mpr z)
  by_cases a1 : wdA t s e 1 = true
  · rw [if_pos a1]
    have p1 := (wd_1 t s e).mp a1
    exact ⟨fun z => absurd z (by decide), fun z => by
      unfold wdP1 at p1
      unfold wdP5 at z
      omega⟩
  rw [if_neg a1]
  have n1 : ¬ wdP1 t s e := fun z => a1 ((wd_1 t s e).mpr z)
  by_cases a2 : wdA t s e 2 = true
  · rw [if_pos a2]
    have p2 := (wd_2 t s e).mp a2
    exact ⟨fun z => absurd z (by decide), fun z => by
      unfold wdP2 at p2
      unfold wdP5 at z
      omega⟩
  rw [if_neg a2]
  have n2 : ¬ wdP2 t s e := fun z => a2 ((wd_2 t s e).mpr z)
  by_cases a3 : wdA t s e 3 = true
  · rw [if_pos a3]
    have p3 := (wd_3 t s e).mp a3
    exact ⟨fun z => absurd z (by decide), fun z => by
      unfold wdP3 at p3
      unfold wdP5 at z
      omega⟩
  rw [if_neg a3]
  have n3 : ¬ wdP3 t s e := fun z => a3 ((wd_3 t s e).mpr z)
  by_cases a4 : wdA t s e 4 = true
  · rw [if_pos a4]
    have p4 := (wd_4 t s e).mp a4
    exact ⟨fun z => absurd z (by decide), fun z => by
      unfold wdP4 at p4
      unfold wdP5 at z
      omega⟩
  rw [if_neg a4]
  have n4 : ¬ wdP4 t s e := fun z => a4 ((wd_4 t s e).mpr z)
  by_cases a5 : wdA t s e 5 = true
  · rw [if_pos a5]
    have p5 := (wd_5 t s e).mp a5
    exact ⟨fun _ => p5, fun _ => rfl⟩
  rw [if_neg a5]
  have n5 : ¬ wdP5 t s e := fun z => a5 ((wd_5 t s e).mpr z)
  by_cases a6 : wdA t s e 6 = true
  · rw [if_pos a6]
    have p6 := (wd_6 t s e).mp a6
    exact ⟨fun z => absurd z (by decide), fun z => by
      unfold wdP6 at p6
      unfold wdP5 at z
      omega⟩
  rw [if_neg a6]
  have n6 : ¬ wdP6 t s e := fun z => a6 ((wd_6 t s e).mpr z)
  exact ⟨fun z => absurd z (by decide), fun z => absurd z n5⟩
theorem cdW_6 (t : List Nat) (s e : Nat) : cdW t s e = 306 ↔ wdA t s e 6 = true := by
  rw [wd_6]
  unfold cdW
  by_cases a0 : wdA t s e 0 = true
  · rw [if_pos a0]
    have p0 := (wd_0 t s e).mp a0
    exact ⟨fun z => absurd z (by decide), fun z => by
      unfold wdP0 at p0
      unfold wdP6 at z
      omega⟩
  rw [if_neg a0]
  have n0 : ¬ wdP0 t s e := fun z => a0 ((wd_0 t s e).mpr z)
  by_cases a1 : wdA t s e 1 = true
  · rw [if_pos a1]
    have p1 := (wd_1 t s e).mp a1
    exact ⟨fun z => absurd z (by decide), fun z => by
      unfold wdP1 at p1
      unfold wdP6 at z
      omega⟩
  rw [if_neg a1]
  have n1 : ¬ wdP1 t s e := fun z => a1 ((wd_1 t s e).mpr z)
  by_cases a2 : wdA t s e 2 = true
  · rw [if_pos a2]
    have p2 := (wd_2 t s e).mp a2
    exact ⟨fun z => absurd z (by decide), fun z => by
      unfold wdP2 at p2
      unfold wdP6 at z
      omega⟩
  rw [if_neg a2]
  have n2 : ¬ wdP2 t s e := fun z => a2 ((wd_2 t s e).mpr z)
  by_cases a3 : wdA t s e 3 = true
  · rw [if_pos a3]
    have p3 := (wd_3 t s e).mp a3
    exact ⟨fun z => absurd z (by decide), fun z => by
      unfold wdP3 at p3
      unfold wdP6 at z
      omega⟩
  rw [if_neg a3]
  have n3 : ¬ wdP3 t s e := fun z => a3 ((wd_3 t s e).mpr z)
  by_cases a4 : wdA t s e 4 = true
  · rw [if_pos a4]
    have p4 := (wd_4 t s e).mp a4
    exact ⟨fun z => absurd z (by decide), fun z => by
      unfold wdP4 at p4
      unfold wdP6 at z
      omega⟩
  rw [if_neg a4]
  have n4 : ¬ wdP4 t s e := fun z => a4 ((wd_4 t s e).mpr z)
  by_cases a5 : wdA t s e 5 = true
  · rw [if_pos a5]
    have p5 := (wd_5 t s e).mp a5
    exact ⟨fun z => absurd z (by decide), fun z => by
      unfold wdP5 at p5
      unfold wdP6 at z
      omega⟩
  rw [if_neg a5]
  have n5 : ¬ wdP5 t s e := fun z => a5 ((wd_5 t s e).mpr z)
  by_cases a6 : wdA t s e 6 = true
  · rw [if_pos a6]
    have p6 := (wd_6 t s e).mp a6
    exact ⟨fun _ => p6, fun _ => rfl⟩
  rw [if_neg a6]
  have n6 : ¬ wdP6 t s e := fun z => a6 ((wd_6 t s e).mpr z)
  exact ⟨fun z => absurd z (by decide), fun z => absurd z n6⟩
theorem cdW_i (t : List Nat) (s e : Nat) : ∀ i, i < 7 → (cdW t s e = 300 + i ↔ wdA t s e i = true) := by
  intro i hi
  rcases (show i = 0 ∨ i = 1 ∨ i = 2 ∨ i = 3 ∨ i = 4 ∨ i = 5 ∨ i = 6 by omega) with rfl | rfl | rfl | rfl | rfl | rfl | rfl
  · exact cdW_0 t s e
  · exact cdW_1 t s e
  · exact cdW_2 t s e
  · exact cdW_3 t s e
  · exact cdW_4 t s e
  · exact cdW_5 t s e
  · exact cdW_6 t s e
theorem cdW_307 (t : List Nat) (s e : Nat) : ¬ cdW t s e = 307 := by
  unfold cdW
  repeat' split
  all_goals omega
theorem wdA_two (t : List Nat) (s e : Nat) : ∀ i, i < 7 → wdA t s e i = true → 2 ≤ e - s := by
  intro i hi h
  unfold wdA at h
  rw [Bool.and_eq_true, beq_iff_eq] at h
  have k : ∀ i, i < 7 → 2 ≤ lenS.getD i 0 := by decide
  have := k i hi
  omega
theorem kd_1 {c : Nat} : kd c = 1 ↔ 97 ≤ c ∧ c ≤ 122 := by
  unfold kd
  repeat' split
  all_goals omega
theorem kd_2 {c : Nat} : kd c = 2 ↔ 48 ≤ c ∧ c ≤ 57 := by
  unfold kd
  repeat' split
  all_goals omega
theorem kd_0 {c : Nat} : kd c = 0 ↔ c = 32 := by
  unfold kd
  repeat' split
  all_goals omega
def hdC (r : List Tok) : Nat := match r with
  | [] => 0
  | k :: _ => k.2.1
theorem acc_h {c : Nat} {r : List Tok} (hc : 0 < c) : acc c r = if hdC r = c then some r.tail else none := by
  cases r with
  | nil =>
    show none = if 0 = c then some _ else none
    rw [if_neg (by omega)]
  | cons k r => rfl
theorem enL_3 (t : List Nat) : ∀ n e, enL t 3 n e = e := by
  intro n e
  cases n with
  | zero => rfl
  | succ n =>
    unfold enL
    rw [if_neg (fun z => z.2.1 rfl)]
theorem enL_max (t : List Nat) (k : Nat) (hk : ¬ k = 3) : ∀ n e, t.length ≤ e + n → enL t k n e < t.length → ¬ kd (ch t (enL t k n e)) = k := by
  intro n
  induction n with
  | zero => intro e h1 h2; unfold enL at h2; omega
  | succ n ih =>
    intro e h1 h2
    by_cases hc : e < t.length ∧ ¬ k = 3 ∧ kd (ch t e) = k
    · have e0 : enL t k (n + 1) e = enL t k n (e + 1) := if_pos hc
      rw [e0] at h2 ⊢
      exact ih (e + 1) (by omega) h2
    · have e0 : enL t k (n + 1) e = e := if_neg hc
      rw [e0] at h2 ⊢
      exact fun z => hc ⟨h2, hk, z⟩
theorem enO_3 {t : List Nat} {q : Nat} (h : kd (ch t q) = 3) : enO t q = q + 1 := by
  unfold enO
  rw [h]
  exact enL_3 t _ _
theorem enO_in {t : List Nat} {q j : Nat} (h1 : q ≤ j) (h2 : j < enO t q) : kd (ch t j) = kd (ch t q) := by
  rcases Nat.eq_or_lt_of_le h1 with z | z
  · rw [z]
  · exact enL_kd t _ _ _ j z h2
theorem enO_u {t : List Nat} {q e : Nat} (h1 : q < e) (h2 : e ≤ t.length) (h3 : ∀ j, q < j → j < e → kd (ch t j) = kd (ch t q)) (h4 : e = t.length ∨ ¬ kd (ch t e) = kd (ch t q)) (h5 : ¬ kd (ch t q) = 3) : enO t q = e := by
  have a := enO_gt t q
  have b := enO_le t q (by omega)
  rcases Nat.lt_trichotomy (enO t q) e with z | z | z
  · have c := enL_max t (kd (ch t q)) h5 t.length (q + 1) (by omega) (show enO t q < t.length by omega)
    exact absurd (h3 _ a z) c
  · exact z
  · have c := enO_in (t := t) (q := q) (j := e) (by omega) z
    rcases h4 with h4 | h4
    · omega
    · exact absurd c h4
/-- a place where a lexeme may begin -/
def Bd (t : List Nat) (p : Nat) : Prop := p ≤ t.length ∧ (p = t.length ∨ kd (ch t p) = 0 ∨ stx t p = true)
theorem stx_0 {t : List Nat} {p : Nat} (h : kd (ch t p) = 0) : stx t p = false := by
  unfold stx
  rw [h]
  rfl
theorem stx_1 {t : List Nat} {p : Nat} (h : ¬ kd (ch t p) = 0) (h2 : kd (ch t p) = 3 ∨ p = 0 ∨ ¬ kd (ch t p) = kd (ch t (p - 1))) : stx t p = true := by
  unfold stx
  rw [beq_false_of_ne h]
  rcases h2 with h2 | h2 | h2
  · rw [h2]; rfl
  · rw [h2]; simp
  · rw [beq_false_of_ne h2]; simp
theorem Bd_0 (t : List Nat) : Bd t 0 := by
  refine ⟨Nat.zero_le _, ?_⟩
  by_cases h : kd (ch t 0) = 0
  · exact Or.inr (Or.inl h)
  · exact Or.inr (Or.inr (stx_1 h (Or.inr (Or.inl rfl))))
theorem Bd_en {t : List Nat} {q : Nat} (hq : q < t.length) : Bd t (enO t q) := by
  have a := enO_gt t q
  have b := enO_le t q hq
  refine ⟨b, ?_⟩
  by_cases h : enO t q = t.length
  · exact Or.inl h
  by_cases h0 : kd (ch t (enO t q)) = 0
  · exact Or.inr (Or.inl h0)
  refine Or.inr (Or.inr (stx_1 h0 ?_))
  by_cases h1 : kd (ch t (enO t q)) = 3
  · exact Or.inl h1
  have c := enO_in (t := t) (q := q) (j := enO t q - 1) (by omega) (by omega)
  refine Or.inr (Or.inr ?_)
  rw [c]
  by_cases h3 : kd (ch t q) = 3
  · rw [h3]; exact h1
  · exact enL_max t (kd (ch t q)) h3 t.length (q + 1) (by omega) (show enO t q < t.length by omega)
theorem Bd_sp {t : List Nat} {p : Nat} (hp : p < t.length) (h : kd (ch t p) = 0) : Bd t (p + 1) := by
  refine ⟨hp, ?_⟩
  by_cases h0 : kd (ch t (p + 1)) = 0
  · exact Or.inr (Or.inl h0)
  · exact Or.inr (Or.inr (stx_1 h0 (Or.inr (Or.inr (by rw [Nat.add_sub_cancel, h]; exact h0)))))
theorem tkF_st {t : List Nat} {p : Nat} (hp : p < t.length) : tkF t (t.length - p) p = if stx t p = true then tkO t p :: tkF t (t.length - (p + 1)) (p + 1) else tkF t (t.length - (p + 1)) (p + 1) := by
  rw [show t.length - p = (t.length - (p + 1)) + 1 by omega]
  rfl
theorem tkF_sp {t : List Nat} {p : Nat} (hp : p < t.length) (h : kd (ch t p) = 0) : tkF t (t.length - p) p = tkF t (t.length - (p + 1)) (p + 1) := by
  rw [tkF_st hp, if_neg (by rw [stx_0 h]; decide)]
theorem stx_in {t : List Nat} {q j : Nat} (h1 : q < j) (h2 : j < enO t q) : stx t j = false := by
  have a := enO_in (t := t) (q := q) (j := j) (by omega) h2
  have b := enO_in (t := t) (q := q) (j := j - 1) (by omega) (by omega)
  have c : ¬ kd (ch t q) = 3 := fun z => by rw [enO_3 z] at h2; omega
  have d : ¬ j = 0 := by omega
  unfold stx
  rw [a, b, beq_false_of_ne c, beq_false_of_ne d]
  simp
theorem tkF_in {t : List Nat} {q : Nat} (hq : q < t.length) : ∀ n j, j + n = enO t q → q < j → tkF t (t.length - j) j = tkF t (t.length - enO t q) (enO t q) := by
  intro n
  induction n with
  | zero => intro j h1 _; rw [show j = enO t q by omega]
  | succ n ih =>
    intro j h1 h2
    have b := enO_le t q hq
    rw [tkF_st (by omega), if_neg (by rw [stx_in h2 (by omega)]; decide)]
    exact ih (j + 1) (by omega) (by omega)
theorem tkF_hd {t : List Nat} {q : Nat} (hq : q < t.length) (h : stx t q = true) : tkF t (t.length - q) q = tkO t q :: tkF t (t.length - enO t q) (enO t q) := by
  have a := enO_gt t q
  rw [tkF_st hq, if_pos h, tkF_in hq (enO t q - (q + 1)) (q + 1) (by omega) (by omega)]
/-- the reference stands before the lexemes r -/
def LxM (m : Md) (t : List Nat) (r : List Tok) : Prop := (r = [] ∧ m 0 6 = nI t.length ∧ m 0 7 = nI t.length ∧ m 0 8 = nI 0 ∧ m 0 9 = -1) ∨ ∃ q, q < t.length ∧ ¬ kd (ch t q) = 0 ∧ ch t q < 256 ∧ r = tkO t q :: tkF t (t.length - enO t q) (enO t q) ∧ m 0 6 = nI (enO t q) ∧ m 0 7 = nI q ∧ m 0 8 = nI (kd (ch t q)) ∧ (kd (ch t q) = 2 → enO t q - q ≤ 2 → m 0 9 = nI (nmO t q (enO t q - q))) ∧ (¬ kd (ch t q) = 2 → m 0 9 = nI (ch t q))
def LxV (m : Md) (t : List Nat) (r : List Tok) (q e so : Nat) : Prop := q ≤ e ∧ e ≤ t.length ∧ m 0 6 = nI e ∧ m 0 7 = nI q ∧ m 0 8 = nI so ∧ so < 4 ∧ offR t.length r = q ∧ (∀ i, i < 7 → (hdC r = 300 + i ↔ so = 1 ∧ wdA t q e i = true)) ∧ (∀ c, 97 ≤ c → c ≤ 122 → (hdC r = c ↔ so = 1 ∧ e - q = 1 ∧ ch t q = c)) ∧ (∀ c, 0 < c → c < 256 → kd c = 3 → (hdC r = c ↔ so = 3 ∧ m 0 9 = nI c)) ∧ (hdC r = 307 ↔ so = 2 ∧ e - q < 3) ∧ (hdC r = 307 → m 0 9 = nI (numR r)) ∧ (so = 0 ↔ r = [])
theorem LxM.v {m : Md} {t : List Nat} {r : List Tok} (h : LxM m t r) : ∃ q e so, LxV m t r q e so := by
  rcases h with ⟨rfl, a, b, c, d⟩ | ⟨q, hq, h0, hb, rfl, a, b, c, d, d2⟩
  · refine ⟨t.length, t.length, 0, Nat.le_refl _, Nat.le_refl _, a, b, c, by omega, rfl, fun i _ => ?_, fun c h1 h2 => ?_, fun c h1 h2 h3 => ?_, ?_, fun z => ?_, ?_⟩
    · show (0 = 300 + i ↔ _)
      omega
    · show (0 = c ↔ _)
      omega
    · show (0 = c ↔ _)
      omega
    · show (0 = 307 ↔ _)
      omega
    · exact absurd (show 0 = 307 from z) (by omega)
    · exact ⟨fun _ => rfl, fun _ => rfl⟩
  · have g := enO_gt t q
    have g2 := enO_le t q hq
    have k4 := kd_lt (ch t q)
    have w := cdW_rng t q (enO t q)
    have e3 : kd (ch t q) = 3 → enO t q = q + 1 := enO_3
    have hcd : hdC (tkO t q :: tkF t (t.length - enO t q) (enO t q)) = cdO t q (enO t q) := rfl
    have k1 := kd_1 (c := ch t q)
    refine ⟨q, enO t q, kd (ch t q), by omega, g2, a, b, c, k4, rfl, fun i hi => ?_, fun c h1 h2 => ?_, fun c h1 h2 h3 => ?_, ?_, fun z => ?_, ?_⟩
    · rw [hcd]
      have w2 := wdA_two t q (enO t q) i hi
      have w3 := cdW_i t q (enO t q) i hi
      unfold cdO
      split
      · split <;> omega
      · split
        · constructor
          · intro z; omega
          · intro z; have := w2 z.2; omega
        · rw [w3]
          constructor
          · intro z; exact ⟨by omega, z⟩
          · intro z; exact z.2
    · rw [hcd]
      have k9 := kd_1 (c := c)
      unfold cdO
      split
      · split <;> omega
      · split
        · constructor
          · intro z; have k1 := (kd_1 (c := ch t q)).mpr (by omega); exact ⟨k1, by omega, z⟩
          · intro z; exact z.2.2
        · omega
    · rw [hcd]
      have nb : m 0 9 = nI (ch t q) → (m 0 9 = nI c ↔ ch t q = c) := fun z => by rw [z, nI_eq (by omega) (by omega)]
      unfold cdO
      split
      · split <;> omega
      · next n2 =>
        have n9 := nb (d2 n2)
        split
        · constructor
          · intro z; exact ⟨by rw [z]; exact h3, n9.mpr z⟩
          · intro z; exact n9.mp z.2
        · constructor
          · intro z; omega
          · intro z; have := e3 z.1; omega
    · rw [hcd]
      have w3 := cdW_307 t q (enO t q)
      unfold cdO
      split
      · split <;> omega
      · split <;> omega
    · rw [hcd] at z
      obtain ⟨h2, h3⟩ := cdO_307 hb z
      show m 0 9 = nI (if cdO t q (enO t q) = 307 then nmO t q (enO t q - q) else 0)
      rw [if_pos z]
      exact d h2 h3
    · exact ⟨fun z => absurd z h0, fun z => by cases z⟩
/-- what is written lies in P -/
def MFr (P : Nat → Nat → Prop) (m m2 : Md) : Prop := ∀ a k, ¬ P a k → m2 a k = m a k
theorem MFr.rf {P : Nat → Nat → Prop} {m : Md} : MFr P m m := fun _ _ _ => rfl
theorem MFr.tr {P : Nat → Nat → Prop} {m m2 m3 : Md} (a : MFr P m m2) (b : MFr P m2 m3) : MFr P m m3 := fun x k h => (b x k h).trans (a x k h)
theorem MFr.mono {P P' : Nat → Nat → Prop} {m m2 : Md} (a : MFr P m m2) (h : ∀ x k, P x k → P' x k) : MFr P' m m2 := fun x k z => a x k (fun e => z (h x k e))
theorem MFr.put {P : Nat → Nat → Prop} {m m2 : Md} {a k : Nat} {x : Int32} (f : MFr P m m2) (h : P a k) : MFr P m (mput m2 a k x) := fun b j z => (if_neg (fun e => z (by rw [e.1, e.2]; exact h))).trans (f b j z)
def lxP : Nat → Nat → Prop := fun a k => a = 0 ∧ 6 ≤ k ∧ k ≤ 9
def psP : Nat → Nat → Prop := fun a k => a = 0 ∧ 6 ≤ k ∧ k ≤ 10
theorem TxM.fr {P : Nat → Nat → Prop} {m m2 : Md} {t : List Nat} (q : TxM m t) (f : MFr P m m2) (h0 : ¬ P 0 5) (h4 : ∀ k, ¬ P 4 k) : TxM m2 t := ⟨(f _ _ h0).trans q.1, q.2.1, fun i hi => ⟨(f _ _ (h4 i)).trans (q.2.2 i hi).1, (q.2.2 i hi).2⟩⟩
theorem LxM.fr {P : Nat → Nat → Prop} {m m2 : Md} {t : List Nat} {r : List Tok} (q : LxM m t r) (f : MFr P m m2) (h : ∀ k, 6 ≤ k → k ≤ 9 → ¬ P 0 k) : LxM m2 t r := by
  unfold LxM at q ⊢
  rw [f 0 6 (h 6 (by omega) (by omega)), f 0 7 (h 7 (by omega) (by omega)), f 0 8 (h 8 (by omega) (by omega)), f 0 9 (h 9 (by omega) (by omega))]
  exact q
