/-! the law's own table: the tables' words, and what follows of the three private methods of StringBuilder's parent -/
def yLat : MethodName := ⟨"java/lang/AbstractStringBuilder", "isLatin1", "()Z"⟩
def yEns : MethodName := ⟨"java/lang/AbstractStringBuilder", "ensureCapacityInternal", "(I)V"⟩
def yNcp : MethodName := ⟨"java/lang/AbstractStringBuilder", "newCapacity", "(I)I"⟩
def yInf : MethodName := ⟨"java/lang/AbstractStringBuilder", "inflate", "()V"⟩
theorem sb_word {y : MethodName} {s : State} {args : Array Value} (hcl : y.cls = "java/lang/AbstractStringBuilder") (h0 : (Cond.selects "java/lang/StringBuilder" yLat yLat).before args s = true) (hpriv : (Cond.privateMethod y).before args s = true) (hinst : (Cond.instanceMethod y).before args s = true) : (Cond.selects "java/lang/StringBuilder" y y).before args s = true := by
  have hy : y.cls ≠ "java/lang/invoke/MethodHandle" ∧ y.cls ≠ "java/lang/invoke/VarHandle" := by rw [hcl]; exact ⟨by decide +kernel, by decide +kernel⟩
  obtain ⟨mk, methM, hnamed, hmethM, -, -⟩ := Cond.instanceMethod_spec hinst
  have hfound : s.methodFound? y.cls y.name y.desc = some mk := State.methodFound?_of_named hnamed hy
  have hsel : ∀ c, selectMethod {} s.vm c mk = .method mk := fun c => selectMethod_private hmethM (Cond.privateMethod_at hpriv mk methM hnamed hmethM)
  have hmk := findClass_of_methodNamed hnamed
  rw [hcl] at hmk
  simp only [Cond.before, Cond.holds, Cond.value] at h0
  cases hc : s.vm.findClass "java/lang/StringBuilder" with
  | none => simp [hc] at h0
  | some c =>
    cases hr : s.methodFound? yLat.cls yLat.name yLat.desc with
    | none => simp [hc, hr] at h0
    | some r =>
      cases hm : s.methodNamed? yLat with
      | none => simp [hc, hr, hm] at h0
      | some m =>
        have hmc := findClass_of_methodNamed hm
        have e : mk.cls = m.cls := Option.some.inj (hmk.symm.trans hmc)
        have hi : (s.vm.classes[m.cls]?).any (fun k => !k.isInterface) = true := by
          simp only [hc, hr, hm] at h0
          cases hq : selectMethod {} s.vm c r with
          | method m' => simp only [hq] at h0; simpa using (by simpa using h0 : m' = m ∧ _).2
          | _ => simp [hq] at h0
        simp only [Cond.before, Cond.holds, Cond.value, hc, hfound, hnamed, hsel, e]
        simpa using hi
def T2 : List Cond := lw_tbl ++ [.selects "java/lang/StringBuilder" yEns yEns, .selects "java/lang/StringBuilder" yNcp yNcp, .selects "java/lang/StringBuilder" yInf yInf]
theorem hts2 {s : State} {args : Array Value} (hts : ∀ w ∈ lw_tbl, w.before args s = true) : ∀ w ∈ T2, w.before args s = true := by
  have h0 := hts (Cond.selects "java/lang/StringBuilder" yLat yLat) (by decide +kernel)
  intro w hw
  rcases List.mem_append.mp hw with hw | hw
  · exact hts w hw
  · simp only [List.mem_cons, List.not_mem_nil, or_false] at hw
    rcases hw with rfl | rfl | rfl
    · exact sb_word rfl h0 (hts (.privateMethod yEns) (by decide +kernel)) (hts (.instanceMethod yEns) (by decide +kernel))
    · exact sb_word rfl h0 (hts (.privateMethod yNcp) (by decide +kernel)) (hts (.instanceMethod yNcp) (by decide +kernel))
    · exact sb_word rfl h0 (hts (.privateMethod yInf) (by decide +kernel)) (hts (.instanceMethod yInf) (by decide +kernel))
theorem inlX0 : ∀ w ∈ wsX00, w ∈ wsL_law := fun _ h => List.mem_append_left _ (List.mem_append_right _ h)
theorem inlX1 : ∀ w ∈ wsX10, w ∈ wsL_law := fun _ h => List.mem_append_left _ (List.mem_append_left _ (List.mem_append_left _ (List.mem_append_left _ (List.mem_append_left _ (List.mem_append_left _ (List.mem_append_right _ h))))))
theorem inlX2 : ∀ w ∈ wsX20, w ∈ wsL_law := fun _ h => List.mem_append_left _ (List.mem_append_left _ (List.mem_append_left _ (List.mem_append_left _ (List.mem_append_right _ h))))
theorem inlX3 : ∀ w ∈ wsX30, w ∈ wsL_law := fun _ h => List.mem_append_left _ (List.mem_append_left _ (List.mem_append_left _ (List.mem_append_left _ (List.mem_append_left _ (List.mem_append_left _ (List.mem_append_left _ (List.mem_append_left _ (List.mem_append_left _ (List.mem_append_left _ (List.mem_append_left _ (List.mem_append_right _ h)))))))))))
theorem inlX4 : ∀ w ∈ wsX40, w ∈ wsL_law := fun _ h => List.mem_append_left _ (List.mem_append_left _ (List.mem_append_left _ (List.mem_append_left _ (List.mem_append_left _ (List.mem_append_left _ (List.mem_append_left _ (List.mem_append_left _ (List.mem_append_left _ (List.mem_append_left _ (List.mem_append_right _ h))))))))))
theorem inlX5 : ∀ w ∈ wsX50, w ∈ wsL_law := fun _ h => List.mem_append_left _ (List.mem_append_left _ (List.mem_append_left _ (List.mem_append_left _ (List.mem_append_left _ (List.mem_append_left _ (List.mem_append_left _ (List.mem_append_right _ h)))))))
theorem inlX6 : ∀ w ∈ wsX60, w ∈ wsL_law := fun _ h => List.mem_append_left _ (List.mem_append_left _ (List.mem_append_right _ h))
theorem inlX7 : ∀ w ∈ wsX70, w ∈ wsL_law := fun _ h => List.mem_append_left _ (List.mem_append_left _ (List.mem_append_left _ (List.mem_append_right _ h)))
theorem inlX8 : ∀ w ∈ wsX80, w ∈ wsL_law := fun _ h => List.mem_append_left _ (List.mem_append_left _ (List.mem_append_left _ (List.mem_append_left _ (List.mem_append_left _ (List.mem_append_left _ (List.mem_append_left _ (List.mem_append_left _ (List.mem_append_left _ (List.mem_append_left _ (List.mem_append_left _ (List.mem_append_left _ (List.mem_append_right _ h))))))))))))
theorem inlX9 : ∀ w ∈ wsX90, w ∈ wsL_law := fun _ h => List.mem_append_left _ (List.mem_append_left _ (List.mem_append_left _ (List.mem_append_left _ (List.mem_append_left _ (List.mem_append_left _ (List.mem_append_left _ (List.mem_append_left _ (List.mem_append_right _ h))))))))
theorem inlX10 : ∀ w ∈ wsX100, w ∈ wsL_law := fun _ h => List.mem_append_left _ (List.mem_append_left _ (List.mem_append_left _ (List.mem_append_left _ (List.mem_append_left _ (List.mem_append_left _ (List.mem_append_left _ (List.mem_append_left _ (List.mem_append_left _ (List.mem_append_right _ h)))))))))
theorem inlX11 : ∀ w ∈ wsX110, w ∈ wsL_law := fun _ h => List.mem_append_left _ (List.mem_append_left _ (List.mem_append_left _ (List.mem_append_left _ (List.mem_append_left _ (List.mem_append_left _ (List.mem_append_left _ (List.mem_append_left _ (List.mem_append_left _ (List.mem_append_left _ (List.mem_append_left _ (List.mem_append_left _ (List.mem_append_left _ (List.mem_append_left _ (List.mem_append_right _ h))))))))))))))
theorem inlJ4 : ∀ w ∈ wsJ40, w ∈ wsL_law := fun _ h => List.mem_append_left _ (List.mem_append_left _ (List.mem_append_left _ (List.mem_append_left _ (List.mem_append_left _ (List.mem_append_left _ (List.mem_append_left _ (List.mem_append_left _ (List.mem_append_left _ (List.mem_append_left _ (List.mem_append_left _ (List.mem_append_left _ (List.mem_append_left _ (List.mem_append_right _ h)))))))))))))
theorem inlJx4a65c : ∀ w ∈ wsJx4a65c0, w ∈ wsL_law := fun _ h => List.mem_append_left _ (List.mem_append_left _ (List.mem_append_left _ (List.mem_append_left _ (List.mem_append_left _ (List.mem_append_right _ h)))))
