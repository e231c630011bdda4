/-! FROM THE ENTRY -/
theorem dflt12 : ∀ k, mfi k = true → defaultValue (tyX12 k) = .int 0 := by
  intro k hk
  unfold mfi at hk
  simp only [Bool.or_eq_true, beq_iff_eq] at hk
  rcases hk with ((((((h | h) | h) | h) | h) | h) | h) | h <;> subst h <;> rfl
theorem law_all {Γ : Cx} (X : Bx Γ cL_law 4 RL wsL_law 14 542 702150 6995798) {b N : Nat} {xs : Nat → Int32} (Y : LX Γ b N xs) (hN : N ≤ 2048) {h : Hp}
    (hend : ∀ (T M kc ks j : Nat) (h : Hp), kc ≤ 702150 → ks ≤ 6995798 → V Γ kc ks 760 [(0, .ref b), (1, .ref T), (2, .ref M), (3, .int (nI j))] [] h) : V Γ 0 0 0 [(0, .ref b)] [] h := by
  refine V.new (ci := 13) X dL_law_0 rfl (by decide +kernel) (by decide +kernel) (by decide +kernel) inlX11 tyX11 tyX11_ok rfl rfl ?_
  refine V.dup X dL_law_3 rfl ?_
  refine V.callIv (n := 0) X dL_law_4 gL_law_X11_init (c_X11_init _ _ (T := Hz h) (by rw [Hk_new, if_pos rfl]) rfl) rfl (by decide +kernel) (by decide +kernel) (by decide +kernel) rfl (by decide +kernel) rfl rfl rfl ⟨Nat.le_of_ble_eq_true rfl, Nat.le_of_ble_eq_true rfl⟩ (fun h4 hp4 => ?_)
  obtain ⟨C4, -, z4⟩ := hp4
  refine V.wf (fun w4 => ?_)
  refine V.astore_n X dL_law_7 [(0, _), (1, _)] rfl rfl rfl ?_
  refine V.new (ci := 14) X dL_law_8 rfl (by decide +kernel) (by decide +kernel) (by decide +kernel) inlX12 tyX12 tyX12_ok rfl rfl ?_
  refine V.dup X dL_law_11 rfl ?_
  refine V.callIv (n := 0) X dL_law_12 gL_law_X12_init (c_X12_init _ _ (M := Hz h4) (fun _ => (cmp0, x0)) (by rw [Hk_new, if_pos rfl]) (fun k hk => by rw [Hv_new, if_pos rfl]; exact dflt12 k hk) rfl) rfl (by decide +kernel) (by decide +kernel) (by decide +kernel) rfl (by decide +kernel) rfl rfl rfl ⟨Nat.le_of_ble_eq_true rfl, Nat.le_of_ble_eq_true rfl⟩ (fun h12 hp12 => ?_)
  obtain ⟨m, D, S, f, -⟩ := hp12
  refine V.astore_n X dL_law_15 [(0, _), (1, _), (2, _)] rfl rfl rfl ?_
  refine V.iconst (v := nI 0) X dL_law_16 rfl ?_
  refine V.istore_n X dL_law_17 [(0, _), (1, _), (2, _), (3, _)] rfl rfl rfl ?_
  have C12 := C4.grow w4 ((Fr.rf.thenNew (S := fun _ => False)).then f (fun q hq e => by omega))
  refine V.widen 1222 16079 (Nat.le_of_ble_eq_true rfl) (Nat.le_of_ble_eq_true rfl) ?_
  exact lw_loop X Y hN (hend (Hz h) (Hz h4)) 512 0 _ _ h12 ⟨_, m, [], cmp0, x0, 0, 0, _, _, C12, D, S, fun j hj => absurd hj (Nat.not_lt_zero _), z4⟩ (Nat.zero_le _) (by omega) (by omega) (by omega)
