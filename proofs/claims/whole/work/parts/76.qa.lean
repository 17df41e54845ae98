/-! The beginning: both objects as they are made. -/
theorem pu_fill : ∀ (d n i : Nat) (V : Nat → Int32), 558 - i = d → d < n → i ≤ 558 → (∀ j, j < i → V j = -1) → ∃ V', fn_X4_fill n V (nI i) = some V' ∧ ∀ j, j < 558 → V' j = -1 := by
  intro d
  induction d with
  | zero =>
    intro n i V hd hn hi h
    obtain ⟨n, rfl⟩ : ∃ q, n = q + 1 := ⟨n - 1, by omega⟩
    have hi2 : i = 558 := by omega
    subst hi2
    exact ⟨V, by rw [fn_X4_fill, if_pos (show (558 : Int32) ≤ nI 558 by decide)], h⟩
  | succ d ih =>
    intro n i V hd hn hi h
    obtain ⟨n, rfl⟩ : ∃ q, n = q + 1 := ⟨n - 1, by omega⟩
    rw [fn_X4_fill, if_neg (by rw [pn_Lle (by omega) (by decide)]; omega), if_pos ((pn_in (by omega)).mpr (by omega)), pn_cl (by omega), pn_addL]
    refine ih n (i + 1) _ (by omega) (by omega) (by omega) (fun j hj => ?_)
    by_cases hji : j = i
    · subst hji; exact pn_us
    · rw [pn_un hji]; exact h j (by omega)
theorem pu_T0 : ∃ T0, fn_X4_fill gx_fuel (fun _ => 0) 0 = some T0 ∧ ∀ j, j < 558 → T0 j = -1 := pu_fill 558 gx_fuel 0 _ (by omega) (by show _ < 5000; omega) (by omega) (fun j hj => by omega)
theorem pu_T0_all : ∃ T0, fn_X4_fill gx_fuel (fun _ => 0) 0 = some T0 := by
  obtain ⟨T0, h, -⟩ := pu_T0
  exact ⟨T0, h⟩
theorem pu_R0_all : ∃ R0, fn_X3_become (fun _ => 0) 0 8 12 1 = some R0 := by
  obtain ⟨R0, h, -⟩ := pu_R0
  exact ⟨R0, h⟩
theorem pu_S0 : pS 0 8 12 1 := ⟨by decide, by decide, by decide, by decide, by decide, by decide, by decide⟩
theorem pu_law_all {R0 T0 : Nat → Int32} (hR : fn_X3_become (fun _ => 0) 0 8 12 1 = some R0) (hT : fn_X4_fill gx_fuel (fun _ => 0) 0 = some T0) (xs : Nat → Int32) (L : Nat) (hL : L ≤ 2560) : fn_L_law_l18 xs L gx_fuel (upd (upd (fun _ => 0) 5 0) 6 (-1)) R0 (upd (fun _ => 0) 1 0) (fun _ => 0) (upd (fun _ => 0) 1 0) (fun _ => 0) (fun _ => 0) (fun _ => 0) (upd (fun _ => 0) 6 0) (fun _ => 0) (fun _ => 0) (fun _ => 0) (fun _ => 0) T0 (upd (fun _ => 0) 1 0) (fun _ => 0) (upd (fun _ => 0) 1 0) (fun _ => 0) (upd (fun _ => 0) 1 0) (fun _ => 0) (fun _ => 0) (fun _ => 0) (upd (fun _ => 0) 1 0) (fun _ => 0) (fun _ => 0) (fun _ => 0) (upd (upd (upd (upd (upd (fun _ => 0) 1 8) 2 12) 3 1) 8 (-1)) 21 0) (fun _ => 0) (fun _ => 0) (fun _ => 0) (fun _ => 0) (fun _ => 0) (fun _ => 0) (fun _ => 0) (fun _ => 0) (fun _ => 0) 0 = some () := by
  obtain ⟨R1, e1, hR1⟩ := pu_R0
  obtain ⟨T1, e2, hT1⟩ := pu_T0
  rw [hR] at e1
  rw [hT] at e2
  obtain rfl : R0 = R1 := Option.some.inj e1
  obtain rfl : T0 = T1 := Option.some.inj e2
  by_cases h5 : 5 ≤ L
  · have h : pRel (upd (upd (fun _ => 0) 5 0) 6 (-1)) R0 (upd (fun _ => 0) 1 0) (fun _ => 0) (upd (fun _ => 0) 1 0) (fun _ => 0) (fun _ => 0) (fun _ => 0) (upd (fun _ => 0) 6 0) (fun _ => 0) (fun _ => 0) (fun _ => 0) (fun _ => 0) T0 (upd (fun _ => 0) 1 0) (fun _ => 0) (upd (fun _ => 0) 1 0) (fun _ => 0) (upd (fun _ => 0) 1 0) (fun _ => 0) (upd (fun _ => 0) 1 0) (upd (upd (upd (upd (upd (fun _ => 0) 1 8) 2 12) 3 1) 8 (-1)) 21 0) (fun _ => 0) (fun _ => 0) (fun _ => 0) (fun _ => 0) (fun _ => 0) (fun _ => 0) (fun _ => 0) (fun _ => 0) := ⟨0, 8, 12, 1, 0, fun _ => 0, 0, fun _ => 0, pu_S0, hR1, ⟨rfl, rfl, rfl, rfl⟩, ⟨rfl, rfl, by omega, fun j hj => by omega⟩, ⟨rfl, rfl, by omega, fun j hj => by omega⟩, rfl, ⟨0, by omega, rfl⟩, ⟨⟨⟨0, rfl, by omega, fun N hN => Or.inl (hT1 N hN)⟩, ⟨0, by omega, rfl⟩, ⟨0, by omega, rfl⟩, ⟨0, by omega, rfl⟩⟩, Or.inl rfl⟩, Or.inl rfl⟩
    exact pu_law_ind hL h5 gx_fuel 0 _ _ _ _ _ _ _ _ _ _ _ _ _ _ _ _ _ _ _ _ _ _ _ _ _ _ _ _ _ _ _ _ _ _ _ _ (by omega) (by show _ < 5 * 5000; omega) h
  · have hlt : Int32.ofNat L - 5 < 0 := by
      rcases (show L = 0 ∨ L = 1 ∨ L = 2 ∨ L = 3 ∨ L = 4 by omega) with rfl | rfl | rfl | rfl | rfl <;> decide
    have h : ∀ n, fn_L_law_l18 xs L (n + 1) (upd (upd (fun _ => 0) 5 0) 6 (-1)) R0 (upd (fun _ => 0) 1 0) (fun _ => 0) (upd (fun _ => 0) 1 0) (fun _ => 0) (fun _ => 0) (fun _ => 0) (upd (fun _ => 0) 6 0) (fun _ => 0) (fun _ => 0) (fun _ => 0) (fun _ => 0) T0 (upd (fun _ => 0) 1 0) (fun _ => 0) (upd (fun _ => 0) 1 0) (fun _ => 0) (upd (fun _ => 0) 1 0) (fun _ => 0) (fun _ => 0) (fun _ => 0) (upd (fun _ => 0) 1 0) (fun _ => 0) (fun _ => 0) (fun _ => 0) (upd (upd (upd (upd (upd (fun _ => 0) 1 8) 2 12) 3 1) 8 (-1)) 21 0) (fun _ => 0) (fun _ => 0) (fun _ => 0) (fun _ => 0) (fun _ => 0) (fun _ => 0) (fun _ => 0) (fun _ => 0) (fun _ => 0) 0 = some () := fun n => by rw [fn_L_law_l18, if_pos hlt]
    exact h 4999
