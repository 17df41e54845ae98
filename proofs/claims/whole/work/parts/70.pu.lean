/-! Ranges; the relation between the two objects; setting, symbol, empty, at, fault. -/
theorem pn_ltN {x : Int32} {a : Nat} (hx : x < 0) (ha : a < 2147483648) : x < nI a := by
  rw [Int32.lt_iff_toInt_lt] at hx ⊢
  rw [nI_toInt ha]
  have : (0 : Int32).toInt = 0 := rfl
  omega
theorem pn_range (x : Int32) {lo hi : Nat} (h1 : lo < 2147483648) (h2 : hi < 2147483648) : x < nI lo ∨ (¬ x < nI lo ∧ nI hi < x) ∨ ∃ a, lo ≤ a ∧ a ≤ hi ∧ x = nI a ∧ ¬ x < nI lo ∧ ¬ nI hi < x := by
  rcases pn_case x with h | ⟨a, ha, rfl⟩
  · exact Or.inl (pn_ltN h h1)
  · by_cases h3 : a < lo
    · exact Or.inl ((pn_lt ha h1).mpr h3)
    · by_cases h4 : hi < a
      · exact Or.inr (Or.inl ⟨by rw [pn_lt ha h1]; exact h3, (pn_lt h2 ha).mpr h4⟩)
      · exact Or.inr (Or.inr ⟨a, by omega, by omega, rfl, by rw [pn_lt ha h1]; exact h3, by rw [pn_lt h2 ha]; exact h4⟩)
theorem pi_N {x b : Int32} (h : x < 0) : fn_X8_in x 0 b = some 0 := by rw [fn_X8_in, if_pos h]
theorem pi_in {a b : Nat} (ha : a < 2147483648) (hb : b < 2147483648) : fn_X8_in (nI a) 0 (nI b) = some (if a ≤ b then 1 else 0) := by
  rw [fn_X8_in, if_neg (pn_n0 ha)]
  by_cases h : a ≤ b
  · rw [if_neg (by rw [pn_lt hb ha]; omega), if_pos h]
  · rw [if_pos (by rw [pn_lt hb ha]; omega), if_neg h]
theorem pn_m1lt {a : Nat} (ha : a < 2147483648) : (-1 : Int32) < nI a := by
  rw [Int32.lt_iff_toInt_lt, nI_toInt ha]
  have : (-1 : Int32).toInt = -1 := rfl
  omega
theorem pi_last {a n : Nat} (ha : a < 2147483648) (hn : n < 2147483648) : fn_X8_in (nI a) 0 (nI n - 1) = some (if a < n then 1 else 0) := by
  by_cases h0 : n = 0
  · subst h0
    have : nI 0 - 1 = -1 := rfl
    rw [this, fn_X8_in, if_neg (pn_n0 ha), if_pos (pn_m1lt ha), if_neg (by omega)]
  · rw [pn_subL (show 1 ≤ n by omega), pi_in ha (by omega)]
    by_cases h : a < n
    · rw [if_pos h, if_pos (by omega)]
    · rw [if_neg h, if_neg (by omega)]
theorem pq_j32 {k : Nat} (hk8 : k ≤ 8) (M : Nat → Int32) (a1 a3 a4 : Int32) : (∃ m c, k + 2 ≤ m ∧ m ≤ 12 ∧ c ≤ 100 ∧ a3 = nI m ∧ a4 = nI c ∧ fn_X3_allow_j32 (nI k) a3 a4 = some 1 ∧ fn_X8_setting_j32 M a1 (nI k) a3 a4 = fn_X8_setting_j60 M a1 (nI k) a3 a4 1) ∨ (fn_X3_allow_j32 (nI k) a3 a4 = some 0 ∧ fn_X8_setting_j32 M a1 (nI k) a3 a4 = fn_X8_setting_j60 M a1 (nI k) a3 a4 0) := by
  have t : ¬ (1 : Int32) = 0 := by decide
  have hr := pn_range a3 (lo := k + 2) (hi := 12) (by omega) (by decide)
  rw [show nI (k + 2) = nI k + 2 from (pn_addL k 2).symm] at hr
  rcases hr with h | ⟨h, h'⟩ | ⟨m, hm1, hm2, e3, h, h'⟩
  · refine Or.inr ?_
    simp only [fn_X3_allow_j32, fn_X8_setting_j32, fn_X8_in, fn_X8_setting_j59, if_pos h, Option.bind_some, if_true, and_self]
  · refine Or.inr ?_
    have h2 : 12 < a3 := h'
    simp only [fn_X3_allow_j32, fn_X8_setting_j32, fn_X8_in, fn_X8_setting_j59, if_neg h, if_pos h2, Option.bind_some, if_true, and_self]
  · have h2 : ¬ 12 < a3 := h'
    rcases pn_range a4 (lo := 0) (hi := 100) (by omega) (by decide) with g | ⟨g, g'⟩ | ⟨c, hc1, hc2, e4, g, g'⟩
    · refine Or.inr ?_
      have g1 : a4 < 0 := g
      simp only [fn_X3_allow_j32, fn_X8_setting_j32, fn_X8_in, fn_X8_setting_j59, if_neg h, if_neg h2, if_pos g1, if_neg t, Option.bind_some, if_true, and_self]
    · refine Or.inr ?_
      have g1 : ¬ a4 < 0 := g
      have g2 : 100 < a4 := g'
      simp only [fn_X3_allow_j32, fn_X8_setting_j32, fn_X8_in, fn_X8_setting_j59, if_neg h, if_neg h2, if_neg g1, if_pos g2, if_neg t, Option.bind_some, if_true, and_self]
    · have g1 : ¬ a4 < 0 := g
      have g2 : ¬ 100 < a4 := g'
      refine Or.inl ⟨m, c, hm1, hm2, hc2, e3, e4, ?_⟩
      simp only [fn_X3_allow_j32, fn_X8_setting_j32, fn_X8_in, fn_X8_setting_j59, if_neg h, if_neg h2, if_neg g1, if_neg g2, if_neg t, Option.bind_some, if_true, and_self]
theorem pq_allow (M : Nat → Int32) (a1 a2 a3 a4 : Int32) : (∃ f k m c, pS f k m c ∧ a1 = nI f ∧ a2 = nI k ∧ a3 = nI m ∧ a4 = nI c ∧ fn_X3_allow a1 a2 a3 a4 = some 1 ∧ fn_X8_setting M a1 a2 a3 a4 = fn_X8_setting_j60 M a1 a2 a3 a4 1) ∨ (fn_X3_allow a1 a2 a3 a4 = some 0 ∧ fn_X8_setting M a1 a2 a3 a4 = fn_X8_setting_j60 M a1 a2 a3 a4 0) := by
  have t : ¬ (1 : Int32) = 0 := by decide
  rcases pn_range a1 (lo := 0) (hi := 2) (by decide) (by decide) with h | ⟨h, h'⟩ | ⟨f, hf1, hf2, e1, h, h'⟩
  · refine Or.inr ?_
    have h1 : a1 < 0 := h
    simp only [fn_X3_allow, fn_X8_setting, fn_X8_in, fn_X8_setting_j59, if_pos h1, Option.bind_some, if_true, and_self]
  · refine Or.inr ?_
    have h1 : ¬ a1 < 0 := h
    have h2 : 2 < a1 := h'
    simp only [fn_X3_allow, fn_X8_setting, fn_X8_in, fn_X8_setting_j59, if_neg h1, if_pos h2, Option.bind_some, if_true, and_self]
  · have h1 : ¬ a1 < 0 := h
    have h2 : ¬ 2 < a1 := h'
    rcases pn_range a2 (lo := 2) (hi := 8) (by decide) (by decide) with g | ⟨g, g'⟩ | ⟨k, hk1, hk2, e2, g, g'⟩
    · refine Or.inr ?_
      have g1 : a2 < 2 := g
      have g3 : ¬ a2 = 8 := fun e => absurd g (by rw [e]; decide)
      by_cases h0 : a1 = 0
      · simp only [fn_X3_allow, fn_X8_setting, fn_X8_in, fn_X8_setting_j59, if_neg h1, if_neg h2, if_pos g1, if_pos h0, if_neg t, Option.bind_some, if_true, and_self]
      · simp only [fn_X3_allow, fn_X8_setting, fn_X8_in, fn_X8_setting_j59, if_neg h1, if_neg h2, if_pos g1, if_neg h0, if_neg g3, if_neg t, Option.bind_some, if_true, and_self]
    · refine Or.inr ?_
      have g1 : ¬ a2 < 2 := g
      have g2 : 8 < a2 := g'
      have g3 : ¬ a2 = 8 := fun e => absurd g' (by rw [e]; decide)
      by_cases h0 : a1 = 0
      · simp only [fn_X3_allow, fn_X8_setting, fn_X8_in, fn_X8_setting_j59, if_neg h1, if_neg h2, if_neg g1, if_pos g2, if_pos h0, if_neg t, Option.bind_some, if_true, and_self]
      · simp only [fn_X3_allow, fn_X8_setting, fn_X8_in, fn_X8_setting_j59, if_neg h1, if_neg h2, if_neg g1, if_pos g2, if_neg h0, if_neg g3, if_neg t, Option.bind_some, if_true, and_self]
    · have g1 : ¬ a2 < 2 := g
      have g2 : ¬ 8 < a2 := g'
      by_cases h0 : a1 = 0
      · have hf0 : f = 0 := (pn_eqL (n := 0) (by omega) (by decide)).mp (e1 ▸ h0)
        have ec : fn_X3_allow a1 a2 a3 a4 = fn_X3_allow_j32 a2 a3 a4 := by
          simp only [fn_X3_allow, if_neg h1, if_neg h2, if_neg g1, if_neg g2, if_pos h0]
        have em : fn_X8_setting M a1 a2 a3 a4 = fn_X8_setting_j32 M a1 a2 a3 a4 := by
          simp only [fn_X8_setting, fn_X8_in, if_neg h1, if_neg h2, if_neg g1, if_neg g2, if_pos h0, if_neg t, Option.bind_some]
        rw [ec, em]
        subst e2
        rcases pq_j32 hk2 M a1 a3 a4 with ⟨m, c, q1, q2, q3, q4, q5, q6, q7⟩ | q
        · exact Or.inl ⟨f, k, m, c, ⟨hf2, hk1, hk2, by omega, q1, q2, q3⟩, e1, rfl, q4, q5, q6, q7⟩
        · exact Or.inr q
      · by_cases h8 : a2 = 8
        · have hk0 : k = 8 := (pn_eqL (n := 8) (by omega) (by decide)).mp (e2 ▸ h8)
          have ec : fn_X3_allow a1 a2 a3 a4 = fn_X3_allow_j32 a2 a3 a4 := by
            simp only [fn_X3_allow, if_neg h1, if_neg h2, if_neg g1, if_neg g2, if_neg h0, if_pos h8]
          have em : fn_X8_setting M a1 a2 a3 a4 = fn_X8_setting_j32 M a1 a2 a3 a4 := by
            simp only [fn_X8_setting, fn_X8_in, if_neg h1, if_neg h2, if_neg h0, if_pos h8, if_neg t, Option.bind_some]
          rw [ec, em]
          subst e2
          rcases pq_j32 hk2 M a1 a3 a4 with ⟨m, c, q1, q2, q3, q4, q5, q6, q7⟩ | q
          · exact Or.inl ⟨f, k, m, c, ⟨hf2, hk1, hk2, fun _ => hk0, q1, q2, q3⟩, e1, rfl, q4, q5, q6, q7⟩
          · exact Or.inr q
        · refine Or.inr ?_
          simp only [fn_X3_allow, fn_X8_setting, fn_X8_in, fn_X8_setting_j59, if_neg h1, if_neg h2, if_neg g1, if_neg g2, if_neg h0, if_neg h8, if_neg t, Option.bind_some, if_true, and_self]
