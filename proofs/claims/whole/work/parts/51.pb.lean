/-! PURE: the SETTING, COUNT, WIDTH -/
def pS (f k m c : Nat) : Prop := f ≤ 2 ∧ 2 ≤ k ∧ k ≤ 8 ∧ (f ≠ 0 → k = 8) ∧ k + 2 ≤ m ∧ m ≤ 12 ∧ c ≤ 100
def pE (f : Nat) : Nat := if f = 1 then 1 else 0
def pF (f k : Nat) : Nat := 2 ^ k + (if f = 2 then 1 else 2)
def pL (f m : Nat) : Nat := 2 ^ m - pE f
def pC (f k m since : Nat) : Nat := min (pF f k + (since - 1)) (pL f m)
theorem pE_le (f : Nat) : pE f ≤ 1 := by unfold pE; split <;> omega
theorem pS_b {f k m c : Nat} (h : pS f k m c) : 4 ≤ 2 ^ k ∧ 2 ^ k ≤ 256 ∧ 4 * 2 ^ k ≤ 2 ^ m ∧ 2 ^ m ≤ 4096 := by
  obtain ⟨h1, h2, h3, h4, h5, h6, h7⟩ := h
  have a1 : 2 ^ 2 ≤ 2 ^ k := Nat.pow_le_pow_right (by decide) h2
  have a2 : 2 ^ k ≤ 2 ^ 8 := Nat.pow_le_pow_right (by decide) h3
  have a3 : 2 ^ (k + 2) ≤ 2 ^ m := Nat.pow_le_pow_right (by decide) h5
  have a4 : 2 ^ m ≤ 2 ^ 12 := Nat.pow_le_pow_right (by decide) h6
  rw [Nat.pow_add] at a3
  omega
theorem pS_f {f k m c : Nat} (h : pS f k m c) : 2 ^ k < pF f k ∧ pF f k ≤ 2 ^ k + 2 ∧ pF f k ≤ 258 ∧ pF f k + 9 ≤ pL f m ∧ pL f m ≤ 4096 := by
  have hb := pS_b h
  have he := pE_le f
  have h2 : (if f = 2 then 1 else 2) ≤ 2 ∧ 1 ≤ (if f = 2 then 1 else 2) := by split <;> omega
  unfold pF pL
  omega
def pR (R : Nat → Int32) (f k m c : Nat) : Prop := R 0 = nI f ∧ R 1 = nI k ∧ R 2 = nI m ∧ R 3 = nI c ∧ R 4 = nI (if f = 2 then 0 else 1) ∧ R 5 = nI (if f = 2 then 1 else 0) ∧ R 6 = nI (if f = 1 then 1 else 0) ∧ R 7 = nI (2 ^ k) ∧ R 8 = (if f = 2 then -1 else nI (2 ^ k + 1)) ∧ R 9 = nI (pF f k) ∧ R 10 = nI (pL f m) ∧ R 11 = nI (pE f)
def pM (M : Nat → Int32) (f k m c : Nat) : Prop := M 0 = nI f ∧ M 1 = nI k ∧ M 2 = nI m ∧ M 3 = nI c
-- WIDTH
def pW (f k m c w : Nat) : Prop := k + 1 ≤ w ∧ w ≤ m ∧ (w = m ∨ c < 2 ^ w - pE f) ∧ ∀ v, k + 1 ≤ v → v < w → 2 ^ v - pE f ≤ c
theorem pW_uniq {f k m c w w' : Nat} (h : pW f k m c w) (h' : pW f k m c w') : w = w' := by
  obtain ⟨a1, a2, a3, a4⟩ := h
  obtain ⟨b1, b2, b3, b4⟩ := h'
  rcases Nat.lt_trichotomy w w' with hl | hl | hl
  · have := b4 w a1 hl
    rcases a3 with a3 | a3 <;> omega
  · exact hl
  · have := a4 w' b1 hl
    rcases b3 with b3 | b3 <;> omega
theorem pW_first {f k m c : Nat} (h : pS f k m c) : pW f k m (pF f k) (k + 1) := by
  have hb := pS_b h
  have hf := pS_f h
  have he := pE_le f
  obtain ⟨h1, h2, h3, h4, h5, h6, h7⟩ := h
  refine ⟨Nat.le_refl _, by omega, Or.inr ?_, fun v hv hv2 => by omega⟩
  rw [Nat.pow_succ]
  omega
theorem pW_step {f k m c0 c c' w : Nat} (hS : pS f k m c0) (h : pW f k m c w) (h1 : c ≤ c') (h2 : c' ≤ c + 1) : pW f k m c' (if c' < 2 ^ w - pE f then w else min (w + 1) m) := by
  obtain ⟨a1, a2, a3, a4⟩ := h
  have he := pE_le f
  have hb := pS_b hS
  have hk : 2 ^ k ≤ 2 ^ w := Nat.pow_le_pow_right (by decide) (by omega)
  split
  · rename_i hl
    exact ⟨a1, a2, Or.inr hl, fun v hv hv2 => Nat.le_trans (a4 v hv hv2) h1⟩
  · rename_i hl
    by_cases hm : w = m
    · subst hm
      rw [Nat.min_eq_right (by omega)]
      exact ⟨a1, a2, Or.inl rfl, fun v hv hv2 => Nat.le_trans (a4 v hv hv2) h1⟩
    · rw [Nat.min_eq_left (by omega)]
      have hc : c < 2 ^ w - pE f := by rcases a3 with a3 | a3; exact absurd a3 hm; exact a3
      refine ⟨by omega, by omega, Or.inr ?_, fun v hv hv2 => ?_⟩
      · rw [Nat.pow_succ]; omega
      · by_cases hvw : v = w
        · subst hvw; omega
        · exact Nat.le_trans (a4 v hv (by omega)) h1
theorem pW_b {f k m c0 c w : Nat} (hS : pS f k m c0) (h : pW f k m c w) : 3 ≤ w ∧ w ≤ 12 ∧ 2 ^ w ≤ 4096 ∧ 8 ≤ 2 ^ w := by
  obtain ⟨a1, a2, -, -⟩ := h
  obtain ⟨h1, h2, h3, h4, h5, h6, h7⟩ := hS
  have a3 : 2 ^ w ≤ 2 ^ 12 := Nat.pow_le_pow_right (by decide) (by omega)
  have a4 : 2 ^ 3 ≤ 2 ^ w := Nat.pow_le_pow_right (by decide) (by omega)
  omega
-- the reference's numbers
theorem pm_first {M : Nat → Int32} {f k m c : Nat} (hS : pS f k m c) (hM : pM M f k m c) : fn_X8_firstNumber M = some (nI (pF f k)) := by
  obtain ⟨h0, h1, h2, h3⟩ := hM
  have hk : k < 31 := by have := hS.2.2.1; omega
  rw [fn_X8_firstNumber, h0, h1, pn_sh1 k hk]
  by_cases hf : f = 2
  · rw [if_pos (by rw [hf]; rfl), pn_addL, pF, if_pos hf]
  · rw [if_neg (by rw [pn_eqL (by have := hS.1; omega) (by omega)]; exact hf), pn_addL, pF, if_neg hf]
theorem pm_last {M : Nat → Int32} {f k m c : Nat} (hS : pS f k m c) (hM : pM M f k m c) : fn_X8_lastNumber M = some (nI (pL f m)) := by
  obtain ⟨h0, h1, h2, h3⟩ := hM
  have hk : m < 31 := by have := hS.2.2.2.2.2.1; omega
  have hb := pS_b hS
  rw [fn_X8_lastNumber, h0, h2, pn_sh1 m hk]
  by_cases hf : f = 1
  · rw [if_pos (by rw [hf]; rfl), pn_subL (by omega), pL, pE, if_pos hf]
  · rw [if_neg (by rw [pn_eqL (by have := hS.1; omega) (by omega)]; exact hf), pn_subL (by omega), pL, pE, if_neg hf]
theorem pC_b {f k m c : Nat} (hS : pS f k m c) (since : Nat) : pF f k ≤ pC f k m since ∧ pC f k m since ≤ pL f m ∧ pC f k m since ≤ 4096 := by
  have := pS_f hS
  unfold pC
  omega
theorem pm_count {M : Nat → Int32} {f k m c since : Nat} (hS : pS f k m c) (hM : pM M f k m c) (h9 : M 9 = nI since) (hs : since < 100000) : fn_X8_countNow M = some (nI (pC f k m since)) := by
  have hf := pS_f hS
  have key : ∀ a : Nat, a < 200000 → fn_X8_countNow_j21 M (nI (pF f k)) (nI a) = some (nI (min (pF f k + a) (pL f m))) := by
    intro a ha
    rw [fn_X8_countNow_j21, pm_last hS hM]
    simp only [Option.bind_some, pn_add]
    by_cases h : pL f m ≤ pF f k + a
    · rw [if_pos ((pn_le (by omega) (by omega)).mpr h), Nat.min_eq_right h]
    · rw [if_neg (by rw [pn_le (by omega) (by omega)]; exact h), Nat.min_eq_left (by omega)]
  rw [fn_X8_countNow, pm_first hS hM]
  simp only [Option.bind_some]
  by_cases h0 : since = 0
  · subst h0
    rw [if_pos (by rw [h9]; exact Int32.le_refl _)]
    exact key 0 (by omega)
  · rw [h9, if_neg (by rw [pn_leL (by omega) (by omega)]; omega), pn_subL (by omega)]
    exact key (since - 1) (by omega)
theorem pm_width_l {M : Nat → Int32} {f k m c0 c w : Nat} (hS : pS f k m c0) (hM : pM M f k m c0) (hc : c < 100000) (hw : pW f k m c w) : ∀ (d n v : Nat), w - v = d → d < n → k + 1 ≤ v → v ≤ w → fn_X8_widthNow_l12 M n (nI v) (nI c) = some (nI w) := by
  have hb := pW_b hS hw
  obtain ⟨h0, h1, h2, h3⟩ := hM
  obtain ⟨a1, a2, a3, a4⟩ := hw
  have hm12 : m ≤ 12 := hS.2.2.2.2.2.1
  have hf2 : f ≤ 2 := hS.1
  intro d
  induction d with
  | zero =>
    intro n v hd hn hv hvw
    obtain ⟨n, rfl⟩ : ∃ q, n = q + 1 := ⟨n - 1, by omega⟩
    have hvw : v = w := by omega
    subst hvw
    rw [fn_X8_widthNow_l12, h2]
    by_cases hm : m ≤ v
    · rw [if_pos ((pn_le (by omega) (by omega)).mpr hm)]
    · rw [if_neg (by rw [pn_le (by omega) (by omega)]; exact hm), h0, pn_sh1 v (by omega)]
      have hlt : c < 2 ^ v - pE f := by rcases a3 with a3 | a3; omega; exact a3
      by_cases hf : f = 1
      · rw [if_pos (by rw [hf]; rfl), fn_X8_widthNow_j37, pn_subL (by omega), if_pos]
        rw [pn_lt (by omega) (by omega)]; rw [pE, if_pos hf] at hlt; exact hlt
      · rw [if_neg (by rw [pn_eqL (by omega) (by omega)]; exact hf), fn_X8_widthNow_j37, pn_subL (by omega), if_pos]
        rw [pn_lt (by omega) (by omega)]; rw [pE, if_neg hf] at hlt; exact hlt
  | succ d ih =>
    intro n v hd hn hv hvw
    obtain ⟨n, rfl⟩ : ∃ q, n = q + 1 := ⟨n - 1, by omega⟩
    have hv2 := a4 v hv (by omega)
    have hp : 2 ^ v ≤ 2 ^ w := Nat.pow_le_pow_right (by decide) hvw
    have hp8 : 2 ^ 1 ≤ 2 ^ v := Nat.pow_le_pow_right (by decide) (by omega)
    rw [fn_X8_widthNow_l12, h2, if_neg (by rw [pn_le (by omega) (by omega)]; omega), h0, pn_sh1 v (by omega)]
    by_cases hf : f = 1
    · rw [if_pos (by rw [hf]; rfl), fn_X8_widthNow_j37, pn_subL (by omega), if_neg, pn_addL]
      · exact ih n (v + 1) (by omega) (by omega) (by omega) (by omega)
      · rw [pn_lt (by omega) (by omega)]; rw [pE, if_pos hf] at hv2; omega
    · rw [if_neg (by rw [pn_eqL (by omega) (by omega)]; exact hf), fn_X8_widthNow_j37, pn_subL (by omega), if_neg, pn_addL]
      · exact ih n (v + 1) (by omega) (by omega) (by omega) (by omega)
      · rw [pn_lt (by omega) (by omega)]; rw [pE, if_neg hf] at hv2; omega
theorem pm_width {M : Nat → Int32} {f k m c since w : Nat} (hS : pS f k m c) (hM : pM M f k m c) (h9 : M 9 = nI since) (hs : since < 100000) (hw : pW f k m (pC f k m since) w) : fn_X8_widthNow M = some (nI w) := by
  have hb := pW_b hS hw
  have hc := pC_b hS since
  rw [fn_X8_widthNow, pm_count hS hM h9 hs]
  simp only [Option.bind_some]
  rw [hM.2.1, pn_addL]
  exact pm_width_l hS hM (by omega) hw (w - (k + 1)) gx_fuel (k + 1) rfl (by show _ < 5000; omega) (Nat.le_refl _) hw.1
