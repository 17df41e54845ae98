/-! PURE: takeString and readCode -/
theorem pn_id (M : Nat → Int32) (k : Nat) : upd M k (M k) = M := by
  funext j
  unfold upd
  split
  · rename_i h; rw [h]
  · rfl
theorem pm_194a {M sA sL out : Nat → Int32} {f k m c cnt : Nat} {x2 x5 x6 : Int32} (hS : pS f k m c) (hM : pM M f k m c) (hcnt : cnt < 100000) (h : ¬ x2 = 0 ∨ pL f m ≤ cnt) : fn_X8_give_j194 M sA sL out x2 (nI cnt) x5 x6 = some (upd (upd (upd M 26 x6) 27 x5) 9 (M 9 + 1), sA, sL, out) := by
  have hfb := pS_f hS
  rw [fn_X8_give_j194]
  by_cases h0 : x2 = 0
  · rw [if_pos h0, pm_last hS hM, Option.bind_some, if_pos ((pn_le (by omega) (by omega)).mpr (by rcases h with h | h; exact absurd h0 h; exact h)), fn_X8_give_j238]
  · rw [if_neg h0, fn_X8_give_j238]
theorem pm_194b {M sA sL out : Nat → Int32} {f k m c cnt : Nat} {x2 x5 x6 : Int32} (hS : pS f k m c) (hM : pM M f k m c) (h0 : x2 = 0) (hF : pF f k ≤ cnt) (hL : cnt < pL f m) (h3 : cnt - pF f k < 300) : fn_X8_give_j194 M sA sL out x2 (nI cnt) x5 x6 = some (upd (upd (upd M 26 x6) 27 x5) 9 (M 9 + 1), upd sA (cnt - pF f k) (M 26), upd sL (cnt - pF f k) (M 27 + 1), out) := by
  have hfb := pS_f hS
  rw [fn_X8_give_j194, if_pos h0, pm_last hS hM, Option.bind_some, if_neg (by rw [pn_le (by omega) (by omega)]; omega), pm_first hS hM, Option.bind_some, pn_sub hF, if_pos ((pn_in (by omega)).mpr h3), Option.bind_some, pn_cl (by omega), pn_sub hF, if_pos ((pn_in (by omega)).mpr h3), pn_cl (by omega), fn_X8_give_j238]
/-- the reference's own road to its loop -/
theorem pm_give {M sA sL out : Nat → Int32} {f k m c since outs code : Nat} (hS : pS f k m c) (hM : pM M f k m c) (h9 : M 9 = nI since) (hs : since < 1000) (m25 : M 25 = nI outs) (hc : code < 100000) :
    ∃ y2 : Int32, (y2 = 0 ↔ 0 < since) ∧
      (code < pF f k → fn_X8_give M sA sL out (nI code) = fn_X8_give_l117 gx_fuel M sA sL out (nI code) y2 (nI (pC f k m since)) (-1) (nI 1) (nI outs) 0) ∧
      (pF f k ≤ code → code - pF f k < 300 → (code ≠ pC f k m since ∨ since = 0 ∨ pL f m ≤ pC f k m since) → fn_X8_give M sA sL out (nI code) = fn_X8_give_l117 gx_fuel M sA sL out (nI code) y2 (nI (pC f k m since)) (sA (code - pF f k)) (sL (code - pF f k)) (nI outs) 0) ∧
      (pF f k ≤ code → code = pC f k m since → 0 < since → pC f k m since < pL f m → fn_X8_give M sA sL out (nI code) = fn_X8_give_l117 gx_fuel M sA sL out (nI code) y2 (nI (pC f k m since)) (M 26) (M 27 + 1) (nI outs) 0) := by
  have hfb := pS_f hS
  have hcb := pC_b hS since
  have e12 : ∀ y2 : Int32, (y2 = 0 ↔ 0 < since) →
      (code < pF f k → fn_X8_give_j12 M sA sL out (nI code) y2 = fn_X8_give_l117 gx_fuel M sA sL out (nI code) y2 (nI (pC f k m since)) (-1) (nI 1) (nI outs) 0) ∧
      (pF f k ≤ code → code - pF f k < 300 → (code ≠ pC f k m since ∨ since = 0 ∨ pL f m ≤ pC f k m since) → fn_X8_give_j12 M sA sL out (nI code) y2 = fn_X8_give_l117 gx_fuel M sA sL out (nI code) y2 (nI (pC f k m since)) (sA (code - pF f k)) (sL (code - pF f k)) (nI outs) 0) ∧
      (pF f k ≤ code → code = pC f k m since → 0 < since → pC f k m since < pL f m → fn_X8_give_j12 M sA sL out (nI code) y2 = fn_X8_give_l117 gx_fuel M sA sL out (nI code) y2 (nI (pC f k m since)) (M 26) (M 27 + 1) (nI outs) 0) := by
    intro y2 hy
    refine ⟨fun h => ?_, fun h1 h2 h3 => ?_, fun h1 h2 h3 h4 => ?_⟩
    · rw [fn_X8_give_j12, pm_count hS hM h9 (by omega), Option.bind_some, pm_first hS hM, Option.bind_some, if_pos ((pn_lt (by omega) (by omega)).mpr h), m25]
      rfl
    · have hi : gx_in (nI (code - pF f k)) 300 := (pn_in (by omega)).mpr h2
      have hcl : (nI (code - pF f k)).toNatClampNeg = code - pF f k := pn_cl (by omega)
      have e99 : ∀ q : Int32, fn_X8_give_j99 M sA sL out (nI code) y2 (nI (pC f k m since)) q (nI (code - pF f k)) = fn_X8_give_l117 gx_fuel M sA sL out (nI code) y2 (nI (pC f k m since)) q (sL (code - pF f k)) (nI outs) 0 := by
        intro q
        rw [fn_X8_give_j99, if_pos hi, hcl, m25]
      have e71 : ∀ q : Int32, fn_X8_give_j71 M sA sL out (nI code) y2 (nI (pC f k m since)) (nI (code - pF f k)) q = fn_X8_give_j99 M sA sL out (nI code) y2 (nI (pC f k m since)) q (nI (code - pF f k)) := by
        intro q
        rw [fn_X8_give_j71]
        by_cases a1 : code = pC f k m since
        · rw [if_pos (by rw [a1])]
          by_cases a2 : y2 = 0
          · rw [if_pos a2, pm_last hS hM, Option.bind_some, if_pos ((pn_le (by omega) (by omega)).mpr (by have := hy.mp a2; omega))]
          · rw [if_neg a2]
        · rw [if_neg (by rw [pn_eq (by omega) (by omega)]; exact a1)]
      have e64 : fn_X8_give_j64 M sA sL out (nI code) y2 (nI (pC f k m since)) (nI (code - pF f k)) = fn_X8_give_l117 gx_fuel M sA sL out (nI code) y2 (nI (pC f k m since)) (sA (code - pF f k)) (sL (code - pF f k)) (nI outs) 0 := by
        rw [fn_X8_give_j64, if_pos hi, hcl, e71, e99]
      rw [fn_X8_give_j12, pm_count hS hM h9 (by omega), Option.bind_some, pm_first hS hM, Option.bind_some, if_neg (by rw [pn_lt (by omega) (by omega)]; omega), Option.bind_some, pn_sub h1]
      by_cases a1 : code = pC f k m since
      · rw [if_pos (by rw [a1])]
        by_cases a2 : y2 = 0
        · rw [if_pos a2, pm_last hS hM, Option.bind_some, if_pos ((pn_le (by omega) (by omega)).mpr (by have := hy.mp a2; omega))]; exact e64
        · rw [if_neg a2]; exact e64
      · rw [if_neg (by rw [pn_eq (by omega) (by omega)]; exact a1)]; exact e64
    · have a2 : y2 = 0 := hy.mpr h3
      rw [fn_X8_give_j12, pm_count hS hM h9 (by omega), Option.bind_some, pm_first hS hM, Option.bind_some, if_neg (by rw [pn_lt (by omega) (by omega)]; omega), Option.bind_some, pn_sub h1, if_pos (by rw [h2]), if_pos a2, pm_last hS hM, Option.bind_some, if_neg (by rw [pn_le (by omega) (by omega)]; omega), fn_X8_give_j71, if_pos (by rw [h2]), if_pos a2, pm_last hS hM, Option.bind_some, if_neg (by rw [pn_le (by omega) (by omega)]; omega), m25]
  by_cases h0 : since = 0
  · refine ⟨1, ⟨fun q => absurd q (by decide), fun q => by omega⟩, ?_⟩
    have := e12 1 ⟨fun q => absurd q (by decide), fun q => by omega⟩
    rw [fn_X8_give, h9, if_pos (by rw [h0]; rfl)]
    exact this
  · refine ⟨0, ⟨fun _ => by omega, fun _ => rfl⟩, ?_⟩
    have := e12 0 ⟨fun _ => by omega, fun _ => rfl⟩
    rw [fn_X8_give, h9, if_neg (by rw [pn_eqL (by omega) (by omega)]; exact h0)]
    exact this
/-- which fault readCode meets ahead of giving -/
def pBad (f k m since code : Nat) : Prop := (since = 0 ∧ pF f k ≤ code) ∨ (0 < since ∧ (pC f k m since < code ∨ (pC f k m since = pL f m ∧ pL f m ≤ code)))
theorem pm_readCode {M sA sL out : Nat → Int32} {f k m c since code : Nat} (hS : pS f k m c) (hM : pM M f k m c) (h9 : M 9 = nI since) (hs : since < 1000) (m23 : M 23 = 0) (hc : code < 100000) :
    (pBad f k m since code → fn_X8_readCode M sA sL out (nI code) = some (upd M 23 (nI (if since = 0 then 3 else 4)), sA, sL, out)) ∧ (¬ pBad f k m since code → fn_X8_readCode M sA sL out (nI code) = (fn_X8_give M sA sL out (nI code)).bind fun y => some (y.1, y.2.1, y.2.2.1, y.2.2.2)) := by
  have hfb := pS_f hS
  have hcb := pC_b hS since
  have e79 : fn_X8_readCode_j79 (upd M 23 (M 23)) sA sL out (nI code) = (fn_X8_give M sA sL out (nI code)).bind fun y => some (y.1, y.2.1, y.2.2.1, y.2.2.2) := by
    rw [pn_id, fn_X8_readCode_j79, if_pos m23]
  have e3 : ∀ v : Int32, ¬ v = 0 → fn_X8_readCode_j79 (upd M 23 v) sA sL out (nI code) = some (upd M 23 v, sA, sL, out) := by
    intro v hv
    rw [fn_X8_readCode_j79, if_neg (by rw [pn_us]; exact hv)]
  rw [fn_X8_readCode, pm_count hS hM h9 (by omega), Option.bind_some, h9]
  unfold pBad
  by_cases h0 : since = 0
  · rw [if_pos (by rw [h0]; rfl), if_pos m23, pm_first hS hM, Option.bind_some, if_pos h0]
    by_cases hcF : code < pF f k
    · rw [if_pos ((pn_lt (by omega) (by omega)).mpr hcF), fn_X8_readCode_j32, fn_X8_readCode_j36, e79]
      exact ⟨fun q => by omega, fun _ => rfl⟩
    · rw [if_neg (by rw [pn_lt (by omega) (by omega)]; exact hcF), fn_X8_readCode_j36]
      exact ⟨fun _ => e3 3 (by decide), fun q => by omega⟩
  · rw [if_neg (by rw [pn_eqL (by omega) (by omega)]; exact h0), if_pos m23, if_neg h0]
    by_cases h1 : pC f k m since < code
    · rw [if_pos ((pn_lt (by omega) (by omega)).mpr h1), fn_X8_readCode_j68, fn_X8_readCode_j76]
      exact ⟨fun _ => e3 4 (by decide), fun q => by omega⟩
    · rw [if_neg (by rw [pn_lt (by omega) (by omega)]; exact h1), pm_last hS hM, Option.bind_some]
      by_cases h2 : pC f k m since = pL f m
      · rw [if_pos (by rw [h2])]
        by_cases h3 : code < pC f k m since
        · rw [if_pos ((pn_lt (by omega) (by omega)).mpr h3), fn_X8_readCode_j72, fn_X8_readCode_j76, e79]
          exact ⟨fun q => by omega, fun _ => rfl⟩
        · rw [if_neg (by rw [pn_lt (by omega) (by omega)]; exact h3), fn_X8_readCode_j68, fn_X8_readCode_j76]
          exact ⟨fun _ => e3 4 (by decide), fun q => by omega⟩
      · rw [if_neg (by rw [pn_eq (by omega) (by omega)]; exact h2), fn_X8_readCode_j72, fn_X8_readCode_j76, e79]
        exact ⟨fun q => by omega, fun _ => rfl⟩
