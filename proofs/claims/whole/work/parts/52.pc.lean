/-! PURE: Rules, Pace -/
theorem pr_become {V : Nat → Int32} {f k m c : Nat} (hS : pS f k m c) : ∃ R', fn_X3_become V (nI f) (nI k) (nI m) (nI c) = some R' ∧ pR R' f k m c := by
  have hb := pS_b hS
  obtain ⟨h1, h2, h3, h4, h5, h6, h7⟩ := id hS
  have e1 := pn_sh1 k (by omega)
  have e2 := pn_sh1 m (by omega)
  rcases (show f = 0 ∨ f = 1 ∨ f = 2 by omega) with rfl | rfl | rfl
  · have a0 : ¬ (nI 0 = 2) := by decide
    have a1 : ¬ (nI 0 = 1) := by decide
    simp [fn_X3_become, fn_X3_become_j35, fn_X3_become_j52, fn_X3_become_j69, fn_X3_become_j100, fn_X3_become_j126, fn_X3_become_j143, a0, a1, upd, e1, e2, pR, pF, pL, pE, pn_addL]
    and_intros <;> first | rfl | exact nI_add _ _
  · have a0 : ¬ (nI 1 = 2) := by decide
    have a1 : (nI 1 = 1) := by decide
    simp [fn_X3_become, fn_X3_become_j35, fn_X3_become_j52, fn_X3_become_j69, fn_X3_become_j100, fn_X3_become_j126, fn_X3_become_j143, a0, a1, upd, e1, e2, pR, pF, pL, pE, pn_addL]
    and_intros <;> first | rfl | exact nI_add _ _ | exact pn_subL (by omega)
  · have a0 : (nI 2 = 2) := by decide
    have a1 : ¬ (nI 2 = 1) := by decide
    simp [fn_X3_become, fn_X3_become_j35, fn_X3_become_j52, fn_X3_become_j69, fn_X3_become_j100, fn_X3_become_j126, fn_X3_become_j143, a0, a1, upd, e1, e2, pR, pF, pL, pE, pn_addL]
    and_intros <;> first | rfl | exact nI_add _ _
theorem pu_R0 : ∃ R0, fn_X3_become (fun _ => 0) 0 8 12 1 = some R0 ∧ pR R0 0 8 12 1 := pr_become (f := 0) (k := 8) (m := 12) (c := 1) ⟨by decide, by decide, by decide, by decide, by decide, by decide, by decide⟩
/-- Pace: COUNT, WIDTH behind 'since' codes of strings; the GROUP: codes in it, its width, behind a CLEAR -/
def pP (P : Nat → Int32) (f k m since w : Nat) : Prop := P 1 = nI (pC f k m since) ∧ P 2 = nI w ∧ pW f k m (pC f k m since) w ∧ P 3 = nI (if since = 0 then 1 else 0)
def pG (P : Nat → Int32) (g gw : Nat) (bc : Bool) : Prop := P 4 = nI g ∧ g < 8 ∧ P 5 = nI gw ∧ gw ≤ 12 ∧ P 6 = nI (if bc then 1 else 0)
theorem pC_0 {f k m c : Nat} (hS : pS f k m c) : pC f k m 0 = pF f k := by
  have := pS_f hS
  unfold pC
  rw [Nat.min_eq_left (by omega)]; omega
theorem pC_1 {f k m c : Nat} (hS : pS f k m c) : pC f k m 1 = pF f k := by
  have := pS_f hS
  unfold pC
  rw [Nat.min_eq_left (by omega)]; omega
theorem pC_s {f k m c since : Nat} (hS : pS f k m c) (h : 0 < since) : pC f k m (since + 1) = min (pC f k m since + 1) (pL f m) := by
  have := pS_f hS
  unfold pC
  omega
theorem pp_beginT {P R : Nat → Int32} {f k m c : Nat} (hS : pS f k m c) (hR : pR R f k m c) : ∃ P', fn_X0_beginTable P R = some P' ∧ pP P' f k m 0 (k + 1) ∧ P' 4 = P 4 ∧ P' 5 = P 5 ∧ P' 6 = P 6 := by
  obtain ⟨r0, r1, r2, r3, r4, r5, r6, r7, r8, r9, r10, r11⟩ := hR
  rw [fn_X0_beginTable, r9, r1, pn_addL]
  refine ⟨_, rfl, ⟨?_, ?_, ?_, ?_⟩, ?_, ?_, ?_⟩
  · rw [pC_0 hS]; simp [upd]
  · simp [upd]
  · rw [pC_0 hS]; exact pW_first hS
  · simp [upd]; rfl
  · simp [upd]
  · simp [upd]
  · simp [upd]
theorem pp_begin {P R : Nat → Int32} {f k m c : Nat} (hS : pS f k m c) (hR : pR R f k m c) : ∃ P', fn_X0_begin P R = some P' ∧ pP P' f k m 0 (k + 1) ∧ pG P' 0 (k + 1) false := by
  obtain ⟨P1, e1, ⟨a1, a2, a3, a4⟩, -, -, -⟩ := pp_beginT (P := P) hS hR
  have hk : k ≤ 8 := hS.2.2.1
  rw [fn_X0_begin, e1]
  simp only [Option.bind_some]
  refine ⟨_, rfl, ⟨?_, ?_, a3, ?_⟩, ?_, by decide, ?_, by omega, ?_⟩
  · rw [← a1]; simp [upd]
  · rw [← a2]; simp [upd]
  · rw [← a4]; simp [upd]
  · simp [upd]; rfl
  · rw [← a2]; simp [upd]
  · simp [upd]; rfl
theorem pp_ends {P : Nat → Int32} {f k m c since w g gw : Nat} {bc : Bool} (hS : pS f k m c) (hP : pP P f k m since w) (hG : pG P g gw bc) : fn_X0_groupEnds P = some (nI (if bc = true ∨ gw ≠ w then 1 else 0)) := by
  have hb := pW_b hS hP.2.2.1
  obtain ⟨g1, g2, g3, g4, g5⟩ := hG
  rw [fn_X0_groupEnds, g5, g3, hP.2.1]
  cases bc
  · simp only [Bool.false_eq_true, if_false, false_or]
    rw [if_pos (by rfl)]
    by_cases h : gw = w
    · rw [if_pos (by rw [h]), if_neg (by simpa using h)]; rfl
    · rw [if_neg (by rw [pn_eq (by omega) (by omega)]; exact h), if_pos h]; rfl
  · simp only [if_true, true_or]
    rw [if_neg (by decide)]; rfl
/-- the bits that fill the GROUP ahead of the next CODE -/
def pFill (f g gw w : Nat) (bc : Bool) : Nat := if f = 2 ∧ g ≠ 0 ∧ (bc = true ∨ gw ≠ w) then (8 - g) * gw else 0
theorem pFill_le {f g gw w : Nat} {bc : Bool} (h : gw ≤ 12) : pFill f g gw w bc ≤ 96 := by
  unfold pFill
  split
  · exact Nat.le_trans (Nat.mul_le_mul (show 8 - g ≤ 8 by omega) h) (by decide)
  · omega
theorem pp_fill {P R : Nat → Int32} {f k m c since w g gw : Nat} {bc : Bool} (hS : pS f k m c) (hR : pR R f k m c) (hP : pP P f k m since w) (hG : pG P g gw bc) : fn_X0_bitsThatFill P R = some (nI (pFill f g gw w bc)) := by
  have he := pp_ends hS hP hG
  obtain ⟨g1, g2, g3, g4, g5⟩ := hG
  obtain ⟨r0, r1, r2, r3, r4, r5, r6, r7, r8, r9, r10, r11⟩ := hR
  unfold pFill
  rw [fn_X0_bitsThatFill, r5, g1, he, g3]
  by_cases hf : f = 2
  · rw [if_pos hf, if_neg (by decide)]
    by_cases h0 : g = 0
    · rw [if_pos (by rw [h0]; rfl), if_neg (by simp [h0])]; rfl
    · rw [if_neg (by rw [pn_eqL (by omega) (by omega)]; exact h0)]
      simp only [Option.bind_some]
      by_cases h1 : bc = true ∨ gw ≠ w
      · rw [if_pos h1, if_neg (by decide), if_pos ⟨hf, h0, h1⟩, pn_Lsub (by omega), pn_mul]
      · rw [if_neg h1, if_pos (by rfl), if_neg (fun q => h1 q.2.2)]; rfl
  · rw [if_neg hf, if_pos (by rfl), if_neg (fun q => hf q.1)]; rfl
theorem pp_passS {P R : Nat → Int32} {f k m c since w : Nat} (hS : pS f k m c) (hR : pR R f k m c) (hP : pP P f k m since w) : ∃ P' w', fn_X0_passString P R = some P' ∧ pP P' f k m (since + 1) w' ∧ P' 4 = P 4 ∧ P' 5 = P 5 ∧ P' 6 = P 6 := by
  have hb := pW_b hS hP.2.2.1
  have hc := pC_b hS since
  have hf := pS_f hS
  have hm12 : m ≤ 12 := hS.2.2.2.2.2.1
  obtain ⟨a1, a2, a3, a4⟩ := hP
  obtain ⟨r0, r1, r2, r3, r4, r5, r6, r7, r8, r9, r10, r11⟩ := hR
  by_cases h0 : since = 0
  · subst h0
    rw [fn_X0_passString, if_neg (by rw [a4]; decide)]
    refine ⟨_, w, rfl, ⟨?_, ?_, ?_, ?_⟩, ?_, ?_, ?_⟩
    · rw [pC_1 hS, ← pC_0 hS, ← a1]; simp [upd]
    · rw [← a2]; simp [upd]
    · rw [pC_1 hS, ← pC_0 hS]; exact a3
    · simp [upd]; rfl
    · simp [upd]
    · simp [upd]
    · simp [upd]
  · have hsn := pC_s hS (since := since) (by omega)
    have hst := pW_step (c' := min (pC f k m since + 1) (pL f m)) hS a3 (by omega) (by omega)
    rw [← hsn] at hst
    have e2 : (if nI (pL f m) < nI (pC f k m since + 1) then nI (pL f m) else nI (pC f k m since + 1)) = nI (pC f k m (since + 1)) := by
      rw [hsn]
      by_cases h : pL f m < pC f k m since + 1
      · rw [if_pos ((pn_lt (by omega) (by omega)).mpr h), Nat.min_eq_right (by omega)]
      · rw [if_neg (by rw [pn_lt (by omega) (by omega)]; exact h), Nat.min_eq_left (by omega)]
    have e3 : (if nI m < nI (w + 1) then nI m else nI (w + 1)) = nI (min (w + 1) m) := by
      by_cases h : m < w + 1
      · rw [if_pos ((pn_lt (by omega) (by omega)).mpr h), Nat.min_eq_right (by omega)]
      · rw [if_neg (by rw [pn_lt (by omega) (by omega)]; exact h), Nat.min_eq_left (by omega)]
    have ew : fn_X3_countThatWidens R (nI w) = some (nI (2 ^ w - pE f)) := by
      have hf2 := hS.1
      have hE := pE_le f
      have h2w : 1 ≤ 2 ^ w := Nat.one_le_two_pow
      rw [fn_X3_countThatWidens, pn_sh1 w (by omega), r11, pn_sub (by omega)]
    have hcs := pC_b hS (since + 1)
    have hE := pE_le f
    rw [fn_X0_passString, a4, if_neg h0, if_pos (by rfl), a2, ew]
    simp only [Option.bind_some]
    rw [a1, r10, r2, pn_addL, pn_addL, e2, e3]
    by_cases hlt : pC f k m (since + 1) < 2 ^ w - pE f
    · rw [if_pos ((pn_lt (by omega) (by omega)).mpr hlt)]
      rw [if_pos hlt] at hst
      refine ⟨_, w, rfl, ⟨?_, ?_, hst, ?_⟩, ?_, ?_, ?_⟩
      · simp [upd]
      · rw [← a2]; simp [upd]
      · simp [upd, a4, h0]
      · simp [upd]
      · simp [upd]
      · simp [upd]
    · rw [if_neg (by rw [pn_lt (by omega) (by omega)]; exact hlt)]
      rw [if_neg hlt] at hst
      refine ⟨_, _, rfl, ⟨?_, ?_, hst, ?_⟩, ?_, ?_, ?_⟩
      · simp [upd]
      · simp [upd]
      · simp [upd, a4, h0]
      · simp [upd]
      · simp [upd]
      · simp [upd]
/-- pass(code): where COUNT, WIDTH and the GROUP stand behind a CODE -/
theorem pp_pass {P R : Nat → Int32} {f k m c since w g gw code : Nat} {bc : Bool} (hS : pS f k m c) (hR : pR R f k m c) (hP : pP P f k m since w) (hG : pG P g gw bc) (hcode : code < 100000) :
    ∃ P' since' w', fn_X0_pass P R (nI code) = some P' ∧ pP P' f k m since' w' ∧ pG P' (((if bc = true ∨ gw ≠ w then 0 else g) + 1) % 8) w (decide (code = 2 ^ k)) ∧ since' = (if code = 2 ^ k then 0 else if f ≠ 2 ∧ code = 2 ^ k + 1 then since else since + 1) := by
  have he := pp_ends hS hP hG
  have hb := pW_b hS hP.2.2.1
  have hkb := pS_b hS
  obtain ⟨g1, g2, g3, g4, g5⟩ := hG
  have hR' := hR
  obtain ⟨r0, r1, r2, r3, r4, r5, r6, r7, r8, r9, r10, r11⟩ := hR
  -- behind the group's count
  have key : ∀ (P0 : Nat → Int32) (g0 : Nat), pP P0 f k m since w → P0 4 = nI g0 → g0 < 8 → ∃ P' since' w', fn_X0_pass_j12 R P0 (nI code) = some P' ∧ pP P' f k m since' w' ∧ pG P' ((g0 + 1) % 8) w (decide (code = 2 ^ k)) ∧ since' = (if code = 2 ^ k then 0 else if f ≠ 2 ∧ code = 2 ^ k + 1 then since else since + 1) := by
    intro P0 g0 hP0 h4 hg0
    obtain ⟨a1, a2, a3, a4⟩ := hP0
    rw [fn_X0_pass_j12, r7, h4, pn_addL, pn_rem8 (by omega), a2]
    by_cases hc : code = 2 ^ k
    · rw [if_pos (by rw [hc]), fn_X0_pass_j50, if_pos (Or.inr rfl), if_neg (by decide)]
      obtain ⟨P2, e2, b1, b4, b5, b6⟩ := pp_beginT (P := upd (upd (upd P0 4 (nI ((g0 + 1) % 8))) 5 (nI w)) 6 1) hS hR'
      rw [e2]
      refine ⟨P2, 0, k + 1, rfl, b1, ⟨?_, Nat.mod_lt _ (by decide), ?_, by omega, ?_⟩, by rw [if_pos hc]⟩
      · rw [b4]; simp [upd]
      · rw [b5]; simp [upd]
      · rw [b6]; simp [upd, hc]; rfl
    · rw [if_neg (by rw [pn_eq (by omega) (by omega)]; exact hc), fn_X0_pass_j50, if_pos (Or.inl rfl), if_pos rfl, r8]
      have hP1 : pP (upd (upd (upd P0 4 (nI ((g0 + 1) % 8))) 5 (nI w)) 6 0) f k m since w := ⟨by rw [← a1]; simp [upd], by rw [← a2]; simp [upd], a3, by rw [← a4]; simp [upd]⟩
      by_cases hcd : f ≠ 2 ∧ code = 2 ^ k + 1
      · rw [if_pos (by rw [if_neg hcd.1, hcd.2])]
        refine ⟨_, since, w, rfl, hP1, ⟨?_, Nat.mod_lt _ (by decide), ?_, by omega, ?_⟩, by rw [if_neg hc, if_pos hcd]⟩
        · simp [upd]
        · simp [upd]
        · simp [upd, hc]; rfl
      · have hne : ¬ nI code = (if f = 2 then -1 else nI (2 ^ k + 1)) := by
          by_cases hf : f = 2
          · rw [if_pos hf]; exact pn_m1 (by omega)
          · rw [if_neg hf, pn_eq (by omega) (by omega)]; exact fun q => hcd ⟨hf, q⟩
        rw [if_neg hne]
        obtain ⟨P2, w2, e2, b1, b4, b5, b6⟩ := pp_passS hS hR' hP1
        rw [e2]
        refine ⟨P2, since + 1, w2, rfl, b1, ⟨?_, Nat.mod_lt _ (by decide), ?_, by omega, ?_⟩, by rw [if_neg hc, if_neg hcd]⟩
        · rw [b4]; simp [upd]
        · rw [b5]; simp [upd]
        · rw [b6]; simp [upd, hc]; rfl
  rw [fn_X0_pass, he]
  simp only [Option.bind_some]
  by_cases h1 : bc = true ∨ gw ≠ w
  · rw [if_pos h1, if_neg (by decide), if_pos h1]
    obtain ⟨a1, a2, a3, a4⟩ := hP
    exact key _ 0 ⟨by rw [← a1]; simp [upd], by rw [← a2]; simp [upd], a3, by rw [← a4]; simp [upd]⟩ (by simp [upd]; rfl) (by decide)
  · rw [if_neg h1, if_pos (by rfl), if_neg h1]
    exact key _ g hP g1 g2
