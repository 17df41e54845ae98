/-! PURE: a CODE of a STRING is read: its SYMBOLS, the new STRING -/
def pAg (k o : Nat) (SYA out : Nat → Int32) : Prop := ∀ j, j < o → SYA j = out j ∧ ∃ v, v < 2 ^ k ∧ out j = nI v
theorem pAg_add {k o v : Nat} {SYA out : Nat → Int32} (h : pAg k o SYA out) (hv : v < 2 ^ k) : pAg k (o + 1) (upd SYA o (nI v)) (upd out o (nI v)) := by
  intro j hj
  by_cases hjo : j = o
  · subst hjo; exact ⟨by simp [upd], v, hv, by simp [upd]⟩
  · obtain ⟨h1, w, h2, h3⟩ := h j (by omega)
    exact ⟨by simp [upd, hjo, h1], w, h2, by simp [upd, hjo, h3]⟩
theorem ps_copy {R stA lnA sA sL U : Nat → Int32} {k o l code a s : Nat} {x2 x3 x4 y2 y3 y4 y6 : Int32} (hl : o + l ≤ 300) (hsrc : (x4 = 0 ∧ y4 = -1 ∧ code < 2 ^ k ∧ code < 100000) ∨ (x4 = 1 ∧ x3 = nI s ∧ s < 300 ∧ stA s = nI a ∧ y4 = nI a ∧ a < o)) :
    ∀ (d n n' i : Nat) (SY SYA M out : Nat → Int32), l - i = d → d < n → d < n' → i ≤ l → SY 1 = nI (o + i) → M 25 = nI (o + i) → M 23 = 0 → pAg k (o + i) SYA out →
      ∃ SY' SYA' M' out', fn_X6_give_l70 R stA lnA n U SY SYA (nI code) x2 x3 x4 (nI l) (nI i) = some (0, upd (upd U 6 x2) 7 (nI l), SY', SYA') ∧ fn_X8_give_l117 n' M sA sL out (nI code) y2 y3 y4 (nI l) y6 (nI i) = fn_X8_give_j194 M' sA sL out' y2 y3 (nI l) y6 ∧ SY' 1 = nI (o + l) ∧ M' 25 = nI (o + l) ∧ pAg k (o + l) SYA' out' ∧ (∀ j, j ≠ 25 → M' j = M j) := by
  intro d
  induction d with
  | zero =>
    intro n n' i SY SYA M out hd hn hn' hi s1 m25 m23 hA
    obtain ⟨n, rfl⟩ : ∃ q, n = q + 1 := ⟨n - 1, by omega⟩
    obtain ⟨n', rfl⟩ : ∃ q, n' = q + 1 := ⟨n' - 1, by omega⟩
    have : i = l := by omega
    subst this
    refine ⟨SY, SYA, M, out, ?_, ?_, s1, m25, hA, fun _ _ => rfl⟩
    · rw [fn_X6_give_l70, if_pos (Int32.le_refl _)]
    · rw [fn_X8_give_l117, if_pos (Int32.le_refl _)]
  | succ d ih =>
    intro n n' i SY SYA M out hd hn hn' hi s1 m25 m23 hA
    obtain ⟨n, rfl⟩ : ∃ q, n = q + 1 := ⟨n - 1, by omega⟩
    obtain ⟨n', rfl⟩ : ∃ q, n' = q + 1 := ⟨n' - 1, by omega⟩
    -- the symbol that comes
    have go : ∀ v, v < 2 ^ k → fn_X6_give_l70 R stA lnA (n + 1) U SY SYA (nI code) x2 x3 x4 (nI l) (nI i) = fn_X6_give_j106 R stA lnA (fn_X6_give_l70 R stA lnA n) U SY SYA (nI code) x2 x3 x4 (nI l) (nI i) (nI v) → fn_X8_give_l117 (n' + 1) M sA sL out (nI code) y2 y3 y4 (nI l) y6 (nI i) = fn_X8_give_j177 (fn_X8_give_l117 n') M sA sL out (nI code) y2 y3 y4 (nI l) y6 (nI i) (nI (o + i)) (nI v) →
        ∃ SY' SYA' M' out', fn_X6_give_l70 R stA lnA (n + 1) U SY SYA (nI code) x2 x3 x4 (nI l) (nI i) = some (0, upd (upd U 6 x2) 7 (nI l), SY', SYA') ∧ fn_X8_give_l117 (n' + 1) M sA sL out (nI code) y2 y3 y4 (nI l) y6 (nI i) = fn_X8_give_j194 M' sA sL out' y2 y3 (nI l) y6 ∧ SY' 1 = nI (o + l) ∧ M' 25 = nI (o + l) ∧ pAg k (o + l) SYA' out' ∧ (∀ j, j ≠ 25 → M' j = M j) := by
      intro v hv e1 e2
      rw [e1, e2, fn_X6_give_j106, pr_add s1 (by omega) (by omega) (by omega), Option.bind_some, fn_X8_give_j177, if_pos ((pn_in (by omega)).mpr (by omega)), m25, pn_cl (by omega), pn_addL, pn_addL]
      obtain ⟨SY', SYA', M', out', a1, a2, a3, a4, a5, a6⟩ := ih n n' (i + 1) (upd SY 1 (nI (o + i + 1))) (upd SYA (o + i) (nI v)) (upd M 25 (nI (o + i + 1))) (upd out (o + i) (nI v)) (by omega) (by omega) (by omega) (by omega) (by rw [pn_us]; rfl) (by rw [pn_us]; rfl) (by rw [pn_un (by decide)]; exact m23) (pAg_add hA hv)
      exact ⟨SY', SYA', M', out', a1, a2, a3, a4, a5, fun j hj => by rw [a6 j hj, pn_un hj]⟩
    rcases hsrc with ⟨b1, b2, b3, b4⟩ | ⟨b1, b2, b3, b4, b5, b6⟩
    · refine go code b3 ?_ ?_
      · rw [fn_X6_give_l70, if_neg (by rw [pn_le (by omega) (by omega)]; omega), if_pos b1]
      · rw [fn_X8_give_l117, if_neg (by rw [pn_le (by omega) (by omega)]; omega), if_pos m23, m25, if_neg (by rw [pn_eqL (by omega) (by omega)]; omega), if_pos b2]
    · obtain ⟨h1, v, h2, h3⟩ := hA (a + i) (by omega)
      refine go v h2 ?_ ?_
      · rw [fn_X6_give_l70, if_neg (by rw [pn_le (by omega) (by omega)]; omega), if_neg (by rw [b1]; decide), b2, if_pos ((pn_in (by omega)).mpr b3), pn_cl (by omega), b4, pn_add, pr_get s1 (by omega) (by omega) (by omega), Option.bind_some, h1, h3]
      · rw [fn_X8_give_l117, if_neg (by rw [pn_le (by omega) (by omega)]; omega), if_pos m23, m25, if_neg (by rw [pn_eqL (by omega) (by omega)]; omega), b5, if_neg (pn_m1 (by omega)), pn_add, if_pos ((pn_in (by omega)).mpr (by omega)), pn_cl (by omega), h3]
theorem pm_over {sA sL : Nat → Int32} {o l code a : Nat} {y2 y3 y4 y6 : Int32} (hl : 300 < o + l) (hl2 : l ≤ 400) (ho : o ≤ 300) (hsrc : y4 = -1 ∨ (y4 = nI a ∧ a < o)) :
    ∀ (d n' i : Nat) (M out : Nat → Int32), 300 - (o + i) = d → d + 1 < n' → o + i ≤ 300 → M 25 = nI (o + i) → M 23 = 0 →
      ∃ M' out', fn_X8_give_l117 n' M sA sL out (nI code) y2 y3 y4 (nI l) y6 (nI i) = fn_X8_give_j194 M' sA sL out' y2 y3 (nI l) y6 ∧ M' 23 = nI 5 ∧ (∀ j, j ≠ 25 → j ≠ 23 → M' j = M j) := by
  intro d
  induction d with
  | zero =>
    intro n' i M out hd hn' hi m25 m23
    obtain ⟨n', rfl⟩ : ∃ q, n' = q + 1 := ⟨n' - 1, by omega⟩
    obtain ⟨n', rfl⟩ : ∃ q, n' = q + 1 := ⟨n' - 1, by omega⟩
    refine ⟨upd M 23 5, out, ?_, by rw [pn_us]; rfl, fun j h1 h2 => pn_un h2⟩
    rw [fn_X8_give_l117, if_neg (by rw [pn_le (by omega) (by omega)]; omega), if_pos m23, m25, if_pos (by rw [show o + i = 300 by omega]; rfl), fn_X8_give_l117, pn_addL]
    by_cases h : l ≤ i + 1
    · rw [if_pos ((pn_le (by omega) (by omega)).mpr h)]
    · rw [if_neg (by rw [pn_le (by omega) (by omega)]; exact h), if_neg (by rw [pn_us]; decide)]
  | succ d ih =>
    intro n' i M out hd hn' hi m25 m23
    obtain ⟨n', rfl⟩ : ∃ q, n' = q + 1 := ⟨n' - 1, by omega⟩
    have go : ∀ v : Int32, fn_X8_give_l117 (n' + 1) M sA sL out (nI code) y2 y3 y4 (nI l) y6 (nI i) = fn_X8_give_j177 (fn_X8_give_l117 n') M sA sL out (nI code) y2 y3 y4 (nI l) y6 (nI i) (nI (o + i)) v → ∃ M' out', fn_X8_give_l117 (n' + 1) M sA sL out (nI code) y2 y3 y4 (nI l) y6 (nI i) = fn_X8_give_j194 M' sA sL out' y2 y3 (nI l) y6 ∧ M' 23 = nI 5 ∧ (∀ j, j ≠ 25 → j ≠ 23 → M' j = M j) := by
      intro v e
      rw [e, fn_X8_give_j177, if_pos ((pn_in (by omega)).mpr (by omega)), m25, pn_cl (by omega), pn_addL, pn_addL]
      obtain ⟨M', out', a1, a2, a3⟩ := ih n' (i + 1) (upd M 25 (nI (o + i + 1))) (upd out (o + i) v) (by omega) (by omega) (by omega) (by rw [pn_us]; rfl) (by rw [pn_un (by decide)]; exact m23)
      exact ⟨M', out', a1, a2, fun j h1 h2 => by rw [a3 j h1 h2, pn_un h1]⟩
    rcases hsrc with b2 | ⟨b5, b6⟩
    · refine go (nI code) ?_
      rw [fn_X8_give_l117, if_neg (by rw [pn_le (by omega) (by omega)]; omega), if_pos m23, m25, if_neg (by rw [pn_eqL (by omega) (by omega)]; omega), if_pos b2]
    · refine go (out (a + i)) ?_
      rw [fn_X8_give_l117, if_neg (by rw [pn_le (by omega) (by omega)]; omega), if_pos m23, m25, if_neg (by rw [pn_eqL (by omega) (by omega)]; omega), b5, if_neg (pn_m1 (by omega)), pn_add, if_pos ((pn_in (by omega)).mpr (by omega)), pn_cl (by omega)]
/-- while nothing is at fault: SYMBOLS and STRINGS of both -/
def pY (f k m since outs : Nat) (U SY SYA stA lnA M sA sL out : Nat → Int32) : Prop := M 9 = nI since ∧ M 23 = 0 ∧ SY 1 = nI outs ∧ M 25 = nI outs ∧ outs ≤ 300 ∧ since ≤ outs ∧ pAg k outs SYA out ∧ (0 < since → ∃ ba bl, U 6 = nI ba ∧ U 7 = nI bl ∧ M 26 = nI ba ∧ M 27 = nI bl ∧ 1 ≤ bl ∧ ba + bl = outs) ∧ ∀ s, s < pC f k m since - pF f k → ∃ a l, stA s = nI a ∧ sA s = nI a ∧ lnA s = nI l ∧ sL s = nI l ∧ 2 ≤ l ∧ a + l ≤ outs
theorem pC_made {f k m c : Nat} (hS : pS f k m c) (since : Nat) : pC f k m since - pF f k = min (since - 1) (pL f m - pF f k) := by
  have := pS_f hS
  unfold pC
  omega
/-- the class gives a string of length l, the reference too; the STRING that is made is made in both already (class) or behind it (reference) -/
theorem ps_give {R U SY SYA stA lnA M sA sL out : Nat → Int32} {f k m c since outs code l a s : Nat} {y3 y4 : Int32} (hS : pS f k m c) (hR : pR R f k m c) (hM : pM M f k m c) (ho : outs ≤ 300) (hc : code < 100000) (hl1 : 1 ≤ l) (hl2 : l ≤ 400) (s1 : SY 1 = nI outs) (m25 : M 25 = nI outs) (m23 : M 23 = 0) (hA : pAg k outs SYA out)
    (hsrc : (code < 2 ^ k ∧ l = 1 ∧ y4 = -1) ∨ (code = pF f k + s ∧ s < 300 ∧ stA s = nI a ∧ lnA s = nI l ∧ y4 = nI a ∧ a < outs)) (y2 : Int32) :
    ∃ r U' SY' SYA' M' out', fn_X6_give U R SY SYA stA lnA (nI code) = some (nI r, U', SY', SYA') ∧ fn_X8_give_l117 gx_fuel M sA sL out (nI code) y2 y3 y4 (nI l) (nI outs) 0 = fn_X8_give_j194 M' sA sL out' y2 y3 (nI l) (nI outs) ∧ M' 23 = nI r ∧ (∀ j, j ≠ 25 → j ≠ 23 → M' j = M j) ∧ (∃ q, q < 2000 ∧ SY' 1 = nI q) ∧
      ((r = 5 ∧ U' = U) ∨ (r = 0 ∧ outs + l ≤ 300 ∧ U' = upd (upd U 6 (nI outs)) 7 (nI l) ∧ SY' 1 = nI (outs + l) ∧ M' 25 = nI (outs + l) ∧ pAg k (outs + l) SYA' out')) := by
  have hfb := pS_f hS
  have hb := pS_b hS
  -- the class's road to its loop
  have ec : ∃ x3 x4, fn_X6_give U R SY SYA stA lnA (nI code) = (if nI outs + nI l ≤ 300 then fn_X6_give_l70 R stA lnA gx_fuel U SY SYA (nI code) (nI outs) x3 x4 (nI l) 0 else some (5, U, SY, SYA)) ∧ ((x4 = 0 ∧ y4 = -1 ∧ code < 2 ^ k ∧ code < 100000) ∨ (x4 = 1 ∧ x3 = nI s ∧ s < 300 ∧ stA s = nI a ∧ y4 = nI a ∧ a < outs)) := by
    rcases hsrc with ⟨h1, h2, h3⟩ | ⟨h1, h2, h3, h4, h5, h6⟩
    · subst h2
      refine ⟨nI code - nI (pF f k), 0, ?_, Or.inl ⟨rfl, h3, h1, hc⟩⟩
      rw [fn_X6_give, pr_size s1, Option.bind_some, hR.2.2.2.2.2.2.2.2.2.1, if_pos (pk_sneg (by omega) (by omega)), fn_X6_give_j35, fn_X6_give_j36, if_pos rfl, fn_X6_give_j53]
      rfl
    · refine ⟨nI s, 1, ?_, Or.inr ⟨rfl, rfl, h2, h3, h5, h6⟩⟩
      rw [fn_X6_give, pr_size s1, Option.bind_some, hR.2.2.2.2.2.2.2.2.2.1, pn_sub (by omega), show code - pF f k = s by omega, if_neg (pn_n0 (by omega)), pn_ofN, if_neg (by rw [pn_le (by omega) (by omega)]; omega), fn_X6_give_j36, if_neg (by decide), if_pos ((pn_in (by omega)).mpr h2), pn_cl (by omega), h4, fn_X6_give_j53]
  obtain ⟨x3, x4, ec, hs⟩ := ec
  rw [ec, pn_add]
  by_cases hov : outs + l ≤ 300
  · rw [if_pos ((pn_leL (by omega) (by omega)).mpr hov)]
    obtain ⟨SY', SYA', M', out', a1, a2, a3, a4, a5, a6⟩ := ps_copy (R := R) (lnA := lnA) (sA := sA) (sL := sL) (U := U) (x2 := nI outs) (y2 := y2) (y3 := y3) (y6 := nI outs) hov hs l gx_fuel gx_fuel 0 SY SYA M out (by omega) (by show _ < 5000; omega) (by show _ < 5000; omega) (by omega) s1 m25 m23 hA
    exact ⟨0, _, SY', SYA', M', out', a1, a2, by rw [a6 23 (by decide), m23]; rfl, fun j h1 h2 => a6 j h1, ⟨outs + l, by omega, a3⟩, Or.inr ⟨rfl, hov, rfl, a3, a4, a5⟩⟩
  · rw [if_neg (by rw [pn_leL (by omega) (by omega)]; exact hov)]
    obtain ⟨M', out', a1, a2, a3⟩ := pm_over (sA := sA) (sL := sL) (code := code) (y2 := y2) (y3 := y3) (y6 := nI outs) (a := a) (by omega) hl2 ho (by rcases hsrc with ⟨-, -, h3⟩ | ⟨-, -, -, -, h5, h6⟩; exact Or.inl h3; exact Or.inr ⟨h5, h6⟩) (300 - outs) gx_fuel 0 M out (by omega) (by show _ < 5000; omega) (by omega) m25 m23
    exact ⟨5, U, SY, SYA, M', out', rfl, a1, a2, a3, ⟨outs, by omega, s1⟩, Or.inl ⟨rfl, rfl⟩⟩
