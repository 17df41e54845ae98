/-! PURE: a CODE of a STRING, class and reference side by side -/
theorem pc_make {U R P stA lnA : Nat → Int32} {f k m c since ba bl : Nat} (hS : pS f k m c) (hR : pR R f k m c) (hP1 : P 1 = nI (pC f k m since)) (h6 : U 6 = nI ba) (h7 : U 7 = nI bl) (h3 : pC f k m since - pF f k < 300) :
    fn_X6_makeString U R P stA lnA = some (if pL f m ≤ pC f k m since then (stA, lnA) else (upd stA (pC f k m since - pF f k) (nI ba), upd lnA (pC f k m since - pF f k) (nI (bl + 1)))) := by
  have hfb := pS_f hS
  have hcb := pC_b hS since
  have hi : gx_in (nI (pC f k m since - pF f k)) 300 := (pn_in (by omega)).mpr h3
  rw [fn_X6_makeString, hR.2.2.2.2.2.2.2.2.2.2.1, hP1, hR.2.2.2.2.2.2.2.2.2.1, pn_sub (by omega)]
  by_cases h : pL f m ≤ pC f k m since
  · rw [if_pos ((pn_le (by omega) (by omega)).mpr h), if_pos h]
  · rw [if_neg (by rw [pn_le (by omega) (by omega)]; exact h), if_neg (pn_n0 (by omega)), pn_ofN, if_neg (by rw [pn_le (by omega) (by omega)]; omega), if_pos hi, if_pos hi, pn_cl (by omega), h6, h7, pn_addL, if_neg h]
theorem pc_above {R P : Nat → Int32} {f k m c since code : Nat} (hS : pS f k m c) (hR : pR R f k m c) (hP1 : P 1 = nI (pC f k m since)) (hc : code < 100000) :
    fn_X6_isAboveCount R P (nI code) = some (nI (if pC f k m since < code ∨ (pC f k m since = pL f m ∧ pL f m ≤ code) then 1 else 0)) := by
  have hfb := pS_f hS
  have hcb := pC_b hS since
  rw [fn_X6_isAboveCount, hP1, hR.2.2.2.2.2.2.2.2.2.2.1]
  by_cases h1 : pC f k m since < code
  · rw [if_pos ((pn_lt (by omega) (by omega)).mpr h1), if_pos (Or.inl h1)]; rfl
  · rw [if_neg (by rw [pn_lt (by omega) (by omega)]; exact h1)]
    by_cases h2 : pC f k m since = pL f m
    · rw [if_pos (by rw [h2])]
      by_cases h3 : code < pL f m
      · rw [if_pos ((pn_lt (by omega) (by omega)).mpr h3), if_neg (by omega)]; rfl
      · rw [if_neg (by rw [pn_lt (by omega) (by omega)]; exact h3), if_pos (by omega)]; rfl
    · rw [if_neg (by rw [pn_eq (by omega) (by omega)]; exact h2), if_neg (by omega)]; rfl
def pFrR (M Mi : Nat → Int32) : Prop := ∀ j, j ≠ 9 → j ≠ 22 → j ≠ 23 → j ≠ 25 → j ≠ 26 → j ≠ 27 → M j = Mi j
theorem ps_take {R P U SY SYA stA lnA M sA sL out : Nat → Int32} {f k m c since w outs code : Nat} (hS : pS f k m c) (hR : pR R f k m c) (hM : pM M f k m c) (hP : pP P f k m since w) (hY : pY f k m since outs U SY SYA stA lnA M sA sL out) (hc : code < 100000) (hcs : code < pF f k → code < 2 ^ k) :
    ∃ r U' SY' SYA' stA' lnA' M' sA' sL' out', fn_X6_takeString U R P SY SYA stA lnA (nI code) = some (nI r, U', SY', SYA', stA', lnA') ∧ fn_X8_readCode M sA sL out (nI code) = some (M', sA', sL', out') ∧ M' 23 = nI r ∧ r ≤ 5 ∧ U' 8 = U 8 ∧ U' 9 = U 9 ∧ M' 22 = M 22 ∧ (∀ j, j ≠ 9 → j ≠ 23 → j ≠ 25 → j ≠ 26 → j ≠ 27 → M' j = M j) ∧ (∃ q, q < 2000 ∧ SY' 1 = nI q) ∧ (r = 0 → ∃ outs', pY f k m (since + 1) outs' U' SY' SYA' stA' lnA' M' sA' sL' out') := by
  obtain ⟨h9, m23, s1, m25, ho, hso, hA, hbef, hstr⟩ := hY
  have hfb := pS_f hS
  have hb := pS_b hS
  have hcb := pC_b hS since
  have hmade := pC_made hS since
  obtain ⟨rb, rg⟩ := pm_readCode (sA := sA) (sL := sL) (out := out) hS hM h9 (by omega) m23 hc
  by_cases hbad : pBad f k m since code
  · -- FAULT 3 or 4
    have ec : fn_X6_takeString U R P SY SYA stA lnA (nI code) = some (nI (if since = 0 then 3 else 4), U, SY, SYA, stA, lnA) := by
      rw [fn_X6_takeString, hP.2.2.2]
      rcases hbad with ⟨a1, a2⟩ | ⟨a1, a2⟩
      · rw [if_pos a1, if_neg (by decide), hR.2.2.2.2.2.2.2.2.2.1, if_neg (by rw [pn_lt (by omega) (by omega)]; omega), if_pos a1]; rfl
      · rw [if_neg (show ¬ since = 0 by omega), if_pos (by rfl), pc_above hS hR hP.1 hc, Option.bind_some, if_pos a2, if_neg (by decide), if_neg (show ¬ since = 0 by omega)]; rfl
    refine ⟨_, U, SY, SYA, stA, lnA, _, sA, sL, out, ec, rb hbad, pn_us, by split <;> omega, rfl, rfl, pn_un (by decide), fun j h1 h2 h3 h4 h5 => pn_un h2, ⟨outs, by omega, s1⟩, fun q => ?_⟩
    split at q <;> omega
  · obtain ⟨y2, hy, g1, g2, g3⟩ := pm_give (sA := sA) (sL := sL) (out := out) hS hM h9 (by omega) m25 hc
    rw [rg hbad]
    by_cases h0 : since = 0
    · -- the first one
      have hcF : code < pF f k := by
        apply Nat.lt_of_not_le
        intro q; exact hbad (Or.inl ⟨h0, q⟩)
      have hy2 : ¬ y2 = 0 := fun q => by have := hy.mp q; omega
      obtain ⟨r, U', SY', SYA', M', out', e1, e2, e3, e4, e5, e6⟩ := ps_give (since := since) (U := U) (stA := stA) (lnA := lnA) (sA := sA) (sL := sL) (y3 := nI (pC f k m since)) (a := 0) (s := 0) hS hR hM ho hc (Nat.le_refl 1) (by omega) s1 m25 m23 hA (Or.inl ⟨hcs hcF, rfl, rfl⟩) y2
      have hM' : pM M' f k m c := pM_M hM (fun j hj => e4 j (by omega) (by omega))
      rw [g1 hcF, e2, pm_194a hS hM' (by omega) (Or.inl hy2), Option.bind_some]
      have ec : fn_X6_takeString U R P SY SYA stA lnA (nI code) = some (nI r, U', SY', SYA', stA, lnA) := by
        rw [fn_X6_takeString, hP.2.2.2, if_pos h0, if_neg (by decide), hR.2.2.2.2.2.2.2.2.2.1, if_pos ((pn_lt (by omega) (by omega)).mpr hcF), fn_X6_takeString_j37, e1, Option.bind_some]
      refine ⟨r, U', SY', SYA', stA, lnA, _, sA, sL, out', ec, rfl, ?_, by rcases e6 with q | q <;> omega, ?_, ?_, ?_, fun j h1 h2 h3 h4 h5 => ?_, e5, fun hr => ?_⟩
      · rw [← e3]; simp [upd]
      · rcases e6 with ⟨-, q⟩ | ⟨-, -, q, -⟩ <;> rw [q]; simp [upd]
      · rcases e6 with ⟨-, q⟩ | ⟨-, -, q, -⟩ <;> rw [q]; simp [upd]
      · rw [← e4 22 (by decide) (by decide)]; simp [upd]
      · rw [← e4 j h3 h2]; simp [upd, h1, h4, h5]
      · rcases e6 with ⟨q, -⟩ | ⟨-, q1, q2, q3, q4, q5⟩
        · omega
        refine ⟨outs + 1, ?_, ?_, q3, ?_, q1, by omega, q5, fun _ => ⟨outs, 1, by rw [q2]; simp [upd], by rw [q2]; simp [upd], by simp [upd], by simp [upd], by omega, rfl⟩, fun s hs => ?_⟩
        · simp only [upd, if_true]; rw [e4 9 (by decide) (by decide), h9, pn_addL]
        · simp [upd]; rw [e3, hr]; rfl
        · simp [upd]; exact q4
        · rw [pC_made hS] at hs; omega
    · -- another one
      obtain ⟨ba, bl, b1, b2, b3, b4, b5, b6⟩ := hbef (by omega)
      have hy2 : y2 = 0 := hy.mpr (by omega)
      have h300 : pC f k m since - pF f k < 300 := by omega
      have hnb : ¬ (pC f k m since < code ∨ (pC f k m since = pL f m ∧ pL f m ≤ code)) := fun q => hbad (Or.inr ⟨by omega, q⟩)
      -- where the string comes from, in both
      have hsrc : ∃ l a s y4, 1 ≤ l ∧ l ≤ 400 ∧ ((code < 2 ^ k ∧ l = 1 ∧ y4 = -1) ∨ (code = pF f k + s ∧ s < 300 ∧ (if pL f m ≤ pC f k m since then (stA, lnA) else (upd stA (pC f k m since - pF f k) (nI ba), upd lnA (pC f k m since - pF f k) (nI (bl + 1)))).1 s = nI a ∧ (if pL f m ≤ pC f k m since then (stA, lnA) else (upd stA (pC f k m since - pF f k) (nI ba), upd lnA (pC f k m since - pF f k) (nI (bl + 1)))).2 s = nI l ∧ y4 = nI a ∧ a < outs)) ∧ fn_X8_give M sA sL out (nI code) = fn_X8_give_l117 gx_fuel M sA sL out (nI code) y2 (nI (pC f k m since)) y4 (nI l) (nI outs) 0 := by
        by_cases hcF : code < pF f k
        · exact ⟨1, 0, 0, -1, by omega, by omega, Or.inl ⟨hcs hcF, rfl, rfl⟩, g1 hcF⟩
        · by_cases hnew : code = pC f k m since ∧ pC f k m since < pL f m
          · refine ⟨bl + 1, ba, code - pF f k, nI ba, by omega, by omega, Or.inr ⟨by omega, by omega, ?_, ?_, rfl, by omega⟩, ?_⟩
            · rw [if_neg (by omega)]; simp [upd, hnew.1]
            · rw [if_neg (by omega)]; simp [upd, hnew.1]
            · rw [g3 (by omega) hnew.1 (by omega) hnew.2, b3, b4, pn_addL]
          · have hsm : code - pF f k < pC f k m since - pF f k := by omega
            obtain ⟨a, l, t1, t2, t3, t4, t5, t6⟩ := hstr (code - pF f k) hsm
            refine ⟨l, a, code - pF f k, nI a, by omega, by omega, Or.inr ⟨by omega, by omega, ?_, ?_, rfl, by omega⟩, ?_⟩
            · split
              · exact t1
              · show upd stA _ _ _ = _; rw [pn_un (by omega)]; exact t1
            · split
              · exact t3
              · show upd lnA _ _ _ = _; rw [pn_un (by omega)]; exact t3
            · rw [g2 (by omega) (by omega) (by omega), t2, t4]
      obtain ⟨l, a, s, y4, hl1, hl2, hsrc, eg⟩ := hsrc
      have hmk := pc_make (stA := stA) (lnA := lnA) hS hR hP.1 b1 b2 h300
      obtain ⟨r, U', SY', SYA', M', out', e1, e2, e3, e4, e5, e6⟩ := ps_give (since := since) (U := U) (sA := sA) (sL := sL) (y3 := nI (pC f k m since)) (a := a) (s := s) hS hR hM ho hc hl1 hl2 s1 m25 m23 hA hsrc y2
      have hM' : pM M' f k m c := pM_M hM (fun j hj => e4 j (by omega) (by omega))
      have ec : fn_X6_takeString U R P SY SYA stA lnA (nI code) = some (nI r, U', SY', SYA', (if pL f m ≤ pC f k m since then (stA, lnA) else (upd stA (pC f k m since - pF f k) (nI ba), upd lnA (pC f k m since - pF f k) (nI (bl + 1)))).1, (if pL f m ≤ pC f k m since then (stA, lnA) else (upd stA (pC f k m since - pF f k) (nI ba), upd lnA (pC f k m since - pF f k) (nI (bl + 1)))).2) := by
        rw [fn_X6_takeString, hP.2.2.2, if_neg h0, if_pos (by rfl), pc_above hS hR hP.1 hc, Option.bind_some, if_neg hnb, if_pos (by rfl), hmk, Option.bind_some, fn_X6_takeString_j37, e1, Option.bind_some]
      have hU8 : U' 8 = U 8 ∧ U' 9 = U 9 := by
        rcases e6 with ⟨-, q⟩ | ⟨-, -, q, -⟩ <;> rw [q]
        · exact ⟨rfl, rfl⟩
        · simp [upd]
      have hMf : ∀ j, j ≠ 9 → j ≠ 23 → j ≠ 25 → j ≠ 26 → j ≠ 27 → upd (upd (upd M' 26 (nI outs)) 27 (nI l)) 9 (M' 9 + 1) j = M j := fun j h1 h2 h3 h4 h5 => by rw [← e4 j h3 h2]; simp [upd, h1, h4, h5]
      have m9' : M' 9 + 1 = nI (since + 1) := by rw [e4 9 (by decide) (by decide), h9, pn_addL]
      rw [eg, e2]
      by_cases hfull : pL f m ≤ pC f k m since
      · rw [pm_194a hS hM' (by omega) (Or.inr hfull), Option.bind_some]
        rw [if_pos hfull] at ec
        refine ⟨r, U', SY', SYA', _, _, _, _, _, _, ec, rfl, ?_, by rcases e6 with q | q <;> omega, hU8.1, hU8.2, ?_, hMf, e5, fun hr => ?_⟩
        · rw [← e3]; simp [upd]
        · exact hMf 22 (by decide) (by decide) (by decide) (by decide) (by decide)
        · rcases e6 with ⟨q, -⟩ | ⟨-, q1, q2, q3, q4, q5⟩
          · omega
          refine ⟨outs + l, ?_, ?_, q3, ?_, q1, by omega, q5, fun _ => ⟨outs, l, by rw [q2]; simp [upd], by rw [q2]; simp [upd], by simp [upd], by simp [upd], by omega, rfl⟩, fun s hs => ?_⟩
          · simp only [upd, if_true]; rw [m9']
          · simp [upd]; rw [e3, hr]; rfl
          · simp [upd]; exact q4
          · rw [pC_made hS] at hs
            obtain ⟨a, l, t1, t2, t3, t4, t5, t6⟩ := hstr s (by omega)
            exact ⟨a, l, t1, t2, t3, t4, t5, by omega⟩
      · rw [pm_194b hS hM' hy2 hcb.1 (by omega) h300, Option.bind_some]
        rw [if_neg hfull] at ec
        refine ⟨r, U', SY', SYA', _, _, _, _, _, _, ec, rfl, ?_, by rcases e6 with q | q <;> omega, hU8.1, hU8.2, ?_, hMf, e5, fun hr => ?_⟩
        · rw [← e3]; simp [upd]
        · exact hMf 22 (by decide) (by decide) (by decide) (by decide) (by decide)
        · rcases e6 with ⟨q, -⟩ | ⟨-, q1, q2, q3, q4, q5⟩
          · omega
          refine ⟨outs + l, ?_, ?_, q3, ?_, q1, by omega, q5, fun _ => ⟨outs, l, by rw [q2]; simp [upd], by rw [q2]; simp [upd], by simp [upd], by simp [upd], by omega, rfl⟩, fun s hs => ?_⟩
          · simp only [upd, if_true]; rw [m9']
          · simp [upd]; rw [e3, hr]; rfl
          · simp [upd]; exact q4
          · rw [pC_made hS] at hs
            by_cases hsn : s = pC f k m since - pF f k
            · refine ⟨ba, bl + 1, ?_, ?_, ?_, ?_, by omega, by omega⟩
              · rw [hsn]; exact pn_us
              · rw [hsn, ← b3, ← e4 26 (by decide) (by decide)]; exact pn_us
              · rw [hsn]; exact pn_us
              · show upd sL _ _ _ = _
                rw [hsn, pn_us, e4 27 (by decide) (by decide), b4, pn_addL]
            · obtain ⟨a, l, t1, t2, t3, t4, t5, t6⟩ := hstr s (by omega)
              exact ⟨a, l, by show upd stA _ _ _ = _; rw [pn_un hsn]; exact t1, by show upd sA _ _ _ = _; rw [pn_un hsn]; exact t2, by show upd lnA _ _ _ = _; rw [pn_un hsn]; exact t3, by show upd sL _ _ _ = _; rw [pn_un hsn]; exact t4, t5, by omega⟩
