/-! told, code, string. -/
theorem po_told {X R DA DAA TB TBA K P T th tt tl tn tc CO COA WI WIA BE BEA SY M row mt mc mw mb sA sL sO : Nat → Int32} (h : pRel X R DA DAA TB TBA K P T th tt tl tn tc CO COA WI WIA BE BEA SY M row mt mc mw mb sA sL sO) (a1 : Int32) : ∃ (v : Int32) (X' K' P' T' th' tt' tl' tn' tc' CO' COA' WI' WIA' BE' BEA' M' mc' mw' mb' sA' sL' sO' : Nat → Int32), fn_X7_told X R DA DAA TB K P T th tt tl tn tc CO COA WI WIA BE BEA a1 = some (v, X', K', P', T', th', tt', tl', tn', tc', CO', COA', WI', WIA', BE', BEA') ∧ fn_X8_told M row mc mw mb sA sL sO a1 = some (v, M', mc', mw', mb', sA', sL', sO') ∧ pRel X' R DA DAA TB TBA K' P' T' th' tt' tl' tn' tc' CO' COA' WI' WIA' BE' BEA' SY M' row mt mc' mw' mb' sA' sL' sO' := by
  obtain ⟨f, k, m, c, sz, D, nb, by_, hS, hR, hM, hd, ht, h6, hz, hc, hl⟩ := id h
  obtain ⟨X', K', P', T', th', tt', tl', tn', tc', CO', COA', WI', WIA', BE', BEA', M', mc', mw', mb', sA', sL', sO', e1, e2, hfin, hc', hl', x6, mf⟩ := ps_packed hS hR hM hd hc hl
  have hN : pRel X R DA DAA TB TBA K P T th tt tl tn tc CO COA WI WIA BE BEA SY M' row mt mc' mw' mb' sA' sL' sO' := ⟨f, k, m, c, sz, D, nb, by_, hS, hR, pM_M hM (fun j hj => mf j (by omega) (by omega) (by omega) (by omega) (by omega) (by omega) (by omega)), pDat_M hd (mf 5 (by decide) (by decide) (by decide) (by decide) (by decide) (by decide) (by decide)), pTp_M ht (mf 7 (by decide) (by decide) (by decide) (by decide) (by decide) (by decide) (by decide)), by rw [mf 8 (by decide) (by decide) (by decide) (by decide) (by decide) (by decide) (by decide)]; exact h6, hz, hc, hl'⟩
  have hP : pRel X' R DA DAA TB TBA K' P' T' th' tt' tl' tn' tc' CO' COA' WI' WIA' BE' BEA' SY M' row mt mc' mw' mb' sA' sL' sO' := ⟨f, k, m, c, sz, D, nb, by_, hS, hR, pM_M hM (fun j hj => mf j (by omega) (by omega) (by omega) (by omega) (by omega) (by omega) (by omega)), pDat_M hd (mf 5 (by decide) (by decide) (by decide) (by decide) (by decide) (by decide) (by decide)), pTp_M ht (mf 7 (by decide) (by decide) (by decide) (by decide) (by decide) (by decide) (by decide)), by rw [x6, mf 8 (by decide) (by decide) (by decide) (by decide) (by decide) (by decide) (by decide)]; exact h6, hz, hc', hl'⟩
  obtain ⟨many, bits, st, cl, cn, wn, bn, sa, sl, so, ⟨o1, o2, o3, o4, o5, o6, o7, o8⟩, hmany, k7, m15, hD, hT, hMd, -⟩ := id hfin
  have v0 : M' 5 = DA 1 := (mf 5 (by decide) (by decide) (by decide) (by decide) (by decide) (by decide) (by decide)).trans (hd.2.1.trans hd.1.symm)
  have v1 : M' 0 = R 0 := (mf 0 (by decide) (by decide) (by decide) (by decide) (by decide) (by decide) (by decide)).trans (hM.1.trans hR.1.symm)
  have v2 : M' 1 = R 1 := (mf 1 (by decide) (by decide) (by decide) (by decide) (by decide) (by decide) (by decide)).trans (hM.2.1.trans hR.2.1.symm)
  have v3 : M' 2 = R 2 := (mf 2 (by decide) (by decide) (by decide) (by decide) (by decide) (by decide) (by decide)).trans (hM.2.2.1.trans hR.2.2.1.symm)
  have v4 : M' 3 = R 3 := (mf 3 (by decide) (by decide) (by decide) (by decide) (by decide) (by decide) (by decide)).trans (hM.2.2.2.trans hR.2.2.2.1.symm)
  have v5 : M' 7 = TB 1 := (mf 7 (by decide) (by decide) (by decide) (by decide) (by decide) (by decide) (by decide)).trans (ht.2.1.trans ht.1.symm)
  have v6 : M' 13 = CO' 1 := o5.trans o2.symm
  have v7 : M' 14 = K' 6 := o6.trans o1.symm
  have v8 : M' 20 = T' 6 := hMd.1.trans hT.1.symm
  have v9 : M' 15 = K' 7 := m15.trans k7.symm
  by_cases q0 : a1 = 0
  · refine ⟨DA 1, X, K, P, T, th, tt, tl, tn, tc, CO, COA, WI, WIA, BE, BEA, M', mc', mw', mb', sA', sL', sO', ?_, ?_, hN⟩
    · rw [fn_X7_told, if_pos q0, fn_X2_size, Option.bind_some]
    · rw [fn_X8_told, e2, Option.bind_some, if_pos q0]
      exact congrArg (fun z => some (z, M', mc', mw', mb', sA', sL', sO')) v0
  by_cases q1 : a1 = 1
  · refine ⟨R 0, X, K, P, T, th, tt, tl, tn, tc, CO, COA, WI, WIA, BE, BEA, M', mc', mw', mb', sA', sL', sO', ?_, ?_, hN⟩
    · rw [fn_X7_told, if_neg q0, if_pos q1]
    · rw [fn_X8_told, e2, Option.bind_some, if_neg q0, if_pos q1]
      exact congrArg (fun z => some (z, M', mc', mw', mb', sA', sL', sO')) v1
  by_cases q2 : a1 = 2
  · refine ⟨R 1, X, K, P, T, th, tt, tl, tn, tc, CO, COA, WI, WIA, BE, BEA, M', mc', mw', mb', sA', sL', sO', ?_, ?_, hN⟩
    · rw [fn_X7_told, if_neg q0, if_neg q1, if_pos q2]
    · rw [fn_X8_told, e2, Option.bind_some, if_neg q0, if_neg q1, if_pos q2]
      exact congrArg (fun z => some (z, M', mc', mw', mb', sA', sL', sO')) v2
  by_cases q3 : a1 = 3
  · refine ⟨R 2, X, K, P, T, th, tt, tl, tn, tc, CO, COA, WI, WIA, BE, BEA, M', mc', mw', mb', sA', sL', sO', ?_, ?_, hN⟩
    · rw [fn_X7_told, if_neg q0, if_neg q1, if_neg q2, if_pos q3]
    · rw [fn_X8_told, e2, Option.bind_some, if_neg q0, if_neg q1, if_neg q2, if_pos q3]
      exact congrArg (fun z => some (z, M', mc', mw', mb', sA', sL', sO')) v3
  by_cases q4 : a1 = 4
  · refine ⟨R 3, X, K, P, T, th, tt, tl, tn, tc, CO, COA, WI, WIA, BE, BEA, M', mc', mw', mb', sA', sL', sO', ?_, ?_, hN⟩
    · rw [fn_X7_told, if_neg q0, if_neg q1, if_neg q2, if_neg q3, if_pos q4]
    · rw [fn_X8_told, e2, Option.bind_some, if_neg q0, if_neg q1, if_neg q2, if_neg q3, if_pos q4]
      exact congrArg (fun z => some (z, M', mc', mw', mb', sA', sL', sO')) v4
  by_cases q5 : a1 = 5
  · refine ⟨TB 1, X, K, P, T, th, tt, tl, tn, tc, CO, COA, WI, WIA, BE, BEA, M', mc', mw', mb', sA', sL', sO', ?_, ?_, hN⟩
    · rw [fn_X7_told, if_neg q0, if_neg q1, if_neg q2, if_neg q3, if_neg q4, if_pos q5, fn_X2_size, Option.bind_some]
    · rw [fn_X8_told, e2, Option.bind_some, if_neg q0, if_neg q1, if_neg q2, if_neg q3, if_neg q4, if_pos q5]
      exact congrArg (fun z => some (z, M', mc', mw', mb', sA', sL', sO')) v5
  by_cases q6 : a1 = 6
  · refine ⟨CO' 1, X', K', P', T', th', tt', tl', tn', tc', CO', COA', WI', WIA', BE', BEA', M', mc', mw', mb', sA', sL', sO', ?_, ?_, hP⟩
    · rw [fn_X7_told, if_neg q0, if_neg q1, if_neg q2, if_neg q3, if_neg q4, if_neg q5, if_pos q6, e1, Option.bind_some, fn_X2_size, Option.bind_some]
    · rw [fn_X8_told, e2, Option.bind_some, if_neg q0, if_neg q1, if_neg q2, if_neg q3, if_neg q4, if_neg q5, if_pos q6]
      exact congrArg (fun z => some (z, M', mc', mw', mb', sA', sL', sO')) v6
  by_cases q7 : a1 = 7
  · refine ⟨K' 6, X', K', P', T', th', tt', tl', tn', tc', CO', COA', WI', WIA', BE', BEA', M', mc', mw', mb', sA', sL', sO', ?_, ?_, hP⟩
    · rw [fn_X7_told, if_neg q0, if_neg q1, if_neg q2, if_neg q3, if_neg q4, if_neg q5, if_neg q6, if_pos q7, e1, Option.bind_some]
    · rw [fn_X8_told, e2, Option.bind_some, if_neg q0, if_neg q1, if_neg q2, if_neg q3, if_neg q4, if_neg q5, if_neg q6, if_pos q7]
      exact congrArg (fun z => some (z, M', mc', mw', mb', sA', sL', sO')) v7
  by_cases q8 : a1 = 8
  · refine ⟨T' 6, X', K', P', T', th', tt', tl', tn', tc', CO', COA', WI', WIA', BE', BEA', M', mc', mw', mb', sA', sL', sO', ?_, ?_, hP⟩
    · rw [fn_X7_told, if_neg q0, if_neg q1, if_neg q2, if_neg q3, if_neg q4, if_neg q5, if_neg q6, if_neg q7, if_pos q8, e1, Option.bind_some]
    · rw [fn_X8_told, e2, Option.bind_some, if_neg q0, if_neg q1, if_neg q2, if_neg q3, if_neg q4, if_neg q5, if_neg q6, if_neg q7, if_pos q8]
      exact congrArg (fun z => some (z, M', mc', mw', mb', sA', sL', sO')) v8
  by_cases q9 : a1 = 9
  · refine ⟨K' 7, X', K', P', T', th', tt', tl', tn', tc', CO', COA', WI', WIA', BE', BEA', M', mc', mw', mb', sA', sL', sO', ?_, ?_, hP⟩
    · rw [fn_X7_told, if_neg q0, if_neg q1, if_neg q2, if_neg q3, if_neg q4, if_neg q5, if_neg q6, if_neg q7, if_neg q8, if_pos q9, e1, Option.bind_some]
    · rw [fn_X8_told, e2, Option.bind_some, if_neg q0, if_neg q1, if_neg q2, if_neg q3, if_neg q4, if_neg q5, if_neg q6, if_neg q7, if_neg q8, if_pos q9]
      exact congrArg (fun z => some (z, M', mc', mw', mb', sA', sL', sO')) v9
  refine ⟨-2, X, K, P, T, th, tt, tl, tn, tc, CO, COA, WI, WIA, BE, BEA, M', mc', mw', mb', sA', sL', sO', ?_, ?_, hN⟩
  · rw [fn_X7_told, if_neg q0, if_neg q1, if_neg q2, if_neg q3, if_neg q4, if_neg q5, if_neg q6, if_neg q7, if_neg q8, if_neg q9]
  · rw [fn_X8_told, e2, Option.bind_some, if_neg q0, if_neg q1, if_neg q2, if_neg q3, if_neg q4, if_neg q5, if_neg q6, if_neg q7, if_neg q8, if_neg q9]
theorem pi_two (x : Int32) : (x = 0 ∧ fn_X8_in x 0 2 = some 1) ∨ (x = 1 ∧ fn_X8_in x 0 2 = some 1) ∨ (x = 2 ∧ fn_X8_in x 0 2 = some 1) ∨ (¬ x = 0 ∧ ¬ x = 1 ∧ ¬ x = 2 ∧ fn_X8_in x 0 2 = some 0) := by
  by_cases h0 : x = 0
  · subst h0; exact Or.inl ⟨rfl, rfl⟩
  by_cases h1 : x = 1
  · subst h1; exact Or.inr (Or.inl ⟨rfl, rfl⟩)
  by_cases h2 : x = 2
  · subst h2; exact Or.inr (Or.inr (Or.inl ⟨rfl, rfl⟩))
  refine Or.inr (Or.inr (Or.inr ⟨h0, h1, h2, ?_⟩))
  rcases pn_case x with h | ⟨a, ha, rfl⟩
  · exact pi_N h
  · have := pi_in ha (show 2 < 2147483648 by decide)
    rw [if_neg] at this
    · exact this
    · intro hh
      have : a = 0 ∨ a = 1 ∨ a = 2 := by omega
      rcases this with rfl | rfl | rfl
      · exact h0 rfl
      · exact h1 rfl
      · exact h2 rfl
theorem po_code {X R DA DAA TB TBA K P T th tt tl tn tc CO COA WI WIA BE BEA SY M row mt mc mw mb sA sL sO : Nat → Int32} (h : pRel X R DA DAA TB TBA K P T th tt tl tn tc CO COA WI WIA BE BEA SY M row mt mc mw mb sA sL sO) (a1 a2 : Int32) : ∃ (v : Int32) (X' K' P' T' th' tt' tl' tn' tc' CO' COA' WI' WIA' BE' BEA' M' mc' mw' mb' sA' sL' sO' : Nat → Int32), fn_X7_code X R DA DAA K P T th tt tl tn tc CO COA WI WIA BE BEA a1 a2 = some (v, X', K', P', T', th', tt', tl', tn', tc', CO', COA', WI', WIA', BE', BEA') ∧ fn_X8_code M row mc mw mb sA sL sO a1 a2 = some (v, M', mc', mw', mb', sA', sL', sO') ∧ pRel X' R DA DAA TB TBA K' P' T' th' tt' tl' tn' tc' CO' COA' WI' WIA' BE' BEA' SY M' row mt mc' mw' mb' sA' sL' sO' := by
  obtain ⟨f, k, m, c, sz, D, nb, by_, hS, hR, hM, hd, ht, h6, hz, hc, hl⟩ := id h
  obtain ⟨X', K', P', T', th', tt', tl', tn', tc', CO', COA', WI', WIA', BE', BEA', M', mc', mw', mb', sA', sL', sO', e1, e2, hfin, hc', hl', x6, mf⟩ := ps_packed hS hR hM hd hc hl
  have hN : pRel X R DA DAA TB TBA K P T th tt tl tn tc CO COA WI WIA BE BEA SY M' row mt mc' mw' mb' sA' sL' sO' := ⟨f, k, m, c, sz, D, nb, by_, hS, hR, pM_M hM (fun j hj => mf j (by omega) (by omega) (by omega) (by omega) (by omega) (by omega) (by omega)), pDat_M hd (mf 5 (by decide) (by decide) (by decide) (by decide) (by decide) (by decide) (by decide)), pTp_M ht (mf 7 (by decide) (by decide) (by decide) (by decide) (by decide) (by decide) (by decide)), by rw [mf 8 (by decide) (by decide) (by decide) (by decide) (by decide) (by decide) (by decide)]; exact h6, hz, hc, hl'⟩
  have hP : pRel X' R DA DAA TB TBA K' P' T' th' tt' tl' tn' tc' CO' COA' WI' WIA' BE' BEA' SY M' row mt mc' mw' mb' sA' sL' sO' := ⟨f, k, m, c, sz, D, nb, by_, hS, hR, pM_M hM (fun j hj => mf j (by omega) (by omega) (by omega) (by omega) (by omega) (by omega) (by omega)), pDat_M hd (mf 5 (by decide) (by decide) (by decide) (by decide) (by decide) (by decide) (by decide)), pTp_M ht (mf 7 (by decide) (by decide) (by decide) (by decide) (by decide) (by decide) (by decide)), by rw [x6, mf 8 (by decide) (by decide) (by decide) (by decide) (by decide) (by decide) (by decide)]; exact h6, hz, hc', hl'⟩
  obtain ⟨many, bits, st, cl, cn, wn, bn, sa, sl, so, ⟨o1, o2, o3, o4, o5, o6, o7, o8⟩, hmany, k7, m15, hD, hT, hMd, -⟩ := id hfin
  rcases pi_two a2 with ⟨rfl, ea⟩ | ⟨rfl, ea⟩ | ⟨rfl, ea⟩ | ⟨n0, n1, n2, ea⟩
  · rcases pn_case a1 with hn | ⟨a, ha, rfl⟩
    · refine ⟨-1, X', K', P', T', th', tt', tl', tn', tc', CO', COA', WI', WIA', BE', BEA', M', mc', mw', mb', sA', sL', sO', ?_, ?_, hP⟩
      · rw [fn_X7_code, if_pos rfl, e1, Option.bind_some, pr_getN hn, Option.bind_some]
      · rw [fn_X8_code, ea, Option.bind_some, if_neg (by decide), e2, Option.bind_some, pi_N hn, Option.bind_some, if_pos rfl]
    · by_cases hs : a < many
      · refine ⟨COA' a, X', K', P', T', th', tt', tl', tn', tc', CO', COA', WI', WIA', BE', BEA', M', mc', mw', mb', sA', sL', sO', ?_, ?_, hP⟩
        · rw [fn_X7_code, if_pos rfl, e1, Option.bind_some]
          dsimp only
          rw [pr_get o2 (by omega) (by decide) hs, Option.bind_some]
        · rw [fn_X8_code, ea, Option.bind_some, if_neg (by decide), e2, Option.bind_some]
          dsimp only
          rw [o5, pi_last ha (by omega), Option.bind_some, if_pos hs, if_neg (by decide), if_pos rfl, if_pos ((pn_in ha).mpr (by omega)), pn_cl ha, (o8 a hs).1.2.1, (o8 a hs).1.1]
      · refine ⟨-1, X', K', P', T', th', tt', tl', tn', tc', CO', COA', WI', WIA', BE', BEA', M', mc', mw', mb', sA', sL', sO', ?_, ?_, hP⟩
        · rw [fn_X7_code, if_pos rfl, e1, Option.bind_some]
          dsimp only
          rw [pr_getF o2 ha (by omega) (by omega), Option.bind_some]
        · rw [fn_X8_code, ea, Option.bind_some, if_neg (by decide), e2, Option.bind_some]
          dsimp only
          rw [o5, pi_last ha (by omega), Option.bind_some, if_neg hs, if_pos rfl]
  · rcases pn_case a1 with hn | ⟨a, ha, rfl⟩
    · refine ⟨-1, X', K', P', T', th', tt', tl', tn', tc', CO', COA', WI', WIA', BE', BEA', M', mc', mw', mb', sA', sL', sO', ?_, ?_, hP⟩
      · rw [fn_X7_code, if_neg (by decide), if_pos rfl, e1, Option.bind_some, pr_getN hn, Option.bind_some]
      · rw [fn_X8_code, ea, Option.bind_some, if_neg (by decide), e2, Option.bind_some, pi_N hn, Option.bind_some, if_pos rfl]
    · by_cases hs : a < many
      · refine ⟨WIA' a, X', K', P', T', th', tt', tl', tn', tc', CO', COA', WI', WIA', BE', BEA', M', mc', mw', mb', sA', sL', sO', ?_, ?_, hP⟩
        · rw [fn_X7_code, if_neg (by decide), if_pos rfl, e1, Option.bind_some]
          dsimp only
          rw [pr_get o3 (by omega) (by decide) hs, Option.bind_some]
        · rw [fn_X8_code, ea, Option.bind_some, if_neg (by decide), e2, Option.bind_some]
          dsimp only
          rw [o5, pi_last ha (by omega), Option.bind_some, if_pos hs, if_neg (by decide), if_neg (by decide), if_pos rfl, if_pos ((pn_in ha).mpr (by omega)), pn_cl ha, (o8 a hs).2.1.2.1, (o8 a hs).2.1.1]
      · refine ⟨-1, X', K', P', T', th', tt', tl', tn', tc', CO', COA', WI', WIA', BE', BEA', M', mc', mw', mb', sA', sL', sO', ?_, ?_, hP⟩
        · rw [fn_X7_code, if_neg (by decide), if_pos rfl, e1, Option.bind_some]
          dsimp only
          rw [pr_getF o3 ha (by omega) (by omega), Option.bind_some]
        · rw [fn_X8_code, ea, Option.bind_some, if_neg (by decide), e2, Option.bind_some]
          dsimp only
          rw [o5, pi_last ha (by omega), Option.bind_some, if_neg hs, if_pos rfl]
  · rcases pn_case a1 with hn | ⟨a, ha, rfl⟩
    · refine ⟨-1, X', K', P', T', th', tt', tl', tn', tc', CO', COA', WI', WIA', BE', BEA', M', mc', mw', mb', sA', sL', sO', ?_, ?_, hP⟩
      · rw [fn_X7_code, if_neg (by decide), if_neg (by decide), if_pos rfl, e1, Option.bind_some, pr_getN hn, Option.bind_some]
      · rw [fn_X8_code, ea, Option.bind_some, if_neg (by decide), e2, Option.bind_some, pi_N hn, Option.bind_some, if_pos rfl]
    · by_cases hs : a < many
      · refine ⟨BEA' a, X', K', P', T', th', tt', tl', tn', tc', CO', COA', WI', WIA', BE', BEA', M', mc', mw', mb', sA', sL', sO', ?_, ?_, hP⟩
        · rw [fn_X7_code, if_neg (by decide), if_neg (by decide), if_pos rfl, e1, Option.bind_some]
          dsimp only
          rw [pr_get o4 (by omega) (by decide) hs, Option.bind_some]
        · rw [fn_X8_code, ea, Option.bind_some, if_neg (by decide), e2, Option.bind_some]
          dsimp only
          rw [o5, pi_last ha (by omega), Option.bind_some, if_pos hs, if_neg (by decide), if_neg (by decide), if_neg (by decide), if_pos ((pn_in ha).mpr (by omega)), pn_cl ha, (o8 a hs).2.2.1.2.1, (o8 a hs).2.2.1.1]
      · refine ⟨-1, X', K', P', T', th', tt', tl', tn', tc', CO', COA', WI', WIA', BE', BEA', M', mc', mw', mb', sA', sL', sO', ?_, ?_, hP⟩
        · rw [fn_X7_code, if_neg (by decide), if_neg (by decide), if_pos rfl, e1, Option.bind_some]
          dsimp only
          rw [pr_getF o4 ha (by omega) (by omega), Option.bind_some]
        · rw [fn_X8_code, ea, Option.bind_some, if_neg (by decide), e2, Option.bind_some]
          dsimp only
          rw [o5, pi_last ha (by omega), Option.bind_some, if_neg hs, if_pos rfl]
  · refine ⟨-2, X, K, P, T, th, tt, tl, tn, tc, CO, COA, WI, WIA, BE, BEA, M, mc, mw, mb, sA, sL, sO, ?_, ?_, h⟩
    · rw [fn_X7_code, if_neg n0, if_neg n1, if_neg n2]
    · rw [fn_X8_code, ea, Option.bind_some, if_pos rfl]
