/-! The law: step by step. -/
theorem pu_law_ind {xs : Nat → Int32} {L : Nat} (hL : L ≤ 2560) (h5 : 5 ≤ L) : ∀ (n i : Nat) (X R DA DAA TB TBA K P T th tt tl tn tc CO COA WI WIA BE BEA U UP SY SYA stA lnA M row mt mc mw mb sA sL sO out : Nat → Int32), i ≤ L → L - i < 5 * n → pRel X R DA DAA TB TBA K P T th tt tl tn tc CO COA WI WIA BE BEA SY M row mt mc mw mb sA sL sO → fn_L_law_l18 xs L n X R DA DAA TB TBA K P T th tt tl tn tc CO COA WI WIA BE BEA U UP SY SYA stA lnA M row mt mc mw mb sA sL sO out (nI i) = some () := by
  intro n
  induction n with
  | zero => intro i X R DA DAA TB TBA K P T th tt tl tn tc CO COA WI WIA BE BEA U UP SY SYA stA lnA M row mt mc mw mb sA sL sO out hi hn h; omega
  | succ n ih =>
    intro i X R DA DAA TB TBA K P T th tt tl tn tc CO COA WI WIA BE BEA U UP SY SYA stA lnA M row mt mc mw mb sA sL sO out hi hn h
    have eL : Int32.ofNat L - 5 = nI (L - 5) := by rw [pn_ofN, pn_subL h5]
    by_cases hend : L < i + 5
    · rw [fn_L_law_l18, if_pos (by rw [eL, pn_lt (by omega) (by omega)]; omega)]
    have c0 : ¬ Int32.ofNat L - 5 < nI i := by rw [eL, pn_lt (by omega) (by omega)]; omega
    have g0 : gx_in (nI i) L := (pn_in (by omega)).mpr (by omega)
    have g1 : gx_in (nI i + 1) L := by rw [pn_addL]; exact (pn_in (by omega)).mpr (by omega)
    have g2 : gx_in (nI i + 2) L := by rw [pn_addL]; exact (pn_in (by omega)).mpr (by omega)
    have g3 : gx_in (nI i + 3) L := by rw [pn_addL]; exact (pn_in (by omega)).mpr (by omega)
    have g4 : gx_in (nI i + 4) L := by rw [pn_addL]; exact (pn_in (by omega)).mpr (by omega)
    obtain ⟨j, hj, hx⟩ := pn_and15 (xs (nI i).toNatClampNeg)
    by_cases q0 : j = 0
    · subst q0
      obtain ⟨v, X', R', M', e1, e2, hr⟩ := po_setting h (xs (nI i + 1).toNatClampNeg) (xs (nI i + 2).toNatClampNeg) (xs (nI i + 3).toNatClampNeg) (xs (nI i + 4).toNatClampNeg)
      rw [fn_L_law_l18, if_neg c0, if_pos g0, if_pos (by rw [hx]; rfl), if_pos g1, if_pos g2, if_pos g3, if_pos g4, e1, Option.bind_some, if_pos g1, if_pos g2, if_pos g3, if_pos g4, e2, Option.bind_some]
      dsimp only
      rw [if_pos rfl, pn_addL]
      exact ih (i + 5) X' R' DA DAA TB TBA K P T th tt tl tn tc CO COA WI WIA BE BEA U UP SY SYA stA lnA M' row mt mc mw mb sA sL sO out (by omega) (by omega) hr
    by_cases q1 : j = 1
    · subst q1
      obtain ⟨v, X', DA', DAA', M', row', e1, e2, hr⟩ := po_symbol h (xs (nI i + 1).toNatClampNeg)
      rw [fn_L_law_l18, if_neg c0, if_pos g0, if_neg (by rw [hx]; decide), if_pos (by rw [hx]; rfl), if_pos g1, e1, Option.bind_some, if_pos g1, e2, Option.bind_some]
      dsimp only
      rw [if_pos rfl, pn_addL]
      exact ih (i + 5) X' R DA' DAA' TB TBA K P T th tt tl tn tc CO COA WI WIA BE BEA U UP SY SYA stA lnA M' row' mt mc mw mb sA sL sO out (by omega) (by omega) hr
    by_cases q2 : j = 2
    · subst q2
      obtain ⟨v, X', DA', M', e1, e2, hr⟩ := po_empty h 
      rw [fn_L_law_l18, if_neg c0, if_pos g0, if_neg (by rw [hx]; decide), if_neg (by rw [hx]; decide), if_pos (by rw [hx]; rfl), e1, Option.bind_some, e2, Option.bind_some]
      dsimp only
      rw [if_pos rfl, pn_addL]
      exact ih (i + 5) X' R DA' DAA TB TBA K P T th tt tl tn tc CO COA WI WIA BE BEA U UP SY SYA stA lnA M' row mt mc mw mb sA sL sO out (by omega) (by omega) hr
    by_cases q3 : j = 3
    · subst q3
      obtain ⟨v, e1, e2⟩ := po_at h (xs (nI i + 1).toNatClampNeg)
      rw [fn_L_law_l18, if_neg c0, if_pos g0, if_neg (by rw [hx]; decide), if_neg (by rw [hx]; decide), if_neg (by rw [hx]; decide), if_pos (by rw [hx]; rfl), if_pos g1, e1, Option.bind_some, if_pos g1, e2, Option.bind_some]
      rw [if_pos rfl, pn_addL]
      exact ih (i + 5) X R DA DAA TB TBA K P T th tt tl tn tc CO COA WI WIA BE BEA U UP SY SYA stA lnA M row mt mc mw mb sA sL sO out (by omega) (by omega) h
    by_cases q4 : j = 4
    · subst q4
      obtain ⟨v, X', K', P', T', th', tt', tl', tn', tc', CO', COA', WI', WIA', BE', BEA', M', mc', mw', mb', sA', sL', sO', e1, e2, hr⟩ := po_told h (xs (nI i + 1).toNatClampNeg)
      rw [fn_L_law_l18, if_neg c0, if_pos g0, if_neg (by rw [hx]; decide), if_neg (by rw [hx]; decide), if_neg (by rw [hx]; decide), if_neg (by rw [hx]; decide), if_pos (by rw [hx]; rfl), if_pos g1, e1, Option.bind_some, if_pos g1, e2, Option.bind_some]
      dsimp only
      rw [if_pos rfl, pn_addL]
      exact ih (i + 5) X' R DA DAA TB TBA K' P' T' th' tt' tl' tn' tc' CO' COA' WI' WIA' BE' BEA' U UP SY SYA stA lnA M' row mt mc' mw' mb' sA' sL' sO' out (by omega) (by omega) hr
    by_cases q5 : j = 5
    · subst q5
      obtain ⟨v, X', K', P', T', th', tt', tl', tn', tc', CO', COA', WI', WIA', BE', BEA', M', mc', mw', mb', sA', sL', sO', e1, e2, hr⟩ := po_code h (xs (nI i + 1).toNatClampNeg) (xs (nI i + 2).toNatClampNeg)
      rw [fn_L_law_l18, if_neg c0, if_pos g0, if_neg (by rw [hx]; decide), if_neg (by rw [hx]; decide), if_neg (by rw [hx]; decide), if_neg (by rw [hx]; decide), if_neg (by rw [hx]; decide), if_pos (by rw [hx]; rfl), if_pos g1, if_pos g2, e1, Option.bind_some, if_pos g1, if_pos g2, e2, Option.bind_some]
      dsimp only
      rw [if_pos rfl, pn_addL]
      exact ih (i + 5) X' R DA DAA TB TBA K' P' T' th' tt' tl' tn' tc' CO' COA' WI' WIA' BE' BEA' U UP SY SYA stA lnA M' row mt mc' mw' mb' sA' sL' sO' out (by omega) (by omega) hr
    by_cases q6 : j = 6
    · subst q6
      obtain ⟨v, X', K', P', T', th', tt', tl', tn', tc', CO', COA', WI', WIA', BE', BEA', M', mc', mw', mb', sA', sL', sO', e1, e2, hr⟩ := po_string h (xs (nI i + 1).toNatClampNeg) (xs (nI i + 2).toNatClampNeg)
      rw [fn_L_law_l18, if_neg c0, if_pos g0, if_neg (by rw [hx]; decide), if_neg (by rw [hx]; decide), if_neg (by rw [hx]; decide), if_neg (by rw [hx]; decide), if_neg (by rw [hx]; decide), if_neg (by rw [hx]; decide), if_pos (by rw [hx]; rfl), if_pos g1, if_pos g2, e1, Option.bind_some, if_pos g1, if_pos g2, e2, Option.bind_some]
      dsimp only
      rw [if_pos rfl, pn_addL]
      exact ih (i + 5) X' R DA DAA TB TBA K' P' T' th' tt' tl' tn' tc' CO' COA' WI' WIA' BE' BEA' U UP SY SYA stA lnA M' row mt mc' mw' mb' sA' sL' sO' out (by omega) (by omega) hr
    by_cases q7 : j = 7
    · subst q7
      obtain ⟨v, X', TB', TBA', K', P', T', th', tt', tl', tn', tc', CO', COA', WI', WIA', BE', BEA', M', mt', mc', mw', mb', sA', sL', sO', e1, e2, hr⟩ := po_write h 
      rw [fn_L_law_l18, if_neg c0, if_pos g0, if_neg (by rw [hx]; decide), if_neg (by rw [hx]; decide), if_neg (by rw [hx]; decide), if_neg (by rw [hx]; decide), if_neg (by rw [hx]; decide), if_neg (by rw [hx]; decide), if_neg (by rw [hx]; decide), if_pos (by rw [hx]; rfl), e1, Option.bind_some, e2, Option.bind_some]
      dsimp only
      rw [if_pos rfl, pn_addL]
      exact ih (i + 5) X' R DA DAA TB' TBA' K' P' T' th' tt' tl' tn' tc' CO' COA' WI' WIA' BE' BEA' U UP SY SYA stA lnA M' row mt' mc' mw' mb' sA' sL' sO' out (by omega) (by omega) hr
    by_cases q8 : j = 8
    · subst q8
      obtain ⟨v, TB', TBA', M', mt', e1, e2, hr⟩ := po_more h (xs (nI i + 1).toNatClampNeg)
      rw [fn_L_law_l18, if_neg c0, if_pos g0, if_neg (by rw [hx]; decide), if_neg (by rw [hx]; decide), if_neg (by rw [hx]; decide), if_neg (by rw [hx]; decide), if_neg (by rw [hx]; decide), if_neg (by rw [hx]; decide), if_neg (by rw [hx]; decide), if_neg (by rw [hx]; decide), if_pos (by rw [hx]; rfl), if_pos g1, e1, Option.bind_some, if_pos g1, e2, Option.bind_some]
      dsimp only
      rw [if_pos rfl, pn_addL]
      exact ih (i + 5) X R DA DAA TB' TBA' K P T th tt tl tn tc CO COA WI WIA BE BEA U UP SY SYA stA lnA M' row mt' mc mw mb sA sL sO out (by omega) (by omega) hr
    by_cases q9 : j = 9
    · subst q9
      obtain ⟨v, TB', M', e1, e2, hr⟩ := po_cut h (xs (nI i + 1).toNatClampNeg)
      rw [fn_L_law_l18, if_neg c0, if_pos g0, if_neg (by rw [hx]; decide), if_neg (by rw [hx]; decide), if_neg (by rw [hx]; decide), if_neg (by rw [hx]; decide), if_neg (by rw [hx]; decide), if_neg (by rw [hx]; decide), if_neg (by rw [hx]; decide), if_neg (by rw [hx]; decide), if_neg (by rw [hx]; decide), if_pos (by rw [hx]; rfl), if_pos g1, e1, Option.bind_some, if_pos g1, e2, Option.bind_some]
      dsimp only
      rw [if_pos rfl, pn_addL]
      exact ih (i + 5) X R DA DAA TB' TBA K P T th tt tl tn tc CO COA WI WIA BE BEA U UP SY SYA stA lnA M' row mt mc mw mb sA sL sO out (by omega) (by omega) hr
    by_cases q10 : j = 10
    · subst q10
      obtain ⟨v, TBA', mt', e1, e2, hr⟩ := po_flip h (xs (nI i + 1).toNatClampNeg) (xs (nI i + 2).toNatClampNeg)
      rw [fn_L_law_l18, if_neg c0, if_pos g0, if_neg (by rw [hx]; decide), if_neg (by rw [hx]; decide), if_neg (by rw [hx]; decide), if_neg (by rw [hx]; decide), if_neg (by rw [hx]; decide), if_neg (by rw [hx]; decide), if_neg (by rw [hx]; decide), if_neg (by rw [hx]; decide), if_neg (by rw [hx]; decide), if_neg (by rw [hx]; decide), if_pos (by rw [hx]; rfl), if_pos g1, if_pos g2, e1, Option.bind_some, if_pos g1, if_pos g2, e2, Option.bind_some]
      dsimp only
      rw [if_pos rfl, pn_addL]
      exact ih (i + 5) X R DA DAA TB TBA' K P T th tt tl tn tc CO COA WI WIA BE BEA U UP SY SYA stA lnA M row mt' mc mw mb sA sL sO out (by omega) (by omega) hr
    by_cases q11 : j = 11
    · subst q11
      obtain ⟨v, e1, e2⟩ := po_octet h (xs (nI i + 1).toNatClampNeg)
      rw [fn_L_law_l18, if_neg c0, if_pos g0, if_neg (by rw [hx]; decide), if_neg (by rw [hx]; decide), if_neg (by rw [hx]; decide), if_neg (by rw [hx]; decide), if_neg (by rw [hx]; decide), if_neg (by rw [hx]; decide), if_neg (by rw [hx]; decide), if_neg (by rw [hx]; decide), if_neg (by rw [hx]; decide), if_neg (by rw [hx]; decide), if_neg (by rw [hx]; decide), if_pos (by rw [hx]; rfl), if_pos g1, e1, Option.bind_some, if_pos g1, e2, Option.bind_some]
      rw [if_pos rfl, pn_addL]
      exact ih (i + 5) X R DA DAA TB TBA K P T th tt tl tn tc CO COA WI WIA BE BEA U UP SY SYA stA lnA M row mt mc mw mb sA sL sO out (by omega) (by omega) h
    by_cases q12 : j = 12
    · subst q12
      obtain ⟨v, X', DA', DAA', U', UP', SY', SYA', stA', lnA', M', row', sA', sL', out', e1, e2, hr⟩ := po_read (U := U) (UP := UP) (SYA := SYA) (stA := stA) (lnA := lnA) (out := out) h 
      rw [fn_L_law_l18, if_neg c0, if_pos g0, if_neg (by rw [hx]; decide), if_neg (by rw [hx]; decide), if_neg (by rw [hx]; decide), if_neg (by rw [hx]; decide), if_neg (by rw [hx]; decide), if_neg (by rw [hx]; decide), if_neg (by rw [hx]; decide), if_neg (by rw [hx]; decide), if_neg (by rw [hx]; decide), if_neg (by rw [hx]; decide), if_neg (by rw [hx]; decide), if_neg (by rw [hx]; decide), if_pos (by rw [hx]; rfl), e1, Option.bind_some, e2, Option.bind_some]
      dsimp only
      rw [if_pos rfl, pn_addL]
      exact ih (i + 5) X' R DA' DAA' TB TBA K P T th tt tl tn tc CO COA WI WIA BE BEA U' UP' SY' SYA' stA' lnA' M' row' mt mc mw mb sA' sL' sO out' (by omega) (by omega) hr
    by_cases q13 : j = 13
    · subst q13
      obtain ⟨v, e1, e2⟩ := po_fault h 
      rw [fn_L_law_l18, if_neg c0, if_pos g0, if_neg (by rw [hx]; decide), if_neg (by rw [hx]; decide), if_neg (by rw [hx]; decide), if_neg (by rw [hx]; decide), if_neg (by rw [hx]; decide), if_neg (by rw [hx]; decide), if_neg (by rw [hx]; decide), if_neg (by rw [hx]; decide), if_neg (by rw [hx]; decide), if_neg (by rw [hx]; decide), if_neg (by rw [hx]; decide), if_neg (by rw [hx]; decide), if_neg (by rw [hx]; decide), if_pos (by rw [hx]; rfl), e1, Option.bind_some, e2, Option.bind_some]
      rw [if_pos rfl, pn_addL]
      exact ih (i + 5) X R DA DAA TB TBA K P T th tt tl tn tc CO COA WI WIA BE BEA U UP SY SYA stA lnA M row mt mc mw mb sA sL sO out (by omega) (by omega) h
    by_cases q14 : j = 14
    · subst q14
      rw [fn_L_law_l18, if_neg c0, if_pos g0, if_neg (by rw [hx]; decide), if_neg (by rw [hx]; decide), if_neg (by rw [hx]; decide), if_neg (by rw [hx]; decide), if_neg (by rw [hx]; decide), if_neg (by rw [hx]; decide), if_neg (by rw [hx]; decide), if_neg (by rw [hx]; decide), if_neg (by rw [hx]; decide), if_neg (by rw [hx]; decide), if_neg (by rw [hx]; decide), if_neg (by rw [hx]; decide), if_neg (by rw [hx]; decide), if_neg (by rw [hx]; decide), pn_addL]
      exact ih (i + 5) X R DA DAA TB TBA K P T th tt tl tn tc CO COA WI WIA BE BEA U UP SY SYA stA lnA M row mt mc mw mb sA sL sO out (by omega) (by omega) h
    by_cases q15 : j = 15
    · subst q15
      rw [fn_L_law_l18, if_neg c0, if_pos g0, if_neg (by rw [hx]; decide), if_neg (by rw [hx]; decide), if_neg (by rw [hx]; decide), if_neg (by rw [hx]; decide), if_neg (by rw [hx]; decide), if_neg (by rw [hx]; decide), if_neg (by rw [hx]; decide), if_neg (by rw [hx]; decide), if_neg (by rw [hx]; decide), if_neg (by rw [hx]; decide), if_neg (by rw [hx]; decide), if_neg (by rw [hx]; decide), if_neg (by rw [hx]; decide), if_neg (by rw [hx]; decide), pn_addL]
      exact ih (i + 5) X R DA DAA TB TBA K P T th tt tl tn tc CO COA WI WIA BE BEA U UP SY SYA stA lnA M row mt mc mw mb sA sL sO out (by omega) (by omega) h
    omega
