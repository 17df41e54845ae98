/-! string and write. -/
theorem pi_off {F st : Nat} (hF : F ≤ 600) (hst : st ≤ 300) (x : Int32) : (∃ a, F ≤ a ∧ a < F + st ∧ x = nI a ∧ fn_X8_in (x - nI F) 0 (nI st - 1) = some 1 ∧ x - nI F = nI (a - F)) ∨ ((x < 0 ∨ ∃ a, a < 2147483648 ∧ x = nI a ∧ ¬ (F ≤ a ∧ a < F + st)) ∧ fn_X8_in (x - nI F) 0 (nI st - 1) = some 0) := by
  rcases pn_case (x - nI F) with hn | ⟨d, hd, e⟩
  · refine Or.inr ⟨?_, pi_N hn⟩
    rcases pn_case x with h | ⟨a, ha, rfl⟩
    · exact Or.inl h
    · refine Or.inr ⟨a, ha, rfl, fun h => ?_⟩
      rw [pn_sub h.1] at hn
      exact pn_n0 (by omega) hn
  · by_cases hs : d < st
    · refine Or.inl ⟨d + F, by omega, by omega, ?_, ?_, ?_⟩
      · rw [← pn_add, ← e, Int32.sub_add_cancel]
      · rw [e, pi_last hd (by omega), if_pos hs]
      · rw [e, show d + F - F = d by omega]
    · refine Or.inr ⟨?_, by rw [e, pi_last hd (by omega), if_neg hs]⟩
      rcases pn_case x with h | ⟨a, ha, rfl⟩
      · exact Or.inl h
      · refine Or.inr ⟨a, ha, rfl, fun h => ?_⟩
        rw [pn_sub h.1, pn_eq (by omega) hd] at e
        omega
theorem pi_sym {R M : Nat → Int32} {f k m c : Nat} (hS : pS f k m c) (hR : pR R f k m c) (hM : pM M f k m c) (x : Int32) : (∃ a, a < 2 ^ k ∧ x = nI a ∧ fn_X3_isSymbol R x = some 1 ∧ fn_X8_in x 0 ((1 <<< ((M 1) &&& 31)) - 1) = some 1) ∨ (fn_X3_isSymbol R x = some 0 ∧ fn_X8_in x 0 ((1 <<< ((M 1) &&& 31)) - 1) = some 0) := by
  have hb := pS_b hS
  have hk : k < 31 := by have := hS.2.2.1; omega
  rw [hM.2.1, pn_sh1 k hk]
  rcases pn_case x with hn | ⟨a, ha, rfl⟩
  · exact Or.inr ⟨pt_symN hn, pi_N hn⟩
  · rw [pt_sym hS hR ha, pi_last ha (by omega)]
    by_cases h : a < 2 ^ k
    · rw [if_pos h, if_pos h]
      exact Or.inl ⟨a, h, rfl, rfl, rfl⟩
    · rw [if_neg h, if_neg h]
      exact Or.inr ⟨rfl, rfl⟩
theorem pi_slot {R T : Nat → Int32} {f k m c st : Nat} (hS : pS f k m c) (hR : pR R f k m c) (ht : T 6 = nI st) (hst : st ≤ 300) {x : Int32} (h : x < 0 ∨ ∃ a, a < 2147483648 ∧ x = nI a ∧ ¬ (pF f k ≤ a ∧ a < pF f k + st)) : fn_X4_slotOf T R x = some (-1) := by
  rcases h with hn | ⟨a, ha, rfl, h⟩
  · exact pt_slotN hS hR hn
  · rw [pt_slot hS hR ht hst ha, if_neg h]
theorem po_string {X R DA DAA TB TBA K P T th tt tl tn tc CO COA WI WIA BE BEA SY M row mt mc mw mb sA sL sO : Nat → Int32} (h : pRel X R DA DAA TB TBA K P T th tt tl tn tc CO COA WI WIA BE BEA SY M row mt mc mw mb sA sL sO) (a1 a2 : Int32) : ∃ (v : Int32) (X' K' P' T' th' tt' tl' tn' tc' CO' COA' WI' WIA' BE' BEA' M' mc' mw' mb' sA' sL' sO' : Nat → Int32), fn_X7_string X R DA DAA K P T th tt tl tn tc CO COA WI WIA BE BEA a1 a2 = some (v, X', K', P', T', th', tt', tl', tn', tc', CO', COA', WI', WIA', BE', BEA') ∧ fn_X8_string M row mc mw mb sA sL sO a1 a2 = some (v, M', mc', mw', mb', sA', sL', sO') ∧ pRel X' R DA DAA TB TBA K' P' T' th' tt' tl' tn' tc' CO' COA' WI' WIA' BE' BEA' SY M' row mt mc' mw' mb' sA' sL' sO' := by
  obtain ⟨f, k, m, c, sz, D, nb, by_, hS, hR, hM, hd, ht, h6, hz, hc, hl⟩ := id h
  obtain ⟨X', K', P', T', th', tt', tl', tn', tc', CO', COA', WI', WIA', BE', BEA', M', mc', mw', mb', sA', sL', sO', e1, e2, hfin, hc', hl', x6, mf⟩ := ps_packed hS hR hM hd hc hl
  have hN : pRel X R DA DAA TB TBA K P T th tt tl tn tc CO COA WI WIA BE BEA SY M' row mt mc' mw' mb' sA' sL' sO' := ⟨f, k, m, c, sz, D, nb, by_, hS, hR, pM_M hM (fun j hj => mf j (by omega) (by omega) (by omega) (by omega) (by omega) (by omega) (by omega)), pDat_M hd (mf 5 (by decide) (by decide) (by decide) (by decide) (by decide) (by decide) (by decide)), pTp_M ht (mf 7 (by decide) (by decide) (by decide) (by decide) (by decide) (by decide) (by decide)), by rw [mf 8 (by decide) (by decide) (by decide) (by decide) (by decide) (by decide) (by decide)]; exact h6, hz, hc, hl'⟩
  have hP : pRel X' R DA DAA TB TBA K' P' T' th' tt' tl' tn' tc' CO' COA' WI' WIA' BE' BEA' SY M' row mt mc' mw' mb' sA' sL' sO' := ⟨f, k, m, c, sz, D, nb, by_, hS, hR, pM_M hM (fun j hj => mf j (by omega) (by omega) (by omega) (by omega) (by omega) (by omega) (by omega)), pDat_M hd (mf 5 (by decide) (by decide) (by decide) (by decide) (by decide) (by decide) (by decide)), pTp_M ht (mf 7 (by decide) (by decide) (by decide) (by decide) (by decide) (by decide) (by decide)), by rw [x6, mf 8 (by decide) (by decide) (by decide) (by decide) (by decide) (by decide) (by decide)]; exact h6, hz, hc', hl'⟩
  obtain ⟨many, bits, st, cl, cn, wn, bn, sa, sl, so, ⟨o1, o2, o3, o4, o5, o6, o7, o8⟩, hmany, k7, m15, hD, hT, hMd, -⟩ := id hfin
  have hf := pS_f hS
  have hb := pS_b hS
  have hsz := hd.2.2.1
  have hM' : pM M' f k m c := pM_M hM (fun j hj => mf j (by omega) (by omega) (by omega) (by omega) (by omega) (by omega) (by omega))
  have hst := hT.2.1
  have hfn := pm_first hS hM'
  rcases pi_two a2 with ⟨rfl, ea⟩ | ⟨rfl, ea⟩ | ⟨rfl, ea⟩ | ⟨n0, n1, n2, ea⟩
  · rcases pi_sym hS hR hM' a1 with ⟨a, ha, rfl, s1, s2⟩ | ⟨s1, s2⟩
    · refine ⟨-1, X', K', P', T', th', tt', tl', tn', tc', CO', COA', WI', WIA', BE', BEA', M', mc', mw', mb', sA', sL', sO', ?_, ?_, hP⟩
      · rw [fn_X7_string, if_pos rfl, e1, Option.bind_some]
        dsimp only
        rw [fn_X4_headOf, pi_slot hS hR hT.1 hst (Or.inr ⟨a, by omega, rfl, by omega⟩), Option.bind_some, if_pos rfl, Option.bind_some]
      · rw [fn_X8_string, ea, Option.bind_some, if_neg (by decide), e2, Option.bind_some]
        dsimp only
        rw [s2, Option.bind_some, if_neg (by decide), if_pos rfl]
    · rcases pi_off (F := pF f k) (st := st) (by omega) hst a1 with ⟨a, ha1, ha2, rfl, i1, i2⟩ | ⟨i0, i1⟩
      · have hs : a - pF f k < st := by omega
        obtain ⟨t1, t2, t3, -⟩ := hT.2.2.1 _ hs
        obtain ⟨u1, u2, u3⟩ := hMd.2 _ hs
        obtain ⟨d1, d2, -⟩ := hD.1 _ hs
        refine ⟨nI (so (a - pF f k)), X', K', P', T', th', tt', tl', tn', tc', CO', COA', WI', WIA', BE', BEA', M', mc', mw', mb', sA', sL', sO', ?_, ?_, hP⟩
        · rw [fn_X7_string, if_pos rfl, e1, Option.bind_some]
          dsimp only
          rw [fn_X4_headOf, pt_slot hS hR hT.1 hst (by omega), if_pos ⟨ha1, ha2⟩, Option.bind_some, if_neg (pn_m1 (by omega)), if_pos ((pn_in (by omega)).mpr (by omega)), pn_cl (by omega), t1, Option.bind_some]
        · rw [fn_X8_string, ea, Option.bind_some, if_neg (by decide), e2, Option.bind_some]
          dsimp only
          rw [s2, Option.bind_some, if_pos rfl, hfn, Option.bind_some, hMd.1, i1, Option.bind_some, if_neg (by decide), i2]
          rw [if_pos rfl, if_pos ((pn_in (by omega)).mpr (by omega)), pn_cl (by omega), u3]
      · refine ⟨-1, X', K', P', T', th', tt', tl', tn', tc', CO', COA', WI', WIA', BE', BEA', M', mc', mw', mb', sA', sL', sO', ?_, ?_, hP⟩
        · rw [fn_X7_string, if_pos rfl, e1, Option.bind_some]
          dsimp only
          rw [fn_X4_headOf, pi_slot hS hR hT.1 hst i0, Option.bind_some, if_pos rfl, Option.bind_some]
        · rw [fn_X8_string, ea, Option.bind_some, if_neg (by decide), e2, Option.bind_some]
          dsimp only
          rw [s2, Option.bind_some, if_pos rfl, hfn, Option.bind_some, hMd.1, i1, Option.bind_some, if_pos rfl]
  · rcases pi_sym hS hR hM' a1 with ⟨a, ha, rfl, s1, s2⟩ | ⟨s1, s2⟩
    · refine ⟨nI a, X', K', P', T', th', tt', tl', tn', tc', CO', COA', WI', WIA', BE', BEA', M', mc', mw', mb', sA', sL', sO', ?_, ?_, hP⟩
      · rw [fn_X7_string, if_neg (by decide), if_pos rfl, e1, Option.bind_some]
        dsimp only
        rw [fn_X4_tailOf, s1, Option.bind_some, if_neg (by decide), Option.bind_some]
      · rw [fn_X8_string, ea, Option.bind_some, if_neg (by decide), e2, Option.bind_some]
        dsimp only
        rw [s2, Option.bind_some, if_neg (by decide), if_neg (by decide), if_pos rfl]
    · rcases pi_off (F := pF f k) (st := st) (by omega) hst a1 with ⟨a, ha1, ha2, rfl, i1, i2⟩ | ⟨i0, i1⟩
      · have hs : a - pF f k < st := by omega
        obtain ⟨t1, t2, t3, -⟩ := hT.2.2.1 _ hs
        obtain ⟨u1, u2, u3⟩ := hMd.2 _ hs
        obtain ⟨d1, d2, -⟩ := hD.1 _ hs
        refine ⟨nI (D (sa (a - pF f k) + sl (a - pF f k) - 1)), X', K', P', T', th', tt', tl', tn', tc', CO', COA', WI', WIA', BE', BEA', M', mc', mw', mb', sA', sL', sO', ?_, ?_, hP⟩
        · rw [fn_X7_string, if_neg (by decide), if_pos rfl, e1, Option.bind_some]
          dsimp only
          rw [fn_X4_tailOf, s1, Option.bind_some, if_pos rfl, pt_slot hS hR hT.1 hst (by omega), if_pos ⟨ha1, ha2⟩, Option.bind_some, if_neg (pn_m1 (by omega)), if_pos ((pn_in (by omega)).mpr (by omega)), pn_cl (by omega), t2, Option.bind_some]
        · rw [fn_X8_string, ea, Option.bind_some, if_neg (by decide), e2, Option.bind_some]
          dsimp only
          rw [s2, Option.bind_some, if_pos rfl, hfn, Option.bind_some, hMd.1, i1, Option.bind_some, if_neg (by decide), i2]
          have ei : sA' (a - pF f k) + sL' (a - pF f k) - 1 = nI (sa (a - pF f k) + sl (a - pF f k) - 1) := by rw [u1, u2, pn_add, pn_subL (show 1 ≤ sa (a - pF f k) + sl (a - pF f k) by omega)]
          rw [if_neg (by decide), if_pos rfl, if_pos ((pn_in (by omega)).mpr (by omega)), if_pos ((pn_in (by omega)).mpr (by omega)), pn_cl (show a - pF f k < 2147483648 by omega), if_pos (by rw [ei]; exact (pn_in (by omega)).mpr (by omega)), ei, pn_cl (by omega), (hd.2.2.2 _ (show sa (a - pF f k) + sl (a - pF f k) - 1 < sz by omega)).2.1]
      · refine ⟨-1, X', K', P', T', th', tt', tl', tn', tc', CO', COA', WI', WIA', BE', BEA', M', mc', mw', mb', sA', sL', sO', ?_, ?_, hP⟩
        · rw [fn_X7_string, if_neg (by decide), if_pos rfl, e1, Option.bind_some]
          dsimp only
          rw [fn_X4_tailOf, s1, Option.bind_some, if_pos rfl, pi_slot hS hR hT.1 hst i0, Option.bind_some, if_pos rfl, Option.bind_some]
        · rw [fn_X8_string, ea, Option.bind_some, if_neg (by decide), e2, Option.bind_some]
          dsimp only
          rw [s2, Option.bind_some, if_pos rfl, hfn, Option.bind_some, hMd.1, i1, Option.bind_some, if_pos rfl]
  · rcases pi_sym hS hR hM' a1 with ⟨a, ha, rfl, s1, s2⟩ | ⟨s1, s2⟩
    · refine ⟨1, X', K', P', T', th', tt', tl', tn', tc', CO', COA', WI', WIA', BE', BEA', M', mc', mw', mb', sA', sL', sO', ?_, ?_, hP⟩
      · rw [fn_X7_string, if_neg (by decide), if_neg (by decide), if_pos rfl, e1, Option.bind_some]
        dsimp only
        rw [fn_X4_lengthOf, s1, Option.bind_some, if_neg (by decide), Option.bind_some]
      · rw [fn_X8_string, ea, Option.bind_some, if_neg (by decide), e2, Option.bind_some]
        dsimp only
        rw [s2, Option.bind_some, if_neg (by decide), if_neg (by decide), if_neg (by decide)]
    · rcases pi_off (F := pF f k) (st := st) (by omega) hst a1 with ⟨a, ha1, ha2, rfl, i1, i2⟩ | ⟨i0, i1⟩
      · have hs : a - pF f k < st := by omega
        obtain ⟨t1, t2, t3, -⟩ := hT.2.2.1 _ hs
        obtain ⟨u1, u2, u3⟩ := hMd.2 _ hs
        obtain ⟨d1, d2, -⟩ := hD.1 _ hs
        refine ⟨nI (sl (a - pF f k)), X', K', P', T', th', tt', tl', tn', tc', CO', COA', WI', WIA', BE', BEA', M', mc', mw', mb', sA', sL', sO', ?_, ?_, hP⟩
        · rw [fn_X7_string, if_neg (by decide), if_neg (by decide), if_pos rfl, e1, Option.bind_some]
          dsimp only
          rw [fn_X4_lengthOf, s1, Option.bind_some, if_pos rfl, pt_slot hS hR hT.1 hst (by omega), if_pos ⟨ha1, ha2⟩, Option.bind_some, if_neg (pn_m1 (by omega)), if_pos ((pn_in (by omega)).mpr (by omega)), pn_cl (by omega), t3, Option.bind_some]
        · rw [fn_X8_string, ea, Option.bind_some, if_neg (by decide), e2, Option.bind_some]
          dsimp only
          rw [s2, Option.bind_some, if_pos rfl, hfn, Option.bind_some, hMd.1, i1, Option.bind_some, if_neg (by decide), i2]
          rw [if_neg (by decide), if_neg (by decide), if_pos ((pn_in (by omega)).mpr (by omega)), pn_cl (by omega), u2]
      · refine ⟨-1, X', K', P', T', th', tt', tl', tn', tc', CO', COA', WI', WIA', BE', BEA', M', mc', mw', mb', sA', sL', sO', ?_, ?_, hP⟩
        · rw [fn_X7_string, if_neg (by decide), if_neg (by decide), if_pos rfl, e1, Option.bind_some]
          dsimp only
          rw [fn_X4_lengthOf, s1, Option.bind_some, if_pos rfl, pi_slot hS hR hT.1 hst i0, Option.bind_some, if_pos rfl, Option.bind_some]
        · rw [fn_X8_string, ea, Option.bind_some, if_neg (by decide), e2, Option.bind_some]
          dsimp only
          rw [s2, Option.bind_some, if_pos rfl, hfn, Option.bind_some, hMd.1, i1, Option.bind_some, if_pos rfl]
  · refine ⟨-2, X, K, P, T, th, tt, tl, tn, tc, CO, COA, WI, WIA, BE, BEA, M, mc, mw, mb, sA, sL, sO, ?_, ?_, h⟩
    · rw [fn_X7_string, if_neg n0, if_neg n1, if_neg n2]
    · rw [fn_X8_string, ea, Option.bind_some, if_pos rfl]
theorem ps_wrq {R DA DAA X TB TBA K P T th tt tl tn tc CO COA WI WIA BE BEA M row mt mc mw mb sA sL sO : Nat → Int32} {f k m c nb0 many bits : Nat} {cn wn bn : Nat → Nat} (q q' : Int32) (hq : q = nI ((bits + 7) / 8)) (hq' : q' = nI ((bits + 7) / 8)) (hS : pS f k m c) (hR : pR R f k m c) (hM : pM M f k m c) (hTB : TB 1 = nI nb0) (hnb0 : nb0 ≤ 400) (hO : pO many bits cn wn bn K CO COA WI WIA BE BEA M mc mw mb) (hmany : many ≤ 452) (hx : (bits + 7) / 8 ≤ 400) :
    ∃ TB' TBA' mt' by_, ((fn_X5_blank TB TBA q).bind fun y_31 => fn_X7_write_l36 R DA DAA gx_fuel X y_31.1 y_31.2 K P T th tt tl tn tc CO COA WI WIA BE BEA q 0) = some (q, X, TB', TBA', K, P, T, th, tt, tl, tn, tc, CO, COA, WI, WIA, BE, BEA) ∧ fn_X8_write_l32 row gx_fuel (upd M 7 q') mt mc mw mb sA sL sO q' 0 = some (q, upd M 7 q', mt', mc, mw, mb, sA, sL, sO) ∧ pTp ((bits + 7) / 8) by_ TB' TBA' (upd M 7 q') mt' := by
  subst hq
  subst hq'
  exact ps_wr hS hR hM hTB hnb0 hO hmany hx
theorem po_write {X R DA DAA TB TBA K P T th tt tl tn tc CO COA WI WIA BE BEA SY M row mt mc mw mb sA sL sO : Nat → Int32} (h : pRel X R DA DAA TB TBA K P T th tt tl tn tc CO COA WI WIA BE BEA SY M row mt mc mw mb sA sL sO) : ∃ (v : Int32) (X' TB' TBA' K' P' T' th' tt' tl' tn' tc' CO' COA' WI' WIA' BE' BEA' M' mt' mc' mw' mb' sA' sL' sO' : Nat → Int32), fn_X7_write X R DA DAA TB TBA K P T th tt tl tn tc CO COA WI WIA BE BEA = some (v, X', TB', TBA', K', P', T', th', tt', tl', tn', tc', CO', COA', WI', WIA', BE', BEA') ∧ fn_X8_write M row mt mc mw mb sA sL sO = some (v, M', mt', mc', mw', mb', sA', sL', sO') ∧ pRel X' R DA DAA TB' TBA' K' P' T' th' tt' tl' tn' tc' CO' COA' WI' WIA' BE' BEA' SY M' row mt' mc' mw' mb' sA' sL' sO' := by
  obtain ⟨f, k, m, c, sz, D, nb, by_, hS, hR, hM, hd, ht, h6, hz, hc, hl⟩ := id h
  obtain ⟨X', K', P', T', th', tt', tl', tn', tc', CO', COA', WI', WIA', BE', BEA', M', mc', mw', mb', sA', sL', sO', e1, e2, hfin, hc', hl', x6, mf⟩ := ps_packed hS hR hM hd hc hl
  have hN : pRel X R DA DAA TB TBA K P T th tt tl tn tc CO COA WI WIA BE BEA SY M' row mt mc' mw' mb' sA' sL' sO' := ⟨f, k, m, c, sz, D, nb, by_, hS, hR, pM_M hM (fun j hj => mf j (by omega) (by omega) (by omega) (by omega) (by omega) (by omega) (by omega)), pDat_M hd (mf 5 (by decide) (by decide) (by decide) (by decide) (by decide) (by decide) (by decide)), pTp_M ht (mf 7 (by decide) (by decide) (by decide) (by decide) (by decide) (by decide) (by decide)), by rw [mf 8 (by decide) (by decide) (by decide) (by decide) (by decide) (by decide) (by decide)]; exact h6, hz, hc, hl'⟩
  have hP : pRel X' R DA DAA TB TBA K' P' T' th' tt' tl' tn' tc' CO' COA' WI' WIA' BE' BEA' SY M' row mt mc' mw' mb' sA' sL' sO' := ⟨f, k, m, c, sz, D, nb, by_, hS, hR, pM_M hM (fun j hj => mf j (by omega) (by omega) (by omega) (by omega) (by omega) (by omega) (by omega)), pDat_M hd (mf 5 (by decide) (by decide) (by decide) (by decide) (by decide) (by decide) (by decide)), pTp_M ht (mf 7 (by decide) (by decide) (by decide) (by decide) (by decide) (by decide) (by decide)), by rw [x6, mf 8 (by decide) (by decide) (by decide) (by decide) (by decide) (by decide) (by decide)]; exact h6, hz, hc', hl'⟩
  obtain ⟨many, bits, st, cl, cn, wn, bn, sa, sl, so, ⟨o1, o2, o3, o4, o5, o6, o7, o8⟩, hmany, k7, m15, hD, hT, hMd, -⟩ := id hfin
  have hM' : pM M' f k m c := pM_M hM (fun j hj => mf j (by omega) (by omega) (by omega) (by omega) (by omega) (by omega) (by omega))
  have eb : (nI bits + 7) / 8 = nI ((bits + 7) / 8) := by rw [pn_addL, pn_divL (by omega) (by decide) (by decide)]
  have eK : (K' 6 + 7) / 8 = nI ((bits + 7) / 8) := by rw [o1]; exact eb
  have eM : (M' 14 + 7) / 8 = nI ((bits + 7) / 8) := by rw [o6]; exact eb
  by_cases hx : (bits + 7) / 8 ≤ 400
  · have cK : (K' 6 + 7) / 8 ≤ 400 := by rw [eK, pn_leL (by omega) (by decide)]; exact hx
    have cM : (M' 14 + 7) / 8 ≤ 400 := by rw [eM, pn_leL (by omega) (by decide)]; exact hx
    obtain ⟨TB', TBA', mt', by', w1, w2, w3⟩ := ps_wrq (DA := DA) (DAA := DAA) (X := X') (TB := TB) (TBA := TBA) (P := P') (T := T') (th := th') (tt := tt') (tl := tl') (tn := tn') (tc := tc') (row := row) (mt := mt) (sA := sA') (sL := sL') (sO := sO') ((K' 6 + 7) / 8) ((M' 14 + 7) / 8) eK eM hS hR hM' ht.1 ht.2.2.1 ⟨o1, o2, o3, o4, o5, o6, o7, o8⟩ hmany hx
    refine ⟨(K' 6 + 7) / 8, X', TB', TBA', K', P', T', th', tt', tl', tn', tc', CO', COA', WI', WIA', BE', BEA', upd M' 7 ((M' 14 + 7) / 8), mt', mc', mw', mb', sA', sL', sO', ?_, ?_, ?_⟩
    · rw [fn_X7_write, e1, Option.bind_some]
      dsimp only
      rw [if_pos cK]
      exact w1
    · rw [fn_X8_write, e2, Option.bind_some]
      dsimp only
      rw [if_pos cM]
      exact w2
    · obtain ⟨f2, k2, m2, c2, sz2, D2, nb2, by2, pS2, pR2, pM2, pd2, pt2, p62, pz2, pc2, pl2⟩ := hP
      exact ⟨f2, k2, m2, c2, sz2, D2, _, by', pS2, pR2, pM_M pM2 (fun j hj => pn_un (by omega)), pDat_M pd2 (pn_un (by decide)), w3, by rw [pn_un (by decide)]; exact p62, pz2, pc2, pMl_7 pl2⟩
  · have cK : ¬ (K' 6 + 7) / 8 ≤ 400 := by rw [eK, pn_leL (by omega) (by decide)]; exact hx
    have cM : ¬ (M' 14 + 7) / 8 ≤ 400 := by rw [eM, pn_leL (by omega) (by decide)]; exact hx
    refine ⟨-4, X', TB, TBA, K', P', T', th', tt', tl', tn', tc', CO', COA', WI', WIA', BE', BEA', M', mt, mc', mw', mb', sA', sL', sO', ?_, ?_, hP⟩
    · rw [fn_X7_write, e1, Option.bind_some]
      dsimp only
      rw [if_neg cK]
    · rw [fn_X8_write, e2, Option.bind_some]
      dsimp only
      rw [if_neg cM]
