/-! The relation between the class's object and the model's; setting, symbol, empty, at, fault, told, code, string, write. -/
def pRel (X R DA DAA TB TBA K P T th tt tl tn tc CO COA WI WIA BE BEA SY M row mt mc mw mb sA sL sO : Nat → Int32) : Prop := ∃ (f k m c sz : Nat) (D : Nat → Nat) (nb : Nat) (by_ : Nat → Nat), pS f k m c ∧ pR R f k m c ∧ pM M f k m c ∧ pDat k sz D DA DAA M row ∧ pTp nb by_ TB TBA M mt ∧ X 6 = M 8 ∧ (∃ z, z < 2000 ∧ SY 1 = nI z) ∧ pCl R DA DAA X K P T th tt tl tn tc CO COA WI WIA BE BEA ∧ pMl M row mc mw mb sA sL sO
theorem pCl_0 {R R' DA DAA DA' DAA' X X' K P T th tt tl tn tc CO COA WI WIA BE BEA : Nat → Int32} (h : pCl R DA DAA X K P T th tt tl tn tc CO COA WI WIA BE BEA) (h0 : X' 5 = 0) : pCl R' DA' DAA' X' K P T th tt tl tn tc CO COA WI WIA BE BEA := ⟨h.1, Or.inl h0⟩
theorem pMl_7 {M row mc mw mb sA sL sO : Nat → Int32} {v : Int32} (h : pMl M row mc mw mb sA sL sO) : pMl (upd M 7 v) row mc mw mb sA sL sO := by
  obtain h | ⟨h1, M0, mc0, mw0, mb0, sA0, sL0, sO0, M1, h2, h3, he, h4⟩ := h
  · exact Or.inl (by rw [pn_un (by decide)]; exact h)
  · refine Or.inr ⟨by rw [pn_un (by decide)]; exact h1, M0, mc0, mw0, mb0, sA0, sL0, sO0, M1, h2, fun j hj => ?_, he, fun j hj => ?_⟩
    · rw [pn_un (by omega)]; exact h3 j hj
    · rw [pn_un hj]; exact h4 j hj
theorem po_setting {X R DA DAA TB TBA K P T th tt tl tn tc CO COA WI WIA BE BEA SY M row mt mc mw mb sA sL sO : Nat → Int32} (h : pRel X R DA DAA TB TBA K P T th tt tl tn tc CO COA WI WIA BE BEA SY M row mt mc mw mb sA sL sO) (a1 a2 a3 a4 : Int32) : ∃ v X' R' M', fn_X7_setting X R DA a1 a2 a3 a4 = some (v, X', R') ∧ fn_X8_setting M a1 a2 a3 a4 = some (v, M') ∧ pRel X' R' DA DAA TB TBA K P T th tt tl tn tc CO COA WI WIA BE BEA SY M' row mt mc mw mb sA sL sO := by
  obtain ⟨f, k, m, c, sz, D, nb, by_, hS, hR, hM, hd, ht, h6, hz, hc, hl⟩ := id h
  rcases pq_allow M a1 a2 a3 a4 with ⟨f', k', m', c', hS', rfl, rfl, rfl, rfl, e1, e2⟩ | ⟨e1, e2⟩
  · by_cases h0 : sz = 0
    · subst h0
      obtain ⟨R', e3, hR'⟩ := pr_become (V := R) hS'
      refine ⟨1, upd X 5 0, R', upd (upd (upd (upd (upd M 0 (nI f')) 1 (nI k')) 2 (nI m')) 3 (nI c')) 21 0, ?_, ?_, ?_⟩
      · rw [fn_X7_setting, e1, Option.bind_some, if_neg (by decide), pr_size hd.1, Option.bind_some, if_pos (by decide), e3, Option.bind_some]
      · rw [e2, fn_X8_setting_j60, if_neg (by decide), hd.2.1, if_pos (by decide), fn_X8_layCodes, Option.bind_some]
      · refine ⟨f', k', m', c', 0, D, nb, by_, hS', hR', ⟨?_, ?_, ?_, ?_⟩, ⟨hd.1, ?_, hd.2.2.1, fun j hj => by omega⟩, pTp_M ht ?_, ?_, hz, pCl_0 hc pn_us, Or.inl pn_us⟩
        · rw [pn_un (by decide), pn_un (by decide), pn_un (by decide), pn_un (by decide), pn_us]
        · rw [pn_un (by decide), pn_un (by decide), pn_un (by decide), pn_us]
        · rw [pn_un (by decide), pn_un (by decide), pn_us]
        · rw [pn_un (by decide), pn_us]
        · rw [pn_un (by decide), pn_un (by decide), pn_un (by decide), pn_un (by decide), pn_un (by decide)]; exact hd.2.1
        · rw [pn_un (by decide), pn_un (by decide), pn_un (by decide), pn_un (by decide), pn_un (by decide)]
        · rw [pn_un (by decide), pn_un (by decide), pn_un (by decide), pn_un (by decide), pn_un (by decide), pn_un (by decide)]; exact h6
    · have hsz := hd.2.2.1
      refine ⟨-3, X, R, M, ?_, ?_, h⟩
      · rw [fn_X7_setting, e1, Option.bind_some, if_neg (by decide), pr_size hd.1, Option.bind_some, if_neg (by rw [pn_leL (by omega) (by decide)]; omega)]
      · rw [e2, fn_X8_setting_j60, if_neg (by decide), hd.2.1, if_neg (by rw [pn_leL (by omega) (by decide)]; omega)]
  · refine ⟨-2, X, R, M, ?_, ?_, h⟩
    · rw [fn_X7_setting, e1, Option.bind_some, if_pos rfl]
    · rw [e2, fn_X8_setting_j60, if_pos rfl]
theorem po_symbol {X R DA DAA TB TBA K P T th tt tl tn tc CO COA WI WIA BE BEA SY M row mt mc mw mb sA sL sO : Nat → Int32} (h : pRel X R DA DAA TB TBA K P T th tt tl tn tc CO COA WI WIA BE BEA SY M row mt mc mw mb sA sL sO) (a1 : Int32) : ∃ v X' DA' DAA' M' row', fn_X7_symbol X R DA DAA a1 = some (v, X', DA', DAA') ∧ fn_X8_symbol M row a1 = some (v, M', row') ∧ pRel X' R DA' DAA' TB TBA K P T th tt tl tn tc CO COA WI WIA BE BEA SY M' row' mt mc mw mb sA sL sO := by
  obtain ⟨f, k, m, c, sz, D, nb, by_, hS, hR, hM, hd, ht, h6, hz, hc, hl⟩ := id h
  have hb := pS_b hS
  have hsz := hd.2.2.1
  have hk : k < 31 := by have := hS.2.2.1; omega
  have h2k : 1 ≤ 2 ^ k := Nat.one_le_two_pow
  rcases pn_case a1 with hn | ⟨a, ha, rfl⟩
  · refine ⟨-2, X, DA, DAA, M, row, ?_, ?_, h⟩
    · rw [fn_X7_symbol, pt_symN hn, Option.bind_some, if_pos (show nI 0 = 0 from rfl)]
    · rw [fn_X8_symbol, pi_N hn, Option.bind_some, if_pos rfl]
  · have e1 := pt_sym hS hR ha
    have e2 : fn_X8_in (nI a) 0 ((1 <<< ((M 1) &&& 31)) - 1) = some (if a < 2 ^ k then 1 else 0) := by
      rw [hM.2.1, pn_sh1 k hk]; exact pi_last ha (by omega)
    by_cases hak : a < 2 ^ k
    · rw [if_pos hak] at e1 e2
      by_cases hf : sz = 300
      · subst hf
        refine ⟨-4, X, DA, DAA, M, row, ?_, ?_, h⟩
        · rw [fn_X7_symbol, e1, Option.bind_some, if_neg (by decide), pr_addF hd.1 (by decide) (by decide) (by decide), Option.bind_some, if_pos rfl]
        · rw [fn_X8_symbol, e2, Option.bind_some, if_neg (by decide), hd.2.1, if_pos (show nI 300 = 300 from rfl)]
      · refine ⟨nI (sz + 1), upd X 5 0, upd DA 1 (nI (sz + 1)), upd DAA sz (nI a), upd (upd M 5 (nI (sz + 1))) 21 0, upd row sz (nI a), ?_, ?_, ?_⟩
        · rw [fn_X7_symbol, e1, Option.bind_some, if_neg (by decide), pr_add hd.1 (by omega) (by decide) (by omega), Option.bind_some, if_neg (show ¬ (1 : Int32) = 0 by decide)]
          dsimp only
          rw [pr_size pn_us, Option.bind_some]
        · rw [fn_X8_symbol, e2, Option.bind_some, if_neg (by decide), hd.2.1, if_neg (by rw [pn_eqL (by omega) (by decide)]; exact hf), if_pos ((pn_in (by omega)).mpr (by omega)), pn_addL, fn_X8_layCodes, Option.bind_some, pn_un (by decide), pn_us, pn_cl (by omega)]
        · refine ⟨f, k, m, c, sz + 1, pUp D sz a, nb, by_, hS, hR, pM_M hM (fun j hj => by rw [pn_un (by omega), pn_un (by omega)]), ⟨pn_us, by rw [pn_un (by decide), pn_us], by omega, fun j hj => ?_⟩, pTp_M ht (by rw [pn_un (by decide), pn_un (by decide)]), by rw [pn_un (by decide), pn_un (by decide), pn_un (by decide)]; exact h6, hz, pCl_0 hc pn_us, Or.inl pn_us⟩
          by_cases hj2 : j = sz
          · subst hj2
            simp only [pUp, if_true, pn_us]
            exact ⟨trivial, trivial, hak⟩
          · rw [pn_un hj2, pn_un hj2]
            simp only [pUp, if_neg hj2]
            exact hd.2.2.2 j (by omega)
    · rw [if_neg hak] at e1 e2
      refine ⟨-2, X, DA, DAA, M, row, ?_, ?_, h⟩
      · rw [fn_X7_symbol, e1, Option.bind_some, if_pos (show nI 0 = 0 from rfl)]
      · rw [fn_X8_symbol, e2, Option.bind_some, if_pos rfl]
theorem po_empty {X R DA DAA TB TBA K P T th tt tl tn tc CO COA WI WIA BE BEA SY M row mt mc mw mb sA sL sO : Nat → Int32} (h : pRel X R DA DAA TB TBA K P T th tt tl tn tc CO COA WI WIA BE BEA SY M row mt mc mw mb sA sL sO) : ∃ v X' DA' M', fn_X7_empty X DA = some (v, X', DA') ∧ fn_X8_empty M = some (v, M') ∧ pRel X' R DA' DAA TB TBA K P T th tt tl tn tc CO COA WI WIA BE BEA SY M' row mt mc mw mb sA sL sO := by
  obtain ⟨f, k, m, c, sz, D, nb, by_, hS, hR, hM, hd, ht, h6, hz, hc, hl⟩ := id h
  have hsz := hd.2.2.1
  obtain ⟨DA', e1, e2⟩ := pr_shr0 hd.1 (by omega)
  refine ⟨nI sz, upd X 5 0, DA', upd (upd M 5 0) 21 0, ?_, ?_, ?_⟩
  · rw [fn_X7_empty, pr_size hd.1, Option.bind_some, e1, Option.bind_some]
  · rw [fn_X8_empty, fn_X8_layCodes, Option.bind_some, hd.2.1]
  · exact ⟨f, k, m, c, 0, D, nb, by_, hS, hR, pM_M hM (fun j hj => by rw [pn_un (by omega), pn_un (by omega)]), ⟨e2, by rw [pn_un (by decide)]; exact pn_us, by omega, fun j hj => by omega⟩, pTp_M ht (by rw [pn_un (by decide), pn_un (by decide)]), by rw [pn_un (by decide), pn_un (by decide), pn_un (by decide)]; exact h6, hz, pCl_0 hc pn_us, Or.inl pn_us⟩
theorem po_at {X R DA DAA TB TBA K P T th tt tl tn tc CO COA WI WIA BE BEA SY M row mt mc mw mb sA sL sO : Nat → Int32} (h : pRel X R DA DAA TB TBA K P T th tt tl tn tc CO COA WI WIA BE BEA SY M row mt mc mw mb sA sL sO) (a1 : Int32) : ∃ v, fn_X7_at DA DAA a1 = some v ∧ fn_X8_at M row a1 = some v := by
  obtain ⟨f, k, m, c, sz, D, nb, by_, hS, hR, hM, hd, ht, h6, hz, hc, hl⟩ := id h
  have hsz := hd.2.2.1
  rcases pn_case a1 with hn | ⟨a, ha, rfl⟩
  · refine ⟨-1, ?_, ?_⟩
    · rw [fn_X7_at, pr_getN hn, Option.bind_some]
    · rw [fn_X8_at, pi_N hn, Option.bind_some, if_pos rfl]
  · by_cases hs : a < sz
    · refine ⟨nI (D a), ?_, ?_⟩
      · rw [fn_X7_at, pr_get hd.1 hsz (by decide) hs, Option.bind_some, (hd.2.2.2 a hs).1]
      · rw [fn_X8_at, hd.2.1, pi_last ha (by omega), Option.bind_some, if_pos hs, if_neg (by decide), if_pos ((pn_in ha).mpr (by omega)), pn_cl ha, (hd.2.2.2 a hs).2.1]
    · refine ⟨-1, ?_, ?_⟩
      · rw [fn_X7_at, pr_getF hd.1 ha (by omega) (by omega), Option.bind_some]
      · rw [fn_X8_at, hd.2.1, pi_last ha (by omega), Option.bind_some, if_neg hs, if_pos rfl]
theorem po_fault {X R DA DAA TB TBA K P T th tt tl tn tc CO COA WI WIA BE BEA SY M row mt mc mw mb sA sL sO : Nat → Int32} (h : pRel X R DA DAA TB TBA K P T th tt tl tn tc CO COA WI WIA BE BEA SY M row mt mc mw mb sA sL sO) : ∃ v, fn_X7_fault X = some v ∧ fn_X8_fault M = some v := by
  obtain ⟨f, k, m, c, sz, D, nb, by_, hS, hR, hM, hd, ht, h6, hz, hc, hl⟩ := id h
  exact ⟨X 6, by rw [fn_X7_fault], by rw [fn_X8_fault, h6]⟩
