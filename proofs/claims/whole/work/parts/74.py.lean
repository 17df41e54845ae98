/-! more, cut, octet, flip, read. -/
theorem pm_more_l {M : Nat → Int32} {a nb : Nat} (h7 : M 7 = nI nb) (hnb : nb < 400) (ha : a < 256) : ∀ (d n j : Nat) (mt : Nat → Int32), 8 - j = d → d < n → j ≤ 8 → ∃ mt', fn_X8_more_l29 n M mt (nI a) (nI j) = some (nI (nb + 1), upd M 7 (nI (nb + 1)), mt') ∧ (∀ p, p < 8 * nb + j → mt' p = mt p) ∧ ∀ i, j ≤ i → i < 8 → mt' (8 * nb + i) = nI (a / 2 ^ i % 2) := by
  intro d
  induction d with
  | zero =>
    intro n j mt hd hn hj
    obtain ⟨n, rfl⟩ : ∃ q, n = q + 1 := ⟨n - 1, by omega⟩
    have hj8 : j = 8 := by omega
    subst hj8
    refine ⟨mt, ?_, fun _ _ => rfl, fun i h1 h2 => by omega⟩
    rw [fn_X8_more_l29, if_pos (show (8 : Int32) ≤ nI 8 by decide), h7, pn_addL]
  | succ d ih =>
    intro n j mt hd hn hj
    obtain ⟨n, rfl⟩ : ∃ q, n = q + 1 := ⟨n - 1, by omega⟩
    have ei : 8 * M 7 + nI j = nI (8 * nb + j) := by rw [h7, pn_Lmul, pn_add]
    have eb : (nI a >>> (nI j &&& 31)) &&& 1 = nI (a / 2 ^ j % 2) := by
      have h1 : a / 2 ^ j ≤ a := Nat.div_le_self _ _
      rw [pn_shr (by omega) (by omega), pn_and1 (by omega)]
    have hlt := Nat.mod_lt (a / 2 ^ j) (show 0 < 2 by decide)
    obtain ⟨mt', e1, e2, e3⟩ := ih n (j + 1) (upd mt (8 * nb + j) (nI (a / 2 ^ j % 2))) (by omega) (by omega) (by omega)
    refine ⟨mt', ?_, fun p hp => ?_, fun i h1 h2 => ?_⟩
    · rw [← e1, fn_X8_more_l29, if_neg (by rw [pn_Lle (by omega) (by decide)]; omega), eb]
      by_cases hb : a / 2 ^ j % 2 = 1
      · rw [if_pos (by rw [hb]; rfl), if_pos (by rw [ei]; exact (pn_in (by omega)).mpr (by omega)), ei, pn_cl (by omega), pn_addL, hb]
        rfl
      · have hb0 : a / 2 ^ j % 2 = 0 := by omega
        rw [if_neg (by rw [hb0]; decide), if_pos (by rw [ei]; exact (pn_in (by omega)).mpr (by omega)), ei, pn_cl (by omega), pn_addL, hb0]
        rfl
    · rw [e2 p (by omega), pn_un (by omega)]
    · by_cases hij : i = j
      · subst hij
        rw [e2 _ (by omega), pn_us]
      · exact e3 i (by omega) h2
theorem po_more {X R DA DAA TB TBA K P T th tt tl tn tc CO COA WI WIA BE BEA SY M row mt mc mw mb sA sL sO : Nat → Int32} (h : pRel X R DA DAA TB TBA K P T th tt tl tn tc CO COA WI WIA BE BEA SY M row mt mc mw mb sA sL sO) (a1 : Int32) : ∃ v TB' TBA' M' mt', fn_X7_more TB TBA a1 = some (v, TB', TBA') ∧ fn_X8_more M mt a1 = some (v, M', mt') ∧ pRel X R DA DAA TB' TBA' K P T th tt tl tn tc CO COA WI WIA BE BEA SY M' row mt' mc mw mb sA sL sO := by
  obtain ⟨f, k, m, c, sz, D, nb, by_, hS, hR, hM, hd, ht, h6, hz, hc, hl⟩ := id h
  have hnb := ht.2.2.1
  rcases pn_case a1 with hn | ⟨a, ha, rfl⟩
  · refine ⟨-2, TB, TBA, M, mt, ?_, ?_, h⟩
    · rw [fn_X7_more, if_pos hn]
    · rw [fn_X8_more, pi_N hn, Option.bind_some, if_pos rfl]
  · have ei := pi_in ha (show 255 < 2147483648 by decide)
    by_cases h255 : a ≤ 255
    · rw [if_pos h255] at ei
      have ei' : fn_X8_in (nI a) 0 255 = some 1 := ei
      by_cases hf : nb = 400
      · subst hf
        refine ⟨-4, TB, TBA, M, mt, ?_, ?_, h⟩
        · rw [fn_X7_more, if_neg (pn_n0 ha), if_pos (by rw [pn_leL ha (by decide)]; exact h255), pr_addF ht.1 (by decide) (by decide) (by decide), Option.bind_some, if_pos rfl]
        · rw [fn_X8_more, ei', Option.bind_some, if_neg (by decide), if_pos (by rw [ht.2.1]; rfl)]
      · obtain ⟨mt', e1, e2, e3⟩ := pm_more_l (M := M) (a := a) ht.2.1 (by omega) (by omega) 8 gx_fuel 0 mt (by omega) (by show _ < 5000; omega) (by omega)
        refine ⟨nI (nb + 1), upd TB 1 (nI (nb + 1)), upd TBA nb (nI a), upd M 7 (nI (nb + 1)), mt', ?_, ?_, ?_⟩
        · rw [fn_X7_more, if_neg (pn_n0 ha), if_pos (by rw [pn_leL ha (by decide)]; exact h255), pr_add ht.1 (by omega) (by decide) (by omega), Option.bind_some, if_neg (show ¬ (1 : Int32) = 0 by decide)]
          dsimp only
          rw [pr_size pn_us, Option.bind_some]
        · rw [fn_X8_more, ei', Option.bind_some, if_neg (by decide), if_neg (by rw [ht.2.1, pn_eqL (by omega) (by decide)]; exact hf)]
          exact e1
        · refine ⟨f, k, m, c, sz, D, nb + 1, pUp by_ nb a, hS, hR, pM_M hM (fun j hj => pn_un (by omega)), pDat_M hd (pn_un (by decide)), ⟨pn_us, pn_us, by omega, fun i hi => ?_⟩, by rw [pn_un (by decide)]; exact h6, hz, hc, pMl_7 hl⟩
          by_cases hin : i = nb
          · subst hin
            simp only [pUp, if_true, pn_us]
            exact ⟨trivial, by omega, fun j hj => e3 j (by omega) hj⟩
          · rw [pn_un hin]
            simp only [pUp, if_neg hin]
            obtain ⟨q1, q2, q3⟩ := ht.2.2.2 i (by omega)
            exact ⟨q1, q2, fun j hj => by rw [e2 _ (by omega)]; exact q3 j hj⟩
    · rw [if_neg h255] at ei
      have ei' : fn_X8_in (nI a) 0 255 = some 0 := ei
      refine ⟨-2, TB, TBA, M, mt, ?_, ?_, h⟩
      · rw [fn_X7_more, if_neg (pn_n0 ha), if_neg (by rw [pn_leL ha (by decide)]; exact h255)]
      · rw [fn_X8_more, ei', Option.bind_some, if_pos rfl]
theorem po_cut {X R DA DAA TB TBA K P T th tt tl tn tc CO COA WI WIA BE BEA SY M row mt mc mw mb sA sL sO : Nat → Int32} (h : pRel X R DA DAA TB TBA K P T th tt tl tn tc CO COA WI WIA BE BEA SY M row mt mc mw mb sA sL sO) (a1 : Int32) : ∃ v TB' M', fn_X7_cut TB a1 = some (v, TB') ∧ fn_X8_cut M a1 = some (v, M') ∧ pRel X R DA DAA TB' TBA K P T th tt tl tn tc CO COA WI WIA BE BEA SY M' row mt mc mw mb sA sL sO := by
  obtain ⟨f, k, m, c, sz, D, nb, by_, hS, hR, hM, hd, ht, h6, hz, hc, hl⟩ := id h
  have hnb := ht.2.2.1
  rcases pn_case a1 with hn | ⟨a, ha, rfl⟩
  · refine ⟨-2, TB, M, ?_, ?_, h⟩
    · rw [fn_X7_cut, pr_size ht.1, Option.bind_some, if_pos hn]
    · rw [fn_X8_cut, pi_N hn, Option.bind_some, if_pos rfl]
  · by_cases hs : a ≤ nb
    · have hrel : ∀ TB', TB' 1 = nI a → pRel X R DA DAA TB' TBA K P T th tt tl tn tc CO COA WI WIA BE BEA SY (upd M 7 (nI a)) row mt mc mw mb sA sL sO := fun TB' hT => ⟨f, k, m, c, sz, D, a, by_, hS, hR, pM_M hM (fun j hj => pn_un (by omega)), pDat_M hd (pn_un (by decide)), ⟨hT, pn_us, by omega, fun i hi => ht.2.2.2 i (by omega)⟩, by rw [pn_un (by decide)]; exact h6, hz, hc, pMl_7 hl⟩
      have em : fn_X8_cut M (nI a) = some (nI (nb - a), upd M 7 (nI a)) := by
        rw [fn_X8_cut, ht.2.1, pi_in ha (by omega), Option.bind_some, if_pos hs, if_neg (by decide), pn_sub hs]
      by_cases he : a = nb
      · subst he
        refine ⟨nI (a - a), TB, upd M 7 (nI a), ?_, em, hrel TB ht.1⟩
        rw [fn_X7_cut, pr_size ht.1, Option.bind_some, if_neg (pn_n0 ha), if_pos (Int32.le_refl _), pr_shrF ht.1 (by omega) ha (by omega), Option.bind_some, pn_sub hs]
      · refine ⟨nI (nb - a), upd TB 1 (nI a), upd M 7 (nI a), ?_, em, hrel _ pn_us⟩
        rw [fn_X7_cut, pr_size ht.1, Option.bind_some, if_neg (pn_n0 ha), if_pos (by rw [pn_le ha (by omega)]; exact hs), pr_shr ht.1 (by omega) (by omega), Option.bind_some, pn_sub hs]
    · refine ⟨-2, TB, M, ?_, ?_, h⟩
      · rw [fn_X7_cut, pr_size ht.1, Option.bind_some, if_neg (pn_n0 ha), if_neg (by rw [pn_le ha (by omega)]; exact hs)]
      · rw [fn_X8_cut, ht.2.1, pi_in ha (by omega), Option.bind_some, if_neg hs, if_pos rfl]
theorem pm_oct_l {M mt : Nat → Int32} {i b : Nat} (hi : i < 400) (hb : b < 256) (hm : ∀ j, j < 8 → mt (8 * i + j) = nI (b / 2 ^ j % 2)) : ∀ (d n j : Nat), 8 - j = d → d < n → j ≤ 8 → fn_X8_octet_l20 M mt n (nI i) (nI (b % 2 ^ j)) (nI j) = some (nI b) := by
  intro d
  induction d with
  | zero =>
    intro n j hd hn hj
    obtain ⟨n, rfl⟩ : ∃ q, n = q + 1 := ⟨n - 1, by omega⟩
    have hj8 : j = 8 := by omega
    subst hj8
    rw [fn_X8_octet_l20, if_pos (show (8 : Int32) ≤ nI 8 by decide), show b % 2 ^ 8 = b from Nat.mod_eq_of_lt (by omega)]
  | succ d ih =>
    intro n j hd hn hj
    obtain ⟨n, rfl⟩ : ∃ q, n = q + 1 := ⟨n - 1, by omega⟩
    have ei : 8 * nI i + nI j = nI (8 * i + j) := by rw [pn_Lmul, pn_add]
    have hlt := Nat.mod_lt (b / 2 ^ j) (show 0 < 2 by decide)
    have hsu : b % 2 ^ (j + 1) = b % 2 ^ j + 2 ^ j * (b / 2 ^ j % 2) := Nat.mod_pow_succ
    have e0 := ih n (j + 1) (by omega) (by omega) (by omega)
    rw [← e0, fn_X8_octet_l20, if_neg (by rw [pn_Lle (by omega) (by decide)]; omega), if_pos (by rw [ei]; exact (pn_in (by omega)).mpr (by omega)), ei, pn_cl (by omega)]
    by_cases hz : b / 2 ^ j % 2 = 0
    · rw [if_pos (by rw [hm j (by omega), hz]; rfl), pn_addL, pn_addL, hsu, hz]
      rfl
    · have h1 : b / 2 ^ j % 2 = 1 := by omega
      rw [if_neg (by rw [hm j (by omega), h1]; decide), pn_sh1 j (by omega), pn_add, pn_addL, hsu, h1, Nat.mul_one]
theorem pm_oct {M mt : Nat → Int32} {i b nb : Nat} (h7 : M 7 = nI nb) (hnb : nb ≤ 400) (hi : i < nb) (hb : b < 256) (hm : ∀ j, j < 8 → mt (8 * i + j) = nI (b / 2 ^ j % 2)) : fn_X8_octet M mt (nI i) = some (nI b) := by
  rw [fn_X8_octet, h7, pi_last (by omega) (by omega), Option.bind_some, if_pos hi, if_neg (by decide)]
  have := pm_oct_l (M := M) (mt := mt) (i := i) (b := b) (by omega) hb hm 8 gx_fuel 0 (by omega) (by show _ < 5000; omega) (by omega)
  rw [show b % 2 ^ 0 = 0 by rw [Nat.pow_zero, Nat.mod_one]] at this
  exact this
theorem po_octet {X R DA DAA TB TBA K P T th tt tl tn tc CO COA WI WIA BE BEA SY M row mt mc mw mb sA sL sO : Nat → Int32} (h : pRel X R DA DAA TB TBA K P T th tt tl tn tc CO COA WI WIA BE BEA SY M row mt mc mw mb sA sL sO) (a1 : Int32) : ∃ v, fn_X7_octet TB TBA a1 = some v ∧ fn_X8_octet M mt a1 = some v := by
  obtain ⟨f, k, m, c, sz, D, nb, by_, hS, hR, hM, hd, ht, h6, hz, hc, hl⟩ := id h
  have hnb := ht.2.2.1
  rcases pn_case a1 with hn | ⟨a, ha, rfl⟩
  · refine ⟨-1, ?_, ?_⟩
    · rw [fn_X7_octet, pr_getN hn, Option.bind_some]
    · rw [fn_X8_octet, pi_N hn, Option.bind_some, if_pos rfl]
  · by_cases hs : a < nb
    · obtain ⟨q1, q2, q3⟩ := ht.2.2.2 a hs
      refine ⟨nI (by_ a), ?_, pm_oct ht.2.1 hnb hs q2 q3⟩
      rw [fn_X7_octet, pr_get ht.1 hnb (by decide) hs, Option.bind_some, q1]
    · refine ⟨-1, ?_, ?_⟩
      · rw [fn_X7_octet, pr_getF ht.1 ha (by omega) (by omega), Option.bind_some]
      · rw [fn_X8_octet, ht.2.1, pi_last ha (by omega), Option.bind_some, if_neg hs, if_pos rfl]
theorem pf_xor : ∀ b, b < 256 → ∀ j, j < 8 → b ^^^ 2 ^ j < 256 ∧ ∀ i, i < 8 → (b ^^^ 2 ^ j) / 2 ^ i % 2 = if i = j then 1 - b / 2 ^ j % 2 else b / 2 ^ i % 2 := by decide +kernel
theorem po_flip {X R DA DAA TB TBA K P T th tt tl tn tc CO COA WI WIA BE BEA SY M row mt mc mw mb sA sL sO : Nat → Int32} (h : pRel X R DA DAA TB TBA K P T th tt tl tn tc CO COA WI WIA BE BEA SY M row mt mc mw mb sA sL sO) (a1 a2 : Int32) : ∃ v TBA' mt', fn_X7_flip TB TBA a1 a2 = some (v, TBA') ∧ fn_X8_flip M mt a1 a2 = some (v, mt') ∧ pRel X R DA DAA TB TBA' K P T th tt tl tn tc CO COA WI WIA BE BEA SY M row mt' mc mw mb sA sL sO := by
  obtain ⟨f, k, m, c, sz, D, nb, by_, hS, hR, hM, hd, ht, h6, hz, hc, hl⟩ := id h
  have hnb := ht.2.2.1
  rcases pn_case a2 with hn | ⟨j, hj, rfl⟩
  · refine ⟨-2, TBA, mt, ?_, ?_, h⟩
    · rw [fn_X7_flip, if_pos hn]
    · rw [fn_X8_flip, pi_N hn, Option.bind_some, if_pos rfl]
  have ei := pi_in hj (show 7 < 2147483648 by decide)
  by_cases hj7 : j ≤ 7
  · rw [if_pos hj7] at ei
    have ei' : fn_X8_in (nI j) 0 7 = some 1 := ei
    have c1 : nI j ≤ 7 := by rw [pn_leL hj (by decide)]; exact hj7
    rcases pn_case a1 with hn | ⟨a, ha, rfl⟩
    · refine ⟨-1, TBA, mt, ?_, ?_, h⟩
      · rw [fn_X7_flip, if_neg (pn_n0 hj), if_pos c1, pr_getN hn, Option.bind_some, if_pos rfl]
      · rw [fn_X8_flip, ei', Option.bind_some, if_neg (by decide), pi_N hn, Option.bind_some, if_pos rfl]
    · by_cases hs : a < nb
      · obtain ⟨q1, q2, q3⟩ := ht.2.2.2 a hs
        obtain ⟨x1, x2⟩ := pf_xor _ q2 j (by omega)
        have hlt := Nat.mod_lt (by_ a / 2 ^ j) (show 0 < 2 by decide)
        have eo : ∀ i, i < 8 → upd mt (8 * a + j) (nI (1 - by_ a / 2 ^ j % 2)) (8 * a + i) = nI ((by_ a ^^^ 2 ^ j) / 2 ^ i % 2) := by
          intro i hi
          rw [x2 i hi]
          by_cases hij : i = j
          · subst hij; rw [pn_us, if_pos rfl]
          · rw [pn_un (by omega), if_neg hij]; exact q3 i hi
        have eidx : 8 * nI a + nI j = nI (8 * a + j) := by rw [pn_Lmul, pn_add]
        have ex : TBA a ^^^ (1 <<< (nI j &&& 31)) = nI (by_ a ^^^ 2 ^ j) := by rw [q1, pn_sh1 j (by omega), pn_xor]
        refine ⟨nI (by_ a ^^^ 2 ^ j), upd TBA a (nI (by_ a ^^^ 2 ^ j)), upd mt (8 * a + j) (nI (1 - by_ a / 2 ^ j % 2)), ?_, ?_, ?_⟩
        · rw [fn_X7_flip, if_neg (pn_n0 hj), if_pos c1, pr_get ht.1 hnb (by decide) hs, Option.bind_some, if_neg (by rw [q1]; exact pn_m1 (by omega)), ex, pr_set ht.1 hnb (by decide) hs, Option.bind_some]
        · rw [fn_X8_flip, ei', Option.bind_some, if_neg (by decide), ht.2.1, pi_last ha (by omega), Option.bind_some, if_pos hs, if_neg (by decide), if_pos (by rw [eidx]; exact (pn_in (by omega)).mpr (by omega)), eidx, pn_cl (by omega), q3 j (by omega)]
          have em : ∀ s2 : Int32, s2 = nI (1 - by_ a / 2 ^ j % 2) → vp_nar .boolean s2 = s2 → fn_X8_flip_j58 M mt (nI a) (nI (8 * a + j)) s2 = some (nI (by_ a ^^^ 2 ^ j), upd mt (8 * a + j) (nI (1 - by_ a / 2 ^ j % 2))) := by
            intro s2 e1 e2
            rw [fn_X8_flip_j58, if_pos ((pn_in (by omega)).mpr (by omega)), pn_cl (by omega), e2, e1, pm_oct ht.2.1 hnb hs x1 eo, Option.bind_some]
          by_cases h0 : by_ a / 2 ^ j % 2 = 0
          · rw [if_pos (by rw [h0]; rfl)]
            exact em 1 (by rw [h0]; rfl) rfl
          · have h1 : by_ a / 2 ^ j % 2 = 1 := by omega
            rw [if_neg (by rw [h1]; decide)]
            exact em 0 (by rw [h1]; rfl) rfl
        · refine ⟨f, k, m, c, sz, D, nb, pUp by_ a (by_ a ^^^ 2 ^ j), hS, hR, hM, hd, ⟨ht.1, ht.2.1, hnb, fun i hi => ?_⟩, h6, hz, hc, hl⟩
          by_cases hia : i = a
          · subst hia
            simp only [pUp, if_true, pn_us]
            exact ⟨trivial, x1, eo⟩
          · rw [pn_un hia]
            simp only [pUp, if_neg hia]
            obtain ⟨r1, r2, r3⟩ := ht.2.2.2 i hi
            exact ⟨r1, r2, fun p hp => by rw [pn_un (by omega)]; exact r3 p hp⟩
      · refine ⟨-1, TBA, mt, ?_, ?_, h⟩
        · rw [fn_X7_flip, if_neg (pn_n0 hj), if_pos c1, pr_getF ht.1 ha (by omega) (by omega), Option.bind_some, if_pos rfl]
        · rw [fn_X8_flip, ei', Option.bind_some, if_neg (by decide), ht.2.1, pi_last ha (by omega), Option.bind_some, if_neg hs, if_pos rfl]
  · rw [if_neg hj7] at ei
    have ei' : fn_X8_in (nI j) 0 7 = some 0 := ei
    refine ⟨-2, TBA, mt, ?_, ?_, h⟩
    · rw [fn_X7_flip, if_neg (pn_n0 hj), if_neg (by rw [pn_leL hj (by decide)]; exact hj7)]
    · rw [fn_X8_flip, ei', Option.bind_some, if_pos rfl]
theorem po_read {U UP SYA stA lnA out X R DA DAA TB TBA K P T th tt tl tn tc CO COA WI WIA BE BEA SY M row mt mc mw mb sA sL sO : Nat → Int32} (h : pRel X R DA DAA TB TBA K P T th tt tl tn tc CO COA WI WIA BE BEA SY M row mt mc mw mb sA sL sO) : ∃ v X' DA' DAA' U' UP' SY' SYA' stA' lnA' M' row' sA' sL' out', fn_X7_read X R DA DAA TB TBA U UP SY SYA stA lnA = some (v, X', DA', DAA', U', UP', SY', SYA', stA', lnA') ∧ fn_X8_read M row mt sA sL out = some (v, M', row', sA', sL', out') ∧ pRel X' R DA' DAA' TB TBA K P T th tt tl tn tc CO COA WI WIA BE BEA SY' M' row' mt mc mw mb sA' sL' sO := by
  obtain ⟨f, k, m, c, sz, D, nb, by_, hS, hR, hM, hd, ht, h6, ⟨z, hz, hz2⟩, hc, hl⟩ := id h
  obtain ⟨v, X', DA', DAA', U', UP', SY', SYA', stA', lnA', M', row', sA', sL', out', e1, e2, x6, m21, mf, hz', hh⟩ := ps_read (X := X) (DA := DA) (DAA := DAA) (U := U) (P := UP) (SYA := SYA) (stA := stA) (lnA := lnA) (row := row) (sA := sA) (sL := sL) (out := out) hS hR hM ht hz hz2
  refine ⟨v, X', DA', DAA', U', UP', SY', SYA', stA', lnA', M', row', sA', sL', out', e1, e2, ?_⟩
  have hM' : pM M' f k m c := pM_M hM (fun j hj => mf j (by omega) (by omega) (by omega) (by omega) (by omega) (by omega) (by omega) (by omega) (by omega))
  have ht' : pTp nb by_ TB TBA M' mt := pTp_M ht (mf 7 (by decide) (by decide) (by decide) (by decide) (by decide) (by decide) (by decide) (by decide) (by decide))
  rcases hh with ⟨x5, rfl, rfl, rfl, m5⟩ | ⟨x5, sz', D', hd'⟩
  · refine ⟨f, k, m, c, sz, D, nb, by_, hS, hR, hM', pDat_M hd m5, ht', x6, hz', ⟨hc.1, ?_⟩, Or.inl m21⟩
    rw [x5]; exact hc.2
  · exact ⟨f, k, m, c, sz', D', nb, by_, hS, hR, hM', hd', ht', x6, hz', pCl_0 hc x5, Or.inl m21⟩
