/-! PURE: reading in FORM 2; reading as a whole -/
theorem pm_numB_l {mt : Nat → Int32} {w : Nat} (hw : w ≤ 12) : ∀ (d n j : Nat) (x : Int32) (M : Nat → Int32), w - j = d → d < n → j ≤ w → ¬ M 23 = 0 → ∃ y, fn_X8_number_l4 mt n M (nI w) x (nI j) = some (y, M) := by
  intro d
  induction d with
  | zero =>
    intro n j x M h1 h3 h4 h5
    obtain ⟨n, rfl⟩ : ∃ q, n = q + 1 := ⟨n - 1, by omega⟩
    rw [fn_X8_number_l4, if_pos ((pn_le (by omega) (by omega)).mpr (by omega))]
    exact ⟨_, rfl⟩
  | succ d ih =>
    intro n j x M h1 h3 h4 h5
    obtain ⟨n, rfl⟩ : ∃ q, n = q + 1 := ⟨n - 1, by omega⟩
    rw [fn_X8_number_l4, if_neg (by rw [pn_le (by omega) (by omega)]; omega), pm_bitB h5, Option.bind_some, pn_addL]
    by_cases hz : M 0 = 1
    · rw [if_pos hz]; exact ih n (j + 1) _ M (by omega) (by omega) (by omega) h5
    · rw [if_neg hz]; exact ih n (j + 1) _ M (by omega) (by omega) (by omega) h5
theorem pm_numB {mt M : Nat → Int32} {w : Nat} (hw : w ≤ 12) (h : ¬ M 23 = 0) : ∃ y, fn_X8_number M mt (nI w) = some (y, M) := by
  rw [fn_X8_number]
  exact pm_numB_l hw w gx_fuel 0 0 M (by omega) (by show _ < 5000; omega) (by omega) h
theorem pm_9B {M mt sA sL out : Nat → Int32} {n : Nat} {x1 x2 x3 x4 : Int32} (h : ¬ M 23 = 0) (hn : 0 < n) : fn_X8_readOpen_l9 mt n M sA sL out x1 x2 x3 x4 = some (M, sA, sL, out) := by
  obtain ⟨n, rfl⟩ : ∃ q, n = q + 1 := ⟨n - 1, by omega⟩
  rw [fn_X8_readOpen_l9]
  by_cases h4 : x4 = 0
  · rw [if_pos h4, fn_X8_readOpen_j186, pm_zerosB h, Option.bind_some]
  · rw [if_neg h4, if_neg h, fn_X8_readOpen_j186, pm_zerosB h, Option.bind_some]
def pGO (g gw : Nat) (bc : Bool) (ig : Nat) (x2 x3 : Int32) : Prop := (x2 = -1 ∧ ig = 0 ∧ g = 0) ∨ (x2 = nI gw ∧ 1 ≤ ig ∧ ig ≤ 8 ∧ g = ig % 8 ∧ x3 = nI (if bc then 1 else 0))
theorem pm_open {M mt sA sL out : Nat → Int32} {f k m c since w g gw ig n : Nat} {bc : Bool} {x2 x3 : Int32} (hS : pS f k m c) (hf : f = 2) (hM : pM M f k m c) (h9 : M 9 = nI since) (hs : since < 1000) (m23 : M 23 = 0) (hw : pW f k m (pC f k m since) w) (hgw : gw ≤ 12) (hGO : pGO g gw bc ig x2 x3) :
    ∃ an : Nat, (an = 0 ∨ an = 1) ∧ fn_X8_readOpen_l9 mt (n + 1) M sA sL out (nI ig) x2 x3 1 = fn_X8_readOpen_j67 mt (fn_X8_readOpen_l9 mt n) M sA sL out (nI ig) x2 x3 (nI w) (nI an) (nI (pFill f g gw w bc)) ∧ ((if bc = true ∨ gw ≠ w then 0 else g) + 1) % 8 = (if an = 0 then ig % 8 + 1 else 1) % 8 ∧ 1 ≤ (if an = 0 then ig % 8 + 1 else 1) ∧ (if an = 0 then ig % 8 + 1 else 1) ≤ 8 := by
  have hwb := pW_b hS hw
  have e0 : fn_X8_readOpen_l9 mt (n + 1) M sA sL out (nI ig) x2 x3 1 = (if x2 = (-1) then fn_X8_readOpen_j46 mt (fn_X8_readOpen_l9 mt n) M sA sL out (nI ig) x2 x3 (nI w) else if x3 = 0 then if x2 = nI w then fn_X8_readOpen_j46 mt (fn_X8_readOpen_l9 mt n) M sA sL out (nI ig) x2 x3 (nI w) else fn_X8_readOpen_j42 mt (fn_X8_readOpen_l9 mt n) M sA sL out (nI ig) x2 x3 (nI w) else fn_X8_readOpen_j42 mt (fn_X8_readOpen_l9 mt n) M sA sL out (nI ig) x2 x3 (nI w)) := by
    rw [fn_X8_readOpen_l9, if_neg (by decide), if_pos m23, pm_width hS hM h9 (by omega) hw, Option.bind_some]
  have e46 : fn_X8_readOpen_j46 mt (fn_X8_readOpen_l9 mt n) M sA sL out (nI ig) x2 x3 (nI w) = fn_X8_readOpen_j67 mt (fn_X8_readOpen_l9 mt n) M sA sL out (nI ig) x2 x3 (nI w) (nI 0) (nI 0) := by
    rw [fn_X8_readOpen_j46, fn_X8_readOpen_j47, if_pos rfl]; rfl
  rcases hGO with ⟨h1, h2, h3⟩ | ⟨h1, h2, h3, h4, h5⟩
  · refine ⟨0, Or.inl rfl, ?_, ?_, ?_, ?_⟩
    · rw [e0, if_pos h1, e46]
      have : pFill f g gw w bc = 0 := by unfold pFill; rw [if_neg (fun q => q.2.1 h3)]
      rw [this]
    · rw [h3, h2]; split <;> rfl
    · rw [if_pos rfl]; omega
    · rw [if_pos rfl]; omega
  · have hne : ¬ x2 = -1 := by rw [h1]; exact pn_m1 (by omega)
    by_cases hend : bc = true ∨ gw ≠ w
    · refine ⟨1, Or.inr rfl, ?_, ?_, ?_, ?_⟩
      · have e42 : fn_X8_readOpen_j42 mt (fn_X8_readOpen_l9 mt n) M sA sL out (nI ig) x2 x3 (nI w) = fn_X8_readOpen_j67 mt (fn_X8_readOpen_l9 mt n) M sA sL out (nI ig) x2 x3 (nI w) (nI 1) (nI (pFill f g gw w bc)) := by
          have hfl : pFill f g gw w bc = (8 - ig) % 8 * gw := by
            unfold pFill
            by_cases hg0 : g = 0
            · rw [if_neg (fun q => q.2.1 hg0), show (8 - ig) % 8 = 0 by omega, Nat.zero_mul]
            · rw [if_pos ⟨hf, hg0, hend⟩, show (8 - ig) % 8 = 8 - g by omega]
          rw [fn_X8_readOpen_j42, fn_X8_readOpen_j47, if_neg (by decide), h1, pn_Lsub (by omega), pn_rem8 (by omega), pn_mul, hfl]; rfl
        rw [e0, if_neg hne]
        by_cases hx3 : x3 = 0
        · rw [if_pos hx3, if_neg, e42]
          rw [h1, pn_eq (by omega) (by omega)]
          intro q
          rcases hend with hb | hb
          · rw [hb] at h5; rw [h5] at hx3; exact absurd hx3 (by decide)
          · exact hb q
        · rw [if_neg hx3, e42]
      · rw [if_pos hend, if_neg (by decide)]
      · rw [if_neg (by decide)]; omega
      · rw [if_neg (by decide)]; omega
    · have hbc : bc = false := by cases bc; rfl; exact absurd (Or.inl rfl) hend
      have hgw2 : gw = w := by
        by_cases q : gw = w
        · exact q
        · exact absurd (Or.inr q) hend
      refine ⟨0, Or.inl rfl, ?_, ?_, ?_, ?_⟩
      · rw [e0, if_neg hne, if_pos (by rw [h5, hbc]; rfl), if_pos (by rw [h1, hgw2]), e46]
        have : pFill f g gw w bc = 0 := by unfold pFill; rw [if_neg (fun q => hend q.2.2)]
        rw [this]
      · rw [if_neg hend, if_pos rfl, h4]
      · rw [if_pos rfl]; omega
      · rw [if_pos rfl]; omega
theorem ps_open {R TB TBA mt Mi : Nat → Int32} {f k m c nb : Nat} {by_ : Nat → Nat} (hS : pS f k m c) (hR : pR R f k m c) (hf : f = 2) (hMi : pM Mi f k m c) (hTi : pTp nb by_ TB TBA Mi mt) :
    ∀ (d n n' p cr since outs w g gw : Nat) (bc : Bool) (ig : Nat) (x2 x3 : Int32) (U P SY SYA stA lnA M sA sL out : Nat → Int32), 8 * nb - p ≤ d → d + 1 < n → d + 2 < n' → p ≤ 8 * nb → 3 * cr ≤ p → pP P f k m since w → pG P g gw bc → pGO g gw bc ig x2 x3 → pY f k m since outs U SY SYA stA lnA M sA sL out → U 8 = nI p → U 9 = nI cr → M 22 = nI p → pFrR M Mi →
      ∃ rc rm, fn_X6_unpack_l6 R TB TBA n U P SY SYA stA lnA (nI cr) = some rc ∧ fn_X8_readOpen_l9 mt n' M sA sL out (nI ig) x2 x3 1 = some rm ∧ pRd k rc rm Mi := by
  have hnb := hTi.2.2.1
  have hb := pS_b hS
  have hfb := pS_f hS
  have hF1' : pF f k = 2 ^ k + 1 := by rw [pF, if_pos hf]
  intro d
  induction d with
  | zero =>
    intro n n' p cr since outs w g gw bc ig x2 x3 U P SY SYA stA lnA M sA sL out hd hn hn' hp hcr hP hG hGO hY u8 u9 m22 hF
    obtain ⟨n, rfl⟩ : ∃ q, n = q + 1 := ⟨n - 1, by omega⟩
    obtain ⟨n', rfl⟩ : ∃ q, n' = q + 1 := ⟨n' - 1, by omega⟩
    obtain ⟨n', rfl⟩ : ∃ q, n' = q + 1 := ⟨n' - 1, by omega⟩
    have hwb := pW_b hS hP.2.2.1
    have hM := pFrR_pM hF hMi
    have hT := pTp_M hTi (pFrR_7 hF)
    obtain ⟨h9, m23, s1, m25, ho, hso, hA, -⟩ := id hY
    have hfb2 : pFill f g gw w bc ≤ 96 := pFill_le hG.2.2.2.1
    have hpe : p = 8 * nb := by omega
    obtain ⟨an, -, em, -, -, -⟩ := pm_open (mt := mt) (sA := sA) (sL := sL) (out := out) (n := n' + 1) hS hf hM h9 (by omega) m23 hP.2.2.1 hG.2.2.2.1 hGO
    obtain ⟨U1, M1, r, q, z1, z2, z3, z4, z5, z6, z7, z8, z9⟩ := ps_zeros (x := 0) hS hR hM hT (by omega) u8 m22 m23
    have ecl : fn_X6_unpack_l6 R TB TBA (n + 1) U P SY SYA stA lnA (nI cr) = some (nI r, U1, P, SY, SYA, stA, lnA) := by
      have hbl : fn_X6_bitsLeft U TB = some (nI (8 * nb - p)) := by rw [fn_X6_bitsLeft, fn_X5_bits, pr_size hT.1, Option.bind_some, Option.bind_some, u8, pn_Lmul, pn_sub hp]
      have hz : fn_X6_zerosUpTo U R TB TBA (nI (8 * nb)) = some (nI r, U1) := by rw [← z1, hpe]; rfl
      rw [fn_X6_unpack_l6, if_neg (by rw [pn_Llt (by omega) (by omega)]; omega), pp_fill hS hR hP hG, Option.bind_some, hR.2.2.2.2.2.1, if_pos hf, if_neg (by decide), hbl, Option.bind_some, hP.2.1, pn_add, if_neg (by rw [pn_le (by omega) (by omega)]; omega), fn_X5_bits, pr_size hT.1, Option.bind_some, Option.bind_some, pn_Lmul, hz, Option.bind_some]
    have eml : fn_X8_readOpen_l9 mt (n' + 1 + 1) M sA sL out (nI ig) x2 x3 1 = some (M1, sA, sL, out) := by
      have hz : 8 * M 7 - M 22 = nI 0 := by rw [hT.2.1, m22, pn_Lmul, pn_sub hp, hpe, Nat.sub_self]
      rw [em, fn_X8_readOpen_j67, hz, pn_add, if_pos ((pn_lt (by omega) (by omega)).mpr (by omega)), fn_X8_readOpen_j94, if_pos rfl, fn_X8_readOpen_l9, if_pos rfl, fn_X8_readOpen_j186, hz, z2, Option.bind_some]
    exact ⟨_, _, ecl, eml, r, q, rfl, z3, by omega, z5, z6, by omega, ⟨outs, by omega, s1⟩, fun j q1 q2 q3 q4 q5 q6 => (z9 j q2 q3).trans (hF j q1 q2 q3 q4 q5 q6), fun _ => ⟨outs, s1, (z9 25 (by decide) (by decide)).trans m25, ho, hA⟩⟩
  | succ d ih =>
    intro n n' p cr since outs w g gw bc ig x2 x3 U P SY SYA stA lnA M sA sL out hd hn hn' hp hcr hP hG hGO hY u8 u9 m22 hF
    obtain ⟨n, rfl⟩ : ∃ q, n = q + 1 := ⟨n - 1, by omega⟩
    obtain ⟨n', rfl⟩ : ∃ q, n' = q + 1 := ⟨n' - 1, by omega⟩
    have hwb := pW_b hS hP.2.2.1
    have hM := pFrR_pM hF hMi
    have hT := pTp_M hTi (pFrR_7 hF)
    obtain ⟨h9, m23, s1, m25, ho, hso, hA, -⟩ := id hY
    have hfb2 : pFill f g gw w bc ≤ 96 := pFill_le hG.2.2.2.1
    obtain ⟨an, han, em, hgr, hig1, hig2⟩ := pm_open (mt := mt) (sA := sA) (sL := sL) (out := out) (n := n') hS hf hM h9 (by omega) m23 hP.2.2.1 hG.2.2.2.1 hGO
    have hbl : fn_X6_bitsLeft U TB = some (nI (8 * nb - p)) := by rw [fn_X6_bitsLeft, fn_X5_bits, pr_size hT.1, Option.bind_some, Option.bind_some, u8, pn_Lmul, pn_sub hp]
    have hml : 8 * M 7 - M 22 = nI (8 * nb - p) := by rw [hT.2.1, m22, pn_Lmul, pn_sub hp]
    by_cases hmore : pFill f g gw w bc + w ≤ 8 * nb - p
    · -- one CODE more
      have o4 : p + pFill f g gw w bc + w ≤ 8 * nb := by omega
      obtain ⟨U1, M1, r, q, z1, z2, z3, z4, z5, z6, z7, z8, z9⟩ := ps_zeros (x := pFill f g gw w bc) hS hR hM hT (by omega) u8 m22 m23
      have hM1 : pM M1 f k m c := pM_M hM (fun j hj => z9 j (by omega) (by omega))
      have hT1 : pTp nb by_ TB TBA M1 mt := pTp_M hT (z9 7 (by decide) (by decide))
      have ecl : fn_X6_unpack_l6 R TB TBA (n + 1) U P SY SYA stA lnA (nI cr) = (if nI r = 0 then (fn_X6_nextCode U1 R TB TBA P).bind fun y_76 => if y_76.1 = (-1) then some (1, y_76.2, P, SY, SYA, stA, lnA) else (fn_X6_take y_76.2 R P SY SYA stA lnA y_76.1).bind fun y_89 => if y_89.1 = 0 then if y_76.1 = (R 8) then (fn_X6_closeLastByte y_89.2.1 R TB TBA).bind fun y_114 => some (y_114.1, y_114.2, y_89.2.2.1, y_89.2.2.2.1, y_89.2.2.2.2.1, y_89.2.2.2.2.2.1, y_89.2.2.2.2.2.2) else fn_X6_unpack_l6 R TB TBA n y_89.2.1 y_89.2.2.1 y_89.2.2.2.1 y_89.2.2.2.2.1 y_89.2.2.2.2.2.1 y_89.2.2.2.2.2.2 (nI (cr + 1)) else some (y_89.1, y_89.2.1, y_89.2.2.1, y_89.2.2.2.1, y_89.2.2.2.2.1, y_89.2.2.2.2.2.1, y_89.2.2.2.2.2.2) else some (6, U1, P, SY, SYA, stA, lnA)) := by
        rw [fn_X6_unpack_l6, if_neg (by rw [pn_Llt (by omega) (by omega)]; omega), pp_fill hS hR hP hG, Option.bind_some, hR.2.2.2.2.2.1, if_pos hf, if_neg (by decide), hbl, Option.bind_some, hP.2.1, pn_add, if_pos ((pn_le (by omega) (by omega)).mpr hmore), fn_X6_unpack_j59, u8, pn_add, z1, Option.bind_some, pn_addL]
      have eml : fn_X8_readOpen_l9 mt (n' + 1) M sA sL out (nI ig) x2 x3 1 = (fn_X8_number M1 mt (nI w)).bind fun y_110 => if nI an = 0 then fn_X8_readOpen_j130 mt (fn_X8_readOpen_l9 mt n') y_110.2 sA sL out 1 (nI w) y_110.1 ((nI ig - nI ig / 8 * 8) + 1) else fn_X8_readOpen_j130 mt (fn_X8_readOpen_l9 mt n') y_110.2 sA sL out 1 (nI w) y_110.1 1 := by
        rw [em, fn_X8_readOpen_j67, hml, pn_add, if_neg (by rw [pn_lt (by omega) (by omega)]; omega), fn_X8_readOpen_j94, if_neg (by decide), z2, Option.bind_some]
      have hig8 : ig ≤ 8 := by rcases hGO with ⟨-, q, -⟩ | ⟨-, -, q, -⟩ <;> omega
      have e130 : ∀ (MM : Nat → Int32) (z : Int32), (if nI an = 0 then fn_X8_readOpen_j130 mt (fn_X8_readOpen_l9 mt n') MM sA sL out 1 (nI w) z ((nI ig - nI ig / 8 * 8) + 1) else fn_X8_readOpen_j130 mt (fn_X8_readOpen_l9 mt n') MM sA sL out 1 (nI w) z 1) = fn_X8_readOpen_j130 mt (fn_X8_readOpen_l9 mt n') MM sA sL out 1 (nI w) z (nI (if an = 0 then ig % 8 + 1 else 1)) := by
        intro MM z
        rcases han with h | h
        · rw [h, if_pos (by rfl), if_pos rfl, pn_rem8 (by omega), pn_addL]
        · rw [h, if_neg (by decide), if_neg (by decide)]; rfl
      rw [ecl, eml]
      rcases z4 with ⟨y1, y2⟩ | y1
      · subst y1; subst y2
        have m231 : M1 23 = 0 := z3
        obtain ⟨U2, M2, v, x, e1, e2, fU, fM, hcase⟩ := ps_code hS hR hM1 hT1 hP.2.1 ⟨by omega, by omega⟩ (by omega) z5 (show U1 9 = nI cr by rw [z8 9 (by decide), u9]) (by omega) z6 m231
        rcases hcase with ⟨hpw, ⟨a, ha, hv, hx⟩, hu, hm, hu9, hm23⟩ | ⟨hpw, -⟩
        · subst hv; subst hx
          have o1 : 8 * nb - (p + pFill f g gw w bc + w) ≤ d := by omega
          have o2 : d + 1 < n := by omega
          have o3 : d + 2 < n' := by omega
          have o5 : 3 * (cr + 1) ≤ p + pFill f g gw w bc + w := by omega
          have hM2 : pM M2 f k m c := pM_M hM1 (fun j hj => fM j (by omega) (by omega))
          have fM2 : ∀ j, j ≠ 22 → j ≠ 23 → M2 j = M j := fun j q1 q2 => (fM j q1 q2).trans (z9 j q1 q2)
          have fU2 : ∀ j, j ≠ 8 → j ≠ 9 → U2 j = U j := fun j q1 q2 => (fU j q1 q2).trans (z8 j q1)
          have hF2 : pFrR M2 Mi := fun j q1 q2 q3 q4 q5 q6 => by rw [fM2 j q2 q3]; exact hF j q1 q2 q3 q4 q5 q6
          have esh : (1 : Int32) <<< (M2 1 &&& 31) = nI (2 ^ k) := by rw [hM2.2.1, pn_sh1 k (by have := hS.2.2.1; omega)]
          have hY1 : pY f k m since outs U2 SY SYA stA lnA M2 sA sL out := ⟨by rw [fM2 9 (by decide) (by decide), h9], hm23, s1, by rw [fM2 25 (by decide) (by decide), m25], ho, hso, hA, fun q => by
            obtain ⟨ba, bl, b1, b2, b3, b4, b5⟩ := hY.2.2.2.2.2.2.2.1 q
            exact ⟨ba, bl, by rw [fU2 6 (by decide) (by decide), b1], by rw [fU2 7 (by decide) (by decide), b2], by rw [fM2 26 (by decide) (by decide), b3], by rw [fM2 27 (by decide) (by decide), b4], b5⟩, hY.2.2.2.2.2.2.2.2⟩
          obtain ⟨-, tkC, -, tkS⟩ := pc_take (R := R) (P := P) (U := U2) (SY := SY) (SYA := SYA) (stA := stA) (lnA := lnA) (a := a) hS hR (by omega) hu9 (by omega)
          obtain ⟨P', since', w', ep, hP', hG', hsn⟩ := pp_pass (code := a) hS hR hP hG (by omega)
          have hne8 : ¬ nI a = R 8 := by rw [hR.2.2.2.2.2.2.2.2.1, if_pos hf]; exact pn_m1 (by omega)
          have hGO' : ∀ x3' : Int32, x3' = nI (if decide (a = 2 ^ k) = true then 1 else 0) → pGO (((if bc = true ∨ gw ≠ w then 0 else g) + 1) % 8) w (decide (a = 2 ^ k)) (if an = 0 then ig % 8 + 1 else 1) (nI w) x3' := fun x3' h => Or.inr ⟨rfl, hig1, hig2, hgr, h⟩
          rw [if_pos (by rfl), e1, e2, Option.bind_some, Option.bind_some, e130]
          dsimp only
          rw [if_neg (pn_m1 (by omega)), fn_X8_readOpen_j130, esh]
          by_cases hcl : a = 2 ^ k
          · rw [tkC hcl, ep, Option.bind_some, Option.bind_some, if_pos rfl, if_neg hne8, if_pos (by rw [hcl]), fn_X8_readOpen_j150, if_pos hm23, if_neg (by decide)]
            rw [if_pos hcl] at hsn
            subst hsn
            exact ih n n' (p + pFill f g gw w bc + w) (cr + 1) 0 outs w' _ _ _ _ _ _ U2 P' SY SYA stA lnA (upd M2 9 0) sA sL out o1 o2 o3 hpw o5 hP' hG' (hGO' 1 (by rw [decide_eq_true hcl]; rfl)) ⟨by rw [pn_us]; rfl, by rw [pn_un (by decide)]; exact hm23, s1, by rw [pn_un (by decide), fM2 25 (by decide) (by decide), m25], ho, by omega, hA, fun q => by omega, fun s hs => by rw [pC_made hS] at hs; omega⟩ hu hu9 (by rw [pn_un (by decide)]; exact hm) (fun j q1 q2 q3 q4 q5 q6 => by rw [pn_un q1]; exact hF2 j q1 q2 q3 q4 q5 q6)
          · rw [tkS (Or.inl hf) hcl (fun q => q.1 hf), if_neg (by rw [pn_eq (by omega) (by omega)]; exact hcl), fn_X8_readOpen_j150, if_pos hm23, if_pos rfl, fn_X8_readOpen_j170, if_pos hm23]
            obtain ⟨r, U3, SY3, SYA3, st3, ln3, M3, sA3, sL3, out3, t1, t2, t3, t4, t5, t6, t7, t8, t9, t10⟩ := ps_take (code := a) hS hR hM2 hP hY1 (by omega) (by omega)
            rw [t1, t2, Option.bind_some, Option.bind_some, fn_X6_take_j65]
            have hF3 : pFrR M3 Mi := fun j q1 q2 q3 q4 q5 q6 => by rw [t8 j q1 q3 q4 q5 q6]; exact hF2 j q1 q2 q3 q4 q5 q6
            by_cases hr : r = 0
            · subst hr
              obtain ⟨outs2, hY2⟩ := t10 rfl
              rw [if_pos (by rfl), ep, Option.bind_some, Option.bind_some, if_pos (by rfl), if_neg hne8]
              rw [if_neg hcl, if_neg (fun q => q.1 hf)] at hsn
              subst hsn
              exact ih n n' (p + pFill f g gw w bc + w) (cr + 1) (since + 1) outs2 w' _ _ _ _ _ _ U3 P' SY3 SYA3 st3 ln3 M3 sA3 sL3 out3 o1 o2 o3 hpw o5 hP' hG' (hGO' 0 (by rw [decide_eq_false hcl]; rfl)) hY2 (t5.trans hu) (t6.trans hu9) (t7.trans hm) hF3
            · have hrb : ¬ nI r = 0 := by rw [pn_eqL (by omega) (by omega)]; exact hr
              have hb2 : ¬ M3 23 = 0 := by rw [t3]; exact hrb
              rw [if_neg hrb, Option.bind_some, if_neg hrb, pm_9B (show ¬ (M3, sA3, sL3, out3).1 23 = 0 from hb2) (by omega)]
              exact ⟨_, _, rfl, rfl, r, _, rfl, t3, by omega, t5.trans hu, t7.trans hm, by omega, t9, hF3, fun q => absurd q hr⟩
        · omega
      · subst y1
        have hbad : ¬ M1 23 = 0 := by rw [z3]; decide
        obtain ⟨x, hx⟩ := pm_numB (mt := mt) (w := w) (by omega) hbad
        have hF1 : pFrR M1 Mi := fun j q1 q2 q3 q4 q5 q6 => (z9 j q2 q3).trans (hF j q1 q2 q3 q4 q5 q6)
        rw [if_neg (by decide), hx, Option.bind_some, e130]
        have e150 : ∀ z : Int32, fn_X8_readOpen_j150 mt (fn_X8_readOpen_l9 mt n') M1 sA sL out (nI (if an = 0 then ig % 8 + 1 else 1)) (nI w) 1 x z = some (M1, sA, sL, out) := by
          intro z
          rw [fn_X8_readOpen_j150, if_neg hbad, fn_X8_readOpen_j170, if_neg hbad, pm_9B hbad (by omega)]
        rw [fn_X8_readOpen_j130, e150, e150]
        refine ⟨_, (M1, sA, sL, out), rfl, by split <;> rfl, 6, q, rfl, z3, by omega, z5, z6, by omega, ⟨outs, by omega, s1⟩, hF1, fun q => by omega⟩
    · -- the end
      obtain ⟨n', rfl⟩ : ∃ q, n' = q + 1 := ⟨n' - 1, by omega⟩
      obtain ⟨U1, M1, r, q, z1, z2, z3, z4, z5, z6, z7, z8, z9⟩ := ps_zeros (x := 8 * nb - p) hS hR hM hT (by omega) u8 m22 m23
      have ecl : fn_X6_unpack_l6 R TB TBA (n + 1) U P SY SYA stA lnA (nI cr) = some (nI r, U1, P, SY, SYA, stA, lnA) := by
        have hz : fn_X6_zerosUpTo U R TB TBA (nI (8 * nb)) = some (nI r, U1) := by rw [← z1, show p + (8 * nb - p) = 8 * nb by omega]
        rw [fn_X6_unpack_l6, if_neg (by rw [pn_Llt (by omega) (by omega)]; omega), pp_fill hS hR hP hG, Option.bind_some, hR.2.2.2.2.2.1, if_pos hf, if_neg (by decide), hbl, Option.bind_some, hP.2.1, pn_add, if_neg (by rw [pn_le (by omega) (by omega)]; omega), fn_X5_bits, pr_size hT.1, Option.bind_some, Option.bind_some, pn_Lmul, hz, Option.bind_some]
      have eml : fn_X8_readOpen_l9 mt (n' + 1 + 1) M sA sL out (nI ig) x2 x3 1 = some (M1, sA, sL, out) := by
        rw [em, fn_X8_readOpen_j67, hml, pn_add, if_pos ((pn_lt (by omega) (by omega)).mpr (by omega)), fn_X8_readOpen_j94, if_pos rfl, fn_X8_readOpen_l9, if_pos rfl, fn_X8_readOpen_j186, hml, z2, Option.bind_some]
      exact ⟨_, _, ecl, eml, r, q, rfl, z3, by omega, z5, z6, by omega, ⟨outs, by omega, s1⟩, fun j q1 q2 q3 q4 q5 q6 => (z9 j q2 q3).trans (hF j q1 q2 q3 q4 q5 q6), fun _ => ⟨outs, s1, (z9 25 (by decide) (by decide)).trans m25, ho, hA⟩⟩
