/-! PURE: reading in FORMS 0 and 1 -/
theorem pc_take {R P U SY SYA stA lnA : Nat → Int32} {f k m c a cr : Nat} (hS : pS f k m c) (hR : pR R f k m c) (ha : a < 100000) (u9 : U 9 = nI cr) (hcr : cr < 100000) :
    (f ≠ 2 → cr = 1 → a ≠ 2 ^ k → fn_X6_take U R P SY SYA stA lnA (nI a) = some (2, U, P, SY, SYA, stA, lnA)) ∧
    (a = 2 ^ k → fn_X6_take U R P SY SYA stA lnA (nI a) = (fn_X0_pass P R (nI a)).bind fun y => some (0, U, y, SY, SYA, stA, lnA)) ∧
    (f ≠ 2 → cr ≠ 1 → a = 2 ^ k + 1 → fn_X6_take U R P SY SYA stA lnA (nI a) = (fn_X0_pass P R (nI a)).bind fun y => some (0, U, y, SY, SYA, stA, lnA)) ∧
    ((f = 2 ∨ cr ≠ 1) → a ≠ 2 ^ k → ¬ (f ≠ 2 ∧ a = 2 ^ k + 1) → fn_X6_take U R P SY SYA stA lnA (nI a) = (fn_X6_takeString U R P SY SYA stA lnA (nI a)).bind fun y => fn_X6_take_j65 R y.2.1 P y.2.2.1 y.2.2.2.1 y.2.2.2.2.1 y.2.2.2.2.2 (nI a) y.1) := by
  have hb := pS_b hS
  obtain ⟨r0, r1, r2, r3, r4, r5, r6, r7, r8, r9, r10, r11⟩ := hR
  have e56 : fn_X6_take_j56 R U P SY SYA stA lnA (nI a) = (fn_X0_pass P R (nI a)).bind fun y => some (0, U, y, SY, SYA, stA, lnA) := by
    rw [fn_X6_take_j56, fn_X6_take_j65, if_pos rfl]
  refine ⟨fun h1 h2 h3 => ?_, fun h1 => ?_, fun h1 h2 h3 => ?_, fun h1 h2 h3 => ?_⟩
  · rw [fn_X6_take, r7, if_neg (by rw [pn_eq (by omega) (by omega)]; exact h3), fn_X6_take_j16, u9, if_pos (by rw [h2]; rfl), r4, if_neg h1, if_neg (by decide), if_pos rfl]
  · have e41 : fn_X6_take_j41 R U P SY SYA stA lnA (nI a) 1 = (fn_X0_pass P R (nI a)).bind fun y => some (0, U, y, SY, SYA, stA, lnA) := by
      rw [fn_X6_take_j41, if_neg (by decide), e56]
    rw [fn_X6_take, r7, if_pos (by rw [h1]), fn_X6_take_j16, u9, r4]
    by_cases hc1 : cr = 1
    · rw [if_pos (by rw [hc1]; rfl)]
      by_cases hf : f = 2
      · rw [if_pos hf, if_pos (by rfl)]; exact e41
      · rw [if_neg hf, if_neg (by decide), if_neg (by decide)]; exact e41
    · rw [if_neg (by rw [pn_eqL (by omega) (by omega)]; exact hc1)]; exact e41
  · rw [fn_X6_take, r7, if_neg (by rw [pn_eq (by omega) (by omega)]; omega), fn_X6_take_j16, u9, if_neg (by rw [pn_eqL (by omega) (by omega)]; exact h2), fn_X6_take_j41, if_pos rfl, r8, if_neg h1, if_pos (by rw [h3]), e56]
  · have hne : ¬ nI a = R 8 := by
      rw [r8]
      by_cases hf : f = 2
      · rw [if_pos hf]; exact pn_m1 (by omega)
      · rw [if_neg hf, pn_eq (by omega) (by omega)]; exact fun q => h3 ⟨hf, q⟩
    have e41 : fn_X6_take_j41 R U P SY SYA stA lnA (nI a) 0 = (fn_X6_takeString U R P SY SYA stA lnA (nI a)).bind fun y => fn_X6_take_j65 R y.2.1 P y.2.2.1 y.2.2.2.1 y.2.2.2.2.1 y.2.2.2.2.2 (nI a) y.1 := by
      rw [fn_X6_take_j41, if_pos rfl, if_neg hne]
    rw [fn_X6_take, r7, if_neg (by rw [pn_eq (by omega) (by omega)]; exact h2), fn_X6_take_j16, u9, r4]
    by_cases hc1 : cr = 1
    · have hf : f = 2 := by rcases h1 with h1 | h1; exact h1; exact absurd hc1 h1
      rw [if_pos (by rw [hc1]; rfl), if_pos hf, if_pos (by rfl)]; exact e41
    · rw [if_neg (by rw [pn_eqL (by omega) (by omega)]; exact hc1)]; exact e41
abbrev pC7 : Type := Int32 × pVV × pVV × pVV × pVV × pVV × pVV
abbrev pM4 : Type := pVV × pVV × pVV × pVV
def pRd (k : Nat) (rc : pC7) (rm : pM4) (Mi : Nat → Int32) : Prop := ∃ r q, rc.1 = nI r ∧ rm.1 23 = nI r ∧ r ≤ 6 ∧ rc.2.1 8 = nI q ∧ rm.1 22 = nI q ∧ q ≤ 3200 ∧ (∃ z, z < 2000 ∧ rc.2.2.2.1 1 = nI z) ∧ pFrR rm.1 Mi ∧ (r = 0 → ∃ outs, rc.2.2.2.1 1 = nI outs ∧ rm.1 25 = nI outs ∧ outs ≤ 300 ∧ pAg k outs rc.2.2.2.2.1 rm.2.2.2)
theorem pm_zerosB {M mt : Nat → Int32} {x : Int32} (h : ¬ M 23 = 0) : fn_X8_zeros M mt x = some M := by
  rw [fn_X8_zeros, show gx_fuel = 4999 + 1 from rfl, fn_X8_zeros_l2]
  by_cases hx : x ≤ 0
  · rw [if_pos hx]
  · rw [if_neg hx, if_neg h]
theorem pm_116B {M mt sA sL out : Nat → Int32} (h : ¬ M 23 = 0) : fn_X8_readClosed_j116 mt M sA sL out = some (M, sA, sL, out) := by
  rw [fn_X8_readClosed_j116, pm_zerosB h, Option.bind_some, if_neg h]
theorem pm_4B {M mt sA sL out : Nat → Int32} {n : Nat} {x2 : Int32} (h : ¬ M 23 = 0) (hn : 0 < n) : fn_X8_readClosed_l4 mt n M sA sL out 0 x2 = some (M, sA, sL, out) := by
  obtain ⟨n, rfl⟩ : ∃ q, n = q + 1 := ⟨n - 1, by omega⟩
  rw [fn_X8_readClosed_l4, if_pos rfl, if_neg h, pm_116B h]
theorem pFrR_pM {M Mi : Nat → Int32} {f k m c : Nat} (h : pFrR M Mi) (hM : pM Mi f k m c) : pM M f k m c := pM_M hM (fun j hj => h j (by omega) (by omega) (by omega) (by omega) (by omega) (by omega))
theorem pFrR_7 {M Mi : Nat → Int32} (h : pFrR M Mi) : M 7 = Mi 7 := h 7 (by decide) (by decide) (by decide) (by decide) (by decide) (by decide)
theorem pc_zeros0 {U R TB TBA : Nat → Int32} {p : Nat} (u8 : U 8 = nI p) : fn_X6_zerosUpTo U R TB TBA (nI p) = some (0, U) := by
  rw [fn_X6_zerosUpTo, show gx_fuel = 4999 + 1 from rfl, fn_X6_zerosUpTo_l5, if_pos (by rw [u8]; exact Int32.le_refl _)]
/-- END is read: the last byte, and nothing behind it -/
theorem ps_close {R TB TBA mt U M sA sL out : Nat → Int32} {f k m c nb p : Nat} {by_ : Nat → Nat} (hS : pS f k m c) (hR : pR R f k m c) (hM : pM M f k m c) (hT : pTp nb by_ TB TBA M mt) (hp : p ≤ 8 * nb) (u8 : U 8 = nI p) (m22 : M 22 = nI p) (m23 : M 23 = 0) :
    ∃ U' M' r q, fn_X6_closeLastByte U R TB TBA = some (nI r, U') ∧ fn_X8_readClosed_j116 mt M sA sL out = some (M', sA, sL, out) ∧ M' 23 = nI r ∧ r ≤ 6 ∧ U' 8 = nI q ∧ M' 22 = nI q ∧ q ≤ 3200 ∧ (∀ j, j ≠ 22 → j ≠ 23 → M' j = M j) := by
  have hnb := hT.2.2.1
  obtain ⟨U', M', r, q, a1, a2, a3, a4, a5, a6, a7, a8, a9⟩ := ps_zeros (x := (8 - p % 8) % 8) hS hR hM hT (by omega) u8 m22 m23
  have epos : ((nI p + 7) / 8) * 8 = nI (p + (8 - p % 8) % 8) := by
    rw [pn_addL, pn_divL (by omega) (by omega) (by omega), pn_mulL]
    congr 1
    omega
  have ex : (8 - (nI p - nI p / 8 * 8)) - (8 - (nI p - nI p / 8 * 8)) / 8 * 8 = nI ((8 - p % 8) % 8) := by
    rw [pn_rem8 (by omega), pn_Lsub (by omega), pn_rem8 (by omega)]
  have h7 : M' 7 = nI nb := by rw [a9 7 (by decide) (by decide), hT.2.1]
  rw [fn_X6_closeLastByte, u8, epos, a1, Option.bind_some, fn_X8_readClosed_j116, m22, ex, a2, Option.bind_some, a3]
  rcases a4 with ⟨b1, b2⟩ | b1
  · subst b1
    have hbl : fn_X6_bitsLeft U' TB = some (nI (8 * nb - q)) := by
      rw [fn_X6_bitsLeft, fn_X5_bits, pr_size hT.1, Option.bind_some, Option.bind_some, a5, pn_Lmul, pn_sub a7]
    rw [hbl, h7, a6, pn_Lmul]
    simp only [Option.bind_some]
    rw [if_pos (show nI 0 = 0 from rfl), if_pos (show nI 0 = 0 from rfl)]
    by_cases hend : 8 * nb ≤ q
    · rw [if_pos (by rw [pn_leL (by omega) (by omega)]; omega), if_pos ((pn_le (by omega) (by omega)).mpr hend)]
      exact ⟨U', M', 0, q, rfl, rfl, a3, by omega, a5, a6, by omega, a9⟩
    · rw [if_neg (by rw [pn_leL (by omega) (by omega)]; omega), if_neg (by rw [pn_le (by omega) (by omega)]; exact hend)]
      exact ⟨U', upd M' 23 6, 6, q, rfl, rfl, by rw [pn_us]; rfl, by omega, a5, by rw [pn_un (by decide)]; exact a6, by omega, fun j h1 h2 => by rw [pn_un h2]; exact a9 j h1 h2⟩
  · subst b1
    rw [if_neg (show ¬ nI 6 = 0 by decide), if_neg (show ¬ nI 6 = 0 by decide)]
    exact ⟨U', M', 6, q, rfl, rfl, a3, by omega, a5, a6, by omega, a9⟩
theorem ps_closed {R TB TBA mt Mi : Nat → Int32} {f k m c nb : Nat} {by_ : Nat → Nat} (hS : pS f k m c) (hR : pR R f k m c) (hf : f ≠ 2) (hMi : pM Mi f k m c) (hTi : pTp nb by_ TB TBA Mi mt) :
    ∀ (d n n' p cr since outs w g gw : Nat) (bc : Bool) (U P SY SYA stA lnA M sA sL out : Nat → Int32), 8 * nb - p ≤ d → d + 1 < n → d + 2 < n' → p ≤ 8 * nb → 3 * cr ≤ p → pP P f k m since w → pG P g gw bc → pY f k m since outs U SY SYA stA lnA M sA sL out → U 8 = nI p → U 9 = nI cr → M 22 = nI p → pFrR M Mi →
      ∃ rc rm, fn_X6_unpack_l6 R TB TBA n U P SY SYA stA lnA (nI cr) = some rc ∧ fn_X8_readClosed_l4 mt n' M sA sL out 0 (nI (if cr = 0 then 1 else 0)) = some rm ∧ pRd k rc rm Mi := by
  have hnb := hTi.2.2.1
  have hb := pS_b hS
  have hfb := pS_f hS
  have hF2 : pF f k = 2 ^ k + 2 := by rw [pF, if_neg hf]
  intro d
  induction d with
  | zero =>
    -- the bits end at once: as below
    intro n n' p cr since outs w g gw bc U P SY SYA stA lnA M sA sL out hd hn hn' hp hcr hP hG hY u8 u9 m22 hF
    obtain ⟨n, rfl⟩ : ∃ q, n = q + 1 := ⟨n - 1, by omega⟩
    obtain ⟨n', rfl⟩ : ∃ q, n' = q + 1 := ⟨n' - 1, by omega⟩
    have hwb := pW_b hS hP.2.2.1
    have hM := pFrR_pM hF hMi
    have hT := pTp_M hTi (pFrR_7 hF)
    obtain ⟨h9, m23, s1, m25, ho, hso, hA, hbef, hstr⟩ := id hY
    have hfill : pFill f g gw w bc = 0 := by unfold pFill; rw [if_neg (fun q => hf q.1)]
    obtain ⟨U1, M1, v, x, e1, e2, fU, fM, hcase⟩ := ps_code hS hR hM hT hP.2.1 ⟨by omega, by omega⟩ hp u8 u9 (by omega) m22 m23
    have ecl : fn_X6_unpack_l6 R TB TBA (n + 1) U P SY SYA stA lnA (nI cr) = some (1, U1, P, SY, SYA, stA, lnA) := by
      rcases hcase with ⟨q, -⟩ | ⟨-, hv, -⟩
      · omega
      rw [fn_X6_unpack_l6, if_neg (by rw [pn_Llt (by omega) (by omega)]; omega), pp_fill hS hR hP hG, Option.bind_some, hfill, hR.2.2.2.2.2.1, if_neg hf, if_pos (by rfl), fn_X6_unpack_j59, u8, pn_add, Nat.add_zero, pc_zeros0 u8, Option.bind_some, if_pos rfl, e1, Option.bind_some, if_pos hv]
    rcases hcase with ⟨q, -⟩ | ⟨-, hv, hu, hm, hm23⟩
    · omega
    have hbad : ¬ M1 23 = 0 := by rw [hm23]; decide
    have eml : fn_X8_readClosed_l4 mt (n' + 1) M sA sL out 0 (nI (if cr = 0 then 1 else 0)) = some (M1, sA, sL, out) := by
      have h50 : ∀ z : Int32, fn_X8_readClosed_j50 mt (fn_X8_readClosed_l4 mt n') M1 sA sL out 0 z = some (M1, sA, sL, out) := by
        intro z
        rw [fn_X8_readClosed_j50, if_neg hbad, fn_X8_readClosed_j77, if_neg hbad, fn_X8_readClosed_j101, if_neg hbad, pm_4B hbad (by omega)]
      rw [fn_X8_readClosed_l4, if_pos rfl, if_pos m23, pm_width hS hM h9 (by omega) hP.2.2.1, Option.bind_some, e2, Option.bind_some, if_neg hbad]
      exact h50 x
    refine ⟨_, _, ecl, eml, 1, 8 * nb, rfl, hm23, by omega, hu, hm, by omega, ⟨outs, by omega, s1⟩, fun j q1 q2 q3 q4 q5 q6 => ?_, fun q => by omega⟩
    show M1 j = Mi j
    rw [fM j q2 q3]; exact hF j q1 q2 q3 q4 q5 q6
  | succ d ih =>
    intro n n' p cr since outs w g gw bc U P SY SYA stA lnA M sA sL out hd hn hn' hp hcr hP hG hY u8 u9 m22 hF
    obtain ⟨n, rfl⟩ : ∃ q, n = q + 1 := ⟨n - 1, by omega⟩
    obtain ⟨n', rfl⟩ : ∃ q, n' = q + 1 := ⟨n' - 1, by omega⟩
    have hwb := pW_b hS hP.2.2.1
    have hM := pFrR_pM hF hMi
    have hT := pTp_M hTi (pFrR_7 hF)
    obtain ⟨h9, m23, s1, m25, ho, hso, hA, hbef, hstr⟩ := id hY
    have hfill : pFill f g gw w bc = 0 := by unfold pFill; rw [if_neg (fun q => hf q.1)]
    obtain ⟨U1, M1, v, x, e1, e2, fU, fM, hcase⟩ := ps_code hS hR hM hT hP.2.1 ⟨by omega, by omega⟩ hp u8 u9 (by omega) m22 m23
    have ecl : fn_X6_unpack_l6 R TB TBA (n + 1) U P SY SYA stA lnA (nI cr) = (if v = -1 then some (1, U1, P, SY, SYA, stA, lnA) else (fn_X6_take U1 R P SY SYA stA lnA v).bind fun y_89 => if y_89.1 = 0 then if v = R 8 then (fn_X6_closeLastByte y_89.2.1 R TB TBA).bind fun y_114 => some (y_114.1, y_114.2, y_89.2.2.1, y_89.2.2.2.1, y_89.2.2.2.2.1, y_89.2.2.2.2.2.1, y_89.2.2.2.2.2.2) else fn_X6_unpack_l6 R TB TBA n y_89.2.1 y_89.2.2.1 y_89.2.2.2.1 y_89.2.2.2.2.1 y_89.2.2.2.2.2.1 y_89.2.2.2.2.2.2 (nI (cr + 1)) else some (y_89.1, y_89.2.1, y_89.2.2.1, y_89.2.2.2.1, y_89.2.2.2.2.1, y_89.2.2.2.2.2.1, y_89.2.2.2.2.2.2)) := by
      rw [fn_X6_unpack_l6, if_neg (by rw [pn_Llt (by omega) (by omega)]; omega), pp_fill hS hR hP hG, Option.bind_some, hfill, hR.2.2.2.2.2.1, if_neg hf, if_pos (by rfl), fn_X6_unpack_j59, u8, pn_add, Nat.add_zero, pc_zeros0 u8, Option.bind_some, if_pos rfl, e1, Option.bind_some, pn_addL]
    have eml : fn_X8_readClosed_l4 mt (n' + 1) M sA sL out 0 (nI (if cr = 0 then 1 else 0)) = (if M1 23 = 0 then if nI (if cr = 0 then 1 else 0) = 0 then fn_X8_readClosed_j50 mt (fn_X8_readClosed_l4 mt n') M1 sA sL out 0 x else if x = 1 <<< (M1 1 &&& 31) then fn_X8_readClosed_j50 mt (fn_X8_readClosed_l4 mt n') M1 sA sL out 0 x else fn_X8_readClosed_j50 mt (fn_X8_readClosed_l4 mt n') (upd M1 23 2) sA sL out 0 x else fn_X8_readClosed_j50 mt (fn_X8_readClosed_l4 mt n') M1 sA sL out 0 x) := by
      rw [fn_X8_readClosed_l4, if_pos rfl, if_pos m23, pm_width hS hM h9 (by omega) hP.2.2.1, Option.bind_some, e2, Option.bind_some]
    have h50B : ∀ (MM : Nat → Int32) (z : Int32), ¬ MM 23 = 0 → fn_X8_readClosed_j50 mt (fn_X8_readClosed_l4 mt n') MM sA sL out 0 z = some (MM, sA, sL, out) := by
      intro MM z hb
      rw [fn_X8_readClosed_j50, if_neg hb, fn_X8_readClosed_j77, if_neg hb, fn_X8_readClosed_j101, if_neg hb, pm_4B hb (by omega)]
    rcases hcase with ⟨hpw, ⟨a, ha, hv, hx⟩, hu, hm, hu9, hm23⟩ | ⟨hpw, hv, hu, hm, hm23⟩
    · subst hv; subst hx
      have o1 : 8 * nb - (p + w) ≤ d := by omega
      have o2 : d + 1 < n := by omega
      have o3 : d + 2 < n' := by omega
      have o5 : 3 * (cr + 1) ≤ p + w := by omega
      have hM1 : pM M1 f k m c := pM_M hM (fun j hj => fM j (by omega) (by omega))
      have hT1 : pTp nb by_ TB TBA M1 mt := pTp_M hT (fM 7 (by decide) (by decide))
      have hF1 : pFrR M1 Mi := fun j q1 q2 q3 q4 q5 q6 => by rw [fM j q2 q3]; exact hF j q1 q2 q3 q4 q5 q6
      have esh : (1 : Int32) <<< (M1 1 &&& 31) = nI (2 ^ k) := by rw [hM1.2.1, pn_sh1 k (by have := hS.2.2.1; omega)]
      have hY1 : pY f k m since outs U1 SY SYA stA lnA M1 sA sL out := ⟨by rw [fM 9 (by decide) (by decide), h9], hm23, s1, by rw [fM 25 (by decide) (by decide), m25], ho, hso, hA, fun q => by
        obtain ⟨ba, bl, b1, b2, b3, b4, b5⟩ := hbef q
        exact ⟨ba, bl, by rw [fU 6 (by decide) (by decide), b1], by rw [fU 7 (by decide) (by decide), b2], by rw [fM 26 (by decide) (by decide), b3], by rw [fM 27 (by decide) (by decide), b4], b5⟩, hstr⟩
      obtain ⟨tk2, tkC, tkE, tkS⟩ := pc_take (R := R) (P := P) (U := U1) (SY := SY) (SYA := SYA) (stA := stA) (lnA := lnA) (a := a) hS hR (by omega) hu9 (by omega)
      obtain ⟨P', since', w', ep, hP', hG', hsn⟩ := pp_pass (code := a) hS hR hP hG (by omega)
      rw [ecl, if_neg (pn_m1 (by omega)), eml, if_pos hm23, esh]
      by_cases hfirst : cr = 0 ∧ a ≠ 2 ^ k
      · -- FAULT 2
        rw [tk2 hf (by omega) hfirst.2, Option.bind_some, if_neg (show ¬ (2 : Int32) = 0 by decide), if_pos hfirst.1, if_neg (show ¬ nI 1 = 0 by decide), if_neg (by rw [pn_eq (by omega) (by omega)]; exact hfirst.2), h50B _ _ (by rw [pn_us]; decide)]
        refine ⟨_, _, rfl, rfl, 2, p + w, rfl, (pn_us : upd M1 23 2 23 = 2), by omega, hu, (pn_un (by decide) : upd M1 23 2 22 = M1 22).trans hm, by omega, ⟨outs, by omega, s1⟩, fun j q1 q2 q3 q4 q5 q6 => ?_, fun q => by omega⟩
        show upd M1 23 2 j = Mi j
        rw [pn_un q3]; exact hF1 j q1 q2 q3 q4 q5 q6
      · have ejj : (if nI (if cr = 0 then 1 else 0) = 0 then fn_X8_readClosed_j50 mt (fn_X8_readClosed_l4 mt n') M1 sA sL out 0 (nI a) else if nI a = nI (2 ^ k) then fn_X8_readClosed_j50 mt (fn_X8_readClosed_l4 mt n') M1 sA sL out 0 (nI a) else fn_X8_readClosed_j50 mt (fn_X8_readClosed_l4 mt n') (upd M1 23 2) sA sL out 0 (nI a)) = fn_X8_readClosed_j50 mt (fn_X8_readClosed_l4 mt n') M1 sA sL out 0 (nI a) := by
          by_cases h0 : cr = 0
          · rw [if_pos h0, if_neg (by decide), if_pos (by
              by_cases q : a = 2 ^ k
              · rw [q]
              · exact absurd ⟨h0, q⟩ hfirst)]
          · rw [if_neg h0, if_pos (by rfl)]
        rw [ejj, fn_X8_readClosed_j50, if_pos hm23, esh]
        by_cases hcl : a = 2 ^ k
        · -- a CLEAR
          rw [tkC hcl, ep, Option.bind_some, Option.bind_some, if_pos rfl, if_neg (by rw [hR.2.2.2.2.2.2.2.2.1, if_neg hf, pn_eq (by omega) (by omega)]; omega), if_pos (by rw [hcl])]
          rw [if_pos hcl] at hsn
          subst hsn
          have hxx := ih n n' (p + w) (cr + 1) 0 outs w' _ _ _ U1 P' SY SYA stA lnA (upd M1 9 0) sA sL out o1 o2 o3 hpw o5 hP' hG' ⟨by rw [pn_us]; rfl, by rw [pn_un (by decide)]; exact hm23, s1, by rw [pn_un (by decide), fM 25 (by decide) (by decide), m25], ho, by omega, hA, fun q => by omega, fun s hs => by rw [pC_made hS] at hs; omega⟩ hu hu9 (by rw [pn_un (by decide)]; exact hm) (fun j q1 q2 q3 q4 q5 q6 => by rw [pn_un q1]; exact hF1 j q1 q2 q3 q4 q5 q6)
          rw [if_neg (show ¬ cr + 1 = 0 by omega)] at hxx
          exact hxx
        · rw [if_neg (by rw [pn_eq (by omega) (by omega)]; exact hcl), fn_X8_readClosed_j77, if_pos hm23, esh, pn_addL]
          have hcr0 : cr ≠ 0 := fun q => hfirst ⟨q, hcl⟩
          by_cases hen : a = 2 ^ k + 1
          · -- END
            obtain ⟨n', rfl⟩ : ∃ q, n' = q + 1 := ⟨n' - 1, by omega⟩
            obtain ⟨U2, M2, r, q, c1, c2, c3, c4, c5, c6, c7, c8⟩ := ps_close (sA := sA) (sL := sL) (out := out) hS hR hM1 hT1 hpw hu hm hm23
            rw [tkE hf (by omega) hen, ep, Option.bind_some, Option.bind_some, if_pos rfl, if_pos (by rw [hR.2.2.2.2.2.2.2.2.1, if_neg hf, hen]), c1, Option.bind_some, if_pos (by rw [hen]), fn_X8_readClosed_l4, if_neg (by decide), c2]
            refine ⟨_, _, rfl, rfl, r, q, rfl, c3, c4, c5, c6, c7, ⟨outs, by omega, s1⟩, fun j q1 q2 q3 q4 q5 q6 => ?_, fun _ => ⟨outs, s1, ?_, ho, hA⟩⟩
            · show M2 j = Mi j
              rw [c8 j q2 q3]; exact hF1 j q1 q2 q3 q4 q5 q6
            · show M2 25 = nI outs
              rw [c8 25 (by decide) (by decide), fM 25 (by decide) (by decide), m25]
          · -- a STRING
            rw [tkS (Or.inr (by omega)) hcl (fun q => hen q.2), if_neg (by rw [pn_eq (by omega) (by omega)]; exact hen), fn_X8_readClosed_j101, if_pos hm23]
            obtain ⟨r, U2, SY2, SYA2, st2, ln2, M2, sA2, sL2, out2, t1, t2, t3, t4, t5, t6, t7, t8, t9, t10⟩ := ps_take (code := a) hS hR hM1 hP hY1 (by omega) (by omega)
            rw [t1, t2, Option.bind_some, Option.bind_some, fn_X6_take_j65]
            have hF2' : pFrR M2 Mi := fun j q1 q2 q3 q4 q5 q6 => by rw [t8 j q1 q3 q4 q5 q6]; exact hF1 j q1 q2 q3 q4 q5 q6
            by_cases hr : r = 0
            · subst hr
              obtain ⟨outs2, hY2⟩ := t10 rfl
              rw [if_pos (by rfl), ep, Option.bind_some, Option.bind_some, if_pos (by rfl), if_neg (by rw [hR.2.2.2.2.2.2.2.2.1, if_neg hf, pn_eq (by omega) (by omega)]; exact hen)]
              rw [if_neg hcl, if_neg (fun q => hen q.2)] at hsn
              subst hsn
              have hxx := ih n n' (p + w) (cr + 1) (since + 1) outs2 w' _ _ _ U2 P' SY2 SYA2 st2 ln2 M2 sA2 sL2 out2 o1 o2 o3 hpw o5 hP' hG' hY2 (by rw [t5]; exact hu) (by rw [t6]; exact hu9) (by rw [t7]; exact hm) hF2'
              rw [if_neg (show ¬ cr + 1 = 0 by omega)] at hxx
              exact hxx
            · have hrb : ¬ nI r = 0 := by rw [pn_eqL (by omega) (by omega)]; exact hr
              have hb2 : ¬ M2 23 = 0 := by rw [t3]; exact hrb
              rw [if_neg hrb, Option.bind_some, if_neg hrb, pm_4B (show ¬ (M2, sA2, sL2, out2).1 23 = 0 from hb2) (by omega)]
              exact ⟨_, _, rfl, rfl, r, p + w, rfl, t3, by omega, t5.trans hu, t7.trans hm, by omega, t9, hF2', fun q => absurd q hr⟩
    · -- the bits end
      have hbad : ¬ M1 23 = 0 := by rw [hm23]; decide
      rw [ecl, if_pos hv, eml, if_neg hbad, h50B M1 x hbad]
      refine ⟨_, _, rfl, rfl, 1, 8 * nb, rfl, hm23, by omega, hu, hm, by omega, ⟨outs, by omega, s1⟩, fun j q1 q2 q3 q4 q5 q6 => ?_, fun q => by omega⟩
      show M1 j = Mi j
      rw [fM j q2 q3]; exact hF j q1 q2 q3 q4 q5 q6
