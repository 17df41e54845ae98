/-! PURE: read() -/
theorem ps_unpack {R TB TBA mt U P SY SYA stA lnA M sA sL out : Nat → Int32} {f k m c nb z : Nat} {by_ : Nat → Nat} (hS : pS f k m c) (hR : pR R f k m c) (hM : pM M f k m c) (hT : pTp nb by_ TB TBA M mt) (hz : z < 2000) (hSY : SY 1 = nI z) (m22 : M 22 = 0) (m23 : M 23 = 0) (m25 : M 25 = 0) (m9 : M 9 = 0) :
    ∃ rc rm, fn_X6_unpack U R TB TBA P SY SYA stA lnA = some rc ∧ (if f = 2 then fn_X8_readOpen M mt sA sL out else fn_X8_readClosed M mt sA sL out) = some rm ∧ pRd k rc rm M := by
  obtain ⟨P', ep, hP, hG⟩ := pp_begin (P := P) hS hR
  obtain ⟨SY', es, hs⟩ := pr_shr0 hSY hz
  have hnb := hT.2.2.1
  have hY : pY f k m 0 0 (upd (upd (upd (upd U 6 0) 7 0) 8 0) 9 0) SY' SYA stA lnA M sA sL out := ⟨m9, m23, hs, m25, by omega, by omega, fun j hj => by omega, fun q => by omega, fun s hs => by rw [pC_made hS] at hs; omega⟩
  have eb : fn_X6_begin U R P SY = some (upd (upd (upd (upd U 6 0) 7 0) 8 0) 9 0, P', SY') := by
    rw [fn_X6_begin, ep, Option.bind_some, es, Option.bind_some]
  rw [fn_X6_unpack, eb, Option.bind_some]
  have o1 : 3200 + 1 < gx_fuel := by show 3201 < 5000; omega
  have o2 : 3200 + 2 < gx_fuel := by show 3202 < 5000; omega
  by_cases hf : f = 2
  · rw [if_pos hf, fn_X8_readOpen]
    exact ps_open hS hR hf hM hT 3200 gx_fuel gx_fuel 0 0 0 0 (k + 1) 0 (k + 1) false 0 (-1) 0 _ P' SY' SYA stA lnA M sA sL out (by omega) o1 o2 (by omega) (by omega) hP hG (Or.inl ⟨rfl, rfl, rfl⟩) hY (by simp [upd]; rfl) (by simp [upd]; rfl) m22 (fun _ _ _ _ _ _ _ => rfl)
  · rw [if_neg hf, fn_X8_readClosed]
    have := ps_closed hS hR hf hM hT 3200 gx_fuel gx_fuel 0 0 0 0 (k + 1) 0 (k + 1) false _ P' SY' SYA stA lnA M sA sL out (by omega) o1 o2 (by omega) (by omega) hP hG hY (by simp [upd]; rfl) (by simp [upd]; rfl) m22 (fun _ _ _ _ _ _ _ => rfl)
    rw [if_pos rfl] at this
    exact this
theorem pr_like_l {SY SYA : Nat → Int32} {o : Nat} (hs : SY 1 = nI o) (ho : o ≤ 300) : ∀ (d n i : Nat) (DA DAA : Nat → Int32), o - i = d → d < n → i ≤ o → DA 1 = nI i → (∀ j, j < i → DAA j = SYA j) → ∃ DA' DAA', fn_X2_becomeLike_l7 SY SYA 300 300 n DA DAA (nI i) = some (DA', DAA') ∧ DA' 1 = nI o ∧ ∀ j, j < o → DAA' j = SYA j := by
  intro d
  induction d with
  | zero =>
    intro n i DA DAA hd hn hi h1 h2
    obtain ⟨n, rfl⟩ : ∃ q, n = q + 1 := ⟨n - 1, by omega⟩
    have : i = o := by omega
    subst this
    rw [fn_X2_becomeLike_l7, hs, if_pos (Int32.le_refl _)]
    exact ⟨DA, DAA, rfl, h1, h2⟩
  | succ d ih =>
    intro n i DA DAA hd hn hi h1 h2
    obtain ⟨n, rfl⟩ : ∃ q, n = q + 1 := ⟨n - 1, by omega⟩
    rw [fn_X2_becomeLike_l7, hs, if_neg (by rw [pn_le (by omega) (by omega)]; omega), pr_get hs ho (by omega) (by omega), Option.bind_some, pr_add h1 (by omega) (by omega) (by omega), Option.bind_some, pn_addL]
    refine ih n (i + 1) (upd DA 1 (nI (i + 1))) (upd DAA i (SYA i)) (by omega) (by omega) (by omega) pn_us (fun j hj => ?_)
    by_cases hji : j = i
    · subst hji; exact pn_us
    · show upd DAA i (SYA i) j = SYA j
      rw [pn_un hji]; exact h2 j (by omega)
theorem pm_copy_l {mt M sA sL out : Nat → Int32} {o : Nat} (h25 : M 25 = nI o) (ho : o ≤ 300) : ∀ (d n i : Nat) (row : Nat → Int32), o - i = d → d < n → i ≤ o → (∀ j, j < i → row j = out j) → ∃ row', fn_X8_read_l80 mt n M row sA sL out (nI i) = some (nI o, upd M 5 (nI o), row', sA, sL, out) ∧ ∀ j, j < o → row' j = out j := by
  intro d
  induction d with
  | zero =>
    intro n i row hd hn hi h2
    obtain ⟨n, rfl⟩ : ∃ q, n = q + 1 := ⟨n - 1, by omega⟩
    have : i = o := by omega
    subst this
    rw [fn_X8_read_l80, h25, if_pos (Int32.le_refl _)]
    exact ⟨row, rfl, h2⟩
  | succ d ih =>
    intro n i row hd hn hi h2
    obtain ⟨n, rfl⟩ : ∃ q, n = q + 1 := ⟨n - 1, by omega⟩
    have hi3 : gx_in (nI i) 300 := (pn_in (by omega)).mpr (by omega)
    rw [fn_X8_read_l80, h25, if_neg (by rw [pn_le (by omega) (by omega)]; omega), if_pos hi3, if_pos hi3, pn_cl (by omega), pn_addL]
    refine ih n (i + 1) _ (by omega) (by omega) (by omega) (fun j hj => ?_)
    by_cases hji : j = i
    · subst hji; exact pn_us
    · rw [pn_un hji]; exact h2 j (by omega)
theorem ps_read {X R DA DAA TB TBA mt U P SY SYA stA lnA M row sA sL out : Nat → Int32} {f k m c nb z : Nat} {by_ : Nat → Nat} (hS : pS f k m c) (hR : pR R f k m c) (hM : pM M f k m c) (hT : pTp nb by_ TB TBA M mt) (hz : z < 2000) (hSY : SY 1 = nI z) :
    ∃ v X' DA' DAA' U' P' SY' SYA' stA' lnA' M' row' sA' sL' out', fn_X7_read X R DA DAA TB TBA U P SY SYA stA lnA = some (v, X', DA', DAA', U', P', SY', SYA', stA', lnA') ∧ fn_X8_read M row mt sA sL out = some (v, M', row', sA', sL', out') ∧ X' 6 = M' 8 ∧ M' 21 = 0 ∧ (∀ j, j ≠ 5 → j ≠ 8 → j ≠ 9 → j ≠ 21 → j ≠ 22 → j ≠ 23 → j ≠ 25 → j ≠ 26 → j ≠ 27 → M' j = M j) ∧ (∃ z, z < 2000 ∧ SY' 1 = nI z) ∧
      ((X' 5 = X 5 ∧ DA' = DA ∧ DAA' = DAA ∧ row' = row ∧ M' 5 = M 5) ∨ (X' 5 = 0 ∧ ∃ sz D, pDat k sz D DA' DAA' M' row')) := by
  have hM0 : pM (upd (upd (upd (upd (upd M 22 0) 23 0) 25 0) 9 0) 21 0) f k m c := pM_M hM (fun j hj => by simp [upd, show j ≠ 21 by omega, show j ≠ 9 by omega, show j ≠ 25 by omega, show j ≠ 23 by omega, show j ≠ 22 by omega])
  have hT0 : pTp nb by_ TB TBA (upd (upd (upd (upd (upd M 22 0) 23 0) 25 0) 9 0) 21 0) mt := pTp_M hT (by simp [upd])
  obtain ⟨⟨r1, U', P', SY', SYA', stA', lnA'⟩, ⟨M1, sA1, sL1, out1⟩, e1, e2, r, q, q1, q2, q3, q4, q5, q6, q7, q8, q9⟩ := ps_unpack (U := U) (P := P) (SYA := SYA) (stA := stA) (lnA := lnA) (sA := sA) (sL := sL) (out := out) hS hR hM0 hT0 hz hSY (by simp [upd]) (by simp [upd]) (by simp [upd]) (by simp [upd])
  dsimp only at q1 q2 q4 q5 q7 q8 q9
  subst q1
  have hfr : ∀ j, j ≠ 5 → j ≠ 8 → j ≠ 9 → j ≠ 21 → j ≠ 22 → j ≠ 23 → j ≠ 25 → j ≠ 26 → j ≠ 27 → M1 j = M j := fun j a1 a2 a3 a4 a5 a6 a7 a8 a9 => by rw [q8 j a3 a5 a6 a7 a8 a9]; simp [upd, a3, a4, a5, a6, a7]
  have m21 : M1 21 = 0 := by rw [q8 21 (by decide) (by decide) (by decide) (by decide) (by decide) (by decide)]; simp [upd]
  have m5 : M1 5 = M 5 := by rw [q8 5 (by decide) (by decide) (by decide) (by decide) (by decide) (by decide)]; simp [upd]
  have em : fn_X8_read M row mt sA sL out = fn_X8_read_j44 mt M1 row sA1 sL1 out1 := by
    rw [fn_X8_read, hM.1]
    by_cases hf : f = 2
    · rw [if_pos hf] at e2
      rw [if_pos (by rw [hf]; rfl), e2, Option.bind_some]
    · rw [if_neg hf] at e2
      rw [if_neg (by rw [pn_eqL (by have := hS.1; omega) (by omega)]; exact hf), e2, Option.bind_some]
  by_cases hr : r = 0
  · subst hr
    obtain ⟨outs, o1, o2, o3, o4⟩ := q9 rfl
    obtain ⟨DA', DAA', l1, l2, l3⟩ := pr_like_l (SYA := SYA') o1 o3 outs gx_fuel 0 (upd DA 1 0) DAA (by omega) (by show _ < 5000; omega) (by omega) (by rw [pn_us]; rfl) (fun j hj => by omega)
    obtain ⟨row', w1, w2⟩ := pm_copy_l (mt := mt) (sA := sA1) (sL := sL1) (out := out1) (M := upd M1 8 (-1)) (by rw [pn_un (by decide)]; exact o2) o3 outs gx_fuel 0 row (by omega) (by show _ < 5000; omega) (by omega) (fun j hj => by omega)
    have ec : fn_X7_read X R DA DAA TB TBA U P SY SYA stA lnA = some (nI outs, upd (upd X 6 (-1)) 5 0, DA', DAA', U', P', SY', SYA', stA', lnA') := by
      rw [fn_X7_read, e1, Option.bind_some, if_pos (show nI 0 = 0 from rfl), fn_X2_becomeLike]
      have l1' : fn_X2_becomeLike_l7 SY' SYA' 300 300 gx_fuel (upd DA 1 0) DAA 0 = some (DA', DAA') := l1
      rw [l1', Option.bind_some, pr_size l2, Option.bind_some]
    have em2 : fn_X8_read M row mt sA sL out = some (nI outs, upd (upd M1 8 (-1)) 5 (nI outs), row', sA1, sL1, out1) := by
      rw [em, fn_X8_read_j44, if_pos (show M1 23 = 0 from q2), fn_X8_read_j60, if_pos (show M1 23 = 0 from q2)]
      exact w1
    refine ⟨_, _, _, _, _, _, _, _, _, _, _, _, _, _, _, ec, em2, by simp [upd], ?_, fun j a1 a2 a3 a4 a5 a6 a7 a8 a9 => ?_, q7, Or.inr ⟨by simp [upd], outs, fun j => (out1 j).toNatClampNeg, l2, by simp [upd], o3, fun j hj => ?_⟩⟩
    · rw [← m21]; simp [upd]
    · rw [← hfr j a1 a2 a3 a4 a5 a6 a7 a8 a9]; simp [upd, a1, a2]
    · obtain ⟨b1, v, b2, b3⟩ := o4 j hj
      have hb := pS_b hS
      have hcl : (out1 j).toNatClampNeg = v := by rw [b3]; exact pn_cl (by omega)
      dsimp only
      rw [hcl]
      exact ⟨by rw [l3 j hj, b1, b3], by rw [w2 j hj, b3], b2⟩
  · have hrb : ¬ nI r = 0 := by rw [pn_eqL (by omega) (by omega)]; exact hr
    have hb : ¬ M1 23 = 0 := by rw [q2]; exact hrb
    have ec : fn_X7_read X R DA DAA TB TBA U P SY SYA stA lnA = some ((-10) - nI r, upd X 6 (nI q), DA, DAA, U', P', SY', SYA', stA', lnA') := by
      rw [fn_X7_read, e1, Option.bind_some, if_neg hrb]
      dsimp only
      rw [q4]
    have em2 : fn_X8_read M row mt sA sL out = some ((-10) - nI r, upd M1 8 (nI q), row, sA1, sL1, out1) := by
      rw [em, fn_X8_read_j44, if_neg hb, fn_X8_read_j60, if_neg hb, q2, q5]
    refine ⟨_, _, _, _, _, _, _, _, _, _, _, _, _, _, _, ec, em2, by simp [upd], by rw [← m21]; simp [upd], fun j a1 a2 a3 a4 a5 a6 a7 a8 a9 => by rw [← hfr j a1 a2 a3 a4 a5 a6 a7 a8 a9]; simp [upd, a2], q7, Or.inl ⟨by simp [upd], rfl, rfl, rfl, by rw [← m5]; simp [upd]⟩⟩
