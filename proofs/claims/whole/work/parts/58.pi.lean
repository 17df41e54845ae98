/-! PURE: packing, the loop -/
theorem pI_mono {f k m sz pl pl' : Nat} {D : Nat → Nat} {K P T th tt tl tn tc CO COA WI WIA BE BEA M mc mw mb sA sL sO Mi : Nat → Int32} (h : pI f k m sz pl D K P T th tt tl tn tc CO COA WI WIA BE BEA M mc mw mb sA sL sO Mi) (hl : pl ≤ pl') : pI f k m sz pl' D K P T th tt tl tn tc CO COA WI WIA BE BEA M mc mw mb sA sL sO Mi := by
  obtain ⟨many, since, st, cl, strs, clrs, sa, sl, so, hQ, h9, k8, k7, h15, hD, hT, hMd, i1, i2, i3, i4, i5, hF⟩ := h
  exact ⟨many, since, st, cl, strs, clrs, sa, sl, so, hQ, h9, k8, k7, h15, hD, hT, hMd, i1, i2, i3, by omega, i5, hF⟩
theorem ps_loop {f k m c sz : Nat} {D : Nat → Nat} {R DA DAA row Mi : Nat → Int32} (hS : pS f k m c) (hR : pR R f k m c) (hMi : pM Mi f k m c) (hdat : pDat k sz D DA DAA Mi row) :
    ∀ (d n n' pl turn : Nat) (K P T th tt tl tn tc CO COA WI WIA BE BEA M mc mw mb sA sL sO : Nat → Int32), sz - pl ≤ d → d < n → d < n' → pl ≤ sz → turn ≤ pl → pI f k m sz pl D K P T th tt tl tn tc CO COA WI WIA BE BEA M mc mw mb sA sL sO Mi →
      ∃ rc rm, fn_X1_pack_l22 R DA DAA n K P T th tt tl tn tc CO COA WI WIA BE BEA (nI pl) (nI turn) = some rc ∧ fn_X8_pack_l57 row n' M mc mw mb sA sL sO (nI pl) = some rm ∧ pRes f k sz D Mi rc rm := by
  obtain ⟨d1, d2, d3, d4⟩ := id hdat
  have hb := pS_b hS
  have hfb := pS_f hS
  -- the loop's end
  have fin : ∀ (n n' turn : Nat) (K P T th tt tl tn tc CO COA WI WIA BE BEA M mc mw mb sA sL sO : Nat → Int32), turn ≤ sz → pI f k m sz sz D K P T th tt tl tn tc CO COA WI WIA BE BEA M mc mw mb sA sL sO Mi → ∃ rc rm, fn_X1_pack_l22 R DA DAA (n + 1) K P T th tt tl tn tc CO COA WI WIA BE BEA (nI sz) (nI turn) = some rc ∧ fn_X8_pack_l57 row (n' + 1) M mc mw mb sA sL sO (nI sz) = some rm ∧ pRes f k sz D Mi rc rm := by
    intro n n' turn K P T th tt tl tn tc CO COA WI WIA BE BEA M mc mw mb sA sL sO ht hI
    obtain ⟨rc, rm, e1, e2, e3⟩ := ps_end (row := row) (DA := DA) (DAA := DAA) hS hR hMi d3 hI
    have h5 : M 5 = nI sz := by
      obtain ⟨many, since, st, cl, strs, clrs, sa, sl, so, hQ, h9, k8, k7, h15, hD, hT, hMd, i1, i2, i3, i4, i5, hF⟩ := hI
      rw [pFr_5 hF, d2]
    refine ⟨rc, rm, ?_, ?_, e3⟩
    · rw [fn_X1_pack_l22, pr_size d1, Option.bind_some]
      by_cases h : sz ≤ turn
      · rw [if_pos ((pn_le (by omega) (by omega)).mpr h)]; exact e1
      · rw [if_neg (by rw [pn_le (by omega) (by omega)]; exact h), Option.bind_some, if_pos (Int32.le_refl _)]; exact e1
    · rw [fn_X8_pack_l57, h5, if_pos (Int32.le_refl _)]; exact e2
  intro d
  induction d with
  | zero =>
    intro n n' pl turn K P T th tt tl tn tc CO COA WI WIA BE BEA M mc mw mb sA sL sO hd hn hn' hpl ht hI
    obtain ⟨n, rfl⟩ : ∃ q, n = q + 1 := ⟨n - 1, by omega⟩
    obtain ⟨n', rfl⟩ : ∃ q, n' = q + 1 := ⟨n' - 1, by omega⟩
    have : pl = sz := by omega
    subst this
    exact fin n n' turn K P T th tt tl tn tc CO COA WI WIA BE BEA M mc mw mb sA sL sO ht hI
  | succ d ih =>
    intro n n' pl turn K P T th tt tl tn tc CO COA WI WIA BE BEA M mc mw mb sA sL sO hd hn hn' hpl ht hI
    obtain ⟨n, rfl⟩ : ∃ q, n = q + 1 := ⟨n - 1, by omega⟩
    obtain ⟨n', rfl⟩ : ∃ q, n' = q + 1 := ⟨n' - 1, by omega⟩
    by_cases hps : pl = sz
    · subst hps
      exact fin n n' turn K P T th tt tl tn tc CO COA WI WIA BE BEA M mc mw mb sA sL sO ht hI
    obtain ⟨many, since, st, cl, strs, clrs, sa, sl, so, hQ, h9, k8, k7, h15, hD, hT, hMd, i1, i2, i3, i4, i5, hF⟩ := hI
    have hM := pFr_pM hF hMi
    have h5 : M 5 = nI sz := by rw [pFr_5 hF, d2]
    have hkpl := (d4 pl (by omega)).2.2
    have ht3 := hT.2.1
    -- the longest string, twice
    obtain ⟨code, len, el, hB⟩ := pt_longest hS hR hdat hD hT (show pl < sz by omega)
    obtain ⟨code2, len2, hB2, em⟩ := pm_best (K := fn_X8_pack_l57 row n') (mc := mc) (mw := mw) (mb := mb) hS hM d3 h5 (fun j hj => ⟨(d4 j hj).2.1, by have := (d4 j hj).2.2; omega⟩) ht3 hD hMd (show pl < sz by omega)
    obtain ⟨rfl, rfl⟩ := pBest_uniq hS hD hB2 hB
    have hln : 1 ≤ len2 ∧ pl + len2 ≤ sz ∧ len2 ≤ 300 := by
      rcases hB.1 with ⟨q1, q2⟩ | ⟨s, q1, q2, q3, q4⟩
      · omega
      · have := (hD.1 s q1).1; have := q3.1; omega
    have hcb : code2 < 100000 ∧ code2 ≠ 2 ^ k ∧ ¬ (f ≠ 2 ∧ code2 = 2 ^ k + 1) := by
      rcases hB.1 with ⟨q1, q2⟩ | ⟨s, q1, q2, q3, q4⟩
      · omega
      · refine ⟨by omega, by omega, fun q => ?_⟩
        have : pF f k = 2 ^ k + 2 := by rw [pF, if_neg q.1]
        omega
    obtain ⟨K1, P1, CO1, COA1, WI1, WIA1, BE1, BEA1, M1, mc1, mw1, mb1, e1, e2, hQ1, hK1, hM1⟩ := ps_put (code := code2) hS hR hM h9 (by omega) hQ (by omega) hcb.1
    rw [if_neg hcb.2.1, if_neg hcb.2.2] at hQ1
    have hQ2 : pQ f k m (many + 1) (since + 1) (upd K1 8 (nI (since + 1))) P1 CO1 COA1 WI1 WIA1 BE1 BEA1 (upd M1 9 (nI (since + 1))) mc1 mw1 mb1 := pQ_ext hQ1 (by simp [upd]) (by simp [upd]) (by simp [upd]) (by simp [upd])
    have k81 : K1 8 = nI since := by rw [hK1 8 (by decide), k8]
    have m91 : M1 9 = nI since := by rw [hM1 9 (by decide) (by decide) (by decide), h9]
    have m51 : M1 5 = nI sz := by rw [hM1 5 (by decide) (by decide) (by decide), h5]
    have hF2 : pFr (upd M1 9 (nI (since + 1))) Mi := fun j a1 a2 a3 a4 a5 a6 => by
      rw [pn_un a1, hM1 j a2 a3 a5]; exact hF j a1 a2 a3 a4 a5 a6
    have hMd2 : pMd st sa sl so (upd M1 9 (nI (since + 1))) sA sL sO := ⟨by rw [pn_un (by decide), hM1 20 (by decide) (by decide) (by decide), hMd.1], hMd.2⟩
    have m15 : upd M1 9 (nI (since + 1)) 15 = nI cl := by rw [pn_un (by decide), hM1 15 (by decide) (by decide) (by decide), h15]
    have k72 : upd K1 8 (nI (since + 1)) 7 = nI cl := by rw [pn_un (by decide), hK1 7 (by decide), k7]
    -- one turn of each loop
    have ec : fn_X1_pack_l22 R DA DAA (n + 1) K P T th tt tl tn tc CO COA WI WIA BE BEA (nI pl) (nI turn) = (if nI sz ≤ nI (pl + len2) then fn_X1_pack_l22 R DA DAA n (upd K1 8 (nI (since + 1))) P1 T th tt tl tn tc CO1 COA1 WI1 WIA1 BE1 BEA1 (nI (pl + len2)) (nI (turn + 1)) else (fn_X2_get DA DAA 300 (nI (pl + len2))).bind fun y_90 => (fn_X4_addLonger T R th tt tl tn tc (nI code2) y_90).bind fun y_93 => (fn_X1_clearIsDue (upd K1 8 (nI (since + 1))) R y_93.1).bind fun y_97 => if y_97 = 0 then fn_X1_pack_l22 R DA DAA n (upd K1 8 (nI (since + 1))) P1 y_93.1 y_93.2.1 y_93.2.2.1 y_93.2.2.2.1 y_93.2.2.2.2.1 y_93.2.2.2.2.2 CO1 COA1 WI1 WIA1 BE1 BEA1 (nI (pl + len2)) (nI (turn + 1)) else (fn_X1_putClear (upd K1 8 (nI (since + 1))) R P1 y_93.1 y_93.2.1 y_93.2.2.2.2.2 CO1 COA1 WI1 WIA1 BE1 BEA1).bind fun y_104 => fn_X1_pack_l22 R DA DAA n y_104.1 y_104.2.1 y_104.2.2.1 y_93.2.1 y_93.2.2.1 y_93.2.2.2.1 y_93.2.2.2.2.1 y_104.2.2.2.1 y_104.2.2.2.2.1 y_104.2.2.2.2.2.1 y_104.2.2.2.2.2.2.1 y_104.2.2.2.2.2.2.2.1 y_104.2.2.2.2.2.2.2.2.1 y_104.2.2.2.2.2.2.2.2.2 (nI (pl + len2)) (nI (turn + 1))) := by
      rw [fn_X1_pack_l22, pr_size d1, Option.bind_some, if_neg (by rw [pn_le (by omega) (by omega)]; omega), Option.bind_some, if_neg (by rw [pn_le (by omega) (by omega)]; omega), el, Option.bind_some, pt_len hS hR hT hkpl hB.1, Option.bind_some, e1, Option.bind_some, Option.bind_some]
      dsimp only
      rw [k81, pn_addL, pn_add, pn_addL]
    have em2 : fn_X8_pack_l57 row (n' + 1) M mc mw mb sA sL sO (nI pl) = (if nI sz ≤ nI (pl + len2) then fn_X8_pack_j187 row (fn_X8_pack_l57 row n') (upd M1 9 (nI (since + 1))) mc1 mw1 mb1 sA sL sO (nI pl) (nI code2) (nI len2) 0 else fn_X8_pack_j187 row (fn_X8_pack_l57 row n') (upd M1 9 (nI (since + 1))) mc1 mw1 mb1 sA sL sO (nI pl) (nI code2) (nI len2) 1) := by
      rw [fn_X8_pack_l57, h5, if_neg (by rw [pn_le (by omega) (by omega)]; omega), em, fn_X8_pack_j154, e2, Option.bind_some]
      simp only [m51, m91, pn_add]
      rw [pn_addL]
    rw [ec, em2]
    by_cases hgo : sz ≤ pl + len2
    · -- DATA ends here
      have hend : pl + len2 = sz := by omega
      have e187 : fn_X8_pack_j187 row (fn_X8_pack_l57 row n') (upd M1 9 (nI (since + 1))) mc1 mw1 mb1 sA sL sO (nI pl) (nI code2) (nI len2) 0 = fn_X8_pack_l57 row n' (upd M1 9 (nI (since + 1))) mc1 mw1 mb1 sA sL sO (nI (pl + len2)) := by
        have hM2 := pFr_pM hF2 hMi
        rw [fn_X8_pack_j187, if_pos rfl, fn_X8_pack_j253, pm_first hS hM2, Option.bind_some, pm_last hS hM2, Option.bind_some, fn_X8_pack_j279, fn_X8_pack_j279, if_pos rfl, pn_add]
        split <;> rfl
      rw [if_pos ((pn_le (by omega) (by omega)).mpr hgo), if_pos ((pn_le (by omega) (by omega)).mpr hgo), e187]
      exact ih n n' (pl + len2) (turn + 1) _ _ _ _ _ _ _ _ _ _ _ _ _ _ _ _ _ _ _ _ _ (by omega) (by omega) (by omega) (by omega) (by omega) ⟨many + 1, since + 1, st, cl, strs + 1, clrs, sa, sl, so, hQ2, by simp [upd], by simp [upd], k72, m15, hD, hT, hMd2, by omega, by omega, by omega, by omega, by omega, hF2⟩
    · have hDl := d4 (pl + len2) (by omega)
      have hM2 := pFr_pM hF2 hMi
      rw [if_neg (by rw [pn_le (by omega) (by omega)]; exact hgo), if_neg (by rw [pn_le (by omega) (by omega)]; exact hgo), pr_get d1 d3 (by omega) (by omega), Option.bind_some, hDl.1, fn_X8_pack_j187, if_neg (by decide), pm_first hS hM2, Option.bind_some, pm_last hS hM2, Option.bind_some, hMd2.1, pn_add]
      by_cases hfl : pF f k + st < pL f m
      · -- one string more
        have hi : gx_in (nI st) 300 := (pn_in (by omega)).mpr (by omega)
        rw [pt_add (pl := pl) hS hR hT hkpl hB.1 (by omega) hfl (by omega), Option.bind_some, if_neg (by rw [pn_le (by omega) (by omega)]; omega), if_pos hi, if_pos hi, if_pos hi, pn_cl (by omega), pn_addL, pn_addL]
        refine ps_tail (many := many + 1) (since := since + 1) (st := st + 1) (cl := cl) (strs := strs + 1) (clrs := clrs) (x3 := nI (turn + 1)) (sa := pUp sa st pl) (sl := pUp sl st (len2 + 1)) (so := pUp so st code2) hS hR hMi d3 hln.1 (by omega) (pQ_ext hQ2 rfl (by simp [upd]) (by simp [upd]) (by simp [upd])) (by simp [upd]) (by simp [upd]) k72 (by rw [← m15]; simp [upd]) (pD_add hS (fun j hj => (d4 j hj).2.2) hD hB hln.1 (by omega)) (pTab_add hT (by omega)) (pMd_add hMd2 (by simp [upd])) (by omega) (by omega) (by omega) (by omega) (by omega) (fun j a1 a2 a3 a4 a5 a6 => by rw [pn_un a6]; exact hF2 j a1 a2 a3 a4 a5 a6) ?_
        intro K P T th tt tl tn tc CO COA WI WIA BE BEA M mc mw mb sA sL sO hI
        exact ih n n' (pl + len2) (turn + 1) K P T th tt tl tn tc CO COA WI WIA BE BEA M mc mw mb sA sL sO (by omega) (by omega) (by omega) (by omega) (by omega) hI
      · rw [pt_addF (pl := pl) hS hR hT hkpl hB.1 hfl, Option.bind_some, if_pos ((pn_le (by omega) (by omega)).mpr (by omega))]
        refine ps_tail (many := many + 1) (since := since + 1) (st := st) (cl := cl) (strs := strs + 1) (clrs := clrs) (x3 := nI (turn + 1)) (sa := sa) (sl := sl) (so := so) hS hR hMi d3 hln.1 (by omega) hQ2 (by simp [upd]) (by simp [upd]) k72 m15 hD hT hMd2 (by omega) (by omega) (by omega) (by omega) (by omega) hF2 ?_
        intro K P T th tt tl tn tc CO COA WI WIA BE BEA M mc mw mb sA sL sO hI
        exact ih n n' (pl + len2) (turn + 1) K P T th tt tl tn tc CO COA WI WIA BE BEA M mc mw mb sA sL sO (by omega) (by omega) (by omega) (by omega) (by omega) hI
