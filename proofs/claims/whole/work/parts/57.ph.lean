/-! PURE: packing, class and reference side by side -/
abbrev pVV : Type := Nat → Int32
abbrev pC14 : Type := pVV × pVV × pVV × pVV × pVV × pVV × pVV × pVV × pVV × pVV × pVV × pVV × pVV × pVV
abbrev pM7 : Type := pVV × pVV × pVV × pVV × pVV × pVV × pVV
theorem pQ_ext {f k m many since : Nat} {K K' P CO COA WI WIA BE BEA M M' mc mw mb : Nat → Int32} (h : pQ f k m many since K P CO COA WI WIA BE BEA M mc mw mb) (h6 : K' 6 = K 6) (h13 : M' 13 = M 13) (h14 : M' 14 = M 14) (h16 : M' 16 = M 16) : pQ f k m many since K' P CO COA WI WIA BE BEA M' mc mw mb := by
  obtain ⟨w, g, gw, bc, ig, bits, cn, wn, bn, hP, hG, e16, hGM, o1, o2, o3, o4, o5, o6, o7, o8⟩ := h
  exact ⟨w, g, gw, bc, ig, bits, cn, wn, bn, hP, hG, by rw [h16, e16], hGM, by rw [h6, o1], o2, o3, o4, by rw [h13, o5], by rw [h14, o6], o7, o8⟩
def pFr (M Mi : Nat → Int32) : Prop := ∀ j, j ≠ 9 → j ≠ 13 → j ≠ 14 → j ≠ 15 → j ≠ 16 → j ≠ 20 → M j = Mi j
theorem pFr_pM {M Mi : Nat → Int32} {f k m c : Nat} (h : pFr M Mi) (hM : pM Mi f k m c) : pM M f k m c := by
  obtain ⟨a, b, d, e⟩ := hM
  exact ⟨by rw [h 0 (by decide) (by decide) (by decide) (by decide) (by decide) (by decide), a], by rw [h 1 (by decide) (by decide) (by decide) (by decide) (by decide) (by decide), b], by rw [h 2 (by decide) (by decide) (by decide) (by decide) (by decide) (by decide), d], by rw [h 3 (by decide) (by decide) (by decide) (by decide) (by decide) (by decide), e]⟩
theorem pFr_5 {M Mi : Nat → Int32} (h : pFr M Mi) : M 5 = Mi 5 := h 5 (by decide) (by decide) (by decide) (by decide) (by decide) (by decide)
theorem ps_clear {f k m c many since cl : Nat} {R K P T th tc CO COA WI WIA BE BEA M mc mw mb : Nat → Int32} (hS : pS f k m c) (hR : pR R f k m c) (hM : pM M f k m c) (h9 : M 9 = nI since) (hs : since < 1000) (hQ : pQ f k m many since K P CO COA WI WIA BE BEA M mc mw mb) (hmany : many < 452) (hgb : pGb T th tc) (h15 : M 15 = nI cl) (k7 : K 7 = nI cl) :
    ∃ K' P' T' tc' CO' COA' WI' WIA' BE' BEA' M' mc' mw' mb', fn_X1_putClear K R P T th tc CO COA WI WIA BE BEA = some (K', P', T', tc', CO', COA', WI', WIA', BE', BEA') ∧ fn_X8_clear M mc mw mb = some (M', mc', mw', mb') ∧ pQ f k m (many + 1) 0 K' P' CO' COA' WI' WIA' BE' BEA' M' mc' mw' mb' ∧ M' 9 = nI 0 ∧ M' 20 = nI 0 ∧ M' 15 = nI (cl + 1) ∧ K' 7 = nI (cl + 1) ∧ K' 8 = nI 0 ∧ T' 6 = nI 0 ∧ (∀ N, N < 558 → tc' N = -1) ∧ (∀ j, j ≠ 9 → j ≠ 13 → j ≠ 14 → j ≠ 15 → j ≠ 16 → j ≠ 20 → M' j = M j) := by
  have hb := pS_b hS
  obtain ⟨K1, P1, CO1, COA1, WI1, WIA1, BE1, BEA1, M1, mc1, mw1, mb1, e1, e2, hQ1, hK1, hM1⟩ := ps_put (code := 2 ^ k) hS hR hM h9 hs hQ hmany (by omega)
  obtain ⟨tc1, e3, hc1⟩ := pt_wipe hgb
  rw [if_pos rfl] at hQ1
  have ec : fn_X1_putClear K R P T th tc CO COA WI WIA BE BEA = some (upd (upd K1 7 (nI (cl + 1))) 8 (nI 0), P1, upd T 6 0, tc1, CO1, COA1, WI1, WIA1, BE1, BEA1) := by
    rw [fn_X1_putClear, hR.2.2.2.2.2.2.2.1, e1, Option.bind_some, e3, Option.bind_some]
    simp only
    rw [hK1 7 (by decide), k7, pn_addL]
    rfl
  have em : fn_X8_clear M mc mw mb = some (upd (upd (upd M1 15 (nI (cl + 1))) 9 (nI 0)) 20 (nI 0), mc1, mw1, mb1) := by
    rw [fn_X8_clear, hM.2.1, pn_sh1 k (by have := hS.2.2.1; omega), e2, Option.bind_some]
    simp only
    rw [hM1 15 (by decide) (by decide) (by decide), h15, pn_addL]
    rfl
  refine ⟨_, _, _, _, _, _, _, _, _, _, _, _, _, _, ec, em, pQ_ext hQ1 (by simp [upd]) (by simp [upd]) (by simp [upd]) (by simp [upd]), by simp [upd], by simp [upd], by simp [upd], by simp [upd], by simp [upd], ?_, hc1, fun j a1 a2 a3 a4 a5 a6 => ?_⟩
  · simp [upd]; rfl
  · simp [upd, a1, a4, a6]; exact hM1 j a2 a3 a5
def pI (f k m sz pl : Nat) (D : Nat → Nat) (K P T th tt tl tn tc CO COA WI WIA BE BEA M mc mw mb sA sL sO Mi : Nat → Int32) : Prop := ∃ (many since st cl strs clrs : Nat) (sa sl so : Nat → Nat), pQ f k m many since K P CO COA WI WIA BE BEA M mc mw mb ∧ M 9 = nI since ∧ K 8 = nI since ∧ K 7 = nI cl ∧ M 15 = nI cl ∧ pD f k sz D st sa sl so ∧ pTab f k D st sa sl so T th tt tl tn tc ∧ pMd st sa sl so M sA sL sO ∧ st ≤ since ∧ many ≤ 1 + strs + clrs ∧ 2 * clrs + since ≤ strs ∧ strs ≤ pl ∧ cl ≤ many ∧ pFr M Mi
def pFin (f k sz : Nat) (D : Nat → Nat) (K T th tt tl tn tc CO COA WI WIA BE BEA M mc mw mb sA sL sO Mi : Nat → Int32) : Prop := ∃ (many bits st cl : Nat) (cn wn bn sa sl so : Nat → Nat), pO many bits cn wn bn K CO COA WI WIA BE BEA M mc mw mb ∧ many ≤ 452 ∧ K 7 = nI cl ∧ M 15 = nI cl ∧ pD f k sz D st sa sl so ∧ pTab f k D st sa sl so T th tt tl tn tc ∧ pMd st sa sl so M sA sL sO ∧ pFr M Mi
def pRes (f k sz : Nat) (D : Nat → Nat) (Mi : Nat → Int32) (rc : pC14) (rm : pM7) : Prop := pFin f k sz D rc.1 rc.2.2.1 rc.2.2.2.1 rc.2.2.2.2.1 rc.2.2.2.2.2.1 rc.2.2.2.2.2.2.1 rc.2.2.2.2.2.2.2.1 rc.2.2.2.2.2.2.2.2.1 rc.2.2.2.2.2.2.2.2.2.1 rc.2.2.2.2.2.2.2.2.2.2.1 rc.2.2.2.2.2.2.2.2.2.2.2.1 rc.2.2.2.2.2.2.2.2.2.2.2.2.1 rc.2.2.2.2.2.2.2.2.2.2.2.2.2 rm.1 rm.2.1 rm.2.2.1 rm.2.2.2.1 rm.2.2.2.2.1 rm.2.2.2.2.2.1 rm.2.2.2.2.2.2 Mi
theorem pQ_pO {f k m many since : Nat} {K P CO COA WI WIA BE BEA M mc mw mb : Nat → Int32} (h : pQ f k m many since K P CO COA WI WIA BE BEA M mc mw mb) : ∃ (bits : Nat) (cn wn bn : Nat → Nat), pO many bits cn wn bn K CO COA WI WIA BE BEA M mc mw mb := by
  obtain ⟨w, g, gw, bc, ig, bits, cn, wn, bn, hP, hG, e16, hGM, hO⟩ := h
  exact ⟨bits, cn, wn, bn, hO⟩
/-- the end: END, but in FORM 2 -/
theorem ps_end {f k m c sz pl : Nat} {D : Nat → Nat} {R DA DAA row K P T th tt tl tn tc CO COA WI WIA BE BEA M mc mw mb sA sL sO Mi : Nat → Int32} (hS : pS f k m c) (hR : pR R f k m c) (hMi : pM Mi f k m c) (hpl : pl ≤ 300) (h : pI f k m sz pl D K P T th tt tl tn tc CO COA WI WIA BE BEA M mc mw mb sA sL sO Mi) :
    ∃ rc rm, fn_X1_pack_j113 R DA DAA K P T th tt tl tn tc CO COA WI WIA BE BEA = some rc ∧ (if M 0 = 2 then some (M, mc, mw, mb, sA, sL, sO) else (fn_X8_add M mc mw mb ((1 <<< ((M 1) &&& 31)) + 1)).bind fun y => some (y.1, y.2.1, y.2.2.1, y.2.2.2, sA, sL, sO)) = some rm ∧ pRes f k sz D Mi rc rm := by
  obtain ⟨many, since, st, cl, strs, clrs, sa, sl, so, hQ, h9, k8, k7, h15, hD, hT, hMd, i1, i2, i3, i4, i5, hF⟩ := h
  have hM := pFr_pM hF hMi
  have hb := pS_b hS
  have hR' := hR
  obtain ⟨r0, r1, r2, r3, r4, r5, r6, r7, r8, r9, r10, r11⟩ := hR
  rw [fn_X1_pack_j113, r4, hM.1]
  by_cases hf : f = 2
  · rw [if_pos hf, if_pos (by rfl), if_pos (by rw [hf]; rfl)]
    obtain ⟨bits, cn, wn, bn, hO⟩ := pQ_pO hQ
    exact ⟨_, _, rfl, rfl, many, bits, st, cl, cn, wn, bn, sa, sl, so, hO, by omega, k7, h15, hD, hT, hMd, hF⟩
  · rw [if_neg hf, if_neg (by decide), if_neg (by rw [pn_eqL (by have := hS.1; omega) (by omega)]; exact hf), hM.2.1, pn_sh1 k (by have := hS.2.2.1; omega), pn_addL, r8, if_neg hf]
    obtain ⟨K1, P1, CO1, COA1, WI1, WIA1, BE1, BEA1, M1, mc1, mw1, mb1, e1, e2, hQ1, hK1, hM1⟩ := ps_put (code := 2 ^ k + 1) hS hR' hM h9 (by omega) hQ (by omega) (by omega)
    obtain ⟨bits, cn, wn, bn, hO⟩ := pQ_pO hQ1
    have e2 : fn_X8_add M mc mw mb (nI (2 ^ k + (OfNat.ofNat 1 : Nat))) = some (M1, mc1, mw1, mb1) := e2
    rw [e1, e2, Option.bind_some, Option.bind_some]
    refine ⟨_, _, rfl, rfl, many + 1, bits, st, cl, cn, wn, bn, sa, sl, so, hO, by omega, ?_, ?_, hD, hT, ⟨?_, hMd.2⟩, fun j a1 a2 a3 a4 a5 a6 => ?_⟩
    · rw [← k7]; exact hK1 7 (by decide)
    · rw [← h15]; exact hM1 15 (by decide) (by decide) (by decide)
    · rw [← hMd.1]; exact hM1 20 (by decide) (by decide) (by decide)
    · rw [← hF j a1 a2 a3 a4 a5 a6]; exact hM1 j a2 a3 a5
/-- what follows a CODE of a STRING where DATA goes on: perhaps a CLEAR -/
theorem ps_tail {f k m c sz pl len n n' many since st cl strs clrs : Nat} {D sa sl so : Nat → Nat} {x3 : Int32} {R DA DAA row K P T th tt tl tn tc CO COA WI WIA BE BEA M mc mw mb sA sL sO Mi : Nat → Int32} (hS : pS f k m c) (hR : pR R f k m c) (hMi : pM Mi f k m c) (hsz : sz ≤ 300) (hlen : 1 ≤ len) (hpl : pl + len < sz)
    (hQ : pQ f k m many since K P CO COA WI WIA BE BEA M mc mw mb) (h9 : M 9 = nI since) (k8 : K 8 = nI since) (k7 : K 7 = nI cl) (h15 : M 15 = nI cl) (hD : pD f k sz D st sa sl so) (hT : pTab f k D st sa sl so T th tt tl tn tc) (hMd : pMd st sa sl so M sA sL sO) (i1 : st ≤ since) (i2 : many ≤ 1 + strs + clrs) (i3 : 2 * clrs + since ≤ strs) (i4 : strs ≤ pl + len) (i5 : cl ≤ many) (hF : pFr M Mi)
    (ih : ∀ (K P T th tt tl tn tc CO COA WI WIA BE BEA M mc mw mb sA sL sO : Nat → Int32), pI f k m sz (pl + len) D K P T th tt tl tn tc CO COA WI WIA BE BEA M mc mw mb sA sL sO Mi → ∃ rc rm, fn_X1_pack_l22 R DA DAA n K P T th tt tl tn tc CO COA WI WIA BE BEA (nI (pl + len)) x3 = some rc ∧ fn_X8_pack_l57 row n' M mc mw mb sA sL sO (nI (pl + len)) = some rm ∧ pRes f k sz D Mi rc rm) :
    ∃ rc rm, ((fn_X1_clearIsDue K R T).bind fun y_97 => if y_97 = 0 then fn_X1_pack_l22 R DA DAA n K P T th tt tl tn tc CO COA WI WIA BE BEA (nI (pl + len)) x3 else (fn_X1_putClear K R P T th tc CO COA WI WIA BE BEA).bind fun y_104 => fn_X1_pack_l22 R DA DAA n y_104.1 y_104.2.1 y_104.2.2.1 th tt tl tn y_104.2.2.2.1 y_104.2.2.2.2.1 y_104.2.2.2.2.2.1 y_104.2.2.2.2.2.2.1 y_104.2.2.2.2.2.2.2.1 y_104.2.2.2.2.2.2.2.2.1 y_104.2.2.2.2.2.2.2.2.2 (nI (pl + len)) x3) = some rc ∧
      fn_X8_pack_j253 row (fn_X8_pack_l57 row n') M mc mw mb sA sL sO (nI pl) (nI len) 1 = some rm ∧ pRes f k sz D Mi rc rm := by
  have hM := pFr_pM hF hMi
  have hfb := pS_f hS
  have hc100 : c ≤ 100 := hS.2.2.2.2.2.2
  have hR' := hR
  obtain ⟨r0, r1, r2, r3, r4, r5, r6, r7, r8, r9, r10, r11⟩ := hR
  have ht3 := hT.2.1
  -- the reference's own road
  have em : fn_X8_pack_j253 row (fn_X8_pack_l57 row n') M mc mw mb sA sL sO (nI pl) (nI len) 1 = (if (c = 1 ∧ ¬ pF f k + st < pL f m) ∨ (1 < c ∧ since = c) then fn_X8_pack_j318 row (fn_X8_pack_l57 row n') M mc mw mb sA sL sO (nI (pl + len)) else fn_X8_pack_l57 row n' M mc mw mb sA sL sO (nI (pl + len))) := by
    have e299 : fn_X8_pack_j299 row (fn_X8_pack_l57 row n') M mc mw mb sA sL sO (nI (pl + len)) = if 1 < c ∧ since = c then fn_X8_pack_j318 row (fn_X8_pack_l57 row n') M mc mw mb sA sL sO (nI (pl + len)) else fn_X8_pack_l57 row n' M mc mw mb sA sL sO (nI (pl + len)) := by
      rw [fn_X8_pack_j299, hM.2.2.2, h9]
      by_cases h1 : c ≤ 1
      · rw [if_pos ((pn_leL (by omega) (by omega)).mpr h1), if_neg (by omega)]
      · rw [if_neg (by rw [pn_leL (by omega) (by omega)]; exact h1)]
        by_cases h2 : since = c
        · rw [if_pos (by rw [h2]), if_pos ⟨by omega, h2⟩]
        · rw [if_neg (by rw [pn_eq (by omega) (by omega)]; exact h2), if_neg (fun q => h2 q.2)]
    rw [fn_X8_pack_j253, pm_first hS hM, Option.bind_some, pm_last hS hM, Option.bind_some, hMd.1, pn_add, pn_add]
    by_cases hfl : pF f k + st < pL f m
    · rw [if_pos ((pn_lt (by omega) (by omega)).mpr hfl), fn_X8_pack_j279, if_neg (by decide), hM.2.2.2]
      by_cases hc1 : c = 1
      · rw [if_pos (by rw [hc1]; rfl), if_pos rfl, e299, if_neg (by omega), if_neg (by omega)]
      · rw [if_neg (by rw [pn_eqL (by omega) (by omega)]; exact hc1), e299]
        by_cases h2 : 1 < c ∧ since = c
        · rw [if_pos h2, if_pos (Or.inr h2)]
        · rw [if_neg h2, if_neg (by rintro (q | q); exact hc1 q.1; exact h2 q)]
    · rw [if_neg (by rw [pn_lt (by omega) (by omega)]; exact hfl), fn_X8_pack_j279, if_neg (by decide), hM.2.2.2]
      by_cases hc1 : c = 1
      · rw [if_pos (by rw [hc1]; rfl), if_neg (by decide), if_pos (Or.inl ⟨hc1, hfl⟩)]
      · rw [if_neg (by rw [pn_eqL (by omega) (by omega)]; exact hc1), e299]
        by_cases h2 : 1 < c ∧ since = c
        · rw [if_pos h2, if_pos (Or.inr h2)]
        · rw [if_neg h2, if_neg (by rintro (q | q); exact hc1 q.1; exact h2 q)]
  have ec : fn_X1_clearIsDue K R T = some (nI (if (c = 1 ∧ ¬ pF f k + st < pL f m) ∨ (1 < c ∧ since = c) then 1 else 0)) := by
    rw [fn_X1_clearIsDue, r3, k8]
    by_cases hc1 : c = 1
    · rw [if_pos (by rw [hc1]; rfl), pt_full hS hR' hT.1 ht3, Option.bind_some]
      by_cases hfl : pF f k + st < pL f m
      · rw [if_pos hfl, if_pos (show nI 0 = 0 ∨ nI 0 = 1 by decide), if_neg (by omega)]
      · rw [if_neg hfl, if_pos (show nI 1 = 0 ∨ nI 1 = 1 by decide), if_pos (Or.inl ⟨hc1, hfl⟩)]
    · rw [if_neg (by rw [pn_eqL (by omega) (by omega)]; exact hc1)]
      by_cases h1 : c ≤ 1
      · rw [if_pos ((pn_leL (by omega) (by omega)).mpr h1), if_neg (by omega)]; rfl
      · rw [if_neg (by rw [pn_leL (by omega) (by omega)]; exact h1)]
        by_cases h2 : since = c
        · rw [if_pos (by rw [h2]), if_pos (Or.inr ⟨by omega, h2⟩)]; rfl
        · rw [if_neg (by rw [pn_eq (by omega) (by omega)]; exact h2), if_neg (by omega)]; rfl
  rw [ec, Option.bind_some, em]
  by_cases hdue : (c = 1 ∧ ¬ pF f k + st < pL f m) ∨ (1 < c ∧ since = c)
  · rw [if_pos hdue, if_pos hdue, if_neg (by decide), fn_X8_pack_j318]
    have hs2 : 2 ≤ since := by omega
    obtain ⟨K', P', T', tc', CO', COA', WI', WIA', BE', BEA', M', mc', mw', mb', e1, e2, hQ', m9, m20, m15, k7', k8', t6, htc, hfr⟩ := ps_clear hS hR' hM h9 (by omega) hQ (by omega) (pTab_gb hT) h15 k7
    rw [e1, e2, Option.bind_some, Option.bind_some]
    exact ih K' P' T' th tt tl tn tc' CO' COA' WI' WIA' BE' BEA' M' mc' mw' mb' sA sL sO ⟨many + 1, 0, 0, cl + 1, strs, clrs + 1, sa, sl, so, hQ', m9, k8', k7', m15, pD_0, pTab_0 t6 htc, pMd_0 m20, by omega, by omega, by omega, by omega, by omega, fun j a1 a2 a3 a4 a5 a6 => by rw [hfr j a1 a2 a3 a4 a5 a6]; exact hF j a1 a2 a3 a4 a5 a6⟩
  · rw [if_neg hdue, if_neg hdue, if_pos (by rfl)]
    exact ih K P T th tt tl tn tc CO COA WI WIA BE BEA M mc mw mb sA sL sO ⟨many, since, st, cl, strs, clrs, sa, sl, so, hQ, h9, k8, k7, h15, hD, hT, hMd, i1, i2, i3, i4, i5, hF⟩
