/-! PURE: a CODE is put: class and reference side by side -/
theorem pm_j114 {M mc mw mb : Nat → Int32} {many b w : Nat} {x s : Int32} (h13 : M 13 = nI many) (h14 : M 14 = nI b) (hm : many < 700) : fn_X8_add_j114 M mc mw mb x (nI w) s = some (upd (upd (upd M 16 s) 14 (nI (b + w))) 13 (nI (many + 1)), upd mc many x, upd mw many (nI w), upd mb many (nI b)) := by
  have hi : gx_in (M 13) 700 := by rw [h13]; exact (pn_in (by omega)).mpr hm
  rw [fn_X8_add_j114, if_pos hi, if_pos hi, if_pos hi, h13, h14, pn_cl (by omega), pn_add, pn_addL]
theorem pm_add0 {M mc mw mb : Nat → Int32} {f k m c since w many b ig : Nat} {x : Int32} (hS : pS f k m c) (hM : pM M f k m c) (h9 : M 9 = nI since) (hs : since < 100000) (hw : pW f k m (pC f k m since) w) (h13 : M 13 = nI many) (h14 : M 14 = nI b) (h16 : M 16 = nI ig) (hig : ig ≤ 8) (hm : many < 700)
    (hno : ¬ (f = 2 ∧ 0 < many ∧ (mc (many - 1) = nI (2 ^ k) ∨ mw (many - 1) ≠ nI w))) : fn_X8_add M mc mw mb x = some (upd (upd (upd M 16 (nI (ig % 8 + 1))) 14 (nI (b + w))) 13 (nI (many + 1)), upd mc many x, upd mw many (nI w), upd mb many (nI b)) := by
  have h59 : fn_X8_add_j59 M mc mw mb x (nI w) = some (upd (upd (upd M 16 (nI (ig % 8 + 1))) 14 (nI (b + w))) 13 (nI (many + 1)), upd mc many x, upd mw many (nI w), upd mb many (nI b)) := by
    rw [fn_X8_add_j59, fn_X8_add_j60, if_pos rfl, fn_X8_add_j96, if_pos rfl, h16, pn_rem8 (by omega), pn_addL]
    exact pm_j114 h13 h14 hm
  rw [fn_X8_add, pm_width hS hM h9 hs hw]
  simp only [Option.bind_some]
  rw [hM.1]
  by_cases hf : f = 2
  · rw [if_pos (by rw [hf]; rfl), h13]
    by_cases h0 : many = 0
    · rw [if_pos (by rw [h0]; exact Int32.le_refl _)]; exact h59
    · have hi : gx_in (nI many - 1) 700 := by rw [pn_subL (by omega)]; exact (pn_in (by omega)).mpr (by omega)
      have e0 : (nI many - 1).toNatClampNeg = many - 1 := by rw [pn_subL (by omega), pn_cl (by omega)]
      rw [if_neg (by rw [pn_leL (by omega) (by omega)]; omega), if_pos hi, hM.2.1, pn_sh1 k (by have := hS.2.2.1; omega)]
      rw [if_neg (fun q => hno ⟨hf, by omega, Or.inl (by rw [e0] at q; exact q)⟩), if_pos hi]
      rw [if_pos (by
        rw [e0]
        by_cases hq : mw (many - 1) = nI w
        · exact hq
        · exact absurd ⟨hf, by omega, Or.inr hq⟩ hno)]
      exact h59
  · rw [if_neg (by rw [pn_eqL (by have := hS.1; omega) (by omega)]; exact hf)]
    exact h59
theorem pm_add1 {M mc mw mb : Nat → Int32} {f k m c since w many b ig gw : Nat} {x : Int32} (hS : pS f k m c) (hM : pM M f k m c) (h9 : M 9 = nI since) (hs : since < 100000) (hw : pW f k m (pC f k m since) w) (h13 : M 13 = nI many) (h14 : M 14 = nI b) (h16 : M 16 = nI ig) (hig : ig ≤ 8) (hm : many < 700) (hgw : mw (many - 1) = nI gw)
    (hyes : f = 2 ∧ 0 < many ∧ (mc (many - 1) = nI (2 ^ k) ∨ mw (many - 1) ≠ nI w)) : fn_X8_add M mc mw mb x = some (upd (upd (upd (upd M 14 (nI (b + (8 - ig) % 8 * gw))) 16 (nI 1)) 14 (nI (b + (8 - ig) % 8 * gw + w))) 13 (nI (many + 1)), upd mc many x, upd mw many (nI w), upd mb many (nI (b + (8 - ig) % 8 * gw))) := by
  obtain ⟨hf, h0, hyes⟩ := hyes
  have hi : gx_in (nI many - 1) 700 := by rw [pn_subL (by omega)]; exact (pn_in (by omega)).mpr (by omega)
  have h55 : fn_X8_add_j55 M mc mw mb x (nI w) = some (upd (upd (upd (upd M 14 (nI (b + (8 - ig) % 8 * gw))) 16 (nI 1)) 14 (nI (b + (8 - ig) % 8 * gw + w))) 13 (nI (many + 1)), upd mc many x, upd mw many (nI w), upd mb many (nI (b + (8 - ig) % 8 * gw))) := by
    rw [fn_X8_add_j55, fn_X8_add_j60, if_neg (by decide), h13, if_pos hi, pn_subL (by omega), pn_cl (by omega), hgw, h14, h16, pn_Lsub (by omega), pn_rem8 (by omega), pn_mul, pn_add, fn_X8_add_j96, if_neg (by decide)]
    exact pm_j114 (by rw [← h13]; simp [upd]) (by simp [upd]) hm
  rw [fn_X8_add, pm_width hS hM h9 hs hw]
  simp only [Option.bind_some]
  rw [hM.1, if_pos (by rw [hf]; rfl), h13, if_neg (by rw [pn_leL (by omega) (by omega)]; omega), if_pos hi, hM.2.1, pn_sh1 k (by have := hS.2.2.1; omega)]
  have e0 : (nI many - 1).toNatClampNeg = many - 1 := by rw [pn_subL (by omega), pn_cl (by omega)]
  by_cases hc : mc (many - 1) = nI (2 ^ k)
  · rw [if_pos (by rw [e0]; exact hc)]; exact h55
  · rw [if_neg (by rw [e0]; exact hc), if_pos hi, if_neg (by rw [e0]; rcases hyes with q | q; exact absurd q hc; exact q)]
    exact h55
/-- the CODES so far, in both -/
def pO (many bits : Nat) (cn wn bn : Nat → Nat) (K CO COA WI WIA BE BEA M mc mw mb : Nat → Int32) : Prop := K 6 = nI bits ∧ CO 1 = nI many ∧ WI 1 = nI many ∧ BE 1 = nI many ∧ M 13 = nI many ∧ M 14 = nI bits ∧ bits ≤ 200 * many ∧
  (∀ j, j < many → (COA j = nI (cn j) ∧ mc j = nI (cn j) ∧ cn j < 100000) ∧ (WIA j = nI (wn j) ∧ mw j = nI (wn j) ∧ 1 ≤ wn j ∧ wn j ≤ 12) ∧ (BEA j = nI (bn j) ∧ mb j = nI (bn j) ∧ bn j + wn j ≤ bits) ∧ ∀ i, i < j → bn i + wn i ≤ bn j)
/-- the GROUP of FORM 2, as the reference has it -/
def pGM (f k many g gw : Nat) (bc : Bool) (ig : Nat) (cn wn : Nat → Nat) : Prop := ig ≤ 8 ∧ (f = 2 → (many = 0 → g = 0 ∧ ig = 0) ∧ (0 < many → g = ig % 8 ∧ 1 ≤ ig ∧ gw = wn (many - 1) ∧ (bc = true ↔ cn (many - 1) = 2 ^ k)))
def pQ (f k m many since : Nat) (K P CO COA WI WIA BE BEA M mc mw mb : Nat → Int32) : Prop := ∃ (w g gw : Nat) (bc : Bool) (ig bits : Nat) (cn wn bn : Nat → Nat), pP P f k m since w ∧ pG P g gw bc ∧ M 16 = nI ig ∧ pGM f k many g gw bc ig cn wn ∧ pO many bits cn wn bn K CO COA WI WIA BE BEA M mc mw mb
def pUp (f : Nat → Nat) (k v : Nat) : Nat → Nat := fun j => if j = k then v else f j
theorem pO_put {many bits fill w code : Nat} {cn wn bn : Nat → Nat} {K CO COA WI WIA BE BEA M mc mw mb K' CO' WI' BE' M' : Nat → Int32} (h : pO many bits cn wn bn K CO COA WI WIA BE BEA M mc mw mb) (hf : fill ≤ 100) (hw : 1 ≤ w ∧ w ≤ 12) (hc : code < 100000) (e6 : K' 6 = nI (bits + fill + w)) (e1 : CO' 1 = nI (many + 1)) (e2 : WI' 1 = nI (many + 1)) (e3 : BE' 1 = nI (many + 1)) (e13 : M' 13 = nI (many + 1)) (e14 : M' 14 = nI (bits + fill + w)) :
    pO (many + 1) (bits + fill + w) (pUp cn many code) (pUp wn many w) (pUp bn many (bits + fill)) K' CO' (upd COA many (nI code)) WI' (upd WIA many (nI w)) BE' (upd BEA many (nI (bits + fill))) M' (upd mc many (nI code)) (upd mw many (nI w)) (upd mb many (nI (bits + fill))) := by
  obtain ⟨a1, a2, a3, a4, a5, a6, a7, a8⟩ := h
  refine ⟨e6, e1, e2, e3, e13, e14, by omega, fun j hj => ?_⟩
  by_cases hjm : j = many
  · subst hjm
    refine ⟨⟨by simp [upd, pUp], by simp [upd, pUp], by simp [pUp, hc]⟩, ⟨by simp [upd, pUp], by simp [upd, pUp], by simp [pUp]; omega, by simp [pUp]; omega⟩, ⟨by simp [upd, pUp], by simp [upd, pUp], by simp [pUp]⟩, fun i hi => ?_⟩
    have hij : i ≠ j := by omega
    obtain ⟨-, -, ⟨-, -, b1⟩, -⟩ := a8 i hi
    simp [pUp, hij]
    omega
  · obtain ⟨b1, b2, ⟨c1, c2, c3⟩, b4⟩ := a8 j (by omega)
    refine ⟨by simpa [upd, pUp, hjm] using b1, by simpa [upd, pUp, hjm] using b2, ⟨by simpa [upd, pUp, hjm] using c1, by simpa [upd, pUp, hjm] using c2, by simp [pUp, hjm]; omega⟩, fun i hi => ?_⟩
    have hij : i ≠ many := by omega
    simp [pUp, hij, hjm]
    exact b4 i hi
theorem ps_put {f k m c many since code : Nat} {R K P CO COA WI WIA BE BEA M mc mw mb : Nat → Int32} (hS : pS f k m c) (hR : pR R f k m c) (hM : pM M f k m c) (h9 : M 9 = nI since) (hs : since < 1000) (hQ : pQ f k m many since K P CO COA WI WIA BE BEA M mc mw mb) (hmany : many < 452) (hcode : code < 100000) :
    ∃ K' P' CO' COA' WI' WIA' BE' BEA' M' mc' mw' mb', fn_X1_put K R P CO COA WI WIA BE BEA (nI code) = some (K', P', CO', COA', WI', WIA', BE', BEA') ∧ fn_X8_add M mc mw mb (nI code) = some (M', mc', mw', mb') ∧
      pQ f k m (many + 1) (if code = 2 ^ k then 0 else if f ≠ 2 ∧ code = 2 ^ k + 1 then since else since + 1) K' P' CO' COA' WI' WIA' BE' BEA' M' mc' mw' mb' ∧ (∀ j, j ≠ 6 → K' j = K j) ∧ (∀ j, j ≠ 13 → j ≠ 14 → j ≠ 16 → M' j = M j) := by
  obtain ⟨w, g, gw, bc, ig, bits, cn, wn, bn, hP, hG, h16, hGM, hO⟩ := hQ
  have hwb := pW_b hS hP.2.2.1
  have hkb := pS_b hS
  obtain ⟨P', since', w', ep, hP', hG', hsn⟩ := pp_pass hS hR hP hG hcode
  have hfl := pp_fill hS hR hP hG
  have hfb : pFill f g gw w bc ≤ 96 := pFill_le hG.2.2.2.1
  obtain ⟨o1, o2, o3, o4, o5, o6, o7, o8⟩ := id hO
  obtain ⟨gm1, gm2⟩ := hGM
  -- the class
  have ec : fn_X1_put K R P CO COA WI WIA BE BEA (nI code) = some ((upd (upd K 6 (nI (bits + pFill f g gw w bc))) 6 (nI (bits + pFill f g gw w bc + w))), P', upd CO 1 (nI (many + 1)), upd COA many (nI code), upd WI 1 (nI (many + 1)), upd WIA many (nI w), upd BE 1 (nI (many + 1)), upd BEA many (nI (bits + pFill f g gw w bc))) := by
    rw [fn_X1_put, hfl]
    simp only [Option.bind_some]
    rw [o1, hP.2.1, pn_add, pn_add, pr_add o2 (by omega) (by omega) hmany]
    simp only [Option.bind_some]
    rw [pr_add o3 (by omega) (by omega) hmany]
    simp only [Option.bind_some]
    rw [pr_add o4 (by omega) (by omega) hmany]
    simp only [Option.bind_some]
    rw [ep]
    rfl
  subst hsn
  by_cases hyes : f = 2 ∧ 0 < many ∧ (mc (many - 1) = nI (2 ^ k) ∨ mw (many - 1) ≠ nI w)
  · obtain ⟨hf, h0, hyy⟩ := id hyes
    obtain ⟨q1, q2, q3, q4⟩ := (gm2 hf).2 h0
    obtain ⟨⟨c1, c2, c3⟩, ⟨d1, d2, d3, d4⟩, -, -⟩ := o8 (many - 1) (by omega)
    have hends : bc = true ∨ gw ≠ w := by
      rcases hyy with q | q
      · left; rw [c2, pn_eq (by omega) (by omega)] at q; exact q4.mpr q
      · right; intro q5; apply q; rw [d2, ← q3, q5]
    have hfill : pFill f g gw w bc = (8 - ig) % 8 * gw := by
      unfold pFill
      by_cases hg0 : g = 0
      · rw [if_neg (fun q => q.2.1 hg0)]
        have : (8 - ig) % 8 = 0 := by omega
        rw [this, Nat.zero_mul]
      · rw [if_pos ⟨hf, hg0, hends⟩]
        have : (8 - ig) % 8 = 8 - g := by omega
        rw [this]
    have em := pm_add1 (mb := mb) (x := nI code) hS hM h9 (by omega) hP.2.2.1 o5 o6 h16 gm1 (by omega) (by rw [d2, ← q3]) hyes
    rw [← hfill] at em
    refine ⟨_, _, _, _, _, _, _, _, _, _, _, _, ec, em, ⟨w', _, _, _, 1, _, _, _, _, hP', hG', by simp [upd], ⟨by omega, fun _ => ⟨fun q => by omega, fun _ => ⟨?_, by omega, ?_, ?_⟩⟩⟩, pO_put (code := code) hO (by omega) ⟨by omega, by omega⟩ hcode (by simp [upd]) (by simp [upd]) (by simp [upd]) (by simp [upd]) (by simp [upd]) (by simp [upd])⟩, fun j hj => by simp [upd, hj], fun j h1 h2 h3 => by simp [upd, h1, h2, h3]⟩
    · rw [if_pos hends]
    · simp [pUp]
    · simp [pUp]
  · have hfill : pFill f g gw w bc = 0 ∧ (f = 2 → ((if bc = true ∨ gw ≠ w then 0 else g) + 1) % 8 = (ig % 8 + 1) % 8) := by
      by_cases hf : f = 2
      · by_cases h0 : many = 0
        · obtain ⟨q1, q2⟩ := (gm2 hf).1 h0
          subst q1; subst q2
          refine ⟨by unfold pFill; rw [if_neg (fun q => q.2.1 rfl)], fun _ => ?_⟩
          split <;> rfl
        · obtain ⟨q1, q2, q3, q4⟩ := (gm2 hf).2 (by omega)
          obtain ⟨⟨c1, c2, c3⟩, ⟨d1, d2, d3, d4⟩, -, -⟩ := o8 (many - 1) (by omega)
          have hn : ¬ (bc = true ∨ gw ≠ w) := by
            rintro (q | q)
            · exact hyes ⟨hf, by omega, Or.inl (by rw [c2, q4.mp q])⟩
            · exact hyes ⟨hf, by omega, Or.inr (by rw [d2, ← q3, Ne, pn_eq (by have := hG.2.2.2.1; omega) (by omega)]; exact q)⟩
          refine ⟨by unfold pFill; rw [if_neg (fun q => hn q.2.2)], fun _ => ?_⟩
          rw [if_neg hn, q1]
      · exact ⟨by unfold pFill; rw [if_neg (fun q => hf q.1)], fun q => absurd q hf⟩
    obtain ⟨hfill, hgr⟩ := hfill
    have em := pm_add0 (mb := mb) (x := nI code) hS hM h9 (by omega) hP.2.2.1 o5 o6 h16 gm1 (by omega) hyes
    rw [hfill, Nat.add_zero] at ec
    have hO2 := pO_put (fill := 0) (w := w) (code := code) (K' := upd (upd K 6 (nI bits)) 6 (nI (bits + w))) (CO' := upd CO 1 (nI (many + 1))) (WI' := upd WI 1 (nI (many + 1))) (BE' := upd BE 1 (nI (many + 1))) (M' := upd (upd (upd M 16 (nI (ig % 8 + 1))) 14 (nI (bits + w))) 13 (nI (many + 1))) hO (by omega) ⟨by omega, by omega⟩ hcode (by simp [upd]) (by simp [upd]) (by simp [upd]) (by simp [upd]) (by simp [upd]) (by simp [upd])
    rw [Nat.add_zero] at hO2
    refine ⟨_, _, _, _, _, _, _, _, _, _, _, _, ec, em, ⟨w', _, _, _, ig % 8 + 1, _, _, _, _, hP', hG', by simp [upd], ⟨by omega, fun hf => ⟨fun q => by omega, fun _ => ⟨?_, by omega, ?_, ?_⟩⟩⟩, hO2⟩, fun j hj => by simp [upd, hj], fun j h1 h2 h3 => by simp [upd, h1, h2, h3]⟩
    · exact hgr hf
    · simp [pUp]
    · simp [pUp]
