/-! PURE: write(), the loops over the CODES and the turning of bytes -/
theorem pm_turn_in {M mt0 : Nat → Int32} {b : Nat} {K : (Nat → Int32) → Int32 → Option (Nat → Int32)} (hb : b < 400) (hv : ∀ p, 8 * b ≤ p → p < 8 * b + 8 → ∃ v, v < 2 ∧ mt0 p = nI v) :
    ∀ (d n i : Nat) (mt : Nat → Int32), 4 - i = d → d < n → i ≤ 4 → (∀ p, mt p = if (8 * b ≤ p ∧ p < 8 * b + i) ∨ (8 * b + 8 - i ≤ p ∧ p < 8 * b + 8) then mt0 (16 * b + 7 - p) else mt0 p) → ∃ mt', fn_X8_turnTape_l20 M K n mt (nI b) (nI i) = K mt' (nI (b + 1)) ∧ ∀ p, mt' p = if 8 * b ≤ p ∧ p < 8 * b + 8 then mt0 (16 * b + 7 - p) else mt0 p := by
  intro d
  induction d with
  | zero =>
    intro n i mt hd hn hi h
    obtain ⟨n, rfl⟩ : ∃ q, n = q + 1 := ⟨n - 1, by omega⟩
    have : i = 4 := by omega
    subst this
    rw [fn_X8_turnTape_l20, if_pos (by decide), pn_addL]
    refine ⟨mt, rfl, fun p => ?_⟩
    rw [h p]
    by_cases hp : 8 * b ≤ p ∧ p < 8 * b + 8
    · rw [if_pos (by omega), if_pos hp]
    · rw [if_neg (by omega), if_neg hp]
  | succ d ih =>
    intro n i mt hd hn hi h
    obtain ⟨n, rfl⟩ : ∃ q, n = q + 1 := ⟨n - 1, by omega⟩
    have e1 : 8 * nI b + nI i = nI (8 * b + i) := by rw [pn_Lmul, pn_add]
    have e2 : 8 * nI b + 7 - nI i = nI (8 * b + 7 - i) := by rw [pn_Lmul, pn_addL, pn_sub (by omega)]
    have i1 : gx_in (nI (8 * b + i)) 3200 := (pn_in (by omega)).mpr (by omega)
    have i2 : gx_in (nI (8 * b + 7 - i)) 3200 := (pn_in (by omega)).mpr (by omega)
    obtain ⟨v1, a1, a2⟩ := hv (8 * b + i) (by omega) (by omega)
    obtain ⟨v2, a3, a4⟩ := hv (8 * b + 7 - i) (by omega) (by omega)
    have m1 : mt (8 * b + i) = nI v1 := by rw [h, if_neg (by omega), a2]
    have m2 : mt (8 * b + 7 - i) = nI v2 := by rw [h, if_neg (by omega), a4]
    rw [fn_X8_turnTape_l20, if_neg (by rw [pn_Lle (by omega) (by omega)]; omega), e1, e2, if_pos i1, if_pos i2, if_pos i1, if_pos i2, pn_cl (by omega), pn_cl (by omega), m1, m2, pw_nar a1, pw_nar a3, pn_addL]
    refine ih n (i + 1) _ (by omega) (by omega) (by omega) (fun p => ?_)
    by_cases hp2 : p = 8 * b + 7 - i
    · subst hp2
      rw [pn_us, if_pos (by omega), ← a2]; congr 1; omega
    · rw [pn_un hp2]
      by_cases hp1 : p = 8 * b + i
      · subst hp1
        rw [pn_us, if_pos (by omega), ← a4]; congr 1; omega
      · rw [pn_un hp1, h p]
        by_cases hq : (8 * b ≤ p ∧ p < 8 * b + i) ∨ (8 * b + 8 - i ≤ p ∧ p < 8 * b + 8)
        · rw [if_pos hq, if_pos (by omega)]
        · rw [if_neg hq, if_neg (by omega)]
theorem pm_turn_l {M mt0 : Nat → Int32} {nb : Nat} (h7 : M 7 = nI nb) (h0 : M 0 = nI 1) (hnb : nb ≤ 400) (hv : ∀ p, p < 8 * nb → ∃ v, v < 2 ∧ mt0 p = nI v) :
    ∀ (d n b : Nat) (mt : Nat → Int32), nb - b = d → d < n → b ≤ nb → (∀ p, mt p = if p < 8 * b then mt0 (8 * (p / 8) + 7 - p % 8) else mt0 p) → ∃ mt', fn_X8_turnTape_l2 M n mt (nI b) = some mt' ∧ ∀ p, mt' p = if p < 8 * nb then mt0 (8 * (p / 8) + 7 - p % 8) else mt0 p := by
  intro d
  induction d with
  | zero =>
    intro n b mt hd hn hb h
    obtain ⟨n, rfl⟩ : ∃ q, n = q + 1 := ⟨n - 1, by omega⟩
    have : b = nb := by omega
    subst this
    rw [fn_X8_turnTape_l2, h7, if_pos (Int32.le_refl _)]
    exact ⟨mt, rfl, h⟩
  | succ d ih =>
    intro n b mt hd hn hb h
    obtain ⟨n, rfl⟩ : ∃ q, n = q + 1 := ⟨n - 1, by omega⟩
    rw [fn_X8_turnTape_l2, h7, if_neg (by rw [pn_le (by omega) (by omega)]; omega), h0, if_pos (by decide)]
    obtain ⟨mt1, e1, e2⟩ := pm_turn_in (M := M) (mt0 := mt) (b := b) (K := fn_X8_turnTape_l2 M n) (by omega) (fun p q1 q2 => by rw [h p, if_neg (by omega)]; exact hv p (by omega)) 4 gx_fuel 0 mt (by omega) (by show _ < 5000; omega) (by omega) (fun p => by rw [if_neg (by omega)])
    have e1 : fn_X8_turnTape_l20 M (fn_X8_turnTape_l2 M n) gx_fuel mt (nI b) 0 = fn_X8_turnTape_l2 M n mt1 (nI (b + 1)) := e1
    rw [e1]
    refine ih n (b + 1) mt1 (by omega) (by omega) (by omega) (fun p => ?_)
    rw [e2 p]
    by_cases hp : 8 * b ≤ p ∧ p < 8 * b + 8
    · rw [if_pos hp, if_pos (by omega), h, if_neg (by omega)]; congr 1; omega
    · rw [if_neg hp, h p]
      by_cases hp2 : p < 8 * b
      · rw [if_pos hp2, if_pos (by omega)]
      · rw [if_neg hp2, if_neg (by omega)]
theorem pm_turn {M mt : Nat → Int32} {f k m c nb : Nat} (hS : pS f k m c) (hM : pM M f k m c) (h7 : M 7 = nI nb) (hnb : nb ≤ 400) (hv : ∀ p, p < 8 * nb → ∃ v, v < 2 ∧ mt p = nI v) : ∃ mt', fn_X8_turnTape M mt = some mt' ∧ ∀ i j, i < nb → j < 8 → mt' (8 * i + j) = mt (8 * i + (if f = 1 then 7 - j else j)) := by
  rw [fn_X8_turnTape]
  by_cases hf : f = 1
  · obtain ⟨mt', e1, e2⟩ := pm_turn_l h7 (by rw [hM.1, hf]) hnb hv nb gx_fuel 0 mt (by omega) (by show _ < 5000; omega) (by omega) (fun p => by rw [if_neg (by omega)])
    refine ⟨mt', e1, fun i j hi hj => ?_⟩
    rw [e2, if_pos (by omega), if_pos hf]; congr 1; omega
  · refine ⟨mt, ?_, fun i j hi hj => by rw [if_neg hf]⟩
    rw [show gx_fuel = 4999 + 1 from rfl, fn_X8_turnTape_l2]
    by_cases h : M 7 ≤ 0
    · rw [if_pos h]
    · rw [if_neg h, hM.1, if_neg (by rw [pn_eqL (by have := hS.1; omega) (by omega)]; exact hf)]
theorem ps_wr_l {R DA DAA X TB K P T th tt tl tn tc CO COA WI WIA BE BEA M row mc mw mb sA sL sO : Nat → Int32} {f k m c nb many bits : Nat} {cn wn bn : Nat → Nat} (hS : pS f k m c) (hR : pR R f k m c) (hM : pM M f k m c) (hTB : TB 1 = nI nb) (h7 : M 7 = nI nb) (hnb : nb ≤ 400) (hbits : bits ≤ 8 * nb) (hmany : many ≤ 452)
    (o2 : CO 1 = nI many) (o3 : WI 1 = nI many) (o4 : BE 1 = nI many) (o5 : M 13 = nI many)
    (o8 : ∀ j, j < many → (COA j = nI (cn j) ∧ mc j = nI (cn j) ∧ cn j < 100000) ∧ (WIA j = nI (wn j) ∧ mw j = nI (wn j) ∧ 1 ≤ wn j ∧ wn j ≤ 12) ∧ (BEA j = nI (bn j) ∧ mb j = nI (bn j) ∧ bn j + wn j ≤ bits) ∧ ∀ i, i < j → bn i + wn i ≤ bn j) :
    ∀ (d n n' ci : Nat) (W : Nat → Nat) (TBA mt : Nat → Int32), many - ci = d → d < n → d < n' → ci ≤ many → pWr f nb W TBA mt → (∀ p, (∀ j, j < ci → bn j + wn j ≤ p) → W p = 0) →
      ∃ TBA' mt' by_, fn_X7_write_l36 R DA DAA n X TB TBA K P T th tt tl tn tc CO COA WI WIA BE BEA (nI nb) (nI ci) = some (nI nb, X, TB, TBA', K, P, T, th, tt, tl, tn, tc, CO, COA, WI, WIA, BE, BEA) ∧ fn_X8_write_l55 row n' M mt mc mw mb sA sL sO (nI ci) = some (nI nb, M, mt', mc, mw, mb, sA, sL, sO) ∧ pTp nb by_ TB TBA' M mt' := by
  intro d
  induction d with
  | zero =>
    intro n n' ci W TBA mt hd hn hn' hci hW h0
    obtain ⟨n, rfl⟩ : ∃ q, n = q + 1 := ⟨n - 1, by omega⟩
    obtain ⟨n', rfl⟩ : ∃ q, n' = q + 1 := ⟨n' - 1, by omega⟩
    have : ci = many := by omega
    subst this
    obtain ⟨mt', e1, e2⟩ := pm_turn hS hM h7 hnb (fun p hp => ⟨W p, (hW.2 p hp).2, (hW.2 p hp).1⟩)
    refine ⟨TBA, mt', fun i => (TBA i).toNatClampNeg, ?_, ?_, hTB, h7, hnb, fun i hi => ?_⟩
    · rw [fn_X7_write_l36, pr_size o2, Option.bind_some, if_pos (Int32.le_refl _)]
    · rw [fn_X8_write_l55, o5, if_pos (Int32.le_refl _), e1, Option.bind_some, h7]
    · obtain ⟨bv, b1, b2, b3⟩ := hW.1 i hi
      have hcl : (TBA i).toNatClampNeg = bv := by rw [b1]; exact pn_cl (by omega)
      dsimp only
      rw [hcl]
      refine ⟨b1, b2, fun j hj => ?_⟩
      rw [e2 i j hi hj, b3 j hj, (hW.2 _ (by split <;> omega)).1]
  | succ d ih =>
    intro n n' ci W TBA mt hd hn hn' hci hW h0
    obtain ⟨n, rfl⟩ : ∃ q, n = q + 1 := ⟨n - 1, by omega⟩
    obtain ⟨n', rfl⟩ : ∃ q, n' = q + 1 := ⟨n' - 1, by omega⟩
    obtain ⟨⟨c1, c2, c3⟩, ⟨d1, d2, d3, d4⟩, ⟨f1, f2, f3⟩, hmono⟩ := o8 ci (by omega)
    obtain ⟨W', TBA', mt', p1, p2, p3, p4⟩ := ps_put_l (R := R) (row := row) (mc := mc) (mw := mw) (mb := mb) (sA := sA) (sL := sL) (sO := sO) (K := fn_X8_write_l55 row n') hS hR hM hTB hnb (show ci < 700 by omega) c2 d2 f2 c3 d4 (by omega) (wn ci) gx_fuel gx_fuel 0 W TBA mt (by omega) (by show _ < 5000; omega) (by show _ < 5000; omega) (by omega) hW (fun p hp => h0 p (fun j hj => by have := hmono j hj; omega))
    have ec : fn_X7_write_l36 R DA DAA (n + 1) X TB TBA K P T th tt tl tn tc CO COA WI WIA BE BEA (nI nb) (nI ci) = fn_X7_write_l36 R DA DAA n X TB TBA' K P T th tt tl tn tc CO COA WI WIA BE BEA (nI nb) (nI (ci + 1)) := by
      have p1' : fn_X5_putCode R TB TBA (nI (cn ci)) (nI (wn ci)) (nI (bn ci)) = some TBA' := by rw [fn_X5_putCode]; exact p1
      rw [fn_X7_write_l36, pr_size o2, Option.bind_some, if_neg (by rw [pn_le (by omega) (by omega)]; omega), pr_get o2 (by omega) (by omega) (by omega), Option.bind_some, pr_get o3 (by omega) (by omega) (by omega), Option.bind_some, pr_get o4 (by omega) (by omega) (by omega), Option.bind_some, c1, d1, f1, p1', Option.bind_some, pn_addL]
    have em : fn_X8_write_l55 row (n' + 1) M mt mc mw mb sA sL sO (nI ci) = fn_X8_write_l55 row n' M mt' mc mw mb sA sL sO (nI (ci + 1)) := by
      rw [fn_X8_write_l55, o5, if_neg (by rw [pn_le (by omega) (by omega)]; omega)]; exact p2
    rw [ec, em]
    exact ih n n' (ci + 1) W' TBA' mt' (by omega) (by omega) (by omega) (by omega) p3 (fun p hp => p4 p (hp ci (by omega)))
theorem ps_wr {R DA DAA X TB TBA K P T th tt tl tn tc CO COA WI WIA BE BEA M row mt mc mw mb sA sL sO : Nat → Int32} {f k m c nb0 many bits : Nat} {cn wn bn : Nat → Nat} (hS : pS f k m c) (hR : pR R f k m c) (hM : pM M f k m c) (hTB : TB 1 = nI nb0) (hnb0 : nb0 ≤ 400) (hO : pO many bits cn wn bn K CO COA WI WIA BE BEA M mc mw mb) (hmany : many ≤ 452) (hx : (bits + 7) / 8 ≤ 400) :
    ∃ TB' TBA' mt' by_, ((fn_X5_blank TB TBA (nI ((bits + 7) / 8))).bind fun y_31 => fn_X7_write_l36 R DA DAA gx_fuel X y_31.1 y_31.2 K P T th tt tl tn tc CO COA WI WIA BE BEA (nI ((bits + 7) / 8)) 0) = some (nI ((bits + 7) / 8), X, TB', TBA', K, P, T, th, tt, tl, tn, tc, CO, COA, WI, WIA, BE, BEA) ∧ fn_X8_write_l32 row gx_fuel (upd M 7 (nI ((bits + 7) / 8))) mt mc mw mb sA sL sO (nI ((bits + 7) / 8)) 0 = some (nI ((bits + 7) / 8), upd M 7 (nI ((bits + 7) / 8)), mt', mc, mw, mb, sA, sL, sO) ∧ pTp ((bits + 7) / 8) by_ TB' TBA' (upd M 7 (nI ((bits + 7) / 8))) mt' := by
  obtain ⟨o1, o2, o3, o4, o5, o6, o7, o8⟩ := hO
  obtain ⟨TB0, e0, t0⟩ := pr_shr0 hTB (by omega)
  obtain ⟨TB1, TBA1, e1, t1, t2⟩ := pr_blank_l hx ((bits + 7) / 8) gx_fuel 0 TB0 TBA (by omega) (by show _ < 5000; omega) (by omega) t0 (fun j hj => by omega)
  obtain ⟨mt1, e2, t3⟩ := pm_blank_l (row := row) (mc := mc) (mw := mw) (mb := mb) (sA := sA) (sL := sL) (sO := sO) (M := upd M 7 (nI ((bits + 7) / 8))) hx (8 * ((bits + 7) / 8)) gx_fuel 0 mt (by omega) (by show _ < 5000; omega) (by omega) (fun j hj => by omega)
  have e1' : fn_X5_blank TB TBA (nI ((bits + 7) / 8)) = some (TB1, TBA1) := by
    rw [fn_X5_blank, e0, Option.bind_some]; exact e1
  have e2' : fn_X8_write_l32 row gx_fuel (upd M 7 (nI ((bits + 7) / 8))) mt mc mw mb sA sL sO (nI ((bits + 7) / 8)) 0 = fn_X8_write_l55 row gx_fuel (upd M 7 (nI ((bits + 7) / 8))) mt1 mc mw mb sA sL sO 0 := e2
  have hW : pWr f ((bits + 7) / 8) (fun _ => 0) TBA1 mt1 := ⟨fun i hi => ⟨0, t2 i hi, by omega, fun j hj => by simp⟩, fun p hp => ⟨t3 p hp, by show (0:Nat) < 2; omega⟩⟩
  obtain ⟨TBA', mt', by_, a1, a2, a3⟩ := ps_wr_l (R := R) (DA := DA) (DAA := DAA) (X := X) (P := P) (K := K) (T := T) (th := th) (tt := tt) (tl := tl) (tn := tn) (tc := tc) (row := row) (sA := sA) (sL := sL) (sO := sO) hS hR (pM_M hM (fun j hj => pn_un (by omega))) t1 (pn_us : upd M 7 (nI ((bits + 7) / 8)) 7 = _) hx (show bits ≤ 8 * ((bits + 7) / 8) by omega) hmany o2 o3 o4 (by rw [pn_un (by decide)]; exact o5) o8 many gx_fuel gx_fuel 0 (fun _ => 0) TBA1 mt1 (by omega) (by show _ < 5000; omega) (by show _ < 5000; omega) (by omega) hW (fun _ _ => rfl)
  refine ⟨TB1, TBA', mt', by_, ?_, ?_, a3⟩
  · rw [e1', Option.bind_some]; exact a1
  · rw [e2']; exact a2
