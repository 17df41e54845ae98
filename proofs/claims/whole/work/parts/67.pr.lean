/-! PURE: write() -/
theorem pw_nar {v : Nat} (h : v < 2) : vp_nar .boolean (nI v) = nI v := by
  rcases (show v = 0 ∨ v = 1 by omega) with rfl | rfl <;> rfl
/-- byte and bits: what the stream W holds -/
def pWr (f nb : Nat) (W : Nat → Nat) (TBA mt : Nat → Int32) : Prop := (∀ i, i < nb → ∃ bv, TBA i = nI bv ∧ bv < 256 ∧ ∀ j, j < 8 → bv / 2 ^ j % 2 = W (8 * i + (if f = 1 then 7 - j else j))) ∧ ∀ p, p < 8 * nb → mt p = nI (W p) ∧ W p < 2
theorem pw_or {a b pl j : Nat} (hb : b < 2) (h0 : a / 2 ^ pl % 2 = 0) : (a ||| (b * 2 ^ pl)) / 2 ^ j % 2 = if j = pl then b else a / 2 ^ j % 2 := by
  rw [← Nat.toNat_testBit, ← Nat.toNat_testBit, Nat.testBit_or]
  rw [← Nat.toNat_testBit] at h0
  have hz : a.testBit pl = false := by
    cases hq : a.testBit pl
    · rfl
    · rw [hq] at h0; cases h0
  rcases (show b = 0 ∨ b = 1 by omega) with rfl | rfl
  · rw [Nat.zero_mul, Nat.zero_testBit, Bool.or_false]
    split
    · rename_i h; rw [h, hz]; rfl
    · rfl
  · rw [Nat.one_mul, Nat.testBit_two_pow]
    split
    · rename_i h; rw [h, hz]; simp
    · rename_i h
      have : ¬ pl = j := fun q => h q.symm
      simp [this]
theorem pw_set {f nb pos b : Nat} {W : Nat → Nat} {TBA mt : Nat → Int32} (h : pWr f nb W TBA mt) (hp : pos < 8 * nb) (hb : b < 2) (h0 : W pos = 0) : ∃ bv, TBA (pos / 8) = nI bv ∧ bv < 256 ∧ pWr f nb (pUp W pos b) (upd TBA (pos / 8) (nI (bv ||| (b * 2 ^ (if f = 1 then 7 - pos % 8 else pos % 8))))) (upd mt pos (nI b)) := by
  obtain ⟨h1, h2⟩ := h
  obtain ⟨bv, b1, b2, b3⟩ := h1 (pos / 8) (by omega)
  have hm := Nat.mod_lt pos (show 8 > 0 by decide)
  refine ⟨bv, b1, b2, fun i hi => ?_, fun p hp2 => ?_⟩
  · by_cases hip : i = pos / 8
    · subst hip
      refine ⟨_, pn_us, ?_, fun j hj => ?_⟩
      · have : b * 2 ^ (if f = 1 then 7 - pos % 8 else pos % 8) < 2 ^ 8 := by
          have hpl : (if f = 1 then 7 - pos % 8 else pos % 8) ≤ 7 := by split <;> omega
          have := Nat.pow_le_pow_right (show 2 > 0 by decide) hpl
          rcases (show b = 0 ∨ b = 1 by omega) with rfl | rfl <;> omega
        exact Nat.or_lt_two_pow (n := 8) b2 this
      · have hz : bv / 2 ^ (if f = 1 then 7 - pos % 8 else pos % 8) % 2 = 0 := by
          rw [b3 _ (by split <;> omega), ← h0]
          congr 1
          split <;> omega
        rw [pw_or hb hz]
        unfold pUp
        by_cases hjp : j = (if f = 1 then 7 - pos % 8 else pos % 8)
        · rw [if_pos hjp, if_pos]
          subst hjp
          split <;> omega
        · rw [if_neg hjp, if_neg]
          · exact b3 j hj
          · intro q; apply hjp
            revert q
            split <;> intro q <;> omega
    · obtain ⟨bw, c1, c2, c3⟩ := h1 i hi
      refine ⟨bw, by rw [pn_un hip]; exact c1, c2, fun j hj => ?_⟩
      rw [c3 j hj]
      unfold pUp
      rw [if_neg (show ¬ 8 * i + (if f = 1 then 7 - j else j) = pos from fun q => hip (by revert q; split <;> intro q <;> omega))]
  · unfold pUp
    by_cases hpp : p = pos
    · subst hpp; rw [pn_us, if_pos rfl]; exact ⟨rfl, hb⟩
    · rw [pn_un hpp, if_neg hpp]; exact h2 p hp2
theorem pw_bit {cn a : Nat} (h : cn < 100000) (ha : a < 32) : (nI cn >>> (nI a &&& 31)) &&& 1 = nI (cn / 2 ^ a % 2) := by
  rw [pn_shr (by omega) ha, pn_and1 (Nat.lt_of_le_of_lt (Nat.div_le_self _ _) (by omega))]
theorem ps_put_l {R TB row mc mw mb sA sL sO M : Nat → Int32} {f k m c nb cn w bg ci : Nat} {K : (Nat → Int32) → (Nat → Int32) → (Nat → Int32) → (Nat → Int32) → (Nat → Int32) → (Nat → Int32) → (Nat → Int32) → (Nat → Int32) → Int32 → Option (Int32 × (Nat → Int32) × (Nat → Int32) × (Nat → Int32) × (Nat → Int32) × (Nat → Int32) × (Nat → Int32) × (Nat → Int32) × (Nat → Int32))} (hS : pS f k m c) (hR : pR R f k m c) (hM : pM M f k m c) (hTB : TB 1 = nI nb) (hnb : nb ≤ 400) (hci : ci < 700) (hmc : mc ci = nI cn) (hmw : mw ci = nI w) (hmb : mb ci = nI bg) (hcn : cn < 100000) (hw : w ≤ 12) (hbg : bg + w ≤ 8 * nb) :
    ∀ (d n n' i : Nat) (W : Nat → Nat) (TBA mt : Nat → Int32), w - i = d → d < n → d < n' → i ≤ w → pWr f nb W TBA mt → (∀ p, bg + i ≤ p → W p = 0) →
      ∃ W' TBA' mt', fn_X5_putCode_l3 R TB n TBA (nI cn) (nI w) (nI bg) (nI i) = some TBA' ∧ fn_X8_write_l65 row K n' M mt mc mw mb sA sL sO (nI ci) (nI i) = K M mt' mc mw mb sA sL sO (nI (ci + 1)) ∧ pWr f nb W' TBA' mt' ∧ (∀ p, bg + w ≤ p → W' p = 0) := by
  have hi7 : gx_in (nI ci) 700 := (pn_in (by omega)).mpr hci
  have hcl : (nI ci).toNatClampNeg = ci := pn_cl (by omega)
  intro d
  induction d with
  | zero =>
    intro n n' i W TBA mt hd hn hn' hi hW h0
    obtain ⟨n, rfl⟩ : ∃ q, n = q + 1 := ⟨n - 1, by omega⟩
    obtain ⟨n', rfl⟩ : ∃ q, n' = q + 1 := ⟨n' - 1, by omega⟩
    have : i = w := by omega
    subst this
    refine ⟨W, TBA, mt, ?_, ?_, hW, h0⟩
    · rw [fn_X5_putCode_l3, if_pos (Int32.le_refl _)]
    · rw [fn_X8_write_l65, if_pos hi7, if_pos (by rw [hcl, hmw]; exact Int32.le_refl _), pn_addL]
  | succ d ih =>
    intro n n' i W TBA mt hd hn hn' hi hW h0
    obtain ⟨n, rfl⟩ : ∃ q, n = q + 1 := ⟨n - 1, by omega⟩
    obtain ⟨n', rfl⟩ : ∃ q, n' = q + 1 := ⟨n' - 1, by omega⟩
    have hm := Nat.mod_lt (bg + i) (show 8 > 0 by decide)
    have hplc : (if f = 1 then w - 1 - i else i) < 32 := by split <;> omega
    have hb2 : cn / 2 ^ (if f = 1 then w - 1 - i else i) % 2 < 2 := Nat.mod_lt _ (by decide)
    obtain ⟨bv, b1, b2, b3⟩ := pw_set hW (show bg + i < 8 * nb by omega) hb2 (h0 (bg + i) (Nat.le_refl _))
    have hplb : (if f = 1 then 7 - (bg + i) % 8 else (bg + i) % 8) ≤ 7 := by split <;> omega
    have hshift : nI (cn / 2 ^ (if f = 1 then w - 1 - i else i) % 2) <<< (nI (if f = 1 then 7 - (bg + i) % 8 else (bg + i) % 8) &&& 31) = nI (cn / 2 ^ (if f = 1 then w - 1 - i else i) % 2 * 2 ^ (if f = 1 then 7 - (bg + i) % 8 else (bg + i) % 8)) := by
      refine pn_shl (by omega) ?_
      have := Nat.pow_le_pow_right (show 2 > 0 by decide) hplb
      rcases (show cn / 2 ^ (if f = 1 then w - 1 - i else i) % 2 = 0 ∨ cn / 2 ^ (if f = 1 then w - 1 - i else i) % 2 = 1 by omega) with q | q <;> rw [q] <;> omega
    have ep : fn_X5_placeInCode R (nI i) (nI w) = some (nI (if f = 1 then w - 1 - i else i)) := by
      rw [fn_X5_placeInCode, hR.2.2.2.2.2.2.1]
      by_cases hf : f = 1
      · rw [if_pos hf, if_pos hf, if_neg (by decide), pn_subL (by omega), pn_sub (by omega)]
      · rw [if_neg hf, if_neg hf, if_pos (by rfl)]
    have eb : fn_X5_placeInByte R (nI (bg + i)) = some (nI (if f = 1 then 7 - (bg + i) % 8 else (bg + i) % 8)) := by
      rw [fn_X5_placeInByte, hR.2.2.2.2.2.2.1, pn_and7 (by omega)]
      by_cases hf : f = 1
      · rw [if_pos hf, if_pos hf, if_neg (by decide), pn_Lsub (by omega)]
      · rw [if_neg hf, if_neg hf, if_pos (by rfl)]
    have ec : fn_X5_putCode_l3 R TB (n + 1) TBA (nI cn) (nI w) (nI bg) (nI i) = fn_X5_putCode_l3 R TB n (upd TBA ((bg + i) / 8) (nI (bv ||| (cn / 2 ^ (if f = 1 then w - 1 - i else i) % 2 * 2 ^ (if f = 1 then 7 - (bg + i) % 8 else (bg + i) % 8))))) (nI cn) (nI w) (nI bg) (nI (i + 1)) := by
      rw [fn_X5_putCode_l3, if_neg (by rw [pn_le (by omega) (by omega)]; omega), ep, Option.bind_some, pn_add, pn_shr3 (by omega), pr_get hTB hnb (by omega) (by omega), Option.bind_some, eb, Option.bind_some, b1, pw_bit hcn hplc, hshift, pn_or, pr_set hTB hnb (by omega) (by omega), Option.bind_some, pn_addL]
    have em : fn_X8_write_l65 row K (n' + 1) M mt mc mw mb sA sL sO (nI ci) (nI i) = fn_X8_write_l65 row K n' M (upd mt (bg + i) (nI (cn / 2 ^ (if f = 1 then w - 1 - i else i) % 2))) mc mw mb sA sL sO (nI ci) (nI (i + 1)) := by
      have hin : gx_in (nI (bg + i)) 3200 := (pn_in (by omega)).mpr (by omega)
      have e97 : fn_X8_write_j97 row K (fn_X8_write_l65 row K n') M mt mc mw mb sA sL sO (nI ci) (nI i) (nI (if f = 1 then w - 1 - i else i)) = fn_X8_write_l65 row K n' M (upd mt (bg + i) (nI (cn / 2 ^ (if f = 1 then w - 1 - i else i) % 2))) mc mw mb sA sL sO (nI ci) (nI (i + 1)) := by
        have hbeg : mb (nI ci).toNatClampNeg + nI i = nI (bg + i) := by rw [hcl, hmb, pn_add]
        have hcd : (mc (nI ci).toNatClampNeg >>> (nI (if f = 1 then w - 1 - i else i) &&& 31)) &&& 1 = nI (cn / 2 ^ (if f = 1 then w - 1 - i else i) % 2) := by rw [hcl, hmc, pw_bit hcn hplc]
        rw [fn_X8_write_j97, if_pos hi7, if_pos hi7, hcd, hbeg, pn_addL]
        rcases (show cn / 2 ^ (if f = 1 then w - 1 - i else i) % 2 = 0 ∨ cn / 2 ^ (if f = 1 then w - 1 - i else i) % 2 = 1 by omega) with q | q
        · rw [q, if_neg (by decide), if_pos hin, pn_cl (by omega)]; rfl
        · rw [q, if_pos (by rfl), if_pos hin, pn_cl (by omega)]; rfl
      rw [fn_X8_write_l65, if_pos hi7, if_neg (by rw [hcl, hmw, pn_le (by omega) (by omega)]; omega), hM.1]
      by_cases hf : f = 1
      · rw [if_pos hf] at e97
        rw [if_pos (by rw [hf]; rfl), if_pos hi7, hcl, hmw, pn_subL (by omega), pn_sub (by omega), e97, if_pos hf]
      · rw [if_neg hf] at e97
        rw [if_neg (by rw [pn_eqL (by have := hS.1; omega) (by omega)]; exact hf), e97, if_neg hf]
    rw [ec, em]
    exact ih n n' (i + 1) _ _ _ (by omega) (by omega) (by omega) (by omega) b3 (fun p hp => by unfold pUp; rw [if_neg (by omega)]; exact h0 p (by omega))
theorem pr_blank_l {x : Nat} (hx : x ≤ 400) : ∀ (d n i : Nat) (TB TBA : Nat → Int32), x - i = d → d < n → i ≤ x → TB 1 = nI i → (∀ j, j < i → TBA j = 0) → ∃ TB' TBA', fn_X5_blank_l10 n TB TBA (nI x) (nI i) = some (TB', TBA') ∧ TB' 1 = nI x ∧ ∀ j, j < x → TBA' j = 0 := by
  intro d
  induction d with
  | zero =>
    intro n i TB TBA hd hn hi h1 h2
    obtain ⟨n, rfl⟩ : ∃ q, n = q + 1 := ⟨n - 1, by omega⟩
    have : i = x := by omega
    subst this
    rw [fn_X5_blank_l10, if_pos (Int32.le_refl _)]
    exact ⟨TB, TBA, rfl, h1, h2⟩
  | succ d ih =>
    intro n i TB TBA hd hn hi h1 h2
    obtain ⟨n, rfl⟩ : ∃ q, n = q + 1 := ⟨n - 1, by omega⟩
    rw [fn_X5_blank_l10, if_neg (by rw [pn_le (by omega) (by omega)]; omega), pr_add h1 (by omega) (by omega) (by omega), Option.bind_some, pn_addL]
    refine ih n (i + 1) (upd TB 1 (nI (i + 1))) (upd TBA i 0) (by omega) (by omega) (by omega) pn_us (fun j hj => ?_)
    by_cases hji : j = i
    · subst hji; exact pn_us
    · rw [pn_un hji]; exact h2 j (by omega)
theorem pm_blank_l {row mc mw mb sA sL sO M : Nat → Int32} {x : Nat} (hx : x ≤ 400) : ∀ (d n i : Nat) (mt : Nat → Int32), 8 * x - i = d → d < n → i ≤ 8 * x → (∀ j, j < i → mt j = 0) → ∃ mt', fn_X8_write_l32 row n M mt mc mw mb sA sL sO (nI x) (nI i) = fn_X8_write_l55 row gx_fuel M mt' mc mw mb sA sL sO 0 ∧ ∀ j, j < 8 * x → mt' j = 0 := by
  intro d
  induction d with
  | zero =>
    intro n i mt hd hn hi h2
    obtain ⟨n, rfl⟩ : ∃ q, n = q + 1 := ⟨n - 1, by omega⟩
    have hi2 : i = 8 * x := by omega
    subst hi2
    rw [fn_X8_write_l32, pn_Lmul, if_pos (Int32.le_refl _)]
    exact ⟨mt, rfl, h2⟩
  | succ d ih =>
    intro n i mt hd hn hi h2
    obtain ⟨n, rfl⟩ : ∃ q, n = q + 1 := ⟨n - 1, by omega⟩
    rw [fn_X8_write_l32, pn_Lmul, if_neg (by rw [pn_le (by omega) (by omega)]; omega), if_pos ((pn_in (by omega)).mpr (by omega)), pn_cl (by omega), pn_addL]
    refine ih n (i + 1) _ (by omega) (by omega) (by omega) (fun j hj => ?_)
    by_cases hji : j = i
    · subst hji; exact pn_us
    · rw [pn_un hji]; exact h2 j (by omega)
