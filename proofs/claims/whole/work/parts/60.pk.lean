/-! PURE: THE TAPE's bits, in both -/
def pTp (nb : Nat) (by_ : Nat → Nat) (TB TBA M mt : Nat → Int32) : Prop := TB 1 = nI nb ∧ M 7 = nI nb ∧ nb ≤ 400 ∧ ∀ i, i < nb → TBA i = nI (by_ i) ∧ by_ i < 256 ∧ ∀ j, j < 8 → mt (8 * i + j) = nI (by_ i / 2 ^ j % 2)
/-- the bit at place p of the stream -/
def pTb (f : Nat) (by_ : Nat → Nat) (p : Nat) : Nat := by_ (p / 8) / 2 ^ (if f = 1 then 7 - p % 8 else p % 8) % 2
theorem pTb_2 (f : Nat) (by_ : Nat → Nat) (p : Nat) : pTb f by_ p < 2 := Nat.mod_lt _ (by decide)
theorem pc_bit {R TB TBA M mt : Nat → Int32} {f k m c nb p : Nat} {by_ : Nat → Nat} (hR : pR R f k m c) (hT : pTp nb by_ TB TBA M mt) (hp : p < 8 * nb) : fn_X5_bit R TB TBA (nI p) = some (nI (pTb f by_ p)) := by
  obtain ⟨t1, t2, t3, t4⟩ := hT
  obtain ⟨r0, r1, r2, r3, r4, r5, r6, r7, r8, r9, r10, r11⟩ := hR
  obtain ⟨q1, q2, q3⟩ := t4 (p / 8) (by omega)
  have hm := Nat.mod_lt p (show 8 > 0 by decide)
  rw [fn_X5_bit, pn_shr3 (by omega), pr_get t1 t3 (by omega) (by omega), Option.bind_some, q1, fn_X5_placeInByte, r6, pn_and7 (by omega)]
  unfold pTb
  by_cases hf : f = 1
  · rw [if_pos hf, if_pos hf, if_neg (by decide), Option.bind_some, pn_Lsub (by omega), pn_shr (by omega) (by omega), pn_and1 (Nat.lt_of_le_of_lt (Nat.div_le_self _ _) (by omega))]
  · rw [if_neg hf, if_neg hf, if_pos (by rfl), Option.bind_some, pn_shr (by omega) (by omega), pn_and1 (Nat.lt_of_le_of_lt (Nat.div_le_self _ _) (by omega))]
theorem pc_next {U R TB TBA M mt : Nat → Int32} {f k m c nb p : Nat} {by_ : Nat → Nat} (hR : pR R f k m c) (hT : pTp nb by_ TB TBA M mt) (hp : p < 8 * nb) (h8 : U 8 = nI p) : fn_X6_nextBit U R TB TBA = some (nI (pTb f by_ p), upd U 8 (nI (p + 1))) := by
  rw [fn_X6_nextBit, h8, pc_bit hR hT hp, Option.bind_some, pn_addL]
theorem pm_bit {TB TBA M mt : Nat → Int32} {f k m c nb p : Nat} {by_ : Nat → Nat} (hS : pS f k m c) (hM : pM M f k m c) (hT : pTp nb by_ TB TBA M mt) (hp : p < 8 * nb) (h22 : M 22 = nI p) (h23 : M 23 = 0) : fn_X8_bit M mt = some (nI (pTb f by_ p), upd M 22 (nI (p + 1))) := by
  obtain ⟨t1, t2, t3, t4⟩ := hT
  obtain ⟨q1, q2, q3⟩ := t4 (p / 8) (by omega)
  have hm := Nat.mod_lt p (show 8 > 0 by decide)
  have hf2 := hS.1
  have h2 := pTb_2 f by_ p
  have key : ∀ q, q < 3200 → mt q = nI (pTb f by_ p) → fn_X8_bit_j71 mt M (nI q) = some (nI (pTb f by_ p), upd M 22 (nI (p + 1))) := by
    intro q hq e
    rw [fn_X8_bit_j71, if_pos ((pn_in (by omega)).mpr hq), pn_cl (by omega), e, h22, pn_addL]
    rcases (show pTb f by_ p = 0 ∨ pTb f by_ p = 1 by omega) with h | h
    · rw [h, if_pos (by rfl)]; rfl
    · rw [h, if_neg (by decide)]; rfl
  rw [fn_X8_bit, if_pos h23, h22, t2, pn_Lmul, if_neg (by rw [pn_eq (by omega) (by omega)]; omega), fn_X8_bit_j26, if_pos h23, hM.1]
  by_cases hf : f = 1
  · rw [if_pos (by rw [hf]; rfl), h22, pn_rem8 (by omega), pn_divL (by omega) (by omega) (by omega), pn_Lmul, pn_addL, pn_sub (by omega)]
    refine key _ (by omega) ?_
    rw [show 8 * (p / 8) + 7 - p % 8 = 8 * (p / 8) + (7 - p % 8) by omega, q3 _ (by omega)]
    unfold pTb
    rw [if_pos hf]
  · rw [if_neg (by rw [pn_eqL (by omega) (by omega)]; exact hf), h22]
    refine key p (by omega) ?_
    have := q3 (p % 8) (by omega)
    rw [show 8 * (p / 8) + p % 8 = p by omega] at this
    rw [this]
    unfold pTb
    rw [if_neg hf]
theorem pm_bitE {TB TBA M mt : Nat → Int32} {nb : Nat} {by_ : Nat → Nat} (hT : pTp nb by_ TB TBA M mt) (h22 : M 22 = nI (8 * nb)) (h23 : M 23 = 0) : fn_X8_bit M mt = some (0, upd M 23 1) := by
  rw [fn_X8_bit, if_pos h23, h22, hT.2.1, pn_Lmul, if_pos rfl, fn_X8_bit_j26, if_neg (by rw [pn_us]; decide)]
theorem pm_bitB {M mt : Nat → Int32} (h23 : ¬ M 23 = 0) : fn_X8_bit M mt = some (0, M) := by
  rw [fn_X8_bit, if_neg h23, fn_X8_bit_j26, if_neg h23]
theorem pTp_M {nb : Nat} {by_ : Nat → Nat} {TB TBA M M' mt : Nat → Int32} (h : pTp nb by_ TB TBA M mt) (h7 : M' 7 = M 7) : pTp nb by_ TB TBA M' mt := ⟨h.1, by rw [h7, h.2.1], h.2.2⟩
theorem pM_M {M M' : Nat → Int32} {f k m c : Nat} (h : pM M f k m c) (hj : ∀ j, j < 4 → M' j = M j) : pM M' f k m c := ⟨by rw [hj 0 (by decide), h.1], by rw [hj 1 (by decide), h.2.1], by rw [hj 2 (by decide), h.2.2.1], by rw [hj 3 (by decide), h.2.2.2]⟩
-- zeros
theorem ps_zeros_l {R TB TBA mt : Nat → Int32} {f k m c nb e : Nat} {by_ : Nat → Nat} (hS : pS f k m c) (hR : pR R f k m c) (he : e ≤ 8 * nb) (hnb : nb ≤ 400) :
    ∀ (d n n' p i x : Nat) (U M : Nat → Int32), e - p = d → d < n → d + 1 < n' → p ≤ e → x - i = d → i ≤ x → x ≤ 3200 → pM M f k m c → pTp nb by_ TB TBA M mt → U 8 = nI p → M 22 = nI p → M 23 = 0 →
      ∃ U' M' r q, fn_X6_zerosUpTo_l5 R TB TBA n U (nI e) (nI p) = some (nI r, U') ∧ fn_X8_zeros_l2 mt n' M (nI x) (nI i) = some M' ∧ M' 23 = nI r ∧ ((r = 0 ∧ q = e) ∨ r = 6) ∧ U' 8 = nI q ∧ M' 22 = nI q ∧ q ≤ e ∧ (∀ j, j ≠ 8 → U' j = U j) ∧ (∀ j, j ≠ 22 → j ≠ 23 → M' j = M j) := by
  intro d
  induction d with
  | zero =>
    intro n n' p i x U M hd hn hn' hp hx hix hx32 hM hT u8 m22 m23
    obtain ⟨n, rfl⟩ : ∃ q, n = q + 1 := ⟨n - 1, by omega⟩
    obtain ⟨n', rfl⟩ : ∃ q, n' = q + 1 := ⟨n' - 1, by omega⟩
    have : p = e := by omega
    subst this
    rw [fn_X6_zerosUpTo_l5, if_pos (Int32.le_refl _), fn_X8_zeros_l2, if_pos ((pn_le (by omega) (by omega)).mpr (by omega))]
    exact ⟨U, M, 0, p, rfl, rfl, m23, Or.inl ⟨rfl, rfl⟩, u8, m22, hp, fun _ _ => rfl, fun _ _ _ => rfl⟩
  | succ d ih =>
    intro n n' p i x U M hd hn hn' hp hx hix hx32 hM hT u8 m22 m23
    obtain ⟨n, rfl⟩ : ∃ q, n = q + 1 := ⟨n - 1, by omega⟩
    obtain ⟨n', rfl⟩ : ∃ q, n' = q + 1 := ⟨n' - 1, by omega⟩
    have h2 := pTb_2 f by_ p
    have ec : fn_X6_zerosUpTo_l5 R TB TBA (n + 1) U (nI e) (nI p) = if nI (pTb f by_ p) = 0 then fn_X6_zerosUpTo_l5 R TB TBA n (upd U 8 (nI (p + 1))) (nI e) (nI (p + 1)) else some (6, upd U 8 (nI (p + 1))) := by
      rw [fn_X6_zerosUpTo_l5, if_neg (by rw [pn_le (by omega) (by omega)]; omega), pc_next hR hT (by omega) u8, Option.bind_some, pn_addL]
    have em : fn_X8_zeros_l2 mt (n' + 1) M (nI x) (nI i) = if nI (pTb f by_ p) = 1 then fn_X8_zeros_l2 mt n' (upd (upd M 22 (nI (p + 1))) 23 6) (nI x) (nI (i + 1)) else fn_X8_zeros_l2 mt n' (upd M 22 (nI (p + 1))) (nI x) (nI (i + 1)) := by
      rw [fn_X8_zeros_l2, if_neg (by rw [pn_le (by omega) (by omega)]; omega), if_pos m23, pm_bit hS hM hT (by omega) m22 m23, Option.bind_some, pn_addL]
    rw [ec, em]
    rcases (show pTb f by_ p = 0 ∨ pTb f by_ p = 1 by omega) with h | h
    · rw [h, if_pos (by rfl), if_neg (by decide)]
      obtain ⟨U', M', r, q, a1, a2, a3, a4, a5, a6, a7, a8, a9⟩ := ih n n' (p + 1) (i + 1) x (upd U 8 (nI (p + 1))) (upd M 22 (nI (p + 1))) (by omega) (by omega) (by omega) (by omega) (by omega) (by omega) hx32 (pM_M hM (fun j hj => pn_un (by omega))) (pTp_M hT (pn_un (by decide))) pn_us pn_us (by rw [pn_un (by decide)]; exact m23)
      exact ⟨U', M', r, q, a1, a2, a3, a4, a5, a6, a7, fun j hj => by rw [a8 j hj, pn_un hj], fun j h1 h2 => by rw [a9 j h1 h2, pn_un h1]⟩
    · rw [h, if_neg (by decide), if_pos (by rfl)]
      obtain ⟨n', rfl⟩ : ∃ q, n' = q + 1 := ⟨n' - 1, by omega⟩
      refine ⟨_, upd (upd M 22 (nI (p + 1))) 23 6, 6, p + 1, rfl, ?_, by simp [upd]; rfl, Or.inr rfl, pn_us, by simp [upd], by omega, fun j hj => pn_un hj, fun j h1 h2 => by simp [upd, h1, h2]⟩
      rw [fn_X8_zeros_l2]
      by_cases hxi : x ≤ i + 1
      · rw [if_pos ((pn_le (by omega) (by omega)).mpr hxi)]
      · rw [if_neg (by rw [pn_le (by omega) (by omega)]; exact hxi), if_neg (by simp [upd])]
theorem ps_zeros {R TB TBA mt U M : Nat → Int32} {f k m c nb p x : Nat} {by_ : Nat → Nat} (hS : pS f k m c) (hR : pR R f k m c) (hM : pM M f k m c) (hT : pTp nb by_ TB TBA M mt) (he : p + x ≤ 8 * nb) (u8 : U 8 = nI p) (m22 : M 22 = nI p) (m23 : M 23 = 0) :
    ∃ U' M' r q, fn_X6_zerosUpTo U R TB TBA (nI (p + x)) = some (nI r, U') ∧ fn_X8_zeros M mt (nI x) = some M' ∧ M' 23 = nI r ∧ ((r = 0 ∧ q = p + x) ∨ r = 6) ∧ U' 8 = nI q ∧ M' 22 = nI q ∧ q ≤ 8 * nb ∧ (∀ j, j ≠ 8 → U' j = U j) ∧ (∀ j, j ≠ 22 → j ≠ 23 → M' j = M j) := by
  have hnb := hT.2.2.1
  obtain ⟨U', M', r, q, a1, a2, a3, a4, a5, a6, a7, a8, a9⟩ := ps_zeros_l hS hR he hnb x gx_fuel gx_fuel p 0 x U M (by omega) (by show _ < 5000; omega) (by show _ < 5000; omega) (by omega) (by omega) (by omega) (by omega) hM hT u8 m22 m23
  refine ⟨U', M', r, q, ?_, a2, a3, a4, a5, a6, by omega, a8, a9⟩
  rw [fn_X6_zerosUpTo, u8]; exact a1
-- a CODE
def pVl (t : Nat → Nat) (p : Nat) : Nat → Nat
  | 0 => 0
  | i + 1 => pVl t p i + t (p + i) * 2 ^ i
def pVh (t : Nat → Nat) (p : Nat) : Nat → Nat
  | 0 => 0
  | i + 1 => 2 * pVh t p i + t (p + i)
theorem pVl_lt {t : Nat → Nat} {p : Nat} (h : ∀ j, t j < 2) : ∀ i, pVl t p i < 2 ^ i
  | 0 => by simp [pVl]
  | i + 1 => by
    have h1 := pVl_lt (p := p) h i
    have h2 := h (p + i)
    rw [pVl, Nat.pow_succ]
    rcases (show t (p + i) = 0 ∨ t (p + i) = 1 by omega) with h3 | h3 <;> rw [h3] <;> omega
theorem pVh_lt {t : Nat → Nat} {p : Nat} (h : ∀ j, t j < 2) : ∀ i, pVh t p i < 2 ^ i
  | 0 => by simp [pVh]
  | i + 1 => by
    have h1 := pVh_lt (p := p) h i
    have h2 := h (p + i)
    rw [pVh, Nat.pow_succ]; omega
theorem pOr {a b i : Nat} (h : a < 2 ^ i) : a ||| (b * 2 ^ i) = a + b * 2 ^ i := by
  have := Nat.two_pow_add_eq_or_of_lt h b
  rw [Nat.or_comm, Nat.mul_comm b, ← this, Nat.add_comm]
/-- what the first i bits of a CODE of w bits are worth so far, in the class and in the reference -/
def pAc (f : Nat) (t : Nat → Nat) (p w i : Nat) : Nat := if f = 1 then pVh t p i * 2 ^ (w - i) else pVl t p i
def pAm (f : Nat) (t : Nat → Nat) (p i : Nat) : Nat := if f = 1 then pVh t p i else pVl t p i
theorem ps_code_l {R TB TBA mt P : Nat → Int32} {f k m c nb p w cr : Nat} {by_ : Nat → Nat} (hS : pS f k m c) (hR : pR R f k m c) (hP : P 2 = nI w) (hw : 1 ≤ w ∧ w ≤ 12) (hp : p ≤ 8 * nb) (hnb : nb ≤ 400) :
    ∀ (d n n' i : Nat) (U M : Nat → Int32), w - i = d → d < n → d < n' → i ≤ w → p + i ≤ 8 * nb → pM M f k m c → pTp nb by_ TB TBA M mt → U 8 = nI (p + i) → U 9 = nI cr → cr < 100000 → M 22 = nI (p + i) → M 23 = 0 →
      ∃ U' M' v x, fn_X6_nextCode_l4 R TB TBA P n U (nI (pAc f (pTb f by_) p w i)) (nI i) = some (v, U') ∧ fn_X8_number_l4 mt n' M (nI w) (nI (pAm f (pTb f by_) p i)) (nI i) = some (x, M') ∧ (∀ j, j ≠ 8 → j ≠ 9 → U' j = U j) ∧ (∀ j, j ≠ 22 → j ≠ 23 → M' j = M j) ∧
        ((p + w ≤ 8 * nb ∧ v = nI (pAm f (pTb f by_) p w) ∧ x = nI (pAm f (pTb f by_) p w) ∧ U' 8 = nI (p + w) ∧ M' 22 = nI (p + w) ∧ U' 9 = nI (cr + 1) ∧ M' 23 = 0) ∨ (8 * nb < p + w ∧ v = -1 ∧ U' 8 = nI (8 * nb) ∧ M' 22 = nI (8 * nb) ∧ M' 23 = 1)) := by
  have h2 := pTb_2 f by_
  have pw : ∀ i, i ≤ 12 → 2 ^ i ≤ 4096 := fun i hi => Nat.pow_le_pow_right (by decide) hi
  intro d
  induction d with
  | zero =>
    intro n n' i U M hd hn hn' hi hpi hM hT u8 u9 hcr m22 m23
    obtain ⟨n, rfl⟩ : ∃ q, n = q + 1 := ⟨n - 1, by omega⟩
    obtain ⟨n', rfl⟩ : ∃ q, n' = q + 1 := ⟨n' - 1, by omega⟩
    have : i = w := by omega
    subst this
    rw [fn_X6_nextCode_l4, hP, if_pos (Int32.le_refl _), fn_X8_number_l4, if_pos (Int32.le_refl _), u9, pn_addL]
    refine ⟨_, _, _, _, rfl, rfl, fun j h1 h2 => pn_un h2, fun _ _ _ => rfl, Or.inl ⟨hpi, ?_, rfl, by rw [pn_un (by decide)]; exact u8, m22, pn_us, m23⟩⟩
    unfold pAc pAm
    rw [Nat.sub_self, Nat.pow_zero, Nat.mul_one]
  | succ d ih =>
    intro n n' i U M hd hn hn' hi hpi hM hT u8 u9 hcr m22 m23
    obtain ⟨n, rfl⟩ : ∃ q, n = q + 1 := ⟨n - 1, by omega⟩
    obtain ⟨n', rfl⟩ : ∃ q, n' = q + 1 := ⟨n' - 1, by omega⟩
    have ec0 : fn_X6_nextCode_l4 R TB TBA P (n + 1) U (nI (pAc f (pTb f by_) p w i)) (nI i) = if 0 < nI (8 * nb - (p + i)) then (fn_X6_nextBit U R TB TBA).bind fun y_26 => (fn_X5_placeInCode R (nI i) (nI w)).bind fun y_41 => fn_X6_nextCode_l4 R TB TBA P n y_26.2 (nI (pAc f (pTb f by_) p w i) ||| (y_26.1 <<< (y_41 &&& 31))) (nI i + 1) else some (-1, U) := by
      rw [fn_X6_nextCode_l4, hP, if_neg (by rw [pn_le (by omega) (by omega)]; omega), fn_X6_bitsLeft, fn_X5_bits, pr_size hT.1, Option.bind_some, Option.bind_some, Option.bind_some, u8, pn_Lmul, pn_sub hpi]
    have em0 : fn_X8_number_l4 mt (n' + 1) M (nI w) (nI (pAm f (pTb f by_) p i)) (nI i) = (fn_X8_bit M mt).bind fun y_10 => if (y_10.2 0) = 1 then fn_X8_number_l4 mt n' y_10.2 (nI w) ((2 * nI (pAm f (pTb f by_) p i)) + y_10.1) (nI i + 1) else fn_X8_number_l4 mt n' y_10.2 (nI w) (nI (pAm f (pTb f by_) p i) + (y_10.1 <<< (nI i &&& 31))) (nI i + 1) := by
      rw [fn_X8_number_l4, if_neg (by rw [pn_le (by omega) (by omega)]; omega)]
    rw [ec0, em0]
    by_cases hend : p + i = 8 * nb
    · -- the bits end
      rw [if_neg (by rw [pn_Llt (by omega) (by omega)]; omega)]
      have m22e : M 22 = nI (8 * nb) := by rw [m22, hend]
      rw [pm_bitE hT m22e m23, Option.bind_some]
      have rest : ∀ (dd nn jj : Nat) (xx : Int32) (MM : Nat → Int32), w - jj = dd → dd < nn → jj ≤ w → ¬ MM 23 = 0 → ∃ x, fn_X8_number_l4 mt nn MM (nI w) xx (nI jj) = some (x, MM) := by
        intro dd
        induction dd with
        | zero =>
          intro nn jj xx MM h1 h3 h4 h5
          obtain ⟨nn, rfl⟩ : ∃ q, nn = q + 1 := ⟨nn - 1, by omega⟩
          rw [fn_X8_number_l4, if_pos ((pn_le (by omega) (by omega)).mpr (by omega))]
          exact ⟨_, rfl⟩
        | succ dd ih2 =>
          intro nn jj xx MM h1 h3 h4 h5
          obtain ⟨nn, rfl⟩ : ∃ q, nn = q + 1 := ⟨nn - 1, by omega⟩
          rw [fn_X8_number_l4, if_neg (by rw [pn_le (by omega) (by omega)]; omega), pm_bitB h5, Option.bind_some, pn_addL]
          by_cases hz : MM 0 = 1
          · rw [if_pos hz]; exact ih2 nn (jj + 1) _ MM (by omega) (by omega) (by omega) h5
          · rw [if_neg hz]; exact ih2 nn (jj + 1) _ MM (by omega) (by omega) (by omega) h5
      have h5 : ¬ upd M 23 1 23 = 0 := by rw [pn_us]; decide
      refine ⟨U, upd M 23 1, -1, ?_⟩
      by_cases hz : upd M 23 1 0 = 1
      · obtain ⟨x, hx⟩ := rest d n' (i + 1) (2 * nI (pAm f (pTb f by_) p i) + 0) (upd M 23 1) (by omega) (by omega) (by omega) h5
        refine ⟨x, rfl, by rw [if_pos hz, pn_addL]; exact hx, fun _ _ _ => rfl, fun j q1 q2 => pn_un q2, Or.inr ⟨by omega, rfl, by rw [u8, hend], by rw [pn_un (by decide)]; exact m22e, pn_us⟩⟩
      · obtain ⟨x, hx⟩ := rest d n' (i + 1) (nI (pAm f (pTb f by_) p i) + (0 <<< (nI i &&& 31))) (upd M 23 1) (by omega) (by omega) (by omega) h5
        refine ⟨x, rfl, by rw [if_neg hz, pn_addL]; exact hx, fun _ _ _ => rfl, fun j q1 q2 => pn_un q2, Or.inr ⟨by omega, rfl, by rw [u8, hend], by rw [pn_un (by decide)]; exact m22e, pn_us⟩⟩
    · have hb2 := h2 (p + i)
      rw [if_pos ((pn_Llt (by omega) (by omega)).mpr (by omega)), pc_next hR hT (by omega) u8, Option.bind_some, pm_bit hS hM hT (by omega) m22 m23, Option.bind_some]
      have hcont := ih n n' (i + 1) (upd U 8 (nI (p + i + 1))) (upd M 22 (nI (p + i + 1))) (by omega) (by omega) (by omega) (by omega) (by omega) (pM_M hM (fun j hj => pn_un (by omega))) (pTp_M hT (pn_un (by decide))) (by rw [pn_us]; rfl) (by rw [pn_un (by decide)]; exact u9) hcr (by rw [pn_us]; rfl) (by rw [pn_un (by decide)]; exact m23)
      have ecls : (fn_X5_placeInCode R (nI i) (nI w)).bind (fun y_41 => fn_X6_nextCode_l4 R TB TBA P n (upd U 8 (nI (p + i + 1))) (nI (pAc f (pTb f by_) p w i) ||| (nI (pTb f by_ (p + i)) <<< (y_41 &&& 31))) (nI i + 1)) = fn_X6_nextCode_l4 R TB TBA P n (upd U 8 (nI (p + i + 1))) (nI (pAc f (pTb f by_) p w (i + 1))) (nI (i + 1)) := by
        rw [fn_X5_placeInCode, hR.2.2.2.2.2.2.1, pn_addL]
        unfold pAc
        by_cases hf : f = 1
        · have e1 : w - i = (w - 1 - i) + 1 := by omega
          have e2 : w - (i + 1) = w - 1 - i := by omega
          have l1 := pVh_lt (p := p) h2 i
          have l2 := pw (w - 1 - i) (by omega)
          have l3 : pTb f by_ (p + i) * 2 ^ (w - 1 - i) < 2 ^ (w - i) := by rw [e1, Nat.pow_succ]; rcases (show pTb f by_ (p + i) = 0 ∨ pTb f by_ (p + i) = 1 by omega) with h3 | h3 <;> rw [h3] <;> have := Nat.two_pow_pos (w - 1 - i) <;> omega
          rw [if_pos hf, if_pos hf, if_pos hf, if_neg (by decide), Option.bind_some, pn_subL (by omega), pn_sub (by omega), pn_shl (by omega) (by rcases (show pTb f by_ (p + i) = 0 ∨ pTb f by_ (p + i) = 1 by omega) with h3 | h3 <;> rw [h3] <;> omega), pn_or]
          congr 2
          rw [Nat.or_comm, pOr l3, pVh, e2, e1, Nat.pow_succ]
          rw [Nat.add_mul]
          have : pVh (pTb f by_) p i * (2 ^ (w - 1 - i) * 2) = 2 * pVh (pTb f by_) p i * 2 ^ (w - 1 - i) := by
            rw [Nat.mul_comm (2 ^ (w - 1 - i)) 2, ← Nat.mul_assoc, Nat.mul_comm _ 2]
          omega
        · have l1 := pVl_lt (p := p) h2 i
          have l2 := pw i (by omega)
          rw [if_neg hf, if_neg hf, if_neg hf, if_pos (by rfl), Option.bind_some, pn_shl (by omega) (by rcases (show pTb f by_ (p + i) = 0 ∨ pTb f by_ (p + i) = 1 by omega) with h3 | h3 <;> rw [h3] <;> omega), pn_or, pOr l1]
          rfl
      have emod : (if upd M 22 (nI (p + i + 1)) 0 = 1 then fn_X8_number_l4 mt n' (upd M 22 (nI (p + i + 1))) (nI w) (2 * nI (pAm f (pTb f by_) p i) + nI (pTb f by_ (p + i))) (nI i + 1) else fn_X8_number_l4 mt n' (upd M 22 (nI (p + i + 1))) (nI w) (nI (pAm f (pTb f by_) p i) + (nI (pTb f by_ (p + i)) <<< (nI i &&& 31))) (nI i + 1)) = fn_X8_number_l4 mt n' (upd M 22 (nI (p + i + 1))) (nI w) (nI (pAm f (pTb f by_) p (i + 1))) (nI (i + 1)) := by
        rw [pn_un (show (0 : Nat) ≠ 22 by decide), hM.1, pn_addL]
        unfold pAm
        by_cases hf : f = 1
        · rw [if_pos (by rw [hf]; rfl), if_pos hf, if_pos hf, pn_Lmul, pn_add]
          rfl
        · have l2 := pw i (by omega)
          rw [if_neg (by rw [pn_eqL (by have := hS.1; omega) (by omega)]; exact hf), if_neg hf, if_neg hf, pn_shl (by omega) (by rcases (show pTb f by_ (p + i) = 0 ∨ pTb f by_ (p + i) = 1 by omega) with h3 | h3 <;> rw [h3] <;> omega), pn_add]
          rfl
      obtain ⟨U', M', v, x, a1, a2, a3, a4, a5⟩ := hcont
      refine ⟨U', M', v, x, ?_, ?_, fun j q1 q2 => by rw [a3 j q1 q2, pn_un q1], fun j q1 q2 => by rw [a4 j q1 q2, pn_un q1], a5⟩
      · exact ecls.trans a1
      · exact emod.trans a2
theorem ps_code {R TB TBA mt P U M : Nat → Int32} {f k m c nb p w cr : Nat} {by_ : Nat → Nat} (hS : pS f k m c) (hR : pR R f k m c) (hM : pM M f k m c) (hT : pTp nb by_ TB TBA M mt) (hP : P 2 = nI w) (hw : 1 ≤ w ∧ w ≤ 12) (hp : p ≤ 8 * nb) (u8 : U 8 = nI p) (u9 : U 9 = nI cr) (hcr : cr < 100000) (m22 : M 22 = nI p) (m23 : M 23 = 0) :
    ∃ U' M' v x, fn_X6_nextCode U R TB TBA P = some (v, U') ∧ fn_X8_number M mt (nI w) = some (x, M') ∧ (∀ j, j ≠ 8 → j ≠ 9 → U' j = U j) ∧ (∀ j, j ≠ 22 → j ≠ 23 → M' j = M j) ∧
        ((p + w ≤ 8 * nb ∧ (∃ a, a < 4096 ∧ v = nI a ∧ x = nI a) ∧ U' 8 = nI (p + w) ∧ M' 22 = nI (p + w) ∧ U' 9 = nI (cr + 1) ∧ M' 23 = 0) ∨ (8 * nb < p + w ∧ v = -1 ∧ U' 8 = nI (8 * nb) ∧ M' 22 = nI (8 * nb) ∧ M' 23 = 1)) := by
  have hnb := hT.2.2.1
  obtain ⟨U', M', v, x, a1, a2, a3, a4, a5⟩ := ps_code_l hS hR hP hw hp hnb w gx_fuel gx_fuel 0 U M (by omega) (by show _ < 5000; omega) (by show _ < 5000; omega) (by omega) (by omega) hM hT u8 u9 hcr m22 m23
  have z1 : pAc f (pTb f by_) p w 0 = 0 := by unfold pAc; split <;> simp [pVh, pVl]
  have z2 : pAm f (pTb f by_) p 0 = 0 := by unfold pAm; split <;> simp [pVh, pVl]
  rw [z1] at a1
  rw [z2] at a2
  refine ⟨U', M', v, x, a1, a2, a3, a4, ?_⟩
  rcases a5 with ⟨b1, b2, b3, b4⟩ | b
  · refine Or.inl ⟨b1, ⟨_, ?_, b2, b3⟩, b4⟩
    have pw : 2 ^ w ≤ 2 ^ 12 := Nat.pow_le_pow_right (by decide) hw.2
    unfold pAm
    split
    · exact Nat.lt_of_lt_of_le (pVh_lt (pTb_2 f by_) w) pw
    · exact Nat.lt_of_lt_of_le (pVl_lt (pTb_2 f by_) w) pw
  · exact Or.inr b
