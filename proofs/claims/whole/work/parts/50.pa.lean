/-! PURE: numbers. nI n for a natural number n below 2^31; literals. -/
theorem pn_lit (n : Nat) : (OfNat.ofNat n : Int32) = nI (OfNat.ofNat n : Nat) := rfl
theorem pn_ofN (n : Nat) : Int32.ofNat n = nI n := rfl
theorem pn_eq {a b : Nat} (ha : a < 2147483648) (hb : b < 2147483648) : nI a = nI b ↔ a = b := nI_eq ha hb
theorem pn_le {a b : Nat} (ha : a < 2147483648) (hb : b < 2147483648) : nI a ≤ nI b ↔ a ≤ b := nI_leI ha hb
theorem pn_lt {a b : Nat} (ha : a < 2147483648) (hb : b < 2147483648) : nI a < nI b ↔ a < b := nI_ltI ha hb
theorem pn_eqL {a n : Nat} (ha : a < 2147483648) (hn : (OfNat.ofNat n : Nat) < 2147483648) : nI a = (OfNat.ofNat n : Int32) ↔ a = (OfNat.ofNat n : Nat) := nI_eq ha hn
theorem pn_leL {a n : Nat} (ha : a < 2147483648) (hn : (OfNat.ofNat n : Nat) < 2147483648) : nI a ≤ (OfNat.ofNat n : Int32) ↔ a ≤ (OfNat.ofNat n : Nat) := nI_leI ha hn
theorem pn_Lle {a n : Nat} (ha : a < 2147483648) (hn : (OfNat.ofNat n : Nat) < 2147483648) : (OfNat.ofNat n : Int32) ≤ nI a ↔ (OfNat.ofNat n : Nat) ≤ a := nI_leI hn ha
theorem pn_ltL {a n : Nat} (ha : a < 2147483648) (hn : (OfNat.ofNat n : Nat) < 2147483648) : nI a < (OfNat.ofNat n : Int32) ↔ a < (OfNat.ofNat n : Nat) := nI_ltI ha hn
theorem pn_Llt {a n : Nat} (ha : a < 2147483648) (hn : (OfNat.ofNat n : Nat) < 2147483648) : (OfNat.ofNat n : Int32) < nI a ↔ (OfNat.ofNat n : Nat) < a := nI_ltI hn ha
theorem pn_addL (a n : Nat) : nI a + (OfNat.ofNat n : Int32) = nI (a + (OfNat.ofNat n : Nat)) := nI_add a n
theorem pn_Ladd (a n : Nat) : (OfNat.ofNat n : Int32) + nI a = nI ((OfNat.ofNat n : Nat) + a) := nI_add n a
theorem pn_add (a n : Nat) : nI a + nI n = nI (a + n) := nI_add a n
theorem pn_sub {a b : Nat} (h : b ≤ a) : nI a - nI b = nI (a - b) := pk_sub h
theorem pn_subL {a n : Nat} (h : (OfNat.ofNat n : Nat) ≤ a) : nI a - (OfNat.ofNat n : Int32) = nI (a - (OfNat.ofNat n : Nat)) := pk_sub h
theorem pn_Lsub {a n : Nat} (h : a ≤ (OfNat.ofNat n : Nat)) : (OfNat.ofNat n : Int32) - nI a = nI ((OfNat.ofNat n : Nat) - a) := pk_sub h
theorem pn_mul (a b : Nat) : nI a * nI b = nI (a * b) := pk_mul a b
theorem pn_mulL (a n : Nat) : nI a * (OfNat.ofNat n : Int32) = nI (a * (OfNat.ofNat n : Nat)) := pk_mul a n
theorem pn_Lmul (a n : Nat) : (OfNat.ofNat n : Int32) * nI a = nI ((OfNat.ofNat n : Nat) * a) := pk_mul n a
theorem pn_divL {a n : Nat} (ha : a < 2147483648) (h0 : 0 < (OfNat.ofNat n : Nat)) (hn : (OfNat.ofNat n : Nat) < 2147483648) : nI a / (OfNat.ofNat n : Int32) = nI (a / (OfNat.ofNat n : Nat)) := pk_div ha h0 hn
theorem pn_rem8 {a : Nat} (ha : a < 2147483648) : nI a - nI a / 8 * 8 = nI (a % 8) := pk_rem ha (by decide) (by decide)
theorem pn_in {a n : Nat} (ha : a < 2147483648) : gx_in (nI a) n ↔ a < n := by
  unfold gx_in
  rw [nI_clamp ha]
  constructor
  · intro h; exact Nat.lt_of_not_le (fun h2 => h (Or.inr h2))
  · rintro h (h2 | h2)
    · exact nI_pos ha h2
    · omega
theorem pn_cl {a : Nat} (ha : a < 2147483648) : (nI a).toNatClampNeg = a := nI_clamp ha
theorem pn_n0 {a : Nat} (ha : a < 2147483648) : ¬ nI a < 0 := nI_pos ha
theorem pn_m1 {a : Nat} (ha : a < 2147483648) : ¬ nI a = -1 := by
  intro h
  have := nI_pos ha
  rw [h] at this
  exact this (by decide)
theorem pn_m1' {a : Nat} (ha : a < 2147483648) : ¬ (-1 : Int32) = nI a := fun h => pn_m1 ha h.symm
theorem pn_sl : ∀ n, n < 32 → ((nI n &&& 31).toBitVec.smod 32).toNat = n := by decide +kernel
theorem pn_sh1 : ∀ k, k < 31 → (1 : Int32) <<< (nI k &&& 31) = nI (2 ^ k) := by decide +kernel
theorem pn_shl {a k : Nat} (hk : k < 32) (h : a * 2 ^ k < 4294967296) : nI a <<< (nI k &&& 31) = nI (a * 2 ^ k) := pk_shlN _ k (pn_sl k hk) h
theorem pn_shr {a k : Nat} (ha : a < 2147483648) (hk : k < 32) : nI a >>> (nI k &&& 31) = nI (a / 2 ^ k) := pk_shrN ha _ k (pn_sl k hk)
theorem pn_shr3 {a : Nat} (ha : a < 2147483648) : nI a >>> ((3 : Int32) &&& 31) = nI (a / 8) := pk_shrN ha _ 3 (by decide)
theorem pn_and1 {a : Nat} (ha : a < 2147483648) : nI a &&& 1 = nI (a % 2) := pk_andN (by omega) 1 (by decide)
theorem pn_and7 {a : Nat} (ha : a < 2147483648) : nI a &&& 7 = nI (a % 8) := pk_andN (by omega) 3 (by decide)
theorem pn_and15 (x : Int32) : ∃ j : Nat, j < 16 ∧ x &&& 15 = nI j := pk_andE x 4 (by decide)
theorem pn_or (a b : Nat) : nI a ||| nI b = nI (a ||| b) := by
  apply Int32.toBitVec_inj.1
  show BitVec.ofNat 32 a ||| BitVec.ofNat 32 b = BitVec.ofNat 32 (a ||| b)
  apply BitVec.eq_of_getLsbD_eq
  intro i hi
  simp [hi]
theorem pn_xor (a b : Nat) : nI a ^^^ nI b = nI (a ^^^ b) := by
  apply Int32.toBitVec_inj.1
  show BitVec.ofNat 32 a ^^^ BitVec.ofNat 32 b = BitVec.ofNat 32 (a ^^^ b)
  apply BitVec.eq_of_getLsbD_eq
  intro i hi
  simp [hi]
theorem pn_us {f : Nat → Int32} {k : Nat} {x : Int32} : upd f k x k = x := pk_us
theorem pn_un {f : Nat → Int32} {k j : Nat} {x : Int32} (h : j ≠ k) : upd f k x j = f j := pk_un h
theorem pn_up (f : Nat → Int32) (k j : Nat) (x : Int32) : upd f k x j = if j = k then x else f j := rfl
/-- a number out of the script is below 0, or a natural number -/
theorem pn_case (x : Int32) : x < 0 ∨ ∃ a : Nat, a < 2147483648 ∧ x = nI a := by
  by_cases h : x < 0
  · exact Or.inl h
  · exact Or.inr (nI_of h)
-- ===== Row
theorem pr_size {V : Nat → Int32} {sz : Nat} (h : V 1 = nI sz) : fn_X2_size V = some (nI sz) := by rw [fn_X2_size, h]
theorem pr_add {V A : Nat → Int32} {n sz : Nat} {v : Int32} (h : V 1 = nI sz) (hs : sz < 2000) (hn : n < 2000) (hl : sz < n) : fn_X2_add V A n v = some (1, upd V 1 (nI (sz + 1)), upd A sz v) := by
  rw [fn_X2_add, h, pn_ofN, if_pos ((pn_lt (by omega) (by omega)).mpr hl), if_pos ((pn_in (by omega)).mpr hl), pn_cl (by omega), pn_addL]
theorem pr_addF {V A : Nat → Int32} {n sz : Nat} {v : Int32} (h : V 1 = nI sz) (hs : sz < 2000) (hn : n < 2000) (hl : n ≤ sz) : fn_X2_add V A n v = some (0, V, A) := by
  rw [fn_X2_add, h, pn_ofN, if_neg (by rw [pn_lt (by omega) (by omega)]; omega)]
theorem pr_get {V A : Nat → Int32} {n sz i : Nat} (h : V 1 = nI sz) (hs : sz ≤ n) (hn : n < 2000) (hi : i < sz) : fn_X2_get V A n (nI i) = some (A i) := by
  rw [fn_X2_get, h, if_neg (pn_n0 (by omega)), if_neg (by rw [pn_le (by omega) (by omega)]; omega), if_pos ((pn_in (by omega)).mpr (by omega)), pn_cl (by omega)]
theorem pr_getF {V A : Nat → Int32} {n sz i : Nat} (h : V 1 = nI sz) (hi : i < 2147483648) (hs : sz < 2000) (hl : sz ≤ i) : fn_X2_get V A n (nI i) = some (-1) := by
  rw [fn_X2_get, h, if_neg (pn_n0 (by omega)), if_pos ((pn_le (by omega) (by omega)).mpr hl)]
theorem pr_getN {V A : Nat → Int32} {n : Nat} {x : Int32} (hx : x < 0) : fn_X2_get V A n x = some (-1) := by
  rw [fn_X2_get, if_pos hx]
theorem pr_set {V A : Nat → Int32} {n sz i : Nat} {v : Int32} (h : V 1 = nI sz) (hs : sz ≤ n) (hn : n < 2000) (hi : i < sz) : fn_X2_set V A n (nI i) v = some (upd A i v) := by
  rw [fn_X2_set, h, if_neg (pn_n0 (by omega)), if_neg (by rw [pn_le (by omega) (by omega)]; omega), if_pos ((pn_in (by omega)).mpr (by omega)), pn_cl (by omega)]
theorem pr_shr {V : Nat → Int32} {sz i : Nat} (h : V 1 = nI sz) (hs : sz < 2000) (hi : i < sz) : fn_X2_shrinkTo V (nI i) = some (upd V 1 (nI i)) := by
  rw [fn_X2_shrinkTo, h, if_neg (pn_n0 (by omega)), if_neg (by rw [pn_le (by omega) (by omega)]; omega)]
theorem pr_shrF {V : Nat → Int32} {sz i : Nat} (h : V 1 = nI sz) (hs : sz < 2000) (hi : i < 2147483648) (hl : sz ≤ i) : fn_X2_shrinkTo V (nI i) = some V := by
  rw [fn_X2_shrinkTo, h, if_neg (pn_n0 (by omega)), if_pos ((pn_le (by omega) (by omega)).mpr hl)]
/-- shrinkTo(0): the size is 0 -/
theorem pr_shr0 {V : Nat → Int32} {sz : Nat} (h : V 1 = nI sz) (hs : sz < 2000) : ∃ V', fn_X2_shrinkTo V 0 = some V' ∧ V' 1 = nI 0 := by
  by_cases h0 : 0 < sz
  · exact ⟨_, pr_shr (i := 0) h hs h0, pn_us⟩
  · refine ⟨_, pr_shrF (i := 0) h hs (by omega) (by omega), ?_⟩
    rw [h, show sz = 0 by omega]
