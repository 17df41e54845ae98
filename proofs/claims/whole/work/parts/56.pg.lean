/-! PURE: the class's TABLE: lengths, growth, wiping -/
theorem pt_sym {R : Nat → Int32} {f k m c a : Nat} (hS : pS f k m c) (hR : pR R f k m c) (ha : a < 2147483648) : fn_X3_isSymbol R (nI a) = some (nI (if a < 2 ^ k then 1 else 0)) := by
  have hb := pS_b hS
  obtain ⟨r0, r1, r2, r3, r4, r5, r6, r7, r8, r9, r10, r11⟩ := hR
  rw [fn_X3_isSymbol, if_neg (pn_n0 ha), r7]
  by_cases h : a < 2 ^ k
  · rw [if_neg (by rw [pn_le (by omega) (by omega)]; omega), if_pos h]; rfl
  · rw [if_pos ((pn_le (by omega) (by omega)).mpr (by omega)), if_neg h]; rfl
theorem pt_symN {R : Nat → Int32} {x : Int32} (hx : x < 0) : fn_X3_isSymbol R x = some (nI 0) := by rw [fn_X3_isSymbol, if_pos hx]; rfl
theorem pt_slot {T R : Nat → Int32} {f k m c st a : Nat} (hS : pS f k m c) (hR : pR R f k m c) (ht : T 6 = nI st) (hst : st ≤ 300) (ha : a < 2147483648) : fn_X4_slotOf T R (nI a) = some (if pF f k ≤ a ∧ a < pF f k + st then nI (a - pF f k) else -1) := by
  have hf := pS_f hS
  obtain ⟨r0, r1, r2, r3, r4, r5, r6, r7, r8, r9, r10, r11⟩ := hR
  rw [fn_X4_slotOf, r9, ht, pn_add]
  by_cases h : a < pF f k
  · rw [if_pos ((pn_lt (by omega) (by omega)).mpr h), if_neg (by omega)]
  · rw [if_neg (by rw [pn_lt (by omega) (by omega)]; exact h)]
    by_cases h2 : pF f k + st ≤ a
    · rw [if_pos ((pn_le (by omega) (by omega)).mpr h2), if_neg (by omega)]
    · rw [if_neg (by rw [pn_le (by omega) (by omega)]; exact h2), if_pos (by omega), pn_sub (by omega)]
theorem pt_slotN {T R : Nat → Int32} {f k m c : Nat} {x : Int32} (hS : pS f k m c) (hR : pR R f k m c) (hx : x < 0) : fn_X4_slotOf T R x = some (-1) := by
  have hf := pS_f hS
  obtain ⟨r0, r1, r2, r3, r4, r5, r6, r7, r8, r9, r10, r11⟩ := hR
  rw [fn_X4_slotOf, r9, if_pos]
  exact Int32.lt_of_lt_of_le hx (nI_pos' (by omega))
theorem pt_len {T R th tt tl tn tc : Nat → Int32} {f k m c sz pl st code len : Nat} {D sa sl so : Nat → Nat} (hS : pS f k m c) (hR : pR R f k m c) (hT : pTab f k D st sa sl so T th tt tl tn tc) (hk : D pl < 2 ^ k) (hn : pNum f k sz pl D sa sl st code len) : fn_X4_lengthOf T R tl (nI code) = some (nI len) := by
  have hf := pS_f hS
  have hb := pS_b hS
  have h3 := hT.2.1
  rw [fn_X4_lengthOf]
  rcases hn with ⟨h1, h2⟩ | ⟨s, h1, h2, h4, h5⟩
  · rw [pt_sym hS hR (by omega), Option.bind_some, if_pos (show code < 2 ^ k by omega), if_neg (by decide), h2]; rfl
  · rw [pt_sym hS hR (by omega), Option.bind_some, if_neg (show ¬ code < 2 ^ k by omega), if_pos (by rfl), pt_slot hS hR hT.1 h3 (by omega), Option.bind_some, if_pos (show pF f k ≤ code ∧ code < pF f k + st by omega), if_neg (pn_m1 (by omega)), if_pos ((pn_in (by omega)).mpr (by omega)), pn_cl (by omega), show code - pF f k = s by omega, (hT.2.2.1 s h1).2.2.1, h5]
theorem pt_full {T R : Nat → Int32} {f k m c st : Nat} (hS : pS f k m c) (hR : pR R f k m c) (ht : T 6 = nI st) (hst : st ≤ 300) : fn_X4_isFull T R = some (nI (if pF f k + st < pL f m then 0 else 1)) := by
  have hf := pS_f hS
  obtain ⟨r0, r1, r2, r3, r4, r5, r6, r7, r8, r9, r10, r11⟩ := hR
  rw [fn_X4_isFull, r9, ht, r10, pn_add]
  by_cases h : pF f k + st < pL f m
  · rw [if_pos ((pn_lt (by omega) (by omega)).mpr h), if_pos h]; rfl
  · rw [if_neg (by rw [pn_lt (by omega) (by omega)]; exact h), if_neg h]; rfl
theorem pt_addF {T R th tt tl tn tc : Nat → Int32} {f k m c sz pl st code len : Nat} {x : Int32} {D sa sl so : Nat → Nat} (hS : pS f k m c) (hR : pR R f k m c) (hT : pTab f k D st sa sl so T th tt tl tn tc) (hk : D pl < 2 ^ k) (hn : pNum f k sz pl D sa sl st code len) (hfull : ¬ pF f k + st < pL f m) : fn_X4_addLonger T R th tt tl tn tc (nI code) x = some (T, th, tt, tl, tn, tc) := by
  rw [fn_X4_addLonger, pt_len hS hR hT hk hn, Option.bind_some, pt_full hS hR hT.1 hT.2.1, Option.bind_some, if_neg hfull, if_neg (by decide)]
theorem pt_add {T R th tt tl tn tc : Nat → Int32} {f k m c sz pl st code len : Nat} {x : Int32} {D sa sl so : Nat → Nat} (hS : pS f k m c) (hR : pR R f k m c) (hT : pTab f k D st sa sl so T th tt tl tn tc) (hk : D pl < 2 ^ k) (hn : pNum f k sz pl D sa sl st code len) (hlen : len ≤ 300) (hfull : pF f k + st < pL f m) (hst : st < 300) : fn_X4_addLonger T R th tt tl tn tc (nI code) x = some (upd T 6 (nI (st + 1)), upd th st (nI code), upd tt st x, upd tl st (nI (len + 1)), upd tn st (pV so code st), upd tc code (nI st)) := by
  have hf := pS_f hS
  have hb := pS_b hS
  have hc : code < 558 := by
    rcases hn with ⟨h1, h2⟩ | ⟨s, h1, h2, h4, h5⟩ <;> omega
  have hi : gx_in (T 6) 300 := by rw [hT.1]; exact (pn_in (by omega)).mpr hst
  have hi2 : gx_in (nI code) 558 := (pn_in (by omega)).mpr hc
  rw [fn_X4_addLonger, pt_len hS hR hT hk hn, Option.bind_some, pt_full hS hR hT.1 hT.2.1, Option.bind_some, if_pos hfull, if_pos (by rfl), pn_ofN, if_neg (by rw [hT.1, pn_le (by omega) (by omega)]; omega), if_neg (pn_m1 (by omega)), if_neg (pn_n0 (by omega)), pn_ofN, if_pos ((pn_lt (by omega) (by omega)).mpr hc), if_pos hi, if_pos hi, if_pos hi, if_pos hi2, if_pos hi, if_pos hi2, hT.1, pn_cl (by omega), pn_cl (by omega), pn_addL, pn_addL, hT.2.2.2 code hc]
/-- the dictionary with one string more: what stands at pl and one symbol -/
theorem pD_add {f k m c sz pl st code len : Nat} {D sa sl so : Nat → Nat} (hS : pS f k m c) (hk : ∀ j, j < sz → D j < 2 ^ k) (hD : pD f k sz D st sa sl so) (hB : pBest f k sz pl D sa sl st code len) (hlen : 1 ≤ len) (hpl : pl + len < sz) : pD f k sz D (st + 1) (pUp sa st pl) (pUp sl st (len + 1)) (pUp so st code) := by
  have hf := pS_f hS
  constructor
  · intro s hs
    by_cases hss : s = st
    · subst hss
      refine ⟨by simp [pUp]; omega, by simp [pUp]; omega, ?_⟩
      rcases hB.1 with ⟨h1, h2⟩ | ⟨s', h1, h2, h4, h5⟩
      · left
        have := hk pl (by omega)
        refine ⟨by simp [pUp]; omega, by simp [pUp]; omega, by simp [pUp]; exact h1⟩
      · right
        have hne : s' ≠ s := by omega
        refine ⟨s', h1, by simp [pUp]; exact h2, by simp [pUp, hne]; omega, fun i hi => ?_⟩
        simp only [pUp, hne, if_false] at hi ⊢
        simp only [if_true]
        exact h4.2 i hi
    · obtain ⟨a1, a2, a3⟩ := hD.1 s (by omega)
      refine ⟨by simp [pUp, hss]; exact a1, by simp [pUp, hss]; exact a2, ?_⟩
      rcases a3 with a3 | ⟨s', b1, b2, b3, b4⟩
      · left; simp [pUp, hss]; exact a3
      · right
        have hne : s' ≠ st := by omega
        refine ⟨s', b1, by simp [pUp, hss]; exact b2, by simp [pUp, hss, hne]; exact b3, fun i hi => ?_⟩
        simp only [pUp, hne, hss, if_false] at hi ⊢
        exact b4 i hi
  · -- no string twice
    have key : ∀ s, s < st → sl s = len + 1 → (∀ i, i < sl s → D (sa s + i) = D (pl + i)) → False := by
      intro s hs h1 h2
      have := hB.2 s hs ⟨by omega, h2⟩
      omega
    intro s s' hs hs' hl he
    by_cases h1 : s = st <;> by_cases h2 : s' = st
    · omega
    · exfalso
      subst h1
      simp only [pUp, h2, if_false, if_true] at hl he
      exact key s' (by omega) hl.symm (fun i hi => (he i (by omega)).symm)
    · exfalso
      subst h2
      simp only [pUp, h1, if_false, if_true] at hl he
      exact key s (by omega) hl he
    · simp only [pUp, h1, h2, if_false] at hl he
      exact hD.2 s s' (by omega) (by omega) hl he
theorem pTab_add {T th tt tl tn tc : Nat → Int32} {f k st code len pl : Nat} {D sa sl so : Nat → Nat} (hT : pTab f k D st sa sl so T th tt tl tn tc) (hst : st < 300) : pTab f k D (st + 1) (pUp sa st pl) (pUp sl st (len + 1)) (pUp so st code) (upd T 6 (nI (st + 1))) (upd th st (nI code)) (upd tt st (nI (D (pl + len)))) (upd tl st (nI (len + 1))) (upd tn st (pV so code st)) (upd tc code (nI st)) := by
  obtain ⟨t6, t3, ts, tch⟩ := hT
  have hcong : ∀ N b, b ≤ st → pV (pUp so st code) N b = pV so N b := fun N b hb => pV_congr b (fun j hj => by simp [pUp, show j ≠ st by omega])
  refine ⟨by simp [upd], by omega, fun s hs => ?_, fun N hN => ?_⟩
  · by_cases hss : s = st
    · subst hss
      refine ⟨by simp [upd, pUp], by simp [upd, pUp], by simp [upd, pUp], ?_⟩
      rw [hcong _ s (Nat.le_refl _)]
      simp [upd, pUp]
    · obtain ⟨a1, a2, a3, a4⟩ := ts s (by omega)
      refine ⟨by simpa [upd, pUp, hss] using a1, by simpa [upd, pUp, hss] using a2, by simpa [upd, pUp, hss] using a3, ?_⟩
      rw [hcong _ s (by omega)]
      simpa [upd, pUp, hss] using a4
  · rw [pV, hcong N st (Nat.le_refl _)]
    by_cases hc : N = code
    · subst hc; simp [upd, pUp]
    · have hc' : ¬ code = N := fun q => hc q.symm
      simp [upd, pUp, hc, hc']; exact tch N hN
theorem pMd_add {M M' sA sL sO : Nat → Int32} {st code len pl : Nat} {sa sl so : Nat → Nat} (h : pMd st sa sl so M sA sL sO) (h20 : M' 20 = nI (st + 1)) : pMd (st + 1) (pUp sa st pl) (pUp sl st (len + 1)) (pUp so st code) M' (upd sA st (nI pl)) (upd sL st (nI (len + 1))) (upd sO st (nI code)) := by
  refine ⟨h20, fun s hs => ?_⟩
  by_cases hss : s = st
  · subst hss; simp [upd, pUp]
  · simpa [upd, pUp, hss] using h.2 s (by omega)
/-- what a wipe needs to know of the TABLE that it finds -/
def pGb (T th tc : Nat → Int32) : Prop := ∃ st, T 6 = nI st ∧ st ≤ 300 ∧ ∀ N, N < 558 → tc N = -1 ∨ ∃ s, s < st ∧ th s = nI N
theorem pV_some {so : Nat → Nat} {N : Nat} : ∀ (b : Nat), pV so N b = -1 ∨ ∃ s, s < b ∧ so s = N
  | 0 => Or.inl rfl
  | b + 1 => by
    rw [pV]
    by_cases h : so b = N
    · exact Or.inr ⟨b, by omega, h⟩
    · rw [if_neg h]
      rcases pV_some b with h1 | ⟨s, h1, h2⟩
      · exact Or.inl h1
      · exact Or.inr ⟨s, by omega, h2⟩
theorem pTab_gb {T th tt tl tn tc : Nat → Int32} {f k st : Nat} {D sa sl so : Nat → Nat} (hT : pTab f k D st sa sl so T th tt tl tn tc) : pGb T th tc := by
  refine ⟨st, hT.1, hT.2.1, fun N hN => ?_⟩
  rw [hT.2.2.2 N hN]
  rcases pV_some (so := so) (N := N) st with h | ⟨s, h1, h2⟩
  · exact Or.inl h
  · exact Or.inr ⟨s, h1, by rw [(hT.2.2.1 s h1).1, h2]⟩
theorem pt_wipe_l {T th : Nat → Int32} {st : Nat} (ht : T 6 = nI st) (hst : st ≤ 300) : ∀ (d n i : Nat) (tc : Nat → Int32), st - i = d → d < n → i ≤ st → (∀ N, N < 558 → tc N = -1 ∨ ∃ s, i ≤ s ∧ s < st ∧ th s = nI N) → ∃ tc', fn_X4_wipe_l2 th n T tc (nI i) = some (upd T 6 0, tc') ∧ ∀ N, N < 558 → tc' N = -1 := by
  intro d
  induction d with
  | zero =>
    intro n i tc hd hn hi h
    obtain ⟨n, rfl⟩ : ∃ q, n = q + 1 := ⟨n - 1, by omega⟩
    rw [fn_X4_wipe_l2, ht, if_pos ((pn_le (by omega) (by omega)).mpr (by omega))]
    refine ⟨tc, rfl, fun N hN => ?_⟩
    rcases h N hN with h | ⟨s, h1, h2, -⟩
    · exact h
    · omega
  | succ d ih =>
    intro n i tc hd hn hi h
    obtain ⟨n, rfl⟩ : ∃ q, n = q + 1 := ⟨n - 1, by omega⟩
    have hcl : (nI i).toNatClampNeg = i := pn_cl (by omega)
    rw [fn_X4_wipe_l2, ht, if_neg (by rw [pn_le (by omega) (by omega)]; omega), pn_ofN, if_neg (by rw [pn_le (by omega) (by omega)]; omega), if_pos ((pn_in (by omega)).mpr (by omega)), hcl, pn_addL]
    rcases pn_case (th i) with hneg | ⟨a, ha, hta⟩
    · rw [if_pos hneg]
      refine ih n (i + 1) tc (by omega) (by omega) (by omega) (fun N hN => ?_)
      rcases h N hN with h | ⟨s, h1, h2, h3⟩
      · exact Or.inl h
      · by_cases hsi : s = i
        · subst hsi; rw [h3] at hneg; exact absurd hneg (pn_n0 (by omega))
        · exact Or.inr ⟨s, by omega, h2, h3⟩
    · rw [if_neg (by rw [hta]; exact pn_n0 ha), pn_ofN]
      by_cases h558 : 558 ≤ a
      · rw [if_pos (by rw [hta, pn_le (by omega) (by omega)]; exact h558)]
        refine ih n (i + 1) tc (by omega) (by omega) (by omega) (fun N hN => ?_)
        rcases h N hN with h | ⟨s, h1, h2, h3⟩
        · exact Or.inl h
        · by_cases hsi : s = i
          · subst hsi; rw [h3, pn_eq (by omega) (by omega)] at hta; omega
          · exact Or.inr ⟨s, by omega, h2, h3⟩
      · rw [if_neg (by rw [hta, pn_le (by omega) (by omega)]; exact h558), if_pos (by rw [hta]; exact (pn_in ha).mpr (by omega)), hta, pn_cl ha]
        refine ih n (i + 1) _ (by omega) (by omega) (by omega) (fun N hN => ?_)
        by_cases hNa : N = a
        · subst hNa; exact Or.inl pn_us
        · rcases h N hN with h | ⟨s, h1, h2, h3⟩
          · exact Or.inl (by rw [pn_un hNa]; exact h)
          · by_cases hsi : s = i
            · subst hsi; rw [h3, pn_eq (by omega) (by omega)] at hta; omega
            · exact Or.inr ⟨s, by omega, h2, h3⟩
theorem pt_wipe {T th tc : Nat → Int32} (h : pGb T th tc) : ∃ tc', fn_X4_wipe T th tc = some (upd T 6 0, tc') ∧ ∀ N, N < 558 → tc' N = -1 := by
  obtain ⟨st, h1, h2, h3⟩ := h
  rw [fn_X4_wipe]
  exact pt_wipe_l h1 h2 st gx_fuel 0 tc (by omega) (by show _ < 5000; omega) (by omega) (fun N hN => by
    rcases h3 N hN with h | ⟨s, a, b⟩
    · exact Or.inl h
    · exact Or.inr ⟨s, by omega, a, b⟩)
theorem pTab_0 {T th tt tl tn tc : Nat → Int32} {f k : Nat} {D sa sl so : Nat → Nat} (h : T 6 = nI 0) (hc : ∀ N, N < 558 → tc N = -1) : pTab f k D 0 sa sl so T th tt tl tn tc := ⟨h, by omega, fun s hs => by omega, fun N hN => by rw [hc N hN]; rfl⟩
theorem pD_0 {f k sz : Nat} {D sa sl so : Nat → Nat} : pD f k sz D 0 sa sl so := ⟨fun s hs => by omega, fun s s' hs => by omega⟩
theorem pMd_0 {M sA sL sO : Nat → Int32} {sa sl so : Nat → Nat} (h : M 20 = nI 0) : pMd 0 sa sl so M sA sL sO := ⟨h, fun s hs => by omega⟩
