/-! PURE: the reference's search; the class's TABLE grows, is wiped -/
theorem pm_stands_l {M row sA sL : Nat → Int32} {sz pl s : Nat} {D sa sl : Nat → Nat} (hsz : sz ≤ 300) (hrow : ∀ j, j < sz → row j = nI (D j) ∧ D j < 100000) (hs : s < 300) (hA : sA s = nI (sa s)) (hL : sL s = nI (sl s)) (ha : sa s + sl s ≤ sz) (hp : pl + sl s ≤ sz) :
    ∀ (d n i : Nat), sl s - i = d → d < n → i ≤ sl s → (∀ j, j < i → D (sa s + j) = D (pl + j)) → ∃ b : Bool, fn_X8_standsAt_l24 M row sA sL n (nI s) (nI pl) 1 (nI i) = some (if b then 1 else 0) ∧ (b = true ↔ ∀ j, j < sl s → D (sa s + j) = D (pl + j)) := by
  have hi : gx_in (nI s) 300 := (pn_in (by omega)).mpr hs
  have hcl : (nI s).toNatClampNeg = s := pn_cl (by omega)
  have zero : ∀ n i, 0 < n → fn_X8_standsAt_l24 M row sA sL n (nI s) (nI pl) 0 i = some 0 := by
    intro n i hn
    obtain ⟨n, rfl⟩ : ∃ q, n = q + 1 := ⟨n - 1, by omega⟩
    rw [fn_X8_standsAt_l24, if_pos hi]
    by_cases h : sL (nI s).toNatClampNeg ≤ i
    · rw [if_pos h, if_pos (Or.inl rfl)]
    · rw [if_neg h, if_pos rfl, if_pos (Or.inl rfl)]
  intro d
  induction d with
  | zero =>
    intro n i hd hn hil heq
    obtain ⟨n, rfl⟩ : ∃ q, n = q + 1 := ⟨n - 1, by omega⟩
    rw [fn_X8_standsAt_l24, if_pos hi, if_pos (by rw [hcl, hL, pn_le (by omega) (by omega)]; omega), if_pos (Or.inr rfl)]
    refine ⟨true, rfl, fun _ j hj => heq j (by omega), fun _ => rfl⟩
  | succ d ih =>
    intro n i hd hn hil heq
    obtain ⟨n, rfl⟩ : ∃ q, n = q + 1 := ⟨n - 1, by omega⟩
    have e1 : nI (sa s) + nI i = nI (sa s + i) := pn_add _ _
    have e2 : nI pl + nI i = nI (pl + i) := pn_add _ _
    have c1 : (nI (sa s + i)).toNatClampNeg = sa s + i := pn_cl (by omega)
    have c2 : (nI (pl + i)).toNatClampNeg = pl + i := pn_cl (by omega)
    have r1 := hrow (sa s + i) (by omega)
    have r2 := hrow (pl + i) (by omega)
    rw [fn_X8_standsAt_l24, if_pos hi, if_neg (by rw [hcl, hL, pn_le (by omega) (by omega)]; omega), if_neg (by decide), if_pos hi, if_pos (by rw [hcl, hA, e1]; exact (pn_in (by omega)).mpr (by omega)), if_pos (by rw [e2]; exact (pn_in (by omega)).mpr (by omega))]
    by_cases he : D (sa s + i) = D (pl + i)
    · rw [if_pos (by rw [hcl, hA, e1, e2, c1, c2, r1.1, r2.1, he]), pn_addL]
      exact ih n (i + 1) (by omega) (by omega) (by omega) (fun j hj => by
        by_cases hji : j = i
        · rw [hji]; exact he
        · exact heq j (by omega))
    · rw [if_neg (by rw [hcl, hA, e1, e2, c1, c2, r1.1, r2.1, pn_eq (by omega) (by omega)]; exact he)]
      refine ⟨false, zero n _ (by omega), fun q => (by cases q), fun q => absurd (q i (by omega)) he⟩
theorem pm_stands {M row sA sL : Nat → Int32} {sz pl s : Nat} {D sa sl : Nat → Nat} (hsz : sz ≤ 300) (h5 : M 5 = nI sz) (hrow : ∀ j, j < sz → row j = nI (D j) ∧ D j < 100000) (hs : s < 300) (hA : sA s = nI (sa s)) (hL : sL s = nI (sl s)) (h2 : 2 ≤ sl s) (ha : sa s + sl s ≤ sz) (hpl : pl ≤ 300) :
    ∃ b : Bool, fn_X8_standsAt M row sA sL (nI s) (nI pl) = some (if b then 1 else 0) ∧ (b = true ↔ pSt sz pl D sa sl s) := by
  have hi : gx_in (nI s) 300 := (pn_in (by omega)).mpr hs
  have hcl : (nI s).toNatClampNeg = s := pn_cl (by omega)
  rw [fn_X8_standsAt, if_pos hi, hcl, hL, h5, pn_add]
  by_cases hp : pl + sl s ≤ sz
  · rw [if_neg (by rw [pn_lt (by omega) (by omega)]; omega)]
    obtain ⟨b, hb, hb2⟩ := pm_stands_l (M := M) hsz hrow hs hA hL ha hp (sl s) gx_fuel 0 (by omega) (by show _ < 5000; omega) (by omega) (fun j hj => by omega)
    exact ⟨b, hb, hb2.trans ⟨fun q => ⟨hp, q⟩, fun q => q.2⟩⟩
  · rw [if_pos ((pn_lt (by omega) (by omega)).mpr (by omega))]
    refine ⟨false, ?_, fun q => (by cases q), fun q => absurd q.1 hp⟩
    rw [show gx_fuel = 4999 + 1 from rfl, fn_X8_standsAt_l24, if_pos hi, if_neg (by rw [hcl, hL, pn_leL (by omega) (by omega)]; omega), if_pos rfl, if_pos (Or.inl rfl)]
    rfl
def pEn (o : Option Nat) : Int32 := match o with
  | none => -1
  | some b => nI b
def pB (sz pl : Nat) (D sa sl : Nat → Nat) (j : Nat) (o : Option Nat) : Prop := match o with
  | none => ∀ s, s < j → ¬ pSt sz pl D sa sl s
  | some b => b < j ∧ pSt sz pl D sa sl b ∧ ∀ s, s < j → pSt sz pl D sa sl s → sl s ≤ sl b
def pCo (f k pl : Nat) (D : Nat → Nat) (o : Option Nat) : Nat := match o with
  | none => D pl
  | some b => pF f k + b
theorem pm_best_l {M mc mw mb row sA sL sO : Nat → Int32} {f k m c sz pl st : Nat} {D sa sl so : Nat → Nat} {K : (Nat → Int32) → (Nat → Int32) → (Nat → Int32) → (Nat → Int32) → (Nat → Int32) → (Nat → Int32) → (Nat → Int32) → Int32 → Option ((Nat → Int32) × (Nat → Int32) × (Nat → Int32) × (Nat → Int32) × (Nat → Int32) × (Nat → Int32) × (Nat → Int32))} (hS : pS f k m c) (hM : pM M f k m c) (hsz : sz ≤ 300) (h5 : M 5 = nI sz) (hrow : ∀ j, j < sz → row j = nI (D j) ∧ D j < 100000) (hst : st ≤ 300) (hD : pD f k sz D st sa sl so) (hMd : pMd st sa sl so M sA sL sO) (hpl : pl < sz) :
    ∀ (d n j : Nat) (o : Option Nat), st - j = d → d < n → j ≤ st → pB sz pl D sa sl j o → ∃ o', pB sz pl D sa sl st o' ∧ fn_X8_pack_l69 row K n M mc mw mb sA sL sO (nI pl) (pEn o) (nI j) = fn_X8_pack_j138 row K M mc mw mb sA sL sO (nI pl) (pEn o') (nI (pCo f k pl D o')) := by
  intro d
  induction d with
  | zero =>
    intro n j o hd hn hj hB
    obtain ⟨n, rfl⟩ : ∃ q, n = q + 1 := ⟨n - 1, by omega⟩
    have hjs : j = st := by omega
    subst hjs
    refine ⟨o, hB, ?_⟩
    rw [fn_X8_pack_l69, hMd.1, if_pos (Int32.le_refl _)]
    cases o with
    | none =>
      rw [if_pos (by rfl), if_pos ((pn_in (by omega)).mpr (by omega)), pn_cl (by omega), (hrow pl hpl).1]
      rfl
    | some b =>
      have hb : b < j := hB.1
      rw [if_neg (by exact pn_m1 (by omega)), pm_first hS hM, Option.bind_some]
      show fn_X8_pack_j138 row K M mc mw mb sA sL sO (nI pl) (nI b) (nI (pF f k) + nI b) = _
      rw [pn_add]
      rfl
  | succ d ih =>
    intro n j o hd hn hj hB
    obtain ⟨n, rfl⟩ : ∃ q, n = q + 1 := ⟨n - 1, by omega⟩
    obtain ⟨a1, a2, -⟩ := hD.1 j (by omega)
    obtain ⟨s1, s2, s3⟩ := hMd.2 j (by omega)
    obtain ⟨b, hb1, hb2⟩ := pm_stands (M := M) (pl := pl) hsz h5 hrow (by omega) s1 s2 a1 a2 (by omega)
    have hi : gx_in (nI j) 300 := (pn_in (by omega)).mpr (by omega)
    -- the string j is looked at
    have look : (∀ q, q = o → (match q with | none => True | some b => sl b < sl j)) → ∃ o', pB sz pl D sa sl st o' ∧ fn_X8_pack_j97 row K (fn_X8_pack_l69 row K n) M mc mw mb sA sL sO (nI pl) (pEn o) (nI j) = fn_X8_pack_j138 row K M mc mw mb sA sL sO (nI pl) (pEn o') (nI (pCo f k pl D o')) := by
      intro hq
      have hq := hq o rfl
      rw [fn_X8_pack_j97, hb1, Option.bind_some, pn_addL]
      cases b with
      | false =>
        have hno : ¬ pSt sz pl D sa sl j := fun q => by have := hb2.mpr q; cases this
        rw [if_pos (by decide)]
        refine ih n (j + 1) o (by omega) (by omega) (by omega) ?_
        cases o with
        | none => intro s hs; by_cases hsj : s = j; rw [hsj]; exact hno; exact hB s (by omega)
        | some b => exact ⟨by have := hB.1; omega, hB.2.1, fun s hs hp => by by_cases hsj : s = j; rw [hsj] at hp; exact absurd hp hno; exact hB.2.2 s (by omega) hp⟩
      | true =>
        have hyes : pSt sz pl D sa sl j := hb2.mp rfl
        rw [if_pos rfl, if_neg (by decide)]
        refine ih n (j + 1) (some j) (by omega) (by omega) (by omega) ⟨by omega, hyes, fun s hs hp => ?_⟩
        by_cases hsj : s = j
        · rw [hsj]; exact Nat.le_refl _
        · cases o with
          | none => exact absurd hp (hB s (by omega))
          | some b =>
            have := hB.2.2 s (by omega) hp
            have h9 : sl b < sl j := hq
            omega
    rw [fn_X8_pack_l69, hMd.1, if_neg (by rw [pn_le (by omega) (by omega)]; omega)]
    cases o with
    | none =>
      rw [if_pos (by rfl)]
      exact look (fun q hq => by subst hq; trivial)
    | some b0 =>
      have hb0 : b0 < j := hB.1
      have hi0 : gx_in (nI b0) 300 := (pn_in (by omega)).mpr (by omega)
      obtain ⟨t1, t2, t3⟩ := hMd.2 b0 (by omega)
      have t4 := (hD.1 b0 (by omega)).2.1
      have hcj : (nI j).toNatClampNeg = j := pn_cl (by omega)
      have hcb : (nI b0).toNatClampNeg = b0 := pn_cl (by omega)
      rw [if_neg (by exact pn_m1 (by omega)), if_pos hi, if_pos (by exact hi0)]
      by_cases hle : sl j ≤ sl b0
      · rw [if_pos (by show sL (nI j).toNatClampNeg ≤ sL (nI b0).toNatClampNeg; rw [hcj, hcb, s2, t2, pn_le (by omega) (by omega)]; exact hle), pn_addL]
        refine ih n (j + 1) (some b0) (by omega) (by omega) (by omega) ⟨by omega, hB.2.1, fun s hs hp => ?_⟩
        by_cases hsj : s = j
        · rw [hsj]; exact hle
        · exact hB.2.2 s (by omega) hp
      · rw [if_neg (by show ¬ sL (nI j).toNatClampNeg ≤ sL (nI b0).toNatClampNeg; rw [hcj, hcb, s2, t2, pn_le (by omega) (by omega)]; exact hle)]
        exact look (fun q hq => by subst hq; show sl b0 < sl j; omega)
theorem pm_best {M mc mw mb row sA sL sO : Nat → Int32} {f k m c sz pl st : Nat} {D sa sl so : Nat → Nat} {K : (Nat → Int32) → (Nat → Int32) → (Nat → Int32) → (Nat → Int32) → (Nat → Int32) → (Nat → Int32) → (Nat → Int32) → Int32 → Option ((Nat → Int32) × (Nat → Int32) × (Nat → Int32) × (Nat → Int32) × (Nat → Int32) × (Nat → Int32) × (Nat → Int32))} (hS : pS f k m c) (hM : pM M f k m c) (hsz : sz ≤ 300) (h5 : M 5 = nI sz) (hrow : ∀ j, j < sz → row j = nI (D j) ∧ D j < 100000) (hst : st ≤ 300) (hD : pD f k sz D st sa sl so) (hMd : pMd st sa sl so M sA sL sO) (hpl : pl < sz) :
    ∃ code len, pBest f k sz pl D sa sl st code len ∧ fn_X8_pack_l69 row K gx_fuel M mc mw mb sA sL sO (nI pl) (-1) 0 = fn_X8_pack_j154 row K M mc mw mb sA sL sO (nI pl) (nI code) (nI len) := by
  obtain ⟨o, hB, he⟩ := pm_best_l (K := K) (mc := mc) (mw := mw) (mb := mb) hS hM hsz h5 hrow hst hD hMd hpl st gx_fuel 0 none (by omega) (by show _ < 5000; omega) (by omega) (fun s hs => by omega)
  have he : fn_X8_pack_l69 row K gx_fuel M mc mw mb sA sL sO (nI pl) (-1) 0 = fn_X8_pack_j138 row K M mc mw mb sA sL sO (nI pl) (pEn o) (nI (pCo f k pl D o)) := he
  rw [he]
  cases o with
  | none =>
    refine ⟨D pl, 1, ⟨Or.inl ⟨rfl, rfl⟩, fun s hs hp => absurd hp (hB s hs)⟩, ?_⟩
    rw [fn_X8_pack_j138, if_pos (by rfl)]
    rfl
  | some b =>
    obtain ⟨b1, b2, b3⟩ := hB
    refine ⟨pF f k + b, sl b, ⟨Or.inr ⟨b, b1, rfl, b2, rfl⟩, b3⟩, ?_⟩
    rw [fn_X8_pack_j138, if_neg (by exact pn_m1 (by omega)), if_pos (by exact (pn_in (by omega)).mpr (by omega))]
    show fn_X8_pack_j154 row K M mc mw mb sA sL sO (nI pl) (nI (pF f k + b)) (sL (nI b).toNatClampNeg) = _
    rw [pn_cl (by omega), (hMd.2 b b1).2.1]
