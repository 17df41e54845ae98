/-! PURE: the TABLE: chains; the longest STRING that stands next -/
def pV (so : Nat → Nat) (N : Nat) : Nat → Int32
  | 0 => -1
  | b + 1 => if so b = N then nI b else pV so N b
theorem pV_congr {so so' : Nat → Nat} {N : Nat} : ∀ (b : Nat), (∀ j, j < b → so j = so' j) → pV so N b = pV so' N b
  | 0, _ => rfl
  | b + 1, h => by rw [pV, pV, h b (by omega), pV_congr b (fun j hj => h j (by omega))]
theorem pV_m1 {so : Nat → Nat} {N : Nat} : ∀ (b : Nat), (∀ j, j < b → so j ≠ N) → pV so N b = -1
  | 0, _ => rfl
  | b + 1, h => by rw [pV, if_neg (h b (by omega)), pV_m1 b (fun j hj => h j (by omega))]
/-- the latest of the first b strings with the head N and the last symbol c -/
def pFind (D sa sl so : Nat → Nat) (N c : Nat) : Nat → Option Nat
  | 0 => none
  | b + 1 => if so b = N ∧ D (sa b + sl b - 1) = c then some b else pFind D sa sl so N c b
theorem pFind_some {D sa sl so : Nat → Nat} {N c s : Nat} : ∀ (b : Nat), pFind D sa sl so N c b = some s → s < b ∧ so s = N ∧ D (sa s + sl s - 1) = c
  | 0, h => by simp [pFind] at h
  | b + 1, h => by
    rw [pFind] at h
    split at h
    · rename_i hc
      obtain rfl := Option.some.inj h
      exact ⟨by omega, hc.1, hc.2⟩
    · obtain ⟨h1, h2, h3⟩ := pFind_some b h
      exact ⟨by omega, h2, h3⟩
theorem pFind_none {D sa sl so : Nat → Nat} {N c : Nat} : ∀ (b : Nat), pFind D sa sl so N c b = none → ∀ s, s < b → ¬ (so s = N ∧ D (sa s + sl s - 1) = c)
  | 0, _ => fun s hs => by omega
  | b + 1, h => by
    rw [pFind] at h
    split at h
    · cases h
    · rename_i hc
      intro s hs
      by_cases hsb : s = b
      · rw [hsb]; exact hc
      · exact pFind_none b h s (by omega)
def pD (f k sz : Nat) (D : Nat → Nat) (st : Nat) (sa sl so : Nat → Nat) : Prop :=
  (∀ s, s < st → 2 ≤ sl s ∧ sa s + sl s ≤ sz ∧ ((so s < 2 ^ k ∧ sl s = 2 ∧ so s = D (sa s)) ∨ ∃ s', s' < s ∧ so s = pF f k + s' ∧ sl s = sl s' + 1 ∧ ∀ i, i < sl s' → D (sa s' + i) = D (sa s + i))) ∧
  (∀ s s', s < st → s' < st → sl s = sl s' → (∀ i, i < sl s → D (sa s + i) = D (sa s' + i)) → s = s')
def pTab (f k : Nat) (D : Nat → Nat) (st : Nat) (sa sl so : Nat → Nat) (T th tt tl tn tc : Nat → Int32) : Prop := T 6 = nI st ∧ st ≤ 300 ∧ (∀ s, s < st → th s = nI (so s) ∧ tt s = nI (D (sa s + sl s - 1)) ∧ tl s = nI (sl s) ∧ tn s = pV so (so s) s) ∧ ∀ N, N < 558 → tc N = pV so N st
def pMd (st : Nat) (sa sl so : Nat → Nat) (M sA sL sO : Nat → Int32) : Prop := M 20 = nI st ∧ ∀ s, s < st → sA s = nI (sa s) ∧ sL s = nI (sl s) ∧ sO s = nI (so s)
def pDat (k sz : Nat) (D : Nat → Nat) (DA DAA M row : Nat → Int32) : Prop := DA 1 = nI sz ∧ M 5 = nI sz ∧ sz ≤ 300 ∧ ∀ j, j < sz → DAA j = nI (D j) ∧ row j = nI (D j) ∧ D j < 2 ^ k
def pSt (sz pl : Nat) (D sa sl : Nat → Nat) (s : Nat) : Prop := pl + sl s ≤ sz ∧ ∀ i, i < sl s → D (sa s + i) = D (pl + i)
theorem pD_so {f k m c sz st : Nat} {D sa sl so : Nat → Nat} (hS : pS f k m c) (h : pD f k sz D st sa sl so) (hst : st ≤ 300) {s : Nat} (hs : s < st) : so s < 558 := by
  have hb := pS_b hS
  have hf := pS_f hS
  obtain ⟨-, -, h1 | ⟨s', h1, h2, -, -⟩⟩ := h.1 s hs <;> omega
-- longer
theorem pt_longer_l {R T th tt tl tn tc : Nat → Int32} {f k m c st N v : Nat} {D sa sl so : Nat → Nat} (hR9 : R 9 = nI (pF f k)) (hS : pS f k m c) (hT : pTab f k D st sa sl so T th tt tl tn tc) (hD : ∀ s, s < st → D (sa s + sl s - 1) < 100000) (hv : v < 100000) :
    ∀ (b n tries : Nat), tries + b ≤ st → b < n → fn_X4_longer_l25 T R tt tn tc n (nI v) (pV so N b) (nI tries) = some (match pFind D sa sl so N v b with | none => -1 | some s => nI (pF f k + s)) := by
  obtain ⟨t6, t300, ts, tch⟩ := hT
  have hf := pS_f hS
  intro b
  induction b with
  | zero =>
    intro n tries htb hn
    obtain ⟨n, rfl⟩ : ∃ q, n = q + 1 := ⟨n - 1, by omega⟩
    rw [fn_X4_longer_l25, t6, pV, pFind]
    by_cases h : st ≤ tries
    · rw [if_pos ((pn_le (by omega) (by omega)).mpr h)]
    · rw [if_neg (by rw [pn_le (by omega) (by omega)]; exact h), if_pos (by decide)]
  | succ b ih =>
    intro n tries htb hn
    rw [pV, pFind]
    by_cases hN : so b = N
    · obtain ⟨n, rfl⟩ : ∃ q, n = q + 1 := ⟨n - 1, by omega⟩
      have hi : gx_in (nI b) 300 := (pn_in (by omega)).mpr (by omega)
      obtain ⟨q1, q2, q3, q4⟩ := ts b (by omega)
      have hDb := hD b (by omega)
      rw [if_pos hN, fn_X4_longer_l25, t6, if_neg (by rw [pn_le (by omega) (by omega)]; omega), if_neg (pn_n0 (by omega)), pn_ofN, if_neg (by rw [pn_le (by omega) (by omega)]; omega), if_pos hi]
      have hcl : (nI b).toNatClampNeg = b := pn_cl (by omega)
      by_cases hc : D (sa b + sl b - 1) = v
      · rw [if_pos (by rw [hcl, q2, hc]), if_pos ⟨hN, hc⟩, hR9, pn_add]
      · rw [if_neg (by rw [hcl, q2, pn_eq (by omega) (by omega)]; exact hc), if_pos hi, if_neg (fun q => hc q.2), hcl, q4, hN, pn_addL]
        exact ih n (tries + 1) (by omega) (by omega)
    · rw [if_neg hN, if_neg (fun q => hN q.1)]
      exact ih n tries (by omega) (by omega)
theorem pt_longer {R T th tt tl tn tc : Nat → Int32} {f k m c st N v : Nat} {D sa sl so : Nat → Nat} (hR9 : R 9 = nI (pF f k)) (hS : pS f k m c) (hT : pTab f k D st sa sl so T th tt tl tn tc) (hD : ∀ s, s < st → D (sa s + sl s - 1) < 100000) (hv : v < 100000) (hN : N < 558) :
    fn_X4_longer T R tt tn tc (nI N) (nI v) = some (match pFind D sa sl so N v st with | none => -1 | some s => nI (pF f k + s)) := by
  have h3 := hT.2.1
  rw [fn_X4_longer, if_neg (pn_n0 (by omega)), pn_ofN, if_pos ((pn_lt (by omega) (by omega)).mpr hN), if_pos ((pn_in (by omega)).mpr hN), pn_cl (by omega), hT.2.2.2 N hN]
  exact pt_longer_l hR9 hS hT hD hv st gx_fuel 0 (by omega) (by show _ < 5000; omega)
/-- prefixes of a string that stands at pl stand there -/
theorem pD_prefix {f k sz st pl : Nat} {D sa sl so : Nat → Nat} (h : pD f k sz D st sa sl so) : ∀ (d s q : Nat), sl s - q = d → s < st → pSt sz pl D sa sl s → 2 ≤ q → q ≤ sl s → ∃ s2, s2 < st ∧ pSt sz pl D sa sl s2 ∧ sl s2 = q := by
  intro d
  induction d with
  | zero => intro s q hd hs hst h2 hq; exact ⟨s, hs, hst, by omega⟩
  | succ d ih =>
    intro s q hd hs hst h2 hq
    obtain ⟨a1, a2, a3 | ⟨s', b1, b2, b3, b4⟩⟩ := h.1 s hs
    · omega
    · refine ih s' q (by omega) (by omega) ⟨by have := hst.1; omega, fun i hi => ?_⟩ h2 (by omega)
      rw [b4 i hi]
      exact hst.2 i (by omega)
/-- a number that stands at pl with len symbols -/
def pNum (f k sz pl : Nat) (D sa sl : Nat → Nat) (st num len : Nat) : Prop := (num = D pl ∧ len = 1) ∨ ∃ s, s < st ∧ num = pF f k + s ∧ pSt sz pl D sa sl s ∧ len = sl s
/-- the code of the longest string that stands at pl, and its length -/
def pBest (f k sz pl : Nat) (D sa sl : Nat → Nat) (st code len : Nat) : Prop := pNum f k sz pl D sa sl st code len ∧ ∀ s, s < st → pSt sz pl D sa sl s → sl s ≤ len
theorem pNum_uniq {f k m c sz pl st n1 n2 len : Nat} {D sa sl so : Nat → Nat} (hS : pS f k m c) (hD : pD f k sz D st sa sl so) (h1 : pNum f k sz pl D sa sl st n1 len) (h2 : pNum f k sz pl D sa sl st n2 len) : n1 = n2 := by
  rcases h1 with ⟨a1, a2⟩ | ⟨s, a1, a2, a3, a4⟩ <;> rcases h2 with ⟨b1, b2⟩ | ⟨s', b1, b2, b3, b4⟩
  · rw [a1, b1]
  · have := (hD.1 s' b1).1; omega
  · have := (hD.1 s a1).1; omega
  · have := hD.2 s s' a1 b1 (by omega) (fun i hi => by rw [a3.2 i hi, b3.2 i (by omega)])
    rw [a2, b2, this]
theorem pt_step {f k m c sz pl st num len s : Nat} {D sa sl so : Nat → Nat} (hS : pS f k m c) (hD : pD f k sz D st sa sl so) (hk : ∀ j, j < sz → D j < 2 ^ k) (hpl : pl + len < sz) (hn : pNum f k sz pl D sa sl st num len) (hf : pFind D sa sl so num (D (pl + len)) st = some s) : pNum f k sz pl D sa sl st (pF f k + s) (len + 1) := by
  obtain ⟨h1, h2, h3⟩ := pFind_some st hf
  have hfb := pS_f hS
  obtain ⟨a1, a2, a3 | ⟨s', b1, b2, b3, b4⟩⟩ := hD.1 s h1
  · right
    have hnum : num = D pl ∧ len = 1 := by
      rcases hn with hn | ⟨s2, -, q2, -, -⟩
      · exact hn
      · omega
    refine ⟨s, h1, rfl, ⟨by omega, fun i hi => ?_⟩, by omega⟩
    rcases (show i = 0 ∨ i = 1 by omega) with rfl | rfl
    · rw [Nat.add_zero, Nat.add_zero, ← a3.2.2, h2, hnum.1]
    · rw [hnum.2] at h3
      rw [← h3]; congr 1; omega
  · right
    have hnum : ∃ s2, s2 < st ∧ num = pF f k + s2 ∧ pSt sz pl D sa sl s2 ∧ len = sl s2 := by
      rcases hn with hn | hn
      · have := hk pl (by omega); omega
      · exact hn
    obtain ⟨s2, c1, c2, c3, c4⟩ := hnum
    have hs2 : s' = s2 := by omega
    subst hs2
    refine ⟨s, h1, rfl, ⟨by omega, fun i hi => ?_⟩, by omega⟩
    by_cases hi2 : i < sl s'
    · rw [← b4 i hi2]; exact c3.2 i hi2
    · have hi3 : i = len := by omega
      subst hi3
      rw [← h3]; congr 1; omega
theorem pt_max {f k m c sz pl st num len : Nat} {D sa sl so : Nat → Nat} (hS : pS f k m c) (hD : pD f k sz D st sa sl so) (hn : pNum f k sz pl D sa sl st num len) (hlen : 1 ≤ len) (hf : pl + len < sz → pFind D sa sl so num (D (pl + len)) st = none) : pBest f k sz pl D sa sl st num len := by
  refine ⟨hn, fun s hs hst => ?_⟩
  apply Nat.le_of_not_lt
  intro hlt
  obtain ⟨s2, c1, c2, c3⟩ := pD_prefix hD _ s (len + 1) rfl hs hst (by omega) (by omega)
  have hlt2 : pl + len < sz := by have := c2.1; omega
  refine pFind_none st (hf hlt2) s2 c1 ⟨?_, ?_⟩
  · obtain ⟨a1, a2, a3 | ⟨s', b1, b2, b3, b4⟩⟩ := hD.1 s2 c1
    · have h0 : pNum f k sz pl D sa sl st (so s2) len := Or.inl ⟨by have := c2.2 0 (by omega); rw [Nat.add_zero, Nat.add_zero] at this; rw [a3.2.2, this], by omega⟩
      exact pNum_uniq hS hD h0 hn
    · have h0 : pNum f k sz pl D sa sl st (so s2) len := Or.inr ⟨s', by omega, b2, ⟨by have := c2.1; omega, fun i hi => by rw [b4 i hi]; exact c2.2 i (by omega)⟩, by omega⟩
      exact pNum_uniq hS hD h0 hn
  · have := c2.2 len (by omega)
    rw [← this]; congr 1; omega
theorem pBest_uniq {f k m c sz pl st c1 c2 l1 l2 : Nat} {D sa sl so : Nat → Nat} (hS : pS f k m c) (hD : pD f k sz D st sa sl so) (h1 : pBest f k sz pl D sa sl st c1 l1) (h2 : pBest f k sz pl D sa sl st c2 l2) : c1 = c2 ∧ l1 = l2 := by
  have hl : l1 = l2 := by
    obtain ⟨a, b⟩ := h1
    obtain ⟨a', b'⟩ := h2
    rcases a with ⟨-, q⟩ | ⟨s, s1, s2, s3, s4⟩ <;> rcases a' with ⟨-, q'⟩ | ⟨t, t1, t2, t3, t4⟩
    · omega
    · have := b t t1 t3; have := (hD.1 t t1).1; omega
    · have := b' s s1 s3; have := (hD.1 s s1).1; omega
    · have := b t t1 t3; have := b' s s1 s3; omega
  subst hl
  exact ⟨pNum_uniq hS hD h1.1 h2.1, rfl⟩
-- the class's walk
theorem pt_longest_l {R T th tt tl tn tc DA DAA M row : Nat → Int32} {f k m c sz st pl : Nat} {D sa sl so : Nat → Nat} (hS : pS f k m c) (hR : pR R f k m c) (hdat : pDat k sz D DA DAA M row) (hD : pD f k sz D st sa sl so) (hT : pTab f k D st sa sl so T th tt tl tn tc) :
    ∀ (d n num len : Nat), sz - (pl + len) = d → d < n → 1 ≤ len → pl + len ≤ sz → pNum f k sz pl D sa sl st num len → ∃ code len', fn_X1_longestFrom_l11 R T tt tn tc DA DAA n (nI num) (nI (pl + len)) = some (nI code) ∧ pBest f k sz pl D sa sl st code len' := by
  obtain ⟨d1, d2, d3, d4⟩ := hdat
  have hb := pS_b hS
  have hfb := pS_f hS
  have ht3 := hT.2.1
  have hDt : ∀ s, s < st → D (sa s + sl s - 1) < 100000 := fun s hs => by
    have := (hD.1 s hs).1
    have h2 := (hD.1 s hs).2.1
    have := (d4 (sa s + sl s - 1) (by omega)).2.2
    omega
  intro d
  induction d with
  | zero =>
    intro n num len hd hn hl hsz hnum
    obtain ⟨n, rfl⟩ : ∃ q, n = q + 1 := ⟨n - 1, by omega⟩
    rw [fn_X1_longestFrom_l11, pr_size d1]
    simp only [Option.bind_some]
    rw [if_pos ((pn_le (by omega) (by omega)).mpr (by omega))]
    exact ⟨num, len, rfl, pt_max hS hD hnum hl (fun q => by omega)⟩
  | succ d ih =>
    intro n num len hd hn hl hsz hnum
    obtain ⟨n, rfl⟩ : ∃ q, n = q + 1 := ⟨n - 1, by omega⟩
    have hDj := d4 (pl + len) (by omega)
    have hN : num < 558 := by
      rcases hnum with ⟨q1, q2⟩ | ⟨s, q1, q2, q3, q4⟩
      · have := (d4 pl (by omega)).2.2; omega
      · omega
    rw [fn_X1_longestFrom_l11, pr_size d1]
    simp only [Option.bind_some]
    rw [if_neg (by rw [pn_le (by omega) (by omega)]; omega), pr_get d1 d3 (by omega) (by omega)]
    simp only [Option.bind_some]
    rw [hDj.1, pt_longer hR.2.2.2.2.2.2.2.2.2.1 hS hT hDt (by omega) hN]
    simp only [Option.bind_some]
    cases hfd : pFind D sa sl so num (D (pl + len)) st with
    | none =>
      simp only []
      rw [if_pos trivial]
      exact ⟨num, len, rfl, pt_max hS hD hnum hl (fun _ => hfd)⟩
    | some s =>
      simp only []
      have hsl := (pFind_some st hfd).1
      rw [if_neg (pn_m1 (by omega)), pn_addL]
      exact ih n (pF f k + s) (len + 1) (by omega) (by omega) (by omega) (by omega) (pt_step hS hD (fun j hj => (d4 j hj).2.2) (by omega) hnum hfd)
theorem pt_longest {R T th tt tl tn tc DA DAA M row : Nat → Int32} {f k m c sz st pl : Nat} {D sa sl so : Nat → Nat} (hS : pS f k m c) (hR : pR R f k m c) (hdat : pDat k sz D DA DAA M row) (hD : pD f k sz D st sa sl so) (hT : pTab f k D st sa sl so T th tt tl tn tc) (hpl : pl < sz) :
    ∃ code len, fn_X1_longestFrom R T tt tn tc DA DAA (nI pl) = some (nI code) ∧ pBest f k sz pl D sa sl st code len := by
  have h3 := hdat.2.2.1
  rw [fn_X1_longestFrom, pr_get hdat.1 h3 (by omega) hpl]
  rw [Option.bind_some, (hdat.2.2.2 pl hpl).1, pn_addL]
  exact pt_longest_l hS hR hdat hD hT _ gx_fuel (D pl) 1 rfl (by show _ < 5000; omega) (by omega) (by omega) (Or.inl ⟨rfl, rfl⟩)
