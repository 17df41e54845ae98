/-! The class's packing that stands, the model's that stands: one simulation for all times. -/
def pCl (R DA DAA X K P T th tt tl tn tc CO COA WI WIA BE BEA : Nat → Int32) : Prop := pGC T th tc CO WI BE ∧ (X 5 = 0 ∨ X 5 = 1 ∧ ∃ K0 P0 T0 th0 tt0 tl0 tn0 tc0 CO0 COA0 WI0 WIA0 BE0 BEA0 : Nat → Int32, pGC T0 th0 tc0 CO0 WI0 BE0 ∧ fn_X1_pack K0 R P0 T0 th0 tt0 tl0 tn0 tc0 CO0 COA0 WI0 WIA0 BE0 BEA0 DA DAA = some (K, P, T, th, tt, tl, tn, tc, CO, COA, WI, WIA, BE, BEA))
def pMl (M row mc mw mb sA sL sO : Nat → Int32) : Prop := M 21 = 0 ∨ M 21 = 1 ∧ ∃ M0 mc0 mw0 mb0 sA0 sL0 sO0 M1 : Nat → Int32, M0 21 = 0 ∧ (∀ j, j < 6 → M0 j = M j) ∧ fn_X8_pack M0 row mc0 mw0 mb0 sA0 sL0 sO0 = some (M1, mc, mw, mb, sA, sL, sO) ∧ ∀ j, j ≠ 7 → M1 j = M j
theorem pc_cl {R DA DAA X K P T th tt tl tn tc CO COA WI WIA BE BEA : Nat → Int32} (h : pCl R DA DAA X K P T th tt tl tn tc CO COA WI WIA BE BEA) :
    ∃ K0 P0 T0 th0 tt0 tl0 tn0 tc0 CO0 COA0 WI0 WIA0 BE0 BEA0 X' : Nat → Int32, pGC T0 th0 tc0 CO0 WI0 BE0 ∧ X' 5 = 1 ∧ X' 6 = X 6 ∧ ∀ rc, fn_X1_pack K0 R P0 T0 th0 tt0 tl0 tn0 tc0 CO0 COA0 WI0 WIA0 BE0 BEA0 DA DAA = some rc → fn_X7_packedData X R DA DAA K P T th tt tl tn tc CO COA WI WIA BE BEA = some (X', rc) := by
  obtain ⟨hg, h0 | ⟨h1, K0, P0, T0, th0, tt0, tl0, tn0, tc0, CO0, COA0, WI0, WIA0, BE0, BEA0, hg0, he⟩⟩ := h
  · refine ⟨K, P, T, th, tt, tl, tn, tc, CO, COA, WI, WIA, BE, BEA, upd X 5 1, hg, pn_us, pn_un (by decide), fun rc e => ?_⟩
    rw [fn_X7_packedData, if_pos h0, e, Option.bind_some]
  · refine ⟨K0, P0, T0, th0, tt0, tl0, tn0, tc0, CO0, COA0, WI0, WIA0, BE0, BEA0, X, hg0, h1, rfl, fun rc e => ?_⟩
    rw [he] at e
    cases e
    rw [fn_X7_packedData, if_neg (by rw [h1]; decide)]
theorem pm_ml {M row mc mw mb sA sL sO : Nat → Int32} (h : pMl M row mc mw mb sA sL sO) :
    ∃ M0 mc0 mw0 mb0 sA0 sL0 sO0 : Nat → Int32, M0 21 = 0 ∧ (∀ j, j < 6 → M0 j = M j) ∧ ∀ rm, fn_X8_pack M0 row mc0 mw0 mb0 sA0 sL0 sO0 = some rm → (∀ j, j ≠ 9 → j ≠ 13 → j ≠ 14 → j ≠ 15 → j ≠ 16 → j ≠ 20 → rm.1 j = upd M0 21 1 j) → ∃ M' : Nat → Int32, fn_X8_pack M row mc mw mb sA sL sO = some (M', rm.2) ∧ M' 21 = 1 ∧ (∀ j, j ≠ 7 → rm.1 j = M' j) ∧ ∀ j, j ≠ 9 → j ≠ 13 → j ≠ 14 → j ≠ 15 → j ≠ 16 → j ≠ 20 → j ≠ 21 → M' j = M j := by
  obtain h0 | ⟨h1, M0, mc0, mw0, mb0, sA0, sL0, sO0, M1, h2, h3, he, h4⟩ := h
  · refine ⟨M, mc, mw, mb, sA, sL, sO, h0, fun _ _ => rfl, fun rm e hf => ⟨rm.1, e, ?_, fun _ _ => rfl, fun j a1 a2 a3 a4 a5 a6 a7 => ?_⟩⟩
    · rw [hf 21 (by decide) (by decide) (by decide) (by decide) (by decide) (by decide)]; exact pn_us
    · rw [hf j a1 a2 a3 a4 a5 a6]; exact pn_un a7
  · refine ⟨M0, mc0, mw0, mb0, sA0, sL0, sO0, h2, h3, fun rm e hf => ?_⟩
    rw [he] at e
    cases e
    refine ⟨M, ?_, h1, h4, fun _ _ _ _ _ _ _ _ => rfl⟩
    rw [fn_X8_pack, if_neg (by rw [h1]; decide)]
theorem pFin_M {f k sz : Nat} {D : Nat → Nat} {K T th tt tl tn tc CO COA WI WIA BE BEA M M' mc mw mb sA sL sO Mi : Nat → Int32} (h : pFin f k sz D K T th tt tl tn tc CO COA WI WIA BE BEA M mc mw mb sA sL sO Mi) (hj : ∀ j, j ≠ 7 → M j = M' j) : pFin f k sz D K T th tt tl tn tc CO COA WI WIA BE BEA M' mc mw mb sA sL sO M' := by
  obtain ⟨many, bits, st, cl, cn, wn, bn, sa, sl, so, ⟨o1, o2, o3, o4, o5, o6, o7⟩, hm, a1, a2, a3, hT, ⟨b1, b2⟩, -⟩ := h
  refine ⟨many, bits, st, cl, cn, wn, bn, sa, sl, so, ⟨o1, o2, o3, o4, ?_, ?_, o7⟩, hm, a1, ?_, a3, hT, ⟨?_, b2⟩, fun _ _ _ _ _ _ _ => rfl⟩
  · rw [← hj 13 (by decide)]; exact o5
  · rw [← hj 14 (by decide)]; exact o6
  · rw [← hj 15 (by decide)]; exact a2
  · rw [← hj 20 (by decide)]; exact b1
theorem pFin_Fr {f k sz : Nat} {D : Nat → Nat} {K T th tt tl tn tc CO COA WI WIA BE BEA M mc mw mb sA sL sO Mi : Nat → Int32} (h : pFin f k sz D K T th tt tl tn tc CO COA WI WIA BE BEA M mc mw mb sA sL sO Mi) : pFr M Mi := by
  obtain ⟨many, bits, st, cl, cn, wn, bn, sa, sl, so, -, -, -, -, -, -, -, q⟩ := h
  exact q
theorem ps_packed {f k m c sz : Nat} {D : Nat → Nat} {R DA DAA X K P T th tt tl tn tc CO COA WI WIA BE BEA M row mc mw mb sA sL sO : Nat → Int32} (hS : pS f k m c) (hR : pR R f k m c) (hM : pM M f k m c) (hdat : pDat k sz D DA DAA M row) (hc : pCl R DA DAA X K P T th tt tl tn tc CO COA WI WIA BE BEA) (hm : pMl M row mc mw mb sA sL sO) :
    ∃ X' K' P' T' th' tt' tl' tn' tc' CO' COA' WI' WIA' BE' BEA' M' mc' mw' mb' sA' sL' sO' : Nat → Int32, fn_X7_packedData X R DA DAA K P T th tt tl tn tc CO COA WI WIA BE BEA = some (X', K', P', T', th', tt', tl', tn', tc', CO', COA', WI', WIA', BE', BEA') ∧ fn_X8_pack M row mc mw mb sA sL sO = some (M', mc', mw', mb', sA', sL', sO') ∧ pFin f k sz D K' T' th' tt' tl' tn' tc' CO' COA' WI' WIA' BE' BEA' M' mc' mw' mb' sA' sL' sO' M' ∧ pCl R DA DAA X' K' P' T' th' tt' tl' tn' tc' CO' COA' WI' WIA' BE' BEA' ∧ pMl M' row mc' mw' mb' sA' sL' sO' ∧ X' 6 = X 6 ∧ ∀ j, j ≠ 9 → j ≠ 13 → j ≠ 14 → j ≠ 15 → j ≠ 16 → j ≠ 20 → j ≠ 21 → M' j = M j := by
  obtain ⟨K0, P0, T0, th0, tt0, tl0, tn0, tc0, CO0, COA0, WI0, WIA0, BE0, BEA0, X', hg, x5, x6, hx⟩ := pc_cl hc
  obtain ⟨M0, mc0, mw0, mb0, sA0, sL0, sO0, h21, h6, hy⟩ := pm_ml hm
  obtain ⟨⟨K', P', T', th', tt', tl', tn', tc', CO', COA', WI', WIA', BE', BEA'⟩, ⟨M1, mc', mw', mb', sA', sL', sO'⟩, e1, e2, hr⟩ := ps_pack (K := K0) (P := P0) (tt := tt0) (tl := tl0) (tn := tn0) (COA := COA0) (WIA := WIA0) (BEA := BEA0) (mc := mc0) (mw := mw0) (mb := mb0) (sA := sA0) (sL := sL0) (sO := sO0) hS hR (pM_M hM (fun j hj => h6 j (by omega))) h21 (pDat_M hdat (h6 5 (by decide))) hg
  obtain ⟨M', e3, m21, m7, mf⟩ := hy _ e2 (pFin_Fr hr)
  have hfin := pFin_M hr m7
  refine ⟨X', K', P', T', th', tt', tl', tn', tc', CO', COA', WI', WIA', BE', BEA', M', mc', mw', mb', sA', sL', sO', hx _ e1, e3, hfin, ⟨pFin_GC hfin, Or.inr ⟨x5, K0, P0, T0, th0, tt0, tl0, tn0, tc0, CO0, COA0, WI0, WIA0, BE0, BEA0, hg, e1⟩⟩, Or.inr ⟨m21, M0, mc0, mw0, mb0, sA0, sL0, sO0, M1, h21, fun j hj => ?_, e2, m7⟩, x6, mf⟩
  rw [h6 j hj, mf j (by omega) (by omega) (by omega) (by omega) (by omega) (by omega) (by omega)]
