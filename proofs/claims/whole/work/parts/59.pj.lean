/-! PURE: packing as a whole, whatever lay there before -/
def pGC (T th tc CO WI BE : Nat → Int32) : Prop := pGb T th tc ∧ (∃ a, a < 2000 ∧ CO 1 = nI a) ∧ (∃ a, a < 2000 ∧ WI 1 = nI a) ∧ (∃ a, a < 2000 ∧ BE 1 = nI a)
theorem pDat_M {k sz : Nat} {D : Nat → Nat} {DA DAA M M' row : Nat → Int32} (h : pDat k sz D DA DAA M row) (h5 : M' 5 = M 5) : pDat k sz D DA DAA M' row := ⟨h.1, by rw [h5, h.2.1], h.2.2.1, h.2.2.2⟩
theorem ps_pack {f k m c sz : Nat} {D : Nat → Nat} {R DA DAA row K P T th tt tl tn tc CO COA WI WIA BE BEA M mc mw mb sA sL sO : Nat → Int32} (hS : pS f k m c) (hR : pR R f k m c) (hM : pM M f k m c) (h21 : M 21 = 0) (hdat : pDat k sz D DA DAA M row) (hg : pGC T th tc CO WI BE) :
    ∃ rc rm, fn_X1_pack K R P T th tt tl tn tc CO COA WI WIA BE BEA DA DAA = some rc ∧ fn_X8_pack M row mc mw mb sA sL sO = some rm ∧ pRes f k sz D (upd M 21 1) rc rm := by
  obtain ⟨hgb, ⟨a1, ha1, c1⟩, ⟨a2, ha2, c2⟩, ⟨a3, ha3, c3⟩⟩ := hg
  have hb := pS_b hS
  have hsz := hdat.2.2.1
  obtain ⟨P', ep, hP, hG⟩ := pp_begin (P := P) hS hR
  obtain ⟨tc', ew, htc⟩ := pt_wipe hgb
  obtain ⟨CO', e1, c1'⟩ := pr_shr0 c1 ha1
  obtain ⟨WI', e2, c2'⟩ := pr_shr0 c2 ha2
  obtain ⟨BE', e3, c3'⟩ := pr_shr0 c3 ha3
  have eb : fn_X1_begin K R P T th tc CO WI BE = some (upd (upd (upd K 6 0) 7 0) 8 0, P', upd T 6 0, tc', CO', WI', BE') := by
    rw [fn_X1_begin, ep, Option.bind_some, ew, Option.bind_some, e1, Option.bind_some, e2, Option.bind_some, e3, Option.bind_some]
  -- the reference's state ahead of the loop
  have hMx : ∀ j, (j ≠ 21 → j ≠ 13 → j ≠ 14 → j ≠ 15 → j ≠ 16 → j ≠ 9 → j ≠ 20 → (upd (upd (upd (upd (upd (upd (upd M 21 1) 13 0) 14 0) 15 0) 16 0) 9 0) 20 0) j = M j) := fun j b1 b2 b3 b4 b5 b6 b7 => by simp [upd, b1, b2, b3, b4, b5, b6, b7]
  have hMi : pM (upd M 21 1) f k m c := ⟨by rw [pn_un (by decide)]; exact hM.1, by rw [pn_un (by decide)]; exact hM.2.1, by rw [pn_un (by decide)]; exact hM.2.2.1, by rw [pn_un (by decide)]; exact hM.2.2.2⟩
  have hM0 : pM (upd (upd (upd (upd (upd (upd (upd M 21 1) 13 0) 14 0) 15 0) 16 0) 9 0) 20 0) f k m c := ⟨by rw [hMx 0 (by decide) (by decide) (by decide) (by decide) (by decide) (by decide) (by decide)]; exact hM.1, by rw [hMx 1 (by decide) (by decide) (by decide) (by decide) (by decide) (by decide) (by decide)]; exact hM.2.1, by rw [hMx 2 (by decide) (by decide) (by decide) (by decide) (by decide) (by decide) (by decide)]; exact hM.2.2.1, by rw [hMx 3 (by decide) (by decide) (by decide) (by decide) (by decide) (by decide) (by decide)]; exact hM.2.2.2⟩
  have hdi : pDat k sz D DA DAA (upd M 21 1) row := pDat_M hdat (pn_un (by decide))
  have hFr0 : pFr (upd (upd (upd (upd (upd (upd (upd M 21 1) 13 0) 14 0) 15 0) 16 0) 9 0) 20 0) (upd M 21 1) := fun j b1 b2 b3 b4 b5 b6 => by simp [upd, b1, b2, b3, b4, b5, b6]
  have hQ0 : pQ f k m 0 0 (upd (upd (upd K 6 0) 7 0) 8 0) P' CO' COA WI' WIA BE' BEA (upd (upd (upd (upd (upd (upd (upd M 21 1) 13 0) 14 0) 15 0) 16 0) 9 0) 20 0) mc mw mb := ⟨k + 1, 0, k + 1, false, 0, 0, fun _ => 0, fun _ => 0, fun _ => 0, hP, hG, by simp [upd]; rfl, ⟨by omega, fun _ => ⟨fun _ => ⟨rfl, rfl⟩, fun q => by omega⟩⟩, by simp [upd]; rfl, c1', c2', c3', by simp [upd]; rfl, by simp [upd]; rfl, by omega, fun j hj => by omega⟩
  rw [fn_X1_pack, eb, Option.bind_some, fn_X8_pack, if_pos h21, hR.2.2.2.2.1, hM.1]
  by_cases hf : f = 2
  · rw [if_pos hf, if_pos (by rfl), if_pos (by rw [hf]; rfl)]
    exact ps_loop hS hR hMi hdi 300 gx_fuel gx_fuel 0 0 _ _ _ _ _ _ _ _ _ _ _ _ _ _ _ _ _ _ _ _ _ (by omega) (by show _ < 5000; omega) (by show _ < 5000; omega) (by omega) (by omega) ⟨0, 0, 0, 0, 0, 0, fun _ => 0, fun _ => 0, fun _ => 0, hQ0, by simp [upd]; rfl, by simp [upd]; rfl, by simp [upd]; rfl, by simp [upd]; rfl, pD_0, pTab_0 (by simp [upd]; rfl) htc, pMd_0 (by simp [upd]; rfl), by omega, by omega, by omega, by omega, by omega, hFr0⟩
  · rw [if_neg hf, if_neg (by decide), if_neg (by rw [pn_eqL (by have := hS.1; omega) (by omega)]; exact hf)]
    obtain ⟨K1, P1, T1, tc1, CO1, COA1, WI1, WIA1, BE1, BEA1, M1, mc1, mw1, mb1, f1, f2, hQ1, m9, m20, m15, k7, k8, t6, htc1, hfr⟩ := ps_clear (T := upd T 6 0) (th := th) (tc := tc') (cl := 0) hS hR hM0 (by simp [upd]; rfl) (by omega) hQ0 (by omega) ⟨0, by simp [upd]; rfl, by omega, fun N hN => Or.inl (htc N hN)⟩ (by simp [upd]; rfl) (by simp [upd]; rfl)
    rw [f1, f2, Option.bind_some, Option.bind_some]
    exact ps_loop hS hR hMi hdi 300 gx_fuel gx_fuel 0 0 _ _ _ _ _ _ _ _ _ _ _ _ _ _ _ _ _ _ _ _ _ (by omega) (by show _ < 5000; omega) (by show _ < 5000; omega) (by omega) (by omega) ⟨1, 0, 0, 1, 0, 0, fun _ => 0, fun _ => 0, fun _ => 0, hQ1, m9, k8, k7, m15, pD_0, pTab_0 t6 htc1, pMd_0 m20, by omega, by omega, by omega, by omega, by omega, fun j b1 b2 b3 b4 b5 b6 => (hfr j b1 b2 b3 b4 b5 b6).trans (hFr0 j b1 b2 b3 b4 b5 b6)⟩
/-- behind packing the class's rows and table are such that it can pack again -/
theorem pFin_GC {f k sz : Nat} {D : Nat → Nat} {K T th tt tl tn tc CO COA WI WIA BE BEA M mc mw mb sA sL sO Mi : Nat → Int32} (h : pFin f k sz D K T th tt tl tn tc CO COA WI WIA BE BEA M mc mw mb sA sL sO Mi) : pGC T th tc CO WI BE := by
  obtain ⟨many, bits, st, cl, cn, wn, bn, sa, sl, so, ⟨o1, o2, o3, o4, -⟩, hm, -, -, -, hT, -⟩ := h
  exact ⟨pTab_gb hT, ⟨many, by omega, o2⟩, ⟨many, by omega, o3⟩, ⟨many, by omega, o4⟩⟩
