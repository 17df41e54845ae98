section
variable {p : Program} {l : Launch} {e : Env} {s : State} {m : MethodId} {args : Array Value} {below : List Frame} {meth : Method} {c : Code} {D : va_G} {cI cZ : ClassId} {A : Nat → Prop} {Q : State → Prop}
-- LzwForms$Row.size: touched ['t']; used ['t']; mod []; height 0
theorem ln_X2_size_15 : gx_L wsX2_size RX2 15 2 1 := ⟨_, _, _, rfl, by decide +kernel, by decide, Or.inl (by decide +kernel)⟩
def wd_X2_size (cI cZ : ClassId) (h_t h_t_cells : Nat) (V_t : Nat → Int32) : va_W := [gx_o h_t 2 [some (some h_t_cells), none] V_t]
set_option maxHeartbeats 4000000 in
set_option maxRecDepth 100000 in
theorem ct_X2_size (l : Launch) (D : va_G) (cI cZ : ClassId) (h_t h_t_cells : Nat) (V_t : Nat → Int32) {z : Int32} (hf : fn_X2_size V_t = some z) : gx_Mi l yX2_size wsX2_size (gx_rm 0) D cI cZ [.ref h_t] (wd_X2_size cI cZ h_t h_t_cells V_t) (wd_X2_size cI cZ h_t h_t_cells V_t) z := by
  refine gx_ofi (cc := cX2_size) (own := RX2) (by decide) rfl rfl (Nat.le_of_ble_eq_true rfl) [(0, .ref h_t)] rfl ?_
  intro p e s m args below meth c A Q ls C hQ hl hw
  have hx := C.1.1
  have hb := C.1.2.1
  rw [fn_X2_size] at hf
  refine lv_aload_n hx hb dX2_size_0 rfl (lv_at hl 0 rfl) ?_
  refine gx_get (v := .int (V_t 1)) C hw 0 rfl (gx_gj rfl rfl) ln_X2_size_15 dX2_size_1 ?_
  obtain rfl := Option.some.inj hf
  exact hQ _ _ _ _ dX2_size_4 rfl hw
-- LzwForms$Row.add: touched ['t', 't_cells']; used ['t', 't_cells']; mod ['t', 't_cells']; height 0
theorem ln_X2_add_9 : gx_L wsX2_add RX2 9 2 0 := ⟨_, _, _, rfl, by decide +kernel, by decide, Or.inl (by decide +kernel)⟩
theorem ln_X2_add_15 : gx_L wsX2_add RX2 15 2 1 := ⟨_, _, _, rfl, by decide +kernel, by decide, Or.inl (by decide +kernel)⟩
theorem lp_X2_add_15 : gx_LP wsX2_add RX2 15 2 1 false .int := ⟨_, _, _, tyX2, rfl, by decide +kernel, by decide, by decide +kernel, tyX2_ok, nmX2, by decide +kernel, by decide +kernel, by decide +kernel⟩
def wd_X2_add (cI cZ : ClassId) (h_t h_t_cells : Nat) (n_t_cells : Nat) (V_t V_t_cells : Nat → Int32) : va_W := [gx_o h_t 2 [some (some h_t_cells), none] V_t, gx_a h_t_cells cI n_t_cells V_t_cells]
set_option maxHeartbeats 4000000 in
set_option maxRecDepth 100000 in
theorem ct_X2_add (l : Launch) (D : va_G) (cI cZ : ClassId) (h_t h_t_cells : Nat) (n_t_cells : Nat) (V_t V_t_cells : Nat → Int32) (a1 : Int32) {z : Int32 × (Nat → Int32) × (Nat → Int32)} (hf : fn_X2_add V_t V_t_cells n_t_cells a1 = some z) : gx_Mi l yX2_add wsX2_add (gx_rm 0) D cI cZ [.ref h_t, .int a1] (wd_X2_add cI cZ h_t h_t_cells n_t_cells V_t V_t_cells) (wd_X2_add cI cZ h_t h_t_cells n_t_cells z.2.1 z.2.2) z.1 := by
  refine gx_ofi (cc := cX2_add) (own := RX2) (by decide) rfl rfl (Nat.le_of_ble_eq_true rfl) [(0, .ref h_t), (1, .int a1)] rfl ?_
  intro p e s m args below meth c A Q ls C hQ hl hw
  have hx := C.1.1
  have hb := C.1.2.1
  rw [fn_X2_add] at hf
  refine lv_aload_n hx hb dX2_add_0 rfl (lv_at hl 0 rfl) ?_
  refine gx_get (v := .int (V_t 1)) C hw 0 rfl (gx_gj rfl rfl) ln_X2_add_15 dX2_add_1 ?_
  refine lv_aload_n hx hb dX2_add_4 rfl (lv_at hl 0 rfl) ?_
  refine gx_get C hw 0 rfl (gx_gr rfl) ln_X2_add_9 dX2_add_5 ?_
  refine gx_alen C hw 1 rfl dX2_add_8 ?_
  refine lv_icmp_lt (tgt := 14) hx hb dX2_add_9 (by decide) (fun hc => ?_) (fun hc => ?_)
  · replace hf := gx_t hc hf
    refine lv_aload_n hx hb dX2_add_14 rfl (lv_at hl 0 rfl) ?_
    refine gx_get C hw 0 rfl (gx_gr rfl) ln_X2_add_9 dX2_add_15 ?_
    refine lv_aload_n hx hb dX2_add_18 rfl (lv_at hl 0 rfl) ?_
    refine gx_get (v := .int (V_t 1)) C hw 0 rfl (gx_gj rfl rfl) ln_X2_add_15 dX2_add_19 ?_
    refine lv_iload_n hx hb dX2_add_22 rfl (lv_at hl 1 rfl) ?_
    obtain ⟨hi_23, hf⟩ := gx_g hf
    refine gx_iast (ws' := wd_X2_add cI cZ h_t h_t_cells n_t_cells V_t (upd V_t_cells (V_t 1).toNatClampNeg a1)) C hw 1 rfl hi_23 rfl dX2_add_23 (fun H locs hw => ?_)
    refine lv_aload_n hx hb dX2_add_24 rfl (lv_at hl 0 rfl) ?_
    refine lv_dup hx hb dX2_add_25 rfl ?_
    refine gx_get (v := .int (V_t 1)) C hw 0 rfl (gx_gj rfl rfl) ln_X2_add_15 dX2_add_26 ?_
    refine lv_iconst (v := 1) hx hb dX2_add_29 (by decide) ?_
    refine lv_iadd hx hb dX2_add_30 ?_
    refine gx_put (ws' := wd_X2_add cI cZ h_t h_t_cells n_t_cells (upd V_t 1 ((V_t 1) + 1)) (upd V_t_cells (V_t 1).toNatClampNeg a1)) C hw 0 rfl rfl lp_X2_add_15 rfl rfl rfl dX2_add_31 (fun H locs hw => ?_)
    refine lv_iconst (v := 1) hx hb dX2_add_34 (by decide) ?_
    obtain rfl := Option.some.inj hf
    exact hQ _ _ _ _ dX2_add_35 (gx_nb (Or.inr rfl)) hw
  · replace hf := gx_f hc hf
    refine lv_iconst (v := 0) hx hb dX2_add_12 (by decide) ?_
    obtain rfl := Option.some.inj hf
    exact hQ _ _ _ _ dX2_add_13 (gx_nb (Or.inl rfl)) hw
-- LzwForms$Row.get: touched ['t', 't_cells']; used ['t', 't_cells']; mod []; height 0
theorem ln_X2_get_9 : gx_L wsX2_get RX2 9 2 0 := ⟨_, _, _, rfl, by decide +kernel, by decide, Or.inl (by decide +kernel)⟩
theorem ln_X2_get_15 : gx_L wsX2_get RX2 15 2 1 := ⟨_, _, _, rfl, by decide +kernel, by decide, Or.inl (by decide +kernel)⟩
def wd_X2_get (cI cZ : ClassId) (h_t h_t_cells : Nat) (n_t_cells : Nat) (V_t V_t_cells : Nat → Int32) : va_W := [gx_o h_t 2 [some (some h_t_cells), none] V_t, gx_a h_t_cells cI n_t_cells V_t_cells]
set_option maxHeartbeats 4000000 in
set_option maxRecDepth 100000 in
theorem ct_X2_get (l : Launch) (D : va_G) (cI cZ : ClassId) (h_t h_t_cells : Nat) (n_t_cells : Nat) (V_t V_t_cells : Nat → Int32) (a1 : Int32) {z : Int32} (hf : fn_X2_get V_t V_t_cells n_t_cells a1 = some z) : gx_Mi l yX2_get wsX2_get (gx_rm 0) D cI cZ [.ref h_t, .int a1] (wd_X2_get cI cZ h_t h_t_cells n_t_cells V_t V_t_cells) (wd_X2_get cI cZ h_t h_t_cells n_t_cells V_t V_t_cells) z := by
  refine gx_ofi (cc := cX2_get) (own := RX2) (by decide) rfl rfl (Nat.le_of_ble_eq_true rfl) [(0, .ref h_t), (1, .int a1)] rfl ?_
  intro p e s m args below meth c A Q ls C hQ hl hw
  have hx := C.1.1
  have hb := C.1.2.1
  rw [fn_X2_get] at hf
  refine lv_iload_n hx hb dX2_get_0 rfl (lv_at hl 1 rfl) ?_
  refine lv_if_lt (tgt := 21) hx hb dX2_get_1 (by decide) (fun hc => ?_) (fun hc => ?_)
  · replace hf := gx_t hc hf
    refine lv_iconst (v := (-1)) hx hb dX2_get_21 (by decide) ?_
    obtain rfl := Option.some.inj hf
    exact hQ _ _ _ _ dX2_get_22 rfl hw
  · replace hf := gx_f hc hf
    refine lv_iload_n hx hb dX2_get_4 rfl (lv_at hl 1 rfl) ?_
    refine lv_aload_n hx hb dX2_get_5 rfl (lv_at hl 0 rfl) ?_
    refine gx_get (v := .int (V_t 1)) C hw 0 rfl (gx_gj rfl rfl) ln_X2_get_15 dX2_get_6 ?_
    refine lv_icmp_ge (tgt := 21) hx hb dX2_get_9 (by decide) (fun hc => ?_) (fun hc => ?_)
    · replace hf := gx_t hc hf
      refine lv_iconst (v := (-1)) hx hb dX2_get_21 (by decide) ?_
      obtain rfl := Option.some.inj hf
      exact hQ _ _ _ _ dX2_get_22 rfl hw
    · replace hf := gx_f hc hf
      refine lv_aload_n hx hb dX2_get_12 rfl (lv_at hl 0 rfl) ?_
      refine gx_get C hw 0 rfl (gx_gr rfl) ln_X2_get_9 dX2_get_13 ?_
      refine lv_iload_n hx hb dX2_get_16 rfl (lv_at hl 1 rfl) ?_
      obtain ⟨hi_17, hf⟩ := gx_g hf
      refine gx_iald C hw 1 rfl hi_17 dX2_get_17 ?_
      refine lv_goto (tgt := 22) hx hb dX2_get_18 (by decide) ?_
      obtain rfl := Option.some.inj hf
      exact hQ _ _ _ _ dX2_get_22 rfl hw
-- LzwForms$Row.set: touched ['t', 't_cells']; used ['t', 't_cells']; mod ['t_cells']; height 0
theorem ln_X2_set_9 : gx_L wsX2_set RX2 9 2 0 := ⟨_, _, _, rfl, by decide +kernel, by decide, Or.inl (by decide +kernel)⟩
theorem ln_X2_set_15 : gx_L wsX2_set RX2 15 2 1 := ⟨_, _, _, rfl, by decide +kernel, by decide, Or.inl (by decide +kernel)⟩
def wd_X2_set (cI cZ : ClassId) (h_t h_t_cells : Nat) (n_t_cells : Nat) (V_t V_t_cells : Nat → Int32) : va_W := [gx_o h_t 2 [some (some h_t_cells), none] V_t, gx_a h_t_cells cI n_t_cells V_t_cells]
set_option maxHeartbeats 4000000 in
set_option maxRecDepth 100000 in
theorem ct_X2_set (l : Launch) (D : va_G) (cI cZ : ClassId) (h_t h_t_cells : Nat) (n_t_cells : Nat) (V_t V_t_cells : Nat → Int32) (a1 a2 : Int32) {z : (Nat → Int32)} (hf : fn_X2_set V_t V_t_cells n_t_cells a1 a2 = some z) : gx_Mv l yX2_set wsX2_set (gx_rm 0) D cI cZ [.ref h_t, .int a1, .int a2] (wd_X2_set cI cZ h_t h_t_cells n_t_cells V_t V_t_cells) (wd_X2_set cI cZ h_t h_t_cells n_t_cells V_t z) := by
  refine gx_ofv (cc := cX2_set) (own := RX2) (by decide) rfl rfl (Nat.le_of_ble_eq_true rfl) [(0, .ref h_t), (1, .int a1), (2, .int a2)] rfl ?_
  intro p e s m args below meth c A Q ls C hQ hl hw
  have hx := C.1.1
  have hb := C.1.2.1
  rw [fn_X2_set] at hf
  refine lv_iload_n hx hb dX2_set_0 rfl (lv_at hl 1 rfl) ?_
  refine lv_if_lt (tgt := 19) hx hb dX2_set_1 (by decide) (fun hc => ?_) (fun hc => ?_)
  · replace hf := gx_t hc hf
    obtain rfl := Option.some.inj hf
    exact hQ _ _ _ _ dX2_set_19 hw
  · replace hf := gx_f hc hf
    refine lv_iload_n hx hb dX2_set_4 rfl (lv_at hl 1 rfl) ?_
    refine lv_aload_n hx hb dX2_set_5 rfl (lv_at hl 0 rfl) ?_
    refine gx_get (v := .int (V_t 1)) C hw 0 rfl (gx_gj rfl rfl) ln_X2_set_15 dX2_set_6 ?_
    refine lv_icmp_ge (tgt := 19) hx hb dX2_set_9 (by decide) (fun hc => ?_) (fun hc => ?_)
    · replace hf := gx_t hc hf
      obtain rfl := Option.some.inj hf
      exact hQ _ _ _ _ dX2_set_19 hw
    · replace hf := gx_f hc hf
      refine lv_aload_n hx hb dX2_set_12 rfl (lv_at hl 0 rfl) ?_
      refine gx_get C hw 0 rfl (gx_gr rfl) ln_X2_set_9 dX2_set_13 ?_
      refine lv_iload_n hx hb dX2_set_16 rfl (lv_at hl 1 rfl) ?_
      refine lv_iload_n hx hb dX2_set_17 rfl (lv_at hl 2 rfl) ?_
      obtain ⟨hi_18, hf⟩ := gx_g hf
      refine gx_iast (ws' := wd_X2_set cI cZ h_t h_t_cells n_t_cells V_t (upd V_t_cells a1.toNatClampNeg a2)) C hw 1 rfl hi_18 rfl dX2_set_18 (fun H locs hw => ?_)
      obtain rfl := Option.some.inj hf
      exact hQ _ _ _ _ dX2_set_19 hw
-- LzwForms$Row.shrinkTo: touched ['t']; used ['t']; mod ['t']; height 0
theorem ln_X2_shrinkTo_15 : gx_L wsX2_shrinkTo RX2 15 2 1 := ⟨_, _, _, rfl, by decide +kernel, by decide, Or.inl (by decide +kernel)⟩
theorem lp_X2_shrinkTo_15 : gx_LP wsX2_shrinkTo RX2 15 2 1 false .int := ⟨_, _, _, tyX2, rfl, by decide +kernel, by decide, by decide +kernel, tyX2_ok, nmX2, by decide +kernel, by decide +kernel, by decide +kernel⟩
def wd_X2_shrinkTo (cI cZ : ClassId) (h_t h_t_cells : Nat) (V_t : Nat → Int32) : va_W := [gx_o h_t 2 [some (some h_t_cells), none] V_t]
set_option maxHeartbeats 4000000 in
set_option maxRecDepth 100000 in
theorem ct_X2_shrinkTo (l : Launch) (D : va_G) (cI cZ : ClassId) (h_t h_t_cells : Nat) (V_t : Nat → Int32) (a1 : Int32) {z : (Nat → Int32)} (hf : fn_X2_shrinkTo V_t a1 = some z) : gx_Mv l yX2_shrinkTo wsX2_shrinkTo (gx_rm 0) D cI cZ [.ref h_t, .int a1] (wd_X2_shrinkTo cI cZ h_t h_t_cells V_t) (wd_X2_shrinkTo cI cZ h_t h_t_cells z) := by
  refine gx_ofv (cc := cX2_shrinkTo) (own := RX2) (by decide) rfl rfl (Nat.le_of_ble_eq_true rfl) [(0, .ref h_t), (1, .int a1)] rfl ?_
  intro p e s m args below meth c A Q ls C hQ hl hw
  have hx := C.1.1
  have hb := C.1.2.1
  rw [fn_X2_shrinkTo] at hf
  refine lv_iload_n hx hb dX2_shrinkTo_0 rfl (lv_at hl 1 rfl) ?_
  refine lv_if_lt (tgt := 17) hx hb dX2_shrinkTo_1 (by decide) (fun hc => ?_) (fun hc => ?_)
  · replace hf := gx_t hc hf
    obtain rfl := Option.some.inj hf
    exact hQ _ _ _ _ dX2_shrinkTo_17 hw
  · replace hf := gx_f hc hf
    refine lv_iload_n hx hb dX2_shrinkTo_4 rfl (lv_at hl 1 rfl) ?_
    refine lv_aload_n hx hb dX2_shrinkTo_5 rfl (lv_at hl 0 rfl) ?_
    refine gx_get (v := .int (V_t 1)) C hw 0 rfl (gx_gj rfl rfl) ln_X2_shrinkTo_15 dX2_shrinkTo_6 ?_
    refine lv_icmp_ge (tgt := 17) hx hb dX2_shrinkTo_9 (by decide) (fun hc => ?_) (fun hc => ?_)
    · replace hf := gx_t hc hf
      obtain rfl := Option.some.inj hf
      exact hQ _ _ _ _ dX2_shrinkTo_17 hw
    · replace hf := gx_f hc hf
      refine lv_aload_n hx hb dX2_shrinkTo_12 rfl (lv_at hl 0 rfl) ?_
      refine lv_iload_n hx hb dX2_shrinkTo_13 rfl (lv_at hl 1 rfl) ?_
      refine gx_put (ws' := wd_X2_shrinkTo cI cZ h_t h_t_cells (upd V_t 1 a1)) C hw 0 rfl rfl lp_X2_shrinkTo_15 rfl rfl rfl dX2_shrinkTo_14 (fun H locs hw => ?_)
      obtain rfl := Option.some.inj hf
      exact hQ _ _ _ _ dX2_shrinkTo_17 hw
-- LzwForms$Row.becomeLike: touched ['t', 't_cells', 'a1', 'a1_cells']; used ['t', 't_cells', 'a1', 'a1_cells']; mod ['t', 't_cells']; height 1
theorem ln_X2_becomeLike_15 : gx_L wsX2_becomeLike RX2 15 2 1 := ⟨_, _, _, rfl, by decide +kernel, by decide, Or.inl (by decide +kernel)⟩
theorem lp_X2_becomeLike_15 : gx_LP wsX2_becomeLike RX2 15 2 1 false .int := ⟨_, _, _, tyX2, rfl, by decide +kernel, by decide, by decide +kernel, tyX2_ok, nmX2, by decide +kernel, by decide +kernel, by decide +kernel⟩
theorem kl_X2_becomeLike_19 : gx_KV wsX2_becomeLike RX2 19 yX2_get cX2_get 2 (some .int) wsX2_get (gx_rm 0) (gx_rm 1) 1 := ⟨gX2_becomeLike_X2_get, ⟨_, rfl⟩, ⟨by decide, by decide, by decide +kernel⟩, ⟨by decide, by decide⟩⟩
theorem kl_X2_becomeLike_23 : gx_KV wsX2_becomeLike RX2 23 yX2_add cX2_add 2 (some .boolean) wsX2_add (gx_rm 0) (gx_rm 1) 1 := ⟨gX2_becomeLike_X2_add, ⟨_, rfl⟩, ⟨by decide, by decide, by decide +kernel⟩, ⟨by decide, by decide⟩⟩
def wd_X2_becomeLike (cI cZ : ClassId) (h_t h_t_cells h_a1 h_a1_cells : Nat) (n_t_cells : Nat) (n_a1_cells : Nat) (V_t V_t_cells V_a1 V_a1_cells : Nat → Int32) : va_W := [gx_o h_t 2 [some (some h_t_cells), none] V_t, gx_a h_t_cells cI n_t_cells V_t_cells, gx_o h_a1 2 [some (some h_a1_cells), none] V_a1, gx_a h_a1_cells cI n_a1_cells V_a1_cells]
set_option maxHeartbeats 4000000 in
set_option maxRecDepth 100000 in
theorem tm_X2_becomeLike_7 (C : gx_C cX2_becomeLike 3 wsX2_becomeLike RX2 D cI cZ p s m args c) (h_t h_t_cells h_a1 h_a1_cells : Nat) (n_t_cells : Nat) (n_a1_cells : Nat) (V_a1 V_a1_cells : Nat → Int32) {z : (Nat → Int32) × (Nat → Int32)} (hQ : gx_Qv cX2_becomeLike p l e (gx_rm 1) s m args below meth c D A Q (wd_X2_becomeLike cI cZ h_t h_t_cells h_a1 h_a1_cells n_t_cells n_a1_cells z.1 z.2 V_a1 V_a1_cells)) : ∀ (n : Nat), (∀ (V_t V_t_cells : Nat → Int32) (x2 : Int32) (ls : Array Slot) (H : Heap) (locs : List Loc), lv_has ls 3 [(0, .ref h_t), (1, .ref h_a1), (2, .int x2)] → gx_W D A s (wd_X2_becomeLike cI cZ h_t h_t_cells h_a1 h_a1_cells n_t_cells n_a1_cells V_t V_t_cells V_a1 V_a1_cells) H locs → fn_X2_becomeLike_l7 V_a1 V_a1_cells n_t_cells n_a1_cells n V_t V_t_cells x2 = some z → W p l e (gx_rm 1) s m args below meth c H locs 0 0 Q (F0 m 7 ls [])) := by
  have hx := C.1.1
  have hb := C.1.2.1
  intro n
  induction n with
  | zero => intro V_t V_t_cells x2 ls H locs hl hw hf; rw [fn_X2_becomeLike_l7] at hf; cases hf
  | succ n ih =>
    intro V_t V_t_cells x2 ls H locs hl hw hf
    rw [fn_X2_becomeLike_l7] at hf
    refine lv_iload_n hx hb dX2_becomeLike_7 rfl (lv_at hl 2 rfl) ?_
    refine lv_aload_n hx hb dX2_becomeLike_8 rfl (lv_at hl 1 rfl) ?_
    refine gx_get (v := .int (V_a1 1)) C hw 2 rfl (gx_gj rfl rfl) ln_X2_becomeLike_15 dX2_becomeLike_9 ?_
    refine lv_icmp_ge (tgt := 31) hx hb dX2_becomeLike_12 (by decide) (fun hc => ?_) (fun hc => ?_)
    · replace hf := gx_t hc hf
      obtain rfl := Option.some.inj hf
      exact hQ _ _ _ _ dX2_becomeLike_31 hw
    · replace hf := gx_f hc hf
      refine lv_aload_n hx hb dX2_becomeLike_15 rfl (lv_at hl 0 rfl) ?_
      refine lv_aload_n hx hb dX2_becomeLike_16 rfl (lv_at hl 1 rfl) ?_
      refine lv_iload_n hx hb dX2_becomeLike_17 rfl (lv_at hl 2 rfl) ?_
      obtain ⟨y_18, hy_18, hf⟩ := gx_b hf
      refine gx_calli (As := [.int x2]) (ws' := wd_X2_becomeLike cI cZ h_t h_t_cells h_a1 h_a1_cells n_t_cells n_a1_cells V_t V_t_cells V_a1 V_a1_cells) (isC := [2, 3]) (isR := [0, 1]) (isP := [0, 1, 2, 3]) C hw (ct_X2_get l D cI cZ h_a1 h_a1_cells n_a1_cells V_a1 V_a1_cells x2 hy_18) kl_X2_becomeLike_19 ⟨rfl, rfl⟩ ⟨rfl, rfl, by decide, by decide, by decide, by decide, rfl⟩ 0 rfl rfl rfl rfl hl.1 (Nat.le_of_ble_eq_true rfl) ⟨Nat.le_refl _, Nat.le_refl _⟩ dX2_becomeLike_18 (fun H locs hw => ?_)
      obtain ⟨y_21, hy_21, hf⟩ := gx_b hf
      refine gx_calli (As := [.int y_18]) (ws' := wd_X2_becomeLike cI cZ h_t h_t_cells h_a1 h_a1_cells n_t_cells n_a1_cells y_21.2.1 y_21.2.2 V_a1 V_a1_cells) (isC := [0, 1]) (isR := [2, 3]) (isP := [2, 3, 0, 1]) C hw (ct_X2_add l D cI cZ h_t h_t_cells n_t_cells V_t V_t_cells y_18 hy_21) kl_X2_becomeLike_23 ⟨rfl, rfl⟩ ⟨rfl, rfl, by decide, by decide, by decide, by decide, rfl⟩ 0 rfl rfl rfl rfl hl.1 (Nat.le_of_ble_eq_true rfl) ⟨Nat.le_refl _, Nat.le_refl _⟩ dX2_becomeLike_21 (fun H locs hw => ?_)
      refine lv_pop hx hb dX2_becomeLike_24 rfl ?_
      refine lv_iinc (v := (x2 + 1)) (lv' := [(2, .int (x2 + 1)), (0, .ref h_t), (1, .ref h_a1)]) hx hb dX2_becomeLike_25 hl (k := 2) rfl rfl (by decide) rfl (fun ls hl => ?_)
      refine lv_goto (tgt := 7) hx hb dX2_becomeLike_28 (by decide) ?_
      exact ih y_21.2.1 y_21.2.2 (x2 + 1) _ _ _ (lv_sub hl [1, 2, 0] rfl) hw hf
set_option maxHeartbeats 4000000 in
set_option maxRecDepth 100000 in
theorem ct_X2_becomeLike (l : Launch) (D : va_G) (cI cZ : ClassId) (h_t h_t_cells h_a1 h_a1_cells : Nat) (n_t_cells : Nat) (n_a1_cells : Nat) (V_t V_t_cells V_a1 V_a1_cells : Nat → Int32) {z : (Nat → Int32) × (Nat → Int32)} (hf : fn_X2_becomeLike V_t V_t_cells V_a1 V_a1_cells n_t_cells n_a1_cells = some z) : gx_Mv l yX2_becomeLike wsX2_becomeLike (gx_rm 1) D cI cZ [.ref h_t, .ref h_a1] (wd_X2_becomeLike cI cZ h_t h_t_cells h_a1 h_a1_cells n_t_cells n_a1_cells V_t V_t_cells V_a1 V_a1_cells) (wd_X2_becomeLike cI cZ h_t h_t_cells h_a1 h_a1_cells n_t_cells n_a1_cells z.1 z.2 V_a1 V_a1_cells) := by
  refine gx_ofv (cc := cX2_becomeLike) (own := RX2) (by decide) rfl rfl (Nat.le_of_ble_eq_true rfl) [(0, .ref h_t), (1, .ref h_a1)] rfl ?_
  intro p e s m args below meth c A Q ls C hQ hl hw
  have hx := C.1.1
  have hb := C.1.2.1
  rw [fn_X2_becomeLike] at hf
  refine lv_aload_n hx hb dX2_becomeLike_0 rfl (lv_at hl 0 rfl) ?_
  refine lv_iconst (v := 0) hx hb dX2_becomeLike_1 (by decide) ?_
  refine gx_put (ws' := wd_X2_becomeLike cI cZ h_t h_t_cells h_a1 h_a1_cells n_t_cells n_a1_cells (upd V_t 1 0) V_t_cells V_a1 V_a1_cells) C hw 0 rfl rfl lp_X2_becomeLike_15 rfl rfl rfl dX2_becomeLike_2 (fun H locs hw => ?_)
  refine lv_iconst (v := 0) hx hb dX2_becomeLike_5 (by decide) ?_
  refine lv_istore_n (lv' := [(2, .int 0), (0, .ref h_t), (1, .ref h_a1)]) hx hb dX2_becomeLike_6 rfl hl (by decide) rfl (fun ls hl => ?_)
  exact tm_X2_becomeLike_7 C h_t h_t_cells h_a1 h_a1_cells n_t_cells n_a1_cells V_a1 V_a1_cells hQ  gx_fuel (upd V_t 1 0) V_t_cells 0 _ _ _ (lv_sub hl [1, 2, 0] rfl) hw hf
end
