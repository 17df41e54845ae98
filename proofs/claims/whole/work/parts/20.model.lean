section
variable {p : Program} {l : Launch} {e : Env} {s : State} {m : MethodId} {args : Array Value} {below : List Frame} {meth : Method} {c : Code} {D : va_G} {cI cZ : ClassId} {A : Nat → Prop} {Q : State → Prop}
-- LzwFormsModel.layCodes: touched ['t']; used ['t']; mod ['t']; height 0
theorem lp_X8_layCodes_77 : gx_LP wsX8_layCodes RX8 77 8 21 false .boolean := ⟨_, _, _, tyX8, rfl, by decide +kernel, by decide, by decide +kernel, tyX8_ok, nmX8, by decide +kernel, by decide +kernel, by decide +kernel⟩
def wd_X8_layCodes (cI cZ : ClassId) (h_t h_t_row h_t_tape h_t_codes h_t_widths h_t_begins h_t_spanAt h_t_spanLong h_t_spanOf h_t_out : Nat) (V_t : Nat → Int32) : va_W := [gx_o h_t 8 [none, none, none, none, some (some h_t_row), none, some (some h_t_tape), none, none, none, some (some h_t_codes), some (some h_t_widths), some (some h_t_begins), none, none, none, none, some (some h_t_spanAt), some (some h_t_spanLong), some (some h_t_spanOf), none, none, none, none, some (some h_t_out), none, none, none] V_t]
set_option maxHeartbeats 4000000 in
set_option maxRecDepth 100000 in
theorem ct_X8_layCodes (l : Launch) (D : va_G) (cI cZ : ClassId) (h_t h_t_row h_t_tape h_t_codes h_t_widths h_t_begins h_t_spanAt h_t_spanLong h_t_spanOf h_t_out : Nat) (V_t : Nat → Int32) {z : (Nat → Int32)} (hf : fn_X8_layCodes V_t = some z) : gx_Mv l yX8_layCodes wsX8_layCodes (gx_rm 0) D cI cZ [.ref h_t] (wd_X8_layCodes cI cZ h_t h_t_row h_t_tape h_t_codes h_t_widths h_t_begins h_t_spanAt h_t_spanLong h_t_spanOf h_t_out V_t) (wd_X8_layCodes cI cZ h_t h_t_row h_t_tape h_t_codes h_t_widths h_t_begins h_t_spanAt h_t_spanLong h_t_spanOf h_t_out z) := by
  refine gx_ofv (cc := cX8_layCodes) (own := RX8) (by decide) rfl rfl (Nat.le_of_ble_eq_true rfl) [(0, .ref h_t)] rfl ?_
  intro p e s m args below meth c A Q ls C hQ hl hw
  have hx := C.1.1
  have hb := C.1.2.1
  rw [fn_X8_layCodes] at hf
  refine lv_aload_n hx hb dX8_layCodes_0 rfl (lv_at hl 0 rfl) ?_
  refine lv_iconst (v := 0) hx hb dX8_layCodes_1 (by decide) ?_
  refine gx_put (ws' := wd_X8_layCodes cI cZ h_t h_t_row h_t_tape h_t_codes h_t_widths h_t_begins h_t_spanAt h_t_spanLong h_t_spanOf h_t_out (upd V_t 21 0)) C hw 0 rfl rfl lp_X8_layCodes_77 (gx_nb (Or.inl rfl)) (gx_fb (Or.inl rfl)) rfl dX8_layCodes_2 (fun H locs hw => ?_)
  obtain rfl := Option.some.inj hf
  exact hQ _ _ _ _ dX8_layCodes_5 hw
-- LzwFormsModel.in: touched []; used []; mod []; height 0
def wd_X8_in (cI cZ : ClassId) : va_W := []
set_option maxHeartbeats 4000000 in
set_option maxRecDepth 100000 in
theorem ct_X8_in (l : Launch) (D : va_G) (cI cZ : ClassId) (a1 a2 a3 : Int32) {z : Int32} (hf : fn_X8_in a1 a2 a3 = some z) : gx_Mi l yX8_in wsX8_in (gx_rm 0) D cI cZ [.int a1, .int a2, .int a3] (wd_X8_in cI cZ ) (wd_X8_in cI cZ ) z := by
  refine gx_ofi (cc := cX8_in) (own := RX8) (by decide) rfl rfl (Nat.le_of_ble_eq_true rfl) [(0, .int a1), (1, .int a2), (2, .int a3)] rfl ?_
  intro p e s m args below meth c A Q ls C hQ hl hw
  have hx := C.1.1
  have hb := C.1.2.1
  rw [fn_X8_in] at hf
  refine lv_iload_n hx hb dX8_in_0 rfl (lv_at hl 0 rfl) ?_
  refine lv_iload_n hx hb dX8_in_1 rfl (lv_at hl 1 rfl) ?_
  refine lv_icmp_lt (tgt := 14) hx hb dX8_in_2 (by decide) (fun hc => ?_) (fun hc => ?_)
  · replace hf := gx_t hc hf
    refine lv_iconst (v := 0) hx hb dX8_in_14 (by decide) ?_
    obtain rfl := Option.some.inj hf
    exact hQ _ _ _ _ dX8_in_15 (gx_nb (Or.inl rfl)) hw
  · replace hf := gx_f hc hf
    refine lv_iload_n hx hb dX8_in_5 rfl (lv_at hl 0 rfl) ?_
    refine lv_iload_n hx hb dX8_in_6 rfl (lv_at hl 2 rfl) ?_
    refine lv_icmp_gt (tgt := 14) hx hb dX8_in_7 (by decide) (fun hc => ?_) (fun hc => ?_)
    · replace hf := gx_t hc hf
      refine lv_iconst (v := 0) hx hb dX8_in_14 (by decide) ?_
      obtain rfl := Option.some.inj hf
      exact hQ _ _ _ _ dX8_in_15 (gx_nb (Or.inl rfl)) hw
    · replace hf := gx_f hc hf
      refine lv_iconst (v := 1) hx hb dX8_in_10 (by decide) ?_
      refine lv_goto (tgt := 15) hx hb dX8_in_11 (by decide) ?_
      obtain rfl := Option.some.inj hf
      exact hQ _ _ _ _ dX8_in_15 (gx_nb (Or.inr rfl)) hw
-- LzwFormsModel.firstNumber: touched ['t']; used ['t']; mod []; height 0
theorem ln_X8_firstNumber_7 : gx_L wsX8_firstNumber RX8 7 8 1 := ⟨_, _, _, rfl, by decide +kernel, by decide, Or.inl (by decide +kernel)⟩
theorem ln_X8_firstNumber_54 : gx_L wsX8_firstNumber RX8 54 8 0 := ⟨_, _, _, rfl, by decide +kernel, by decide, Or.inl (by decide +kernel)⟩
def wd_X8_firstNumber (cI cZ : ClassId) (h_t h_t_row h_t_tape h_t_codes h_t_widths h_t_begins h_t_spanAt h_t_spanLong h_t_spanOf h_t_out : Nat) (V_t : Nat → Int32) : va_W := [gx_o h_t 8 [none, none, none, none, some (some h_t_row), none, some (some h_t_tape), none, none, none, some (some h_t_codes), some (some h_t_widths), some (some h_t_begins), none, none, none, none, some (some h_t_spanAt), some (some h_t_spanLong), some (some h_t_spanOf), none, none, none, none, some (some h_t_out), none, none, none] V_t]
set_option maxHeartbeats 4000000 in
set_option maxRecDepth 100000 in
theorem ct_X8_firstNumber (l : Launch) (D : va_G) (cI cZ : ClassId) (h_t h_t_row h_t_tape h_t_codes h_t_widths h_t_begins h_t_spanAt h_t_spanLong h_t_spanOf h_t_out : Nat) (V_t : Nat → Int32) {z : Int32} (hf : fn_X8_firstNumber V_t = some z) : gx_Mi l yX8_firstNumber wsX8_firstNumber (gx_rm 0) D cI cZ [.ref h_t] (wd_X8_firstNumber cI cZ h_t h_t_row h_t_tape h_t_codes h_t_widths h_t_begins h_t_spanAt h_t_spanLong h_t_spanOf h_t_out V_t) (wd_X8_firstNumber cI cZ h_t h_t_row h_t_tape h_t_codes h_t_widths h_t_begins h_t_spanAt h_t_spanLong h_t_spanOf h_t_out V_t) z := by
  refine gx_ofi (cc := cX8_firstNumber) (own := RX8) (by decide) rfl rfl (Nat.le_of_ble_eq_true rfl) [(0, .ref h_t)] rfl ?_
  intro p e s m args below meth c A Q ls C hQ hl hw
  have hx := C.1.1
  have hb := C.1.2.1
  rw [fn_X8_firstNumber] at hf
  refine lv_iconst (v := 1) hx hb dX8_firstNumber_0 (by decide) ?_
  refine lv_aload_n hx hb dX8_firstNumber_1 rfl (lv_at hl 0 rfl) ?_
  refine gx_get (v := .int (V_t 1)) C hw 0 rfl (gx_gj rfl rfl) ln_X8_firstNumber_7 dX8_firstNumber_2 ?_
  refine lv_ishl hx hb dX8_firstNumber_5 ?_
  refine lv_aload_n hx hb dX8_firstNumber_6 rfl (lv_at hl 0 rfl) ?_
  refine gx_get (v := .int (V_t 0)) C hw 0 rfl (gx_gj rfl rfl) ln_X8_firstNumber_54 dX8_firstNumber_7 ?_
  refine lv_iconst (v := 2) hx hb dX8_firstNumber_10 (by decide) ?_
  refine lv_icmp_ne (tgt := 18) hx hb dX8_firstNumber_11 (by decide) (fun hc => ?_) (fun hc => ?_)
  · replace hf := gx_f hc hf
    refine lv_iconst (v := 2) hx hb dX8_firstNumber_18 (by decide) ?_
    refine lv_iadd hx hb dX8_firstNumber_19 ?_
    obtain rfl := Option.some.inj hf
    exact hQ _ _ _ _ dX8_firstNumber_20 rfl hw
  · replace hf := gx_t hc hf
    refine lv_iconst (v := 1) hx hb dX8_firstNumber_14 (by decide) ?_
    refine lv_goto (tgt := 19) hx hb dX8_firstNumber_15 (by decide) ?_
    refine lv_iadd hx hb dX8_firstNumber_19 ?_
    obtain rfl := Option.some.inj hf
    exact hQ _ _ _ _ dX8_firstNumber_20 rfl hw
-- LzwFormsModel.lastNumber: touched ['t']; used ['t']; mod []; height 0
theorem ln_X8_lastNumber_13 : gx_L wsX8_lastNumber RX8 13 8 2 := ⟨_, _, _, rfl, by decide +kernel, by decide, Or.inl (by decide +kernel)⟩
theorem ln_X8_lastNumber_54 : gx_L wsX8_lastNumber RX8 54 8 0 := ⟨_, _, _, rfl, by decide +kernel, by decide, Or.inl (by decide +kernel)⟩
def wd_X8_lastNumber (cI cZ : ClassId) (h_t h_t_row h_t_tape h_t_codes h_t_widths h_t_begins h_t_spanAt h_t_spanLong h_t_spanOf h_t_out : Nat) (V_t : Nat → Int32) : va_W := [gx_o h_t 8 [none, none, none, none, some (some h_t_row), none, some (some h_t_tape), none, none, none, some (some h_t_codes), some (some h_t_widths), some (some h_t_begins), none, none, none, none, some (some h_t_spanAt), some (some h_t_spanLong), some (some h_t_spanOf), none, none, none, none, some (some h_t_out), none, none, none] V_t]
set_option maxHeartbeats 4000000 in
set_option maxRecDepth 100000 in
theorem ct_X8_lastNumber (l : Launch) (D : va_G) (cI cZ : ClassId) (h_t h_t_row h_t_tape h_t_codes h_t_widths h_t_begins h_t_spanAt h_t_spanLong h_t_spanOf h_t_out : Nat) (V_t : Nat → Int32) {z : Int32} (hf : fn_X8_lastNumber V_t = some z) : gx_Mi l yX8_lastNumber wsX8_lastNumber (gx_rm 0) D cI cZ [.ref h_t] (wd_X8_lastNumber cI cZ h_t h_t_row h_t_tape h_t_codes h_t_widths h_t_begins h_t_spanAt h_t_spanLong h_t_spanOf h_t_out V_t) (wd_X8_lastNumber cI cZ h_t h_t_row h_t_tape h_t_codes h_t_widths h_t_begins h_t_spanAt h_t_spanLong h_t_spanOf h_t_out V_t) z := by
  refine gx_ofi (cc := cX8_lastNumber) (own := RX8) (by decide) rfl rfl (Nat.le_of_ble_eq_true rfl) [(0, .ref h_t)] rfl ?_
  intro p e s m args below meth c A Q ls C hQ hl hw
  have hx := C.1.1
  have hb := C.1.2.1
  rw [fn_X8_lastNumber] at hf
  refine lv_iconst (v := 1) hx hb dX8_lastNumber_0 (by decide) ?_
  refine lv_aload_n hx hb dX8_lastNumber_1 rfl (lv_at hl 0 rfl) ?_
  refine gx_get (v := .int (V_t 2)) C hw 0 rfl (gx_gj rfl rfl) ln_X8_lastNumber_13 dX8_lastNumber_2 ?_
  refine lv_ishl hx hb dX8_lastNumber_5 ?_
  refine lv_aload_n hx hb dX8_lastNumber_6 rfl (lv_at hl 0 rfl) ?_
  refine gx_get (v := .int (V_t 0)) C hw 0 rfl (gx_gj rfl rfl) ln_X8_lastNumber_54 dX8_lastNumber_7 ?_
  refine lv_iconst (v := 1) hx hb dX8_lastNumber_10 (by decide) ?_
  refine lv_icmp_ne (tgt := 18) hx hb dX8_lastNumber_11 (by decide) (fun hc => ?_) (fun hc => ?_)
  · replace hf := gx_f hc hf
    refine lv_iconst (v := 0) hx hb dX8_lastNumber_18 (by decide) ?_
    refine lv_isub hx hb dX8_lastNumber_19 ?_
    obtain rfl := Option.some.inj hf
    exact hQ _ _ _ _ dX8_lastNumber_20 rfl hw
  · replace hf := gx_t hc hf
    refine lv_iconst (v := 1) hx hb dX8_lastNumber_14 (by decide) ?_
    refine lv_goto (tgt := 19) hx hb dX8_lastNumber_15 (by decide) ?_
    refine lv_isub hx hb dX8_lastNumber_19 ?_
    obtain rfl := Option.some.inj hf
    exact hQ _ _ _ _ dX8_lastNumber_20 rfl hw
-- LzwFormsModel.countNow: touched ['t']; used ['t']; mod []; height 1
theorem ln_X8_countNow_68 : gx_L wsX8_countNow RX8 68 8 9 := ⟨_, _, _, rfl, by decide +kernel, by decide, Or.inl (by decide +kernel)⟩
theorem kl_X8_countNow_64 : gx_KV wsX8_countNow RX8 64 yX8_firstNumber cX8_firstNumber 1 (some .int) wsX8_firstNumber (gx_rm 0) (gx_rm 1) 0 := ⟨gX8_countNow_X8_firstNumber, ⟨_, rfl⟩, ⟨by decide, by decide, by decide +kernel⟩, ⟨by decide, by decide⟩⟩
theorem kl_X8_countNow_71 : gx_KV wsX8_countNow RX8 71 yX8_lastNumber cX8_lastNumber 1 (some .int) wsX8_lastNumber (gx_rm 0) (gx_rm 1) 0 := ⟨gX8_countNow_X8_lastNumber, ⟨_, rfl⟩, ⟨by decide, by decide, by decide +kernel⟩, ⟨by decide, by decide⟩⟩
def wd_X8_countNow (cI cZ : ClassId) (h_t h_t_row h_t_tape h_t_codes h_t_widths h_t_begins h_t_spanAt h_t_spanLong h_t_spanOf h_t_out : Nat) (V_t : Nat → Int32) : va_W := [gx_o h_t 8 [none, none, none, none, some (some h_t_row), none, some (some h_t_tape), none, none, none, some (some h_t_codes), some (some h_t_widths), some (some h_t_begins), none, none, none, none, some (some h_t_spanAt), some (some h_t_spanLong), some (some h_t_spanOf), none, none, none, none, some (some h_t_out), none, none, none] V_t]
set_option maxHeartbeats 4000000 in
set_option maxRecDepth 100000 in
theorem tm_X8_countNow_21 (C : gx_C cX8_countNow 2 wsX8_countNow RX8 D cI cZ p s m args c) (h_t h_t_row h_t_tape h_t_codes h_t_widths h_t_begins h_t_spanAt h_t_spanLong h_t_spanOf h_t_out : Nat) (V_t : Nat → Int32) {z : Int32} (hQ : gx_Qi cX8_countNow .int p l e (gx_rm 1) s m args below meth c D A Q (wd_X8_countNow cI cZ h_t h_t_row h_t_tape h_t_codes h_t_widths h_t_begins h_t_spanAt h_t_spanLong h_t_spanOf h_t_out V_t) z) : ∀ (s0 s1 : Int32) (ls : Array Slot) (H : Heap) (locs : List Loc), lv_has ls 2 [(0, .ref h_t)] → gx_W D A s (wd_X8_countNow cI cZ h_t h_t_row h_t_tape h_t_codes h_t_widths h_t_begins h_t_spanAt h_t_spanLong h_t_spanOf h_t_out V_t) H locs → fn_X8_countNow_j21 V_t s0 s1 = some z → W p l e (gx_rm 1) s m args below meth c H locs 0 0 Q (F0 m 21 ls [.int s1, .int s0]) := by
  have hx := C.1.1
  have hb := C.1.2.1
  intro s0 s1 ls H locs hl hw hf
  rw [fn_X8_countNow_j21] at hf
  refine lv_iadd hx hb dX8_countNow_21 ?_
  refine lv_istore_n (lv' := [(1, .int (s0 + s1)), (0, .ref h_t)]) hx hb dX8_countNow_22 rfl hl (by decide) rfl (fun ls hl => ?_)
  refine lv_iload_n hx hb dX8_countNow_23 rfl (lv_at hl 0 rfl) ?_
  refine lv_aload_n hx hb dX8_countNow_24 rfl (lv_at hl 1 rfl) ?_
  obtain ⟨y_25, hy_25, hf⟩ := gx_b hf
  refine gx_calli (As := []) (ws' := wd_X8_countNow cI cZ h_t h_t_row h_t_tape h_t_codes h_t_widths h_t_begins h_t_spanAt h_t_spanLong h_t_spanOf h_t_out V_t) (isC := [0]) (isR := []) (isP := [0]) C hw (ct_X8_lastNumber l D cI cZ h_t h_t_row h_t_tape h_t_codes h_t_widths h_t_begins h_t_spanAt h_t_spanLong h_t_spanOf h_t_out V_t hy_25) kl_X8_countNow_71 ⟨rfl, rfl⟩ ⟨rfl, rfl, by decide, by decide, by decide, by decide, rfl⟩ 0 rfl rfl rfl rfl hl.1 (Nat.le_of_ble_eq_true rfl) ⟨Nat.le_refl _, Nat.le_refl _⟩ dX8_countNow_25 (fun H locs hw => ?_)
  refine lv_icmp_ge (tgt := 35) hx hb dX8_countNow_28 (by decide) (fun hc => ?_) (fun hc => ?_)
  · replace hf := gx_t hc hf
    refine lv_aload_n hx hb dX8_countNow_35 rfl (lv_at hl 1 rfl) ?_
    obtain ⟨y_36, hy_36, hf⟩ := gx_b hf
    refine gx_calli (As := []) (ws' := wd_X8_countNow cI cZ h_t h_t_row h_t_tape h_t_codes h_t_widths h_t_begins h_t_spanAt h_t_spanLong h_t_spanOf h_t_out V_t) (isC := [0]) (isR := []) (isP := [0]) C hw (ct_X8_lastNumber l D cI cZ h_t h_t_row h_t_tape h_t_codes h_t_widths h_t_begins h_t_spanAt h_t_spanLong h_t_spanOf h_t_out V_t hy_36) kl_X8_countNow_71 ⟨rfl, rfl⟩ ⟨rfl, rfl, by decide, by decide, by decide, by decide, rfl⟩ 0 rfl rfl rfl rfl hl.1 (Nat.le_of_ble_eq_true rfl) ⟨Nat.le_refl _, Nat.le_refl _⟩ dX8_countNow_36 (fun H locs hw => ?_)
    obtain rfl := Option.some.inj hf
    exact hQ _ _ _ _ dX8_countNow_39 rfl hw
  · replace hf := gx_f hc hf
    refine lv_iload_n hx hb dX8_countNow_31 rfl (lv_at hl 0 rfl) ?_
    refine lv_goto (tgt := 39) hx hb dX8_countNow_32 (by decide) ?_
    obtain rfl := Option.some.inj hf
    exact hQ _ _ _ _ dX8_countNow_39 rfl hw
set_option maxHeartbeats 4000000 in
set_option maxRecDepth 100000 in
theorem ct_X8_countNow (l : Launch) (D : va_G) (cI cZ : ClassId) (h_t h_t_row h_t_tape h_t_codes h_t_widths h_t_begins h_t_spanAt h_t_spanLong h_t_spanOf h_t_out : Nat) (V_t : Nat → Int32) {z : Int32} (hf : fn_X8_countNow V_t = some z) : gx_Mi l yX8_countNow wsX8_countNow (gx_rm 1) D cI cZ [.ref h_t] (wd_X8_countNow cI cZ h_t h_t_row h_t_tape h_t_codes h_t_widths h_t_begins h_t_spanAt h_t_spanLong h_t_spanOf h_t_out V_t) (wd_X8_countNow cI cZ h_t h_t_row h_t_tape h_t_codes h_t_widths h_t_begins h_t_spanAt h_t_spanLong h_t_spanOf h_t_out V_t) z := by
  refine gx_ofi (cc := cX8_countNow) (own := RX8) (by decide) rfl rfl (Nat.le_of_ble_eq_true rfl) [(0, .ref h_t)] rfl ?_
  intro p e s m args below meth c A Q ls C hQ hl hw
  have hx := C.1.1
  have hb := C.1.2.1
  rw [fn_X8_countNow] at hf
  refine lv_aload_n hx hb dX8_countNow_0 rfl (lv_at hl 0 rfl) ?_
  obtain ⟨y_1, hy_1, hf⟩ := gx_b hf
  refine gx_calli (As := []) (ws' := wd_X8_countNow cI cZ h_t h_t_row h_t_tape h_t_codes h_t_widths h_t_begins h_t_spanAt h_t_spanLong h_t_spanOf h_t_out V_t) (isC := [0]) (isR := []) (isP := [0]) C hw (ct_X8_firstNumber l D cI cZ h_t h_t_row h_t_tape h_t_codes h_t_widths h_t_begins h_t_spanAt h_t_spanLong h_t_spanOf h_t_out V_t hy_1) kl_X8_countNow_64 ⟨rfl, rfl⟩ ⟨rfl, rfl, by decide, by decide, by decide, by decide, rfl⟩ 0 rfl rfl rfl rfl hl.1 (Nat.le_of_ble_eq_true rfl) ⟨Nat.le_refl _, Nat.le_refl _⟩ dX8_countNow_1 (fun H locs hw => ?_)
  refine lv_aload_n hx hb dX8_countNow_4 rfl (lv_at hl 0 rfl) ?_
  refine gx_get (v := .int (V_t 9)) C hw 0 rfl (gx_gj rfl rfl) ln_X8_countNow_68 dX8_countNow_5 ?_
  refine lv_if_le (tgt := 20) hx hb dX8_countNow_8 (by decide) (fun hc => ?_) (fun hc => ?_)
  · replace hf := gx_t hc hf
    refine lv_iconst (v := 0) hx hb dX8_countNow_20 (by decide) ?_
    exact tm_X8_countNow_21 C h_t h_t_row h_t_tape h_t_codes h_t_widths h_t_begins h_t_spanAt h_t_spanLong h_t_spanOf h_t_out V_t hQ  y_1 0 _ _ _ (lv_sub hl [0] rfl) hw hf
  · replace hf := gx_f hc hf
    refine lv_aload_n hx hb dX8_countNow_11 rfl (lv_at hl 0 rfl) ?_
    refine gx_get (v := .int (V_t 9)) C hw 0 rfl (gx_gj rfl rfl) ln_X8_countNow_68 dX8_countNow_12 ?_
    refine lv_iconst (v := 1) hx hb dX8_countNow_15 (by decide) ?_
    refine lv_isub hx hb dX8_countNow_16 ?_
    refine lv_goto (tgt := 21) hx hb dX8_countNow_17 (by decide) ?_
    exact tm_X8_countNow_21 C h_t h_t_row h_t_tape h_t_codes h_t_widths h_t_begins h_t_spanAt h_t_spanLong h_t_spanOf h_t_out V_t hQ  y_1 ((V_t 9) - 1) _ _ _ (lv_sub hl [0] rfl) hw hf
-- LzwFormsModel.widthNow: touched ['t']; used ['t']; mod []; height 2
theorem ln_X8_widthNow_7 : gx_L wsX8_widthNow RX8 7 8 1 := ⟨_, _, _, rfl, by decide +kernel, by decide, Or.inl (by decide +kernel)⟩
theorem ln_X8_widthNow_13 : gx_L wsX8_widthNow RX8 13 8 2 := ⟨_, _, _, rfl, by decide +kernel, by decide, Or.inl (by decide +kernel)⟩
theorem ln_X8_widthNow_54 : gx_L wsX8_widthNow RX8 54 8 0 := ⟨_, _, _, rfl, by decide +kernel, by decide, Or.inl (by decide +kernel)⟩
theorem kl_X8_widthNow_74 : gx_KV wsX8_widthNow RX8 74 yX8_countNow cX8_countNow 2 (some .int) wsX8_countNow (gx_rm 1) (gx_rm 2) 0 := ⟨gX8_widthNow_X8_countNow, ⟨_, rfl⟩, ⟨by decide, by decide, by decide +kernel⟩, ⟨by decide, by decide⟩⟩
def wd_X8_widthNow (cI cZ : ClassId) (h_t h_t_row h_t_tape h_t_codes h_t_widths h_t_begins h_t_spanAt h_t_spanLong h_t_spanOf h_t_out : Nat) (V_t : Nat → Int32) : va_W := [gx_o h_t 8 [none, none, none, none, some (some h_t_row), none, some (some h_t_tape), none, none, none, some (some h_t_codes), some (some h_t_widths), some (some h_t_begins), none, none, none, none, some (some h_t_spanAt), some (some h_t_spanLong), some (some h_t_spanOf), none, none, none, none, some (some h_t_out), none, none, none] V_t]
set_option maxHeartbeats 4000000 in
set_option maxRecDepth 100000 in
theorem tm_X8_widthNow_37 (C : gx_C cX8_widthNow 3 wsX8_widthNow RX8 D cI cZ p s m args c) (h_t h_t_row h_t_tape h_t_codes h_t_widths h_t_begins h_t_spanAt h_t_spanLong h_t_spanOf h_t_out : Nat) (V_t : Nat → Int32) {z : Int32} (hQ : gx_Qi cX8_widthNow .int p l e (gx_rm 2) s m args below meth c D A Q (wd_X8_widthNow cI cZ h_t h_t_row h_t_tape h_t_codes h_t_widths h_t_begins h_t_spanAt h_t_spanLong h_t_spanOf h_t_out V_t) z) (K12 : Int32 → Int32 → Option (Int32)) (hK12 : ∀ (x1 x2 : Int32) (ls : Array Slot) (H : Heap) (locs : List Loc), lv_has ls 3 [(0, .ref h_t), (1, .int x1), (2, .int x2)] → gx_W D A s (wd_X8_widthNow cI cZ h_t h_t_row h_t_tape h_t_codes h_t_widths h_t_begins h_t_spanAt h_t_spanLong h_t_spanOf h_t_out V_t) H locs → K12 x1 x2 = some z → W p l e (gx_rm 2) s m args below meth c H locs 0 0 Q (F0 m 12 ls [])) : ∀ (x1 x2 s0 s1 s2 : Int32) (ls : Array Slot) (H : Heap) (locs : List Loc), lv_has ls 3 [(0, .ref h_t), (1, .int x1), (2, .int x2)] → gx_W D A s (wd_X8_widthNow cI cZ h_t h_t_row h_t_tape h_t_codes h_t_widths h_t_begins h_t_spanAt h_t_spanLong h_t_spanOf h_t_out V_t) H locs → fn_X8_widthNow_j37 V_t K12 x1 x2 s0 s1 s2 = some z → W p l e (gx_rm 2) s m args below meth c H locs 0 0 Q (F0 m 37 ls [.int s2, .int s1, .int s0]) := by
  have hx := C.1.1
  have hb := C.1.2.1
  intro x1 x2 s0 s1 s2 ls H locs hl hw hf
  rw [fn_X8_widthNow_j37] at hf
  refine lv_isub hx hb dX8_widthNow_37 ?_
  refine lv_icmp_lt (tgt := 47) hx hb dX8_widthNow_38 (by decide) (fun hc => ?_) (fun hc => ?_)
  · replace hf := gx_t hc hf
    refine lv_iload_n hx hb dX8_widthNow_47 rfl (lv_at hl 1 rfl) ?_
    obtain rfl := Option.some.inj hf
    exact hQ _ _ _ _ dX8_widthNow_48 rfl hw
  · replace hf := gx_f hc hf
    refine lv_iinc (v := (x1 + 1)) (lv' := [(1, .int (x1 + 1)), (0, .ref h_t), (2, .int x2)]) hx hb dX8_widthNow_41 hl (k := 1) rfl rfl (by decide) rfl (fun ls hl => ?_)
    refine lv_goto (tgt := 12) hx hb dX8_widthNow_44 (by decide) ?_
    exact hK12 (x1 + 1) x2 _ _ _ (lv_sub hl [1, 0, 2] rfl) hw hf
set_option maxHeartbeats 4000000 in
set_option maxRecDepth 100000 in
theorem tm_X8_widthNow_12 (C : gx_C cX8_widthNow 3 wsX8_widthNow RX8 D cI cZ p s m args c) (h_t h_t_row h_t_tape h_t_codes h_t_widths h_t_begins h_t_spanAt h_t_spanLong h_t_spanOf h_t_out : Nat) (V_t : Nat → Int32) {z : Int32} (hQ : gx_Qi cX8_widthNow .int p l e (gx_rm 2) s m args below meth c D A Q (wd_X8_widthNow cI cZ h_t h_t_row h_t_tape h_t_codes h_t_widths h_t_begins h_t_spanAt h_t_spanLong h_t_spanOf h_t_out V_t) z) : ∀ (n : Nat), (∀ (x1 x2 : Int32) (ls : Array Slot) (H : Heap) (locs : List Loc), lv_has ls 3 [(0, .ref h_t), (1, .int x1), (2, .int x2)] → gx_W D A s (wd_X8_widthNow cI cZ h_t h_t_row h_t_tape h_t_codes h_t_widths h_t_begins h_t_spanAt h_t_spanLong h_t_spanOf h_t_out V_t) H locs → fn_X8_widthNow_l12 V_t n x1 x2 = some z → W p l e (gx_rm 2) s m args below meth c H locs 0 0 Q (F0 m 12 ls [])) := by
  have hx := C.1.1
  have hb := C.1.2.1
  intro n
  induction n with
  | zero => intro x1 x2 ls H locs hl hw hf; rw [fn_X8_widthNow_l12] at hf; cases hf
  | succ n ih =>
    intro x1 x2 ls H locs hl hw hf
    rw [fn_X8_widthNow_l12] at hf
    refine lv_iload_n hx hb dX8_widthNow_12 rfl (lv_at hl 1 rfl) ?_
    refine lv_aload_n hx hb dX8_widthNow_13 rfl (lv_at hl 0 rfl) ?_
    refine gx_get (v := .int (V_t 2)) C hw 0 rfl (gx_gj rfl rfl) ln_X8_widthNow_13 dX8_widthNow_14 ?_
    refine lv_icmp_ge (tgt := 47) hx hb dX8_widthNow_17 (by decide) (fun hc => ?_) (fun hc => ?_)
    · replace hf := gx_t hc hf
      refine lv_iload_n hx hb dX8_widthNow_47 rfl (lv_at hl 1 rfl) ?_
      obtain rfl := Option.some.inj hf
      exact hQ _ _ _ _ dX8_widthNow_48 rfl hw
    · replace hf := gx_f hc hf
      refine lv_iload_n hx hb dX8_widthNow_20 rfl (lv_at hl 2 rfl) ?_
      refine lv_iconst (v := 1) hx hb dX8_widthNow_21 (by decide) ?_
      refine lv_iload_n hx hb dX8_widthNow_22 rfl (lv_at hl 1 rfl) ?_
      refine lv_ishl hx hb dX8_widthNow_23 ?_
      refine lv_aload_n hx hb dX8_widthNow_24 rfl (lv_at hl 0 rfl) ?_
      refine gx_get (v := .int (V_t 0)) C hw 0 rfl (gx_gj rfl rfl) ln_X8_widthNow_54 dX8_widthNow_25 ?_
      refine lv_iconst (v := 1) hx hb dX8_widthNow_28 (by decide) ?_
      refine lv_icmp_ne (tgt := 36) hx hb dX8_widthNow_29 (by decide) (fun hc => ?_) (fun hc => ?_)
      · replace hf := gx_f hc hf
        refine lv_iconst (v := 0) hx hb dX8_widthNow_36 (by decide) ?_
        exact tm_X8_widthNow_37 C h_t h_t_row h_t_tape h_t_codes h_t_widths h_t_begins h_t_spanAt h_t_spanLong h_t_spanOf h_t_out V_t hQ (fn_X8_widthNow_l12 V_t n) ih x1 x2 x2 (1 <<< (x1 &&& 31)) 0 _ _ _ (lv_sub hl [0, 1, 2] rfl) hw hf
      · replace hf := gx_t hc hf
        refine lv_iconst (v := 1) hx hb dX8_widthNow_32 (by decide) ?_
        refine lv_goto (tgt := 37) hx hb dX8_widthNow_33 (by decide) ?_
        exact tm_X8_widthNow_37 C h_t h_t_row h_t_tape h_t_codes h_t_widths h_t_begins h_t_spanAt h_t_spanLong h_t_spanOf h_t_out V_t hQ (fn_X8_widthNow_l12 V_t n) ih x1 x2 x2 (1 <<< (x1 &&& 31)) 1 _ _ _ (lv_sub hl [0, 1, 2] rfl) hw hf
set_option maxHeartbeats 4000000 in
set_option maxRecDepth 100000 in
theorem ct_X8_widthNow (l : Launch) (D : va_G) (cI cZ : ClassId) (h_t h_t_row h_t_tape h_t_codes h_t_widths h_t_begins h_t_spanAt h_t_spanLong h_t_spanOf h_t_out : Nat) (V_t : Nat → Int32) {z : Int32} (hf : fn_X8_widthNow V_t = some z) : gx_Mi l yX8_widthNow wsX8_widthNow (gx_rm 2) D cI cZ [.ref h_t] (wd_X8_widthNow cI cZ h_t h_t_row h_t_tape h_t_codes h_t_widths h_t_begins h_t_spanAt h_t_spanLong h_t_spanOf h_t_out V_t) (wd_X8_widthNow cI cZ h_t h_t_row h_t_tape h_t_codes h_t_widths h_t_begins h_t_spanAt h_t_spanLong h_t_spanOf h_t_out V_t) z := by
  refine gx_ofi (cc := cX8_widthNow) (own := RX8) (by decide) rfl rfl (Nat.le_of_ble_eq_true rfl) [(0, .ref h_t)] rfl ?_
  intro p e s m args below meth c A Q ls C hQ hl hw
  have hx := C.1.1
  have hb := C.1.2.1
  rw [fn_X8_widthNow] at hf
  refine lv_aload_n hx hb dX8_widthNow_0 rfl (lv_at hl 0 rfl) ?_
  refine gx_get (v := .int (V_t 1)) C hw 0 rfl (gx_gj rfl rfl) ln_X8_widthNow_7 dX8_widthNow_1 ?_
  refine lv_iconst (v := 1) hx hb dX8_widthNow_4 (by decide) ?_
  refine lv_iadd hx hb dX8_widthNow_5 ?_
  refine lv_istore_n (lv' := [(1, .int ((V_t 1) + 1)), (0, .ref h_t)]) hx hb dX8_widthNow_6 rfl hl (by decide) rfl (fun ls hl => ?_)
  refine lv_aload_n hx hb dX8_widthNow_7 rfl (lv_at hl 1 rfl) ?_
  obtain ⟨y_8, hy_8, hf⟩ := gx_b hf
  refine gx_calli (As := []) (ws' := wd_X8_widthNow cI cZ h_t h_t_row h_t_tape h_t_codes h_t_widths h_t_begins h_t_spanAt h_t_spanLong h_t_spanOf h_t_out V_t) (isC := [0]) (isR := []) (isP := [0]) C hw (ct_X8_countNow l D cI cZ h_t h_t_row h_t_tape h_t_codes h_t_widths h_t_begins h_t_spanAt h_t_spanLong h_t_spanOf h_t_out V_t hy_8) kl_X8_widthNow_74 ⟨rfl, rfl⟩ ⟨rfl, rfl, by decide, by decide, by decide, by decide, rfl⟩ 0 rfl rfl rfl rfl hl.1 (Nat.le_of_ble_eq_true rfl) ⟨Nat.le_refl _, Nat.le_refl _⟩ dX8_widthNow_8 (fun H locs hw => ?_)
  refine lv_istore_n (lv' := [(2, .int y_8), (1, .int ((V_t 1) + 1)), (0, .ref h_t)]) hx hb dX8_widthNow_11 rfl hl (by decide) rfl (fun ls hl => ?_)
  exact tm_X8_widthNow_12 C h_t h_t_row h_t_tape h_t_codes h_t_widths h_t_begins h_t_spanAt h_t_spanLong h_t_spanOf h_t_out V_t hQ  gx_fuel ((V_t 1) + 1) y_8 _ _ _ (lv_sub hl [2, 1, 0] rfl) hw hf
-- LzwFormsModel.add: touched ['t', 't_codes', 't_widths', 't_begins']; used ['t', 't_codes', 't_widths', 't_begins']; mod ['t', 't_codes', 't_widths', 't_begins']; height 3
theorem ln_X8_add_7 : gx_L wsX8_add RX8 7 8 1 := ⟨_, _, _, rfl, by decide +kernel, by decide, Or.inl (by decide +kernel)⟩
theorem ln_X8_add_30 : gx_L wsX8_add RX8 30 8 10 := ⟨_, _, _, rfl, by decide +kernel, by decide, Or.inl (by decide +kernel)⟩
theorem ln_X8_add_33 : gx_L wsX8_add RX8 33 8 11 := ⟨_, _, _, rfl, by decide +kernel, by decide, Or.inl (by decide +kernel)⟩
theorem ln_X8_add_36 : gx_L wsX8_add RX8 36 8 12 := ⟨_, _, _, rfl, by decide +kernel, by decide, Or.inl (by decide +kernel)⟩
theorem ln_X8_add_54 : gx_L wsX8_add RX8 54 8 0 := ⟨_, _, _, rfl, by decide +kernel, by decide, Or.inl (by decide +kernel)⟩
theorem ln_X8_add_84 : gx_L wsX8_add RX8 84 8 13 := ⟨_, _, _, rfl, by decide +kernel, by decide, Or.inl (by decide +kernel)⟩
theorem lp_X8_add_84 : gx_LP wsX8_add RX8 84 8 13 false .int := ⟨_, _, _, tyX8, rfl, by decide +kernel, by decide, by decide +kernel, tyX8_ok, nmX8, by decide +kernel, by decide +kernel, by decide +kernel⟩
theorem ln_X8_add_87 : gx_L wsX8_add RX8 87 8 14 := ⟨_, _, _, rfl, by decide +kernel, by decide, Or.inl (by decide +kernel)⟩
theorem lp_X8_add_87 : gx_LP wsX8_add RX8 87 8 14 false .int := ⟨_, _, _, tyX8, rfl, by decide +kernel, by decide, by decide +kernel, tyX8_ok, nmX8, by decide +kernel, by decide +kernel, by decide +kernel⟩
theorem ln_X8_add_90 : gx_L wsX8_add RX8 90 8 16 := ⟨_, _, _, rfl, by decide +kernel, by decide, Or.inl (by decide +kernel)⟩
theorem lp_X8_add_90 : gx_LP wsX8_add RX8 90 8 16 false .int := ⟨_, _, _, tyX8, rfl, by decide +kernel, by decide, by decide +kernel, tyX8_ok, nmX8, by decide +kernel, by decide +kernel, by decide +kernel⟩
theorem kl_X8_add_81 : gx_KV wsX8_add RX8 81 yX8_widthNow cX8_widthNow 3 (some .int) wsX8_widthNow (gx_rm 2) (gx_rm 3) 0 := ⟨gX8_add_X8_widthNow, ⟨_, rfl⟩, ⟨by decide, by decide, by decide +kernel⟩, ⟨by decide, by decide⟩⟩
def wd_X8_add (cI cZ : ClassId) (h_t h_t_row h_t_tape h_t_codes h_t_widths h_t_begins h_t_spanAt h_t_spanLong h_t_spanOf h_t_out : Nat) (V_t V_t_codes V_t_widths V_t_begins : Nat → Int32) : va_W := [gx_o h_t 8 [none, none, none, none, some (some h_t_row), none, some (some h_t_tape), none, none, none, some (some h_t_codes), some (some h_t_widths), some (some h_t_begins), none, none, none, none, some (some h_t_spanAt), some (some h_t_spanLong), some (some h_t_spanOf), none, none, none, none, some (some h_t_out), none, none, none] V_t, gx_a h_t_codes cI 700 V_t_codes, gx_a h_t_widths cI 700 V_t_widths, gx_a h_t_begins cI 700 V_t_begins]
set_option maxHeartbeats 4000000 in
set_option maxRecDepth 100000 in
theorem tm_X8_add_114 (C : gx_C cX8_add 4 wsX8_add RX8 D cI cZ p s m args c) (h_t h_t_row h_t_tape h_t_codes h_t_widths h_t_begins h_t_spanAt h_t_spanLong h_t_spanOf h_t_out : Nat) {z : (Nat → Int32) × (Nat → Int32) × (Nat → Int32) × (Nat → Int32)} (hQ : gx_Qv cX8_add p l e (gx_rm 3) s m args below meth c D A Q (wd_X8_add cI cZ h_t h_t_row h_t_tape h_t_codes h_t_widths h_t_begins h_t_spanAt h_t_spanLong h_t_spanOf h_t_out z.1 z.2.1 z.2.2.1 z.2.2.2)) : ∀ (V_t V_t_codes V_t_widths V_t_begins : Nat → Int32) (x1 x2 s1 : Int32) (ls : Array Slot) (H : Heap) (locs : List Loc), lv_has ls 4 [(0, .ref h_t), (1, .int x1), (2, .int x2)] → gx_W D A s (wd_X8_add cI cZ h_t h_t_row h_t_tape h_t_codes h_t_widths h_t_begins h_t_spanAt h_t_spanLong h_t_spanOf h_t_out V_t V_t_codes V_t_widths V_t_begins) H locs → fn_X8_add_j114 V_t V_t_codes V_t_widths V_t_begins x1 x2 s1 = some z → W p l e (gx_rm 3) s m args below meth c H locs 0 0 Q (F0 m 114 ls [.int s1, .ref h_t]) := by
  have hx := C.1.1
  have hb := C.1.2.1
  intro V_t V_t_codes V_t_widths V_t_begins x1 x2 s1 ls H locs hl hw hf
  rw [fn_X8_add_j114] at hf
  refine gx_put (ws' := wd_X8_add cI cZ h_t h_t_row h_t_tape h_t_codes h_t_widths h_t_begins h_t_spanAt h_t_spanLong h_t_spanOf h_t_out (upd V_t 16 s1) V_t_codes V_t_widths V_t_begins) C hw 0 rfl rfl lp_X8_add_90 rfl rfl rfl dX8_add_114 (fun H locs hw => ?_)
  refine lv_aload_n hx hb dX8_add_117 rfl (lv_at hl 0 rfl) ?_
  refine gx_get C hw 0 rfl (gx_gr rfl) ln_X8_add_30 dX8_add_118 ?_
  refine lv_aload_n hx hb dX8_add_121 rfl (lv_at hl 0 rfl) ?_
  refine gx_get (v := .int (V_t 13)) C hw 0 rfl (gx_gj rfl ((pk_un (by decide)).trans rfl)) ln_X8_add_84 dX8_add_122 ?_
  refine lv_iload_n hx hb dX8_add_125 rfl (lv_at hl 1 rfl) ?_
  obtain ⟨hi_126, hf⟩ := gx_g hf
  refine gx_iast (ws' := wd_X8_add cI cZ h_t h_t_row h_t_tape h_t_codes h_t_widths h_t_begins h_t_spanAt h_t_spanLong h_t_spanOf h_t_out (upd V_t 16 s1) (upd V_t_codes (V_t 13).toNatClampNeg x1) V_t_widths V_t_begins) C hw 1 rfl hi_126 rfl dX8_add_126 (fun H locs hw => ?_)
  refine lv_aload_n hx hb dX8_add_127 rfl (lv_at hl 0 rfl) ?_
  refine gx_get C hw 0 rfl (gx_gr rfl) ln_X8_add_33 dX8_add_128 ?_
  refine lv_aload_n hx hb dX8_add_131 rfl (lv_at hl 0 rfl) ?_
  refine gx_get (v := .int (V_t 13)) C hw 0 rfl (gx_gj rfl ((pk_un (by decide)).trans rfl)) ln_X8_add_84 dX8_add_132 ?_
  refine lv_iload_n hx hb dX8_add_135 rfl (lv_at hl 2 rfl) ?_
  obtain ⟨hi_136, hf⟩ := gx_g hf
  refine gx_iast (ws' := wd_X8_add cI cZ h_t h_t_row h_t_tape h_t_codes h_t_widths h_t_begins h_t_spanAt h_t_spanLong h_t_spanOf h_t_out (upd V_t 16 s1) (upd V_t_codes (V_t 13).toNatClampNeg x1) (upd V_t_widths (V_t 13).toNatClampNeg x2) V_t_begins) C hw 2 rfl hi_136 rfl dX8_add_136 (fun H locs hw => ?_)
  refine lv_aload_n hx hb dX8_add_137 rfl (lv_at hl 0 rfl) ?_
  refine gx_get C hw 0 rfl (gx_gr rfl) ln_X8_add_36 dX8_add_138 ?_
  refine lv_aload_n hx hb dX8_add_141 rfl (lv_at hl 0 rfl) ?_
  refine gx_get (v := .int (V_t 13)) C hw 0 rfl (gx_gj rfl ((pk_un (by decide)).trans rfl)) ln_X8_add_84 dX8_add_142 ?_
  refine lv_aload_n hx hb dX8_add_145 rfl (lv_at hl 0 rfl) ?_
  refine gx_get (v := .int (V_t 14)) C hw 0 rfl (gx_gj rfl ((pk_un (by decide)).trans rfl)) ln_X8_add_87 dX8_add_146 ?_
  obtain ⟨hi_149, hf⟩ := gx_g hf
  refine gx_iast (ws' := wd_X8_add cI cZ h_t h_t_row h_t_tape h_t_codes h_t_widths h_t_begins h_t_spanAt h_t_spanLong h_t_spanOf h_t_out (upd V_t 16 s1) (upd V_t_codes (V_t 13).toNatClampNeg x1) (upd V_t_widths (V_t 13).toNatClampNeg x2) (upd V_t_begins (V_t 13).toNatClampNeg (V_t 14))) C hw 3 rfl hi_149 rfl dX8_add_149 (fun H locs hw => ?_)
  refine lv_aload_n hx hb dX8_add_150 rfl (lv_at hl 0 rfl) ?_
  refine lv_dup hx hb dX8_add_151 rfl ?_
  refine gx_get (v := .int (V_t 14)) C hw 0 rfl (gx_gj rfl ((pk_un (by decide)).trans rfl)) ln_X8_add_87 dX8_add_152 ?_
  refine lv_iload_n hx hb dX8_add_155 rfl (lv_at hl 2 rfl) ?_
  refine lv_iadd hx hb dX8_add_156 ?_
  refine gx_put (ws' := wd_X8_add cI cZ h_t h_t_row h_t_tape h_t_codes h_t_widths h_t_begins h_t_spanAt h_t_spanLong h_t_spanOf h_t_out (upd (upd V_t 16 s1) 14 ((V_t 14) + x2)) (upd V_t_codes (V_t 13).toNatClampNeg x1) (upd V_t_widths (V_t 13).toNatClampNeg x2) (upd V_t_begins (V_t 13).toNatClampNeg (V_t 14))) C hw 0 rfl rfl lp_X8_add_87 rfl rfl rfl dX8_add_157 (fun H locs hw => ?_)
  refine lv_aload_n hx hb dX8_add_160 rfl (lv_at hl 0 rfl) ?_
  refine lv_dup hx hb dX8_add_161 rfl ?_
  refine gx_get (v := .int (V_t 13)) C hw 0 rfl (gx_gj rfl ((pk_un (by decide)).trans ((pk_un (by decide)).trans rfl))) ln_X8_add_84 dX8_add_162 ?_
  refine lv_iconst (v := 1) hx hb dX8_add_165 (by decide) ?_
  refine lv_iadd hx hb dX8_add_166 ?_
  refine gx_put (ws' := wd_X8_add cI cZ h_t h_t_row h_t_tape h_t_codes h_t_widths h_t_begins h_t_spanAt h_t_spanLong h_t_spanOf h_t_out (upd (upd (upd V_t 16 s1) 14 ((V_t 14) + x2)) 13 ((V_t 13) + 1)) (upd V_t_codes (V_t 13).toNatClampNeg x1) (upd V_t_widths (V_t 13).toNatClampNeg x2) (upd V_t_begins (V_t 13).toNatClampNeg (V_t 14))) C hw 0 rfl rfl lp_X8_add_84 rfl rfl rfl dX8_add_167 (fun H locs hw => ?_)
  obtain rfl := Option.some.inj hf
  exact hQ _ _ _ _ dX8_add_170 hw
set_option maxHeartbeats 4000000 in
set_option maxRecDepth 100000 in
theorem tm_X8_add_96 (C : gx_C cX8_add 4 wsX8_add RX8 D cI cZ p s m args c) (h_t h_t_row h_t_tape h_t_codes h_t_widths h_t_begins h_t_spanAt h_t_spanLong h_t_spanOf h_t_out : Nat) {z : (Nat → Int32) × (Nat → Int32) × (Nat → Int32) × (Nat → Int32)} (hQ : gx_Qv cX8_add p l e (gx_rm 3) s m args below meth c D A Q (wd_X8_add cI cZ h_t h_t_row h_t_tape h_t_codes h_t_widths h_t_begins h_t_spanAt h_t_spanLong h_t_spanOf h_t_out z.1 z.2.1 z.2.2.1 z.2.2.2)) : ∀ (V_t V_t_codes V_t_widths V_t_begins : Nat → Int32) (x1 x2 x3 : Int32) (ls : Array Slot) (H : Heap) (locs : List Loc), lv_has ls 4 [(0, .ref h_t), (1, .int x1), (2, .int x2), (3, .int x3)] → gx_W D A s (wd_X8_add cI cZ h_t h_t_row h_t_tape h_t_codes h_t_widths h_t_begins h_t_spanAt h_t_spanLong h_t_spanOf h_t_out V_t V_t_codes V_t_widths V_t_begins) H locs → fn_X8_add_j96 V_t V_t_codes V_t_widths V_t_begins x1 x2 x3 = some z → W p l e (gx_rm 3) s m args below meth c H locs 0 0 Q (F0 m 96 ls []) := by
  have hx := C.1.1
  have hb := C.1.2.1
  intro V_t V_t_codes V_t_widths V_t_begins x1 x2 x3 ls H locs hl hw hf
  rw [fn_X8_add_j96] at hf
  refine lv_aload_n hx hb dX8_add_96 rfl (lv_at hl 0 rfl) ?_
  refine lv_iload_n hx hb dX8_add_97 rfl (lv_at hl 3 rfl) ?_
  refine lv_if_eq (tgt := 105) hx hb dX8_add_98 (by decide) (fun hc => ?_) (fun hc => ?_)
  · replace hf := gx_t hc hf
    refine lv_aload_n hx hb dX8_add_105 rfl (lv_at hl 0 rfl) ?_
    refine gx_get (v := .int (V_t 16)) C hw 0 rfl (gx_gj rfl rfl) ln_X8_add_90 dX8_add_106 ?_
    refine lv_bipush (v := 8) hx hb dX8_add_109 (by decide) ?_
    refine lv_irem hx hb dX8_add_111 (by decide) ?_
    refine lv_iconst (v := 1) hx hb dX8_add_112 (by decide) ?_
    refine lv_iadd hx hb dX8_add_113 ?_
    exact tm_X8_add_114 C h_t h_t_row h_t_tape h_t_codes h_t_widths h_t_begins h_t_spanAt h_t_spanLong h_t_spanOf h_t_out hQ  V_t V_t_codes V_t_widths V_t_begins x1 x2 (((V_t 16) - (V_t 16) / 8 * 8) + 1) _ _ _ (lv_sub hl [0, 1, 2] rfl) hw hf
  · replace hf := gx_f hc hf
    refine lv_iconst (v := 1) hx hb dX8_add_101 (by decide) ?_
    refine lv_goto (tgt := 114) hx hb dX8_add_102 (by decide) ?_
    exact tm_X8_add_114 C h_t h_t_row h_t_tape h_t_codes h_t_widths h_t_begins h_t_spanAt h_t_spanLong h_t_spanOf h_t_out hQ  V_t V_t_codes V_t_widths V_t_begins x1 x2 1 _ _ _ (lv_sub hl [0, 1, 2] rfl) hw hf
set_option maxHeartbeats 4000000 in
set_option maxRecDepth 100000 in
theorem tm_X8_add_60 (C : gx_C cX8_add 4 wsX8_add RX8 D cI cZ p s m args c) (h_t h_t_row h_t_tape h_t_codes h_t_widths h_t_begins h_t_spanAt h_t_spanLong h_t_spanOf h_t_out : Nat) {z : (Nat → Int32) × (Nat → Int32) × (Nat → Int32) × (Nat → Int32)} (hQ : gx_Qv cX8_add p l e (gx_rm 3) s m args below meth c D A Q (wd_X8_add cI cZ h_t h_t_row h_t_tape h_t_codes h_t_widths h_t_begins h_t_spanAt h_t_spanLong h_t_spanOf h_t_out z.1 z.2.1 z.2.2.1 z.2.2.2)) : ∀ (V_t V_t_codes V_t_widths V_t_begins : Nat → Int32) (x1 x2 s0 : Int32) (ls : Array Slot) (H : Heap) (locs : List Loc), lv_has ls 4 [(0, .ref h_t), (1, .int x1), (2, .int x2)] → gx_W D A s (wd_X8_add cI cZ h_t h_t_row h_t_tape h_t_codes h_t_widths h_t_begins h_t_spanAt h_t_spanLong h_t_spanOf h_t_out V_t V_t_codes V_t_widths V_t_begins) H locs → fn_X8_add_j60 V_t V_t_codes V_t_widths V_t_begins x1 x2 s0 = some z → W p l e (gx_rm 3) s m args below meth c H locs 0 0 Q (F0 m 60 ls [.int s0]) := by
  have hx := C.1.1
  have hb := C.1.2.1
  intro V_t V_t_codes V_t_widths V_t_begins x1 x2 s0 ls H locs hl hw hf
  rw [fn_X8_add_j60] at hf
  refine lv_istore_n (lv' := [(3, .int s0), (0, .ref h_t), (1, .int x1), (2, .int x2)]) hx hb dX8_add_60 rfl hl (by decide) rfl (fun ls hl => ?_)
  refine lv_iload_n hx hb dX8_add_61 rfl (lv_at hl 0 rfl) ?_
  refine lv_if_eq (tgt := 96) hx hb dX8_add_62 (by decide) (fun hc => ?_) (fun hc => ?_)
  · replace hf := gx_t hc hf
    exact tm_X8_add_96 C h_t h_t_row h_t_tape h_t_codes h_t_widths h_t_begins h_t_spanAt h_t_spanLong h_t_spanOf h_t_out hQ  V_t V_t_codes V_t_widths V_t_begins x1 x2 s0 _ _ _ (lv_sub hl [1, 2, 3, 0] rfl) hw hf
  · replace hf := gx_f hc hf
    refine lv_aload_n hx hb dX8_add_65 rfl (lv_at hl 1 rfl) ?_
    refine lv_dup hx hb dX8_add_66 rfl ?_
    refine gx_get (v := .int (V_t 14)) C hw 0 rfl (gx_gj rfl rfl) ln_X8_add_87 dX8_add_67 ?_
    refine lv_bipush (v := 8) hx hb dX8_add_70 (by decide) ?_
    refine lv_aload_n hx hb dX8_add_72 rfl (lv_at hl 1 rfl) ?_
    refine gx_get (v := .int (V_t 16)) C hw 0 rfl (gx_gj rfl rfl) ln_X8_add_90 dX8_add_73 ?_
    refine lv_isub hx hb dX8_add_76 ?_
    refine lv_bipush (v := 8) hx hb dX8_add_77 (by decide) ?_
    refine lv_irem hx hb dX8_add_79 (by decide) ?_
    refine lv_aload_n hx hb dX8_add_80 rfl (lv_at hl 1 rfl) ?_
    refine gx_get C hw 0 rfl (gx_gr rfl) ln_X8_add_33 dX8_add_81 ?_
    refine lv_aload_n hx hb dX8_add_84 rfl (lv_at hl 1 rfl) ?_
    refine gx_get (v := .int (V_t 13)) C hw 0 rfl (gx_gj rfl rfl) ln_X8_add_84 dX8_add_85 ?_
    refine lv_iconst (v := 1) hx hb dX8_add_88 (by decide) ?_
    refine lv_isub hx hb dX8_add_89 ?_
    obtain ⟨hi_90, hf⟩ := gx_g hf
    refine gx_iald C hw 2 rfl hi_90 dX8_add_90 ?_
    refine lv_imul hx hb dX8_add_91 ?_
    refine lv_iadd hx hb dX8_add_92 ?_
    refine gx_put (ws' := wd_X8_add cI cZ h_t h_t_row h_t_tape h_t_codes h_t_widths h_t_begins h_t_spanAt h_t_spanLong h_t_spanOf h_t_out (upd V_t 14 ((V_t 14) + (((8 - (V_t 16)) - (8 - (V_t 16)) / 8 * 8) * (V_t_widths ((V_t 13) - 1).toNatClampNeg)))) V_t_codes V_t_widths V_t_begins) C hw 0 rfl rfl lp_X8_add_87 rfl rfl rfl dX8_add_93 (fun H locs hw => ?_)
    exact tm_X8_add_96 C h_t h_t_row h_t_tape h_t_codes h_t_widths h_t_begins h_t_spanAt h_t_spanLong h_t_spanOf h_t_out hQ  (upd V_t 14 ((V_t 14) + (((8 - (V_t 16)) - (8 - (V_t 16)) / 8 * 8) * (V_t_widths ((V_t 13) - 1).toNatClampNeg)))) V_t_codes V_t_widths V_t_begins x1 x2 s0 _ _ _ (lv_sub hl [1, 2, 3, 0] rfl) hw hf
set_option maxHeartbeats 4000000 in
set_option maxRecDepth 100000 in
theorem tm_X8_add_59 (C : gx_C cX8_add 4 wsX8_add RX8 D cI cZ p s m args c) (h_t h_t_row h_t_tape h_t_codes h_t_widths h_t_begins h_t_spanAt h_t_spanLong h_t_spanOf h_t_out : Nat) {z : (Nat → Int32) × (Nat → Int32) × (Nat → Int32) × (Nat → Int32)} (hQ : gx_Qv cX8_add p l e (gx_rm 3) s m args below meth c D A Q (wd_X8_add cI cZ h_t h_t_row h_t_tape h_t_codes h_t_widths h_t_begins h_t_spanAt h_t_spanLong h_t_spanOf h_t_out z.1 z.2.1 z.2.2.1 z.2.2.2)) : ∀ (V_t V_t_codes V_t_widths V_t_begins : Nat → Int32) (x1 x2 : Int32) (ls : Array Slot) (H : Heap) (locs : List Loc), lv_has ls 4 [(0, .ref h_t), (1, .int x1), (2, .int x2)] → gx_W D A s (wd_X8_add cI cZ h_t h_t_row h_t_tape h_t_codes h_t_widths h_t_begins h_t_spanAt h_t_spanLong h_t_spanOf h_t_out V_t V_t_codes V_t_widths V_t_begins) H locs → fn_X8_add_j59 V_t V_t_codes V_t_widths V_t_begins x1 x2 = some z → W p l e (gx_rm 3) s m args below meth c H locs 0 0 Q (F0 m 59 ls []) := by
  have hx := C.1.1
  have hb := C.1.2.1
  intro V_t V_t_codes V_t_widths V_t_begins x1 x2 ls H locs hl hw hf
  rw [fn_X8_add_j59] at hf
  refine lv_iconst (v := 0) hx hb dX8_add_59 (by decide) ?_
  exact tm_X8_add_60 C h_t h_t_row h_t_tape h_t_codes h_t_widths h_t_begins h_t_spanAt h_t_spanLong h_t_spanOf h_t_out hQ  V_t V_t_codes V_t_widths V_t_begins x1 x2 0 _ _ _ (lv_sub hl [0, 1, 2] rfl) hw hf
set_option maxHeartbeats 4000000 in
set_option maxRecDepth 100000 in
theorem tm_X8_add_55 (C : gx_C cX8_add 4 wsX8_add RX8 D cI cZ p s m args c) (h_t h_t_row h_t_tape h_t_codes h_t_widths h_t_begins h_t_spanAt h_t_spanLong h_t_spanOf h_t_out : Nat) {z : (Nat → Int32) × (Nat → Int32) × (Nat → Int32) × (Nat → Int32)} (hQ : gx_Qv cX8_add p l e (gx_rm 3) s m args below meth c D A Q (wd_X8_add cI cZ h_t h_t_row h_t_tape h_t_codes h_t_widths h_t_begins h_t_spanAt h_t_spanLong h_t_spanOf h_t_out z.1 z.2.1 z.2.2.1 z.2.2.2)) : ∀ (V_t V_t_codes V_t_widths V_t_begins : Nat → Int32) (x1 x2 : Int32) (ls : Array Slot) (H : Heap) (locs : List Loc), lv_has ls 4 [(0, .ref h_t), (1, .int x1), (2, .int x2)] → gx_W D A s (wd_X8_add cI cZ h_t h_t_row h_t_tape h_t_codes h_t_widths h_t_begins h_t_spanAt h_t_spanLong h_t_spanOf h_t_out V_t V_t_codes V_t_widths V_t_begins) H locs → fn_X8_add_j55 V_t V_t_codes V_t_widths V_t_begins x1 x2 = some z → W p l e (gx_rm 3) s m args below meth c H locs 0 0 Q (F0 m 55 ls []) := by
  have hx := C.1.1
  have hb := C.1.2.1
  intro V_t V_t_codes V_t_widths V_t_begins x1 x2 ls H locs hl hw hf
  rw [fn_X8_add_j55] at hf
  refine lv_iconst (v := 1) hx hb dX8_add_55 (by decide) ?_
  refine lv_goto (tgt := 60) hx hb dX8_add_56 (by decide) ?_
  exact tm_X8_add_60 C h_t h_t_row h_t_tape h_t_codes h_t_widths h_t_begins h_t_spanAt h_t_spanLong h_t_spanOf h_t_out hQ  V_t V_t_codes V_t_widths V_t_begins x1 x2 1 _ _ _ (lv_sub hl [0, 1, 2] rfl) hw hf
set_option maxHeartbeats 4000000 in
set_option maxRecDepth 100000 in
theorem ct_X8_add (l : Launch) (D : va_G) (cI cZ : ClassId) (h_t h_t_row h_t_tape h_t_codes h_t_widths h_t_begins h_t_spanAt h_t_spanLong h_t_spanOf h_t_out : Nat) (V_t V_t_codes V_t_widths V_t_begins : Nat → Int32) (a1 : Int32) {z : (Nat → Int32) × (Nat → Int32) × (Nat → Int32) × (Nat → Int32)} (hf : fn_X8_add V_t V_t_codes V_t_widths V_t_begins a1 = some z) : gx_Mv l yX8_add wsX8_add (gx_rm 3) D cI cZ [.ref h_t, .int a1] (wd_X8_add cI cZ h_t h_t_row h_t_tape h_t_codes h_t_widths h_t_begins h_t_spanAt h_t_spanLong h_t_spanOf h_t_out V_t V_t_codes V_t_widths V_t_begins) (wd_X8_add cI cZ h_t h_t_row h_t_tape h_t_codes h_t_widths h_t_begins h_t_spanAt h_t_spanLong h_t_spanOf h_t_out z.1 z.2.1 z.2.2.1 z.2.2.2) := by
  refine gx_ofv (cc := cX8_add) (own := RX8) (by decide) rfl rfl (Nat.le_of_ble_eq_true rfl) [(0, .ref h_t), (1, .int a1)] rfl ?_
  intro p e s m args below meth c A Q ls C hQ hl hw
  have hx := C.1.1
  have hb := C.1.2.1
  rw [fn_X8_add] at hf
  refine lv_aload_n hx hb dX8_add_0 rfl (lv_at hl 0 rfl) ?_
  obtain ⟨y_1, hy_1, hf⟩ := gx_b hf
  refine gx_calli (As := []) (ws' := wd_X8_add cI cZ h_t h_t_row h_t_tape h_t_codes h_t_widths h_t_begins h_t_spanAt h_t_spanLong h_t_spanOf h_t_out V_t V_t_codes V_t_widths V_t_begins) (isC := [0]) (isR := [1, 2, 3]) (isP := [3, 0, 1, 2]) C hw (ct_X8_widthNow l D cI cZ h_t h_t_row h_t_tape h_t_codes h_t_widths h_t_begins h_t_spanAt h_t_spanLong h_t_spanOf h_t_out V_t hy_1) kl_X8_add_81 ⟨rfl, rfl⟩ ⟨rfl, rfl, by decide, by decide, by decide, by decide, rfl⟩ 0 rfl rfl rfl rfl hl.1 (Nat.le_of_ble_eq_true rfl) ⟨Nat.le_refl _, Nat.le_refl _⟩ dX8_add_1 (fun H locs hw => ?_)
  refine lv_istore_n (lv' := [(2, .int y_1), (0, .ref h_t), (1, .int a1)]) hx hb dX8_add_4 rfl hl (by decide) rfl (fun ls hl => ?_)
  refine lv_aload_n hx hb dX8_add_5 rfl (lv_at hl 1 rfl) ?_
  refine gx_get (v := .int (V_t 0)) C hw 0 rfl (gx_gj rfl rfl) ln_X8_add_54 dX8_add_6 ?_
  refine lv_iconst (v := 2) hx hb dX8_add_9 (by decide) ?_
  refine lv_icmp_ne (tgt := 59) hx hb dX8_add_10 (by decide) (fun hc => ?_) (fun hc => ?_)
  · replace hf := gx_f hc hf
    exact tm_X8_add_59 C h_t h_t_row h_t_tape h_t_codes h_t_widths h_t_begins h_t_spanAt h_t_spanLong h_t_spanOf h_t_out hQ  V_t V_t_codes V_t_widths V_t_begins a1 y_1 _ _ _ (lv_sub hl [1, 2, 0] rfl) hw hf
  · replace hf := gx_t hc hf
    refine lv_aload_n hx hb dX8_add_13 rfl (lv_at hl 1 rfl) ?_
    refine gx_get (v := .int (V_t 13)) C hw 0 rfl (gx_gj rfl rfl) ln_X8_add_84 dX8_add_14 ?_
    refine lv_if_le (tgt := 59) hx hb dX8_add_17 (by decide) (fun hc => ?_) (fun hc => ?_)
    · replace hf := gx_t hc hf
      exact tm_X8_add_59 C h_t h_t_row h_t_tape h_t_codes h_t_widths h_t_begins h_t_spanAt h_t_spanLong h_t_spanOf h_t_out hQ  V_t V_t_codes V_t_widths V_t_begins a1 y_1 _ _ _ (lv_sub hl [1, 2, 0] rfl) hw hf
    · replace hf := gx_f hc hf
      refine lv_aload_n hx hb dX8_add_20 rfl (lv_at hl 1 rfl) ?_
      refine gx_get C hw 0 rfl (gx_gr rfl) ln_X8_add_30 dX8_add_21 ?_
      refine lv_aload_n hx hb dX8_add_24 rfl (lv_at hl 1 rfl) ?_
      refine gx_get (v := .int (V_t 13)) C hw 0 rfl (gx_gj rfl rfl) ln_X8_add_84 dX8_add_25 ?_
      refine lv_iconst (v := 1) hx hb dX8_add_28 (by decide) ?_
      refine lv_isub hx hb dX8_add_29 ?_
      obtain ⟨hi_30, hf⟩ := gx_g hf
      refine gx_iald C hw 1 rfl hi_30 dX8_add_30 ?_
      refine lv_iconst (v := 1) hx hb dX8_add_31 (by decide) ?_
      refine lv_aload_n hx hb dX8_add_32 rfl (lv_at hl 1 rfl) ?_
      refine gx_get (v := .int (V_t 1)) C hw 0 rfl (gx_gj rfl rfl) ln_X8_add_7 dX8_add_33 ?_
      refine lv_ishl hx hb dX8_add_36 ?_
      refine lv_icmp_eq (tgt := 55) hx hb dX8_add_37 (by decide) (fun hc => ?_) (fun hc => ?_)
      · replace hf := gx_t hc hf
        exact tm_X8_add_55 C h_t h_t_row h_t_tape h_t_codes h_t_widths h_t_begins h_t_spanAt h_t_spanLong h_t_spanOf h_t_out hQ  V_t V_t_codes V_t_widths V_t_begins a1 y_1 _ _ _ (lv_sub hl [1, 2, 0] rfl) hw hf
      · replace hf := gx_f hc hf
        refine lv_aload_n hx hb dX8_add_40 rfl (lv_at hl 1 rfl) ?_
        refine gx_get C hw 0 rfl (gx_gr rfl) ln_X8_add_33 dX8_add_41 ?_
        refine lv_aload_n hx hb dX8_add_44 rfl (lv_at hl 1 rfl) ?_
        refine gx_get (v := .int (V_t 13)) C hw 0 rfl (gx_gj rfl rfl) ln_X8_add_84 dX8_add_45 ?_
        refine lv_iconst (v := 1) hx hb dX8_add_48 (by decide) ?_
        refine lv_isub hx hb dX8_add_49 ?_
        obtain ⟨hi_50, hf⟩ := gx_g hf
        refine gx_iald C hw 2 rfl hi_50 dX8_add_50 ?_
        refine lv_iload_n hx hb dX8_add_51 rfl (lv_at hl 0 rfl) ?_
        refine lv_icmp_eq (tgt := 59) hx hb dX8_add_52 (by decide) (fun hc => ?_) (fun hc => ?_)
        · replace hf := gx_t hc hf
          exact tm_X8_add_59 C h_t h_t_row h_t_tape h_t_codes h_t_widths h_t_begins h_t_spanAt h_t_spanLong h_t_spanOf h_t_out hQ  V_t V_t_codes V_t_widths V_t_begins a1 y_1 _ _ _ (lv_sub hl [1, 2, 0] rfl) hw hf
        · replace hf := gx_f hc hf
          exact tm_X8_add_55 C h_t h_t_row h_t_tape h_t_codes h_t_widths h_t_begins h_t_spanAt h_t_spanLong h_t_spanOf h_t_out hQ  V_t V_t_codes V_t_widths V_t_begins a1 y_1 _ _ _ (lv_sub hl [1, 2, 0] rfl) hw hf
-- LzwFormsModel.clear: touched ['t', 't_codes', 't_widths', 't_begins']; used ['t', 't_codes', 't_widths', 't_begins']; mod ['t', 't_codes', 't_widths', 't_begins']; height 4
theorem ln_X8_clear_7 : gx_L wsX8_clear RX8 7 8 1 := ⟨_, _, _, rfl, by decide +kernel, by decide, Or.inl (by decide +kernel)⟩
theorem lp_X8_clear_68 : gx_LP wsX8_clear RX8 68 8 9 false .int := ⟨_, _, _, tyX8, rfl, by decide +kernel, by decide, by decide +kernel, tyX8_ok, nmX8, by decide +kernel, by decide +kernel, by decide +kernel⟩
theorem ln_X8_clear_97 : gx_L wsX8_clear RX8 97 8 15 := ⟨_, _, _, rfl, by decide +kernel, by decide, Or.inl (by decide +kernel)⟩
theorem lp_X8_clear_97 : gx_LP wsX8_clear RX8 97 8 15 false .int := ⟨_, _, _, tyX8, rfl, by decide +kernel, by decide, by decide +kernel, tyX8_ok, nmX8, by decide +kernel, by decide +kernel, by decide +kernel⟩
theorem lp_X8_clear_100 : gx_LP wsX8_clear RX8 100 8 20 false .int := ⟨_, _, _, tyX8, rfl, by decide +kernel, by decide, by decide +kernel, tyX8_ok, nmX8, by decide +kernel, by decide +kernel, by decide +kernel⟩
theorem kl_X8_clear_93 : gx_KV wsX8_clear RX8 93 yX8_add cX8_add 4 none wsX8_add (gx_rm 3) (gx_rm 4) 1 := ⟨gX8_clear_X8_add, ⟨_, rfl⟩, ⟨by decide, by decide, by decide +kernel⟩, ⟨by decide, by decide⟩⟩
def wd_X8_clear (cI cZ : ClassId) (h_t h_t_row h_t_tape h_t_codes h_t_widths h_t_begins h_t_spanAt h_t_spanLong h_t_spanOf h_t_out : Nat) (V_t V_t_codes V_t_widths V_t_begins : Nat → Int32) : va_W := [gx_o h_t 8 [none, none, none, none, some (some h_t_row), none, some (some h_t_tape), none, none, none, some (some h_t_codes), some (some h_t_widths), some (some h_t_begins), none, none, none, none, some (some h_t_spanAt), some (some h_t_spanLong), some (some h_t_spanOf), none, none, none, none, some (some h_t_out), none, none, none] V_t, gx_a h_t_codes cI 700 V_t_codes, gx_a h_t_widths cI 700 V_t_widths, gx_a h_t_begins cI 700 V_t_begins]
set_option maxHeartbeats 4000000 in
set_option maxRecDepth 100000 in
theorem ct_X8_clear (l : Launch) (D : va_G) (cI cZ : ClassId) (h_t h_t_row h_t_tape h_t_codes h_t_widths h_t_begins h_t_spanAt h_t_spanLong h_t_spanOf h_t_out : Nat) (V_t V_t_codes V_t_widths V_t_begins : Nat → Int32) {z : (Nat → Int32) × (Nat → Int32) × (Nat → Int32) × (Nat → Int32)} (hf : fn_X8_clear V_t V_t_codes V_t_widths V_t_begins = some z) : gx_Mv l yX8_clear wsX8_clear (gx_rm 4) D cI cZ [.ref h_t] (wd_X8_clear cI cZ h_t h_t_row h_t_tape h_t_codes h_t_widths h_t_begins h_t_spanAt h_t_spanLong h_t_spanOf h_t_out V_t V_t_codes V_t_widths V_t_begins) (wd_X8_clear cI cZ h_t h_t_row h_t_tape h_t_codes h_t_widths h_t_begins h_t_spanAt h_t_spanLong h_t_spanOf h_t_out z.1 z.2.1 z.2.2.1 z.2.2.2) := by
  refine gx_ofv (cc := cX8_clear) (own := RX8) (by decide) rfl rfl (Nat.le_of_ble_eq_true rfl) [(0, .ref h_t)] rfl ?_
  intro p e s m args below meth c A Q ls C hQ hl hw
  have hx := C.1.1
  have hb := C.1.2.1
  rw [fn_X8_clear] at hf
  refine lv_aload_n hx hb dX8_clear_0 rfl (lv_at hl 0 rfl) ?_
  refine lv_iconst (v := 1) hx hb dX8_clear_1 (by decide) ?_
  refine lv_aload_n hx hb dX8_clear_2 rfl (lv_at hl 0 rfl) ?_
  refine gx_get (v := .int (V_t 1)) C hw 0 rfl (gx_gj rfl rfl) ln_X8_clear_7 dX8_clear_3 ?_
  refine lv_ishl hx hb dX8_clear_6 ?_
  obtain ⟨y_7, hy_7, hf⟩ := gx_b hf
  refine gx_callv (As := [.int (1 <<< ((V_t 1) &&& 31))]) (ws' := wd_X8_clear cI cZ h_t h_t_row h_t_tape h_t_codes h_t_widths h_t_begins h_t_spanAt h_t_spanLong h_t_spanOf h_t_out y_7.1 y_7.2.1 y_7.2.2.1 y_7.2.2.2) (isC := [0, 1, 2, 3]) (isR := []) (isP := [0, 1, 2, 3]) C hw (ct_X8_add l D cI cZ h_t h_t_row h_t_tape h_t_codes h_t_widths h_t_begins h_t_spanAt h_t_spanLong h_t_spanOf h_t_out V_t V_t_codes V_t_widths V_t_begins (1 <<< ((V_t 1) &&& 31)) hy_7) kl_X8_clear_93 ⟨rfl, rfl⟩ ⟨rfl, rfl, by decide, by decide, by decide, by decide, rfl⟩ 0 rfl rfl rfl rfl hl.1 (Nat.le_of_ble_eq_true rfl) ⟨Nat.le_refl _, Nat.le_refl _⟩ dX8_clear_7 (fun H locs hw => ?_)
  refine lv_aload_n hx hb dX8_clear_10 rfl (lv_at hl 0 rfl) ?_
  refine lv_dup hx hb dX8_clear_11 rfl ?_
  refine gx_get (v := .int (y_7.1 15)) C hw 0 rfl (gx_gj rfl rfl) ln_X8_clear_97 dX8_clear_12 ?_
  refine lv_iconst (v := 1) hx hb dX8_clear_15 (by decide) ?_
  refine lv_iadd hx hb dX8_clear_16 ?_
  refine gx_put (ws' := wd_X8_clear cI cZ h_t h_t_row h_t_tape h_t_codes h_t_widths h_t_begins h_t_spanAt h_t_spanLong h_t_spanOf h_t_out (upd y_7.1 15 ((y_7.1 15) + 1)) y_7.2.1 y_7.2.2.1 y_7.2.2.2) C hw 0 rfl rfl lp_X8_clear_97 rfl rfl rfl dX8_clear_17 (fun H locs hw => ?_)
  refine lv_aload_n hx hb dX8_clear_20 rfl (lv_at hl 0 rfl) ?_
  refine lv_iconst (v := 0) hx hb dX8_clear_21 (by decide) ?_
  refine gx_put (ws' := wd_X8_clear cI cZ h_t h_t_row h_t_tape h_t_codes h_t_widths h_t_begins h_t_spanAt h_t_spanLong h_t_spanOf h_t_out (upd (upd y_7.1 15 ((y_7.1 15) + 1)) 9 0) y_7.2.1 y_7.2.2.1 y_7.2.2.2) C hw 0 rfl rfl lp_X8_clear_68 rfl rfl rfl dX8_clear_22 (fun H locs hw => ?_)
  refine lv_aload_n hx hb dX8_clear_25 rfl (lv_at hl 0 rfl) ?_
  refine lv_iconst (v := 0) hx hb dX8_clear_26 (by decide) ?_
  refine gx_put (ws' := wd_X8_clear cI cZ h_t h_t_row h_t_tape h_t_codes h_t_widths h_t_begins h_t_spanAt h_t_spanLong h_t_spanOf h_t_out (upd (upd (upd y_7.1 15 ((y_7.1 15) + 1)) 9 0) 20 0) y_7.2.1 y_7.2.2.1 y_7.2.2.2) C hw 0 rfl rfl lp_X8_clear_100 rfl rfl rfl dX8_clear_27 (fun H locs hw => ?_)
  obtain rfl := Option.some.inj hf
  exact hQ _ _ _ _ dX8_clear_30 hw
-- LzwFormsModel.standsAt: touched ['t', 't_row', 't_spanAt', 't_spanLong']; used ['t', 't_row', 't_spanAt', 't_spanLong']; mod []; height 0
theorem ln_X8_standsAt_19 : gx_L wsX8_standsAt RX8 19 8 4 := ⟨_, _, _, rfl, by decide +kernel, by decide, Or.inl (by decide +kernel)⟩
theorem ln_X8_standsAt_39 : gx_L wsX8_standsAt RX8 39 8 17 := ⟨_, _, _, rfl, by decide +kernel, by decide, Or.inl (by decide +kernel)⟩
theorem ln_X8_standsAt_42 : gx_L wsX8_standsAt RX8 42 8 18 := ⟨_, _, _, rfl, by decide +kernel, by decide, Or.inl (by decide +kernel)⟩
theorem ln_X8_standsAt_61 : gx_L wsX8_standsAt RX8 61 8 5 := ⟨_, _, _, rfl, by decide +kernel, by decide, Or.inl (by decide +kernel)⟩
def wd_X8_standsAt (cI cZ : ClassId) (h_t h_t_row h_t_tape h_t_codes h_t_widths h_t_begins h_t_spanAt h_t_spanLong h_t_spanOf h_t_out : Nat) (V_t V_t_row V_t_spanAt V_t_spanLong : Nat → Int32) : va_W := [gx_o h_t 8 [none, none, none, none, some (some h_t_row), none, some (some h_t_tape), none, none, none, some (some h_t_codes), some (some h_t_widths), some (some h_t_begins), none, none, none, none, some (some h_t_spanAt), some (some h_t_spanLong), some (some h_t_spanOf), none, none, none, none, some (some h_t_out), none, none, none] V_t, gx_a h_t_row cI 300 V_t_row, gx_a h_t_spanAt cI 300 V_t_spanAt, gx_a h_t_spanLong cI 300 V_t_spanLong]
set_option maxHeartbeats 4000000 in
set_option maxRecDepth 100000 in
theorem tm_X8_standsAt_24 (C : gx_C cX8_standsAt 5 wsX8_standsAt RX8 D cI cZ p s m args c) (h_t h_t_row h_t_tape h_t_codes h_t_widths h_t_begins h_t_spanAt h_t_spanLong h_t_spanOf h_t_out : Nat) (V_t V_t_row V_t_spanAt V_t_spanLong : Nat → Int32) {z : Int32} (hQ : gx_Qi cX8_standsAt .boolean p l e (gx_rm 0) s m args below meth c D A Q (wd_X8_standsAt cI cZ h_t h_t_row h_t_tape h_t_codes h_t_widths h_t_begins h_t_spanAt h_t_spanLong h_t_spanOf h_t_out V_t V_t_row V_t_spanAt V_t_spanLong) z) : ∀ (n : Nat), (∀ (x1 x2 x3 x4 : Int32) (ls : Array Slot) (H : Heap) (locs : List Loc), lv_has ls 5 [(0, .ref h_t), (1, .int x1), (2, .int x2), (3, .int x3), (4, .int x4)] → gx_W D A s (wd_X8_standsAt cI cZ h_t h_t_row h_t_tape h_t_codes h_t_widths h_t_begins h_t_spanAt h_t_spanLong h_t_spanOf h_t_out V_t V_t_row V_t_spanAt V_t_spanLong) H locs → fn_X8_standsAt_l24 V_t V_t_row V_t_spanAt V_t_spanLong n x1 x2 x3 x4 = some z → W p l e (gx_rm 0) s m args below meth c H locs 0 0 Q (F0 m 24 ls [])) := by
  have hx := C.1.1
  have hb := C.1.2.1
  intro n
  induction n with
  | zero => intro x1 x2 x3 x4 ls H locs hl hw hf; rw [fn_X8_standsAt_l24] at hf; cases hf
  | succ n ih =>
    intro x1 x2 x3 x4 ls H locs hl hw hf
    rw [fn_X8_standsAt_l24] at hf
    refine lv_iload hx hb dX8_standsAt_24 (lv_at hl 4 rfl) ?_
    refine lv_aload_n hx hb dX8_standsAt_26 rfl (lv_at hl 0 rfl) ?_
    refine gx_get C hw 0 rfl (gx_gr rfl) ln_X8_standsAt_42 dX8_standsAt_27 ?_
    refine lv_iload_n hx hb dX8_standsAt_30 rfl (lv_at hl 1 rfl) ?_
    obtain ⟨hi_31, hf⟩ := gx_g hf
    refine gx_iald C hw 3 rfl hi_31 dX8_standsAt_31 ?_
    refine lv_icmp_ge (tgt := 77) hx hb dX8_standsAt_32 (by decide) (fun hc => ?_) (fun hc => ?_)
    · replace hf := gx_t hc hf
      refine lv_iload_n hx hb dX8_standsAt_77 rfl (lv_at hl 3 rfl) ?_
      obtain ⟨hz_78, hf⟩ := gx_g hf
      obtain rfl := Option.some.inj hf
      exact hQ _ _ _ _ dX8_standsAt_78 (gx_nb hz_78) hw
    · replace hf := gx_f hc hf
      refine lv_iload_n hx hb dX8_standsAt_35 rfl (lv_at hl 3 rfl) ?_
      refine lv_if_eq (tgt := 77) hx hb dX8_standsAt_36 (by decide) (fun hc => ?_) (fun hc => ?_)
      · replace hf := gx_t hc hf
        refine lv_iload_n hx hb dX8_standsAt_77 rfl (lv_at hl 3 rfl) ?_
        obtain ⟨hz_78, hf⟩ := gx_g hf
        obtain rfl := Option.some.inj hf
        exact hQ _ _ _ _ dX8_standsAt_78 (gx_nb hz_78) hw
      · replace hf := gx_f hc hf
        refine lv_aload_n hx hb dX8_standsAt_39 rfl (lv_at hl 0 rfl) ?_
        refine gx_get C hw 0 rfl (gx_gr rfl) ln_X8_standsAt_19 dX8_standsAt_40 ?_
        refine lv_aload_n hx hb dX8_standsAt_43 rfl (lv_at hl 0 rfl) ?_
        refine gx_get C hw 0 rfl (gx_gr rfl) ln_X8_standsAt_39 dX8_standsAt_44 ?_
        refine lv_iload_n hx hb dX8_standsAt_47 rfl (lv_at hl 1 rfl) ?_
        obtain ⟨hi_48, hf⟩ := gx_g hf
        refine gx_iald C hw 2 rfl hi_48 dX8_standsAt_48 ?_
        refine lv_iload hx hb dX8_standsAt_49 (lv_at hl 4 rfl) ?_
        refine lv_iadd hx hb dX8_standsAt_51 ?_
        obtain ⟨hi_52, hf⟩ := gx_g hf
        refine gx_iald C hw 1 rfl hi_52 dX8_standsAt_52 ?_
        refine lv_aload_n hx hb dX8_standsAt_53 rfl (lv_at hl 0 rfl) ?_
        refine gx_get C hw 0 rfl (gx_gr rfl) ln_X8_standsAt_19 dX8_standsAt_54 ?_
        refine lv_iload_n hx hb dX8_standsAt_57 rfl (lv_at hl 2 rfl) ?_
        refine lv_iload hx hb dX8_standsAt_58 (lv_at hl 4 rfl) ?_
        refine lv_iadd hx hb dX8_standsAt_60 ?_
        obtain ⟨hi_61, hf⟩ := gx_g hf
        refine gx_iald C hw 1 rfl hi_61 dX8_standsAt_61 ?_
        refine lv_icmp_ne (tgt := 69) hx hb dX8_standsAt_62 (by decide) (fun hc => ?_) (fun hc => ?_)
        · replace hf := gx_f hc hf
          refine lv_iconst (v := 0) hx hb dX8_standsAt_69 (by decide) ?_
          refine lv_istore_n (lv' := [(3, .int 0), (0, .ref h_t), (1, .int x1), (2, .int x2), (4, .int x4)]) hx hb dX8_standsAt_70 rfl hl (by decide) rfl (fun ls hl => ?_)
          refine lv_iinc (v := (x4 + 1)) (lv' := [(4, .int (x4 + 1)), (3, .int 0), (0, .ref h_t), (1, .int x1), (2, .int x2)]) hx hb dX8_standsAt_71 hl (k := 4) rfl rfl (by decide) rfl (fun ls hl => ?_)
          refine lv_goto (tgt := 24) hx hb dX8_standsAt_74 (by decide) ?_
          exact ih x1 x2 0 (x4 + 1) _ _ _ (lv_sub hl [2, 3, 4, 1, 0] rfl) hw hf
        · replace hf := gx_t hc hf
          refine lv_iconst (v := 1) hx hb dX8_standsAt_65 (by decide) ?_
          refine lv_goto (tgt := 70) hx hb dX8_standsAt_66 (by decide) ?_
          refine lv_istore_n (lv' := [(3, .int 1), (0, .ref h_t), (1, .int x1), (2, .int x2), (4, .int x4)]) hx hb dX8_standsAt_70 rfl hl (by decide) rfl (fun ls hl => ?_)
          refine lv_iinc (v := (x4 + 1)) (lv' := [(4, .int (x4 + 1)), (3, .int 1), (0, .ref h_t), (1, .int x1), (2, .int x2)]) hx hb dX8_standsAt_71 hl (k := 4) rfl rfl (by decide) rfl (fun ls hl => ?_)
          refine lv_goto (tgt := 24) hx hb dX8_standsAt_74 (by decide) ?_
          exact ih x1 x2 1 (x4 + 1) _ _ _ (lv_sub hl [2, 3, 4, 1, 0] rfl) hw hf
set_option maxHeartbeats 4000000 in
set_option maxRecDepth 100000 in
theorem ct_X8_standsAt (l : Launch) (D : va_G) (cI cZ : ClassId) (h_t h_t_row h_t_tape h_t_codes h_t_widths h_t_begins h_t_spanAt h_t_spanLong h_t_spanOf h_t_out : Nat) (V_t V_t_row V_t_spanAt V_t_spanLong : Nat → Int32) (a1 a2 : Int32) {z : Int32} (hf : fn_X8_standsAt V_t V_t_row V_t_spanAt V_t_spanLong a1 a2 = some z) : gx_Mi l yX8_standsAt wsX8_standsAt (gx_rm 0) D cI cZ [.ref h_t, .int a1, .int a2] (wd_X8_standsAt cI cZ h_t h_t_row h_t_tape h_t_codes h_t_widths h_t_begins h_t_spanAt h_t_spanLong h_t_spanOf h_t_out V_t V_t_row V_t_spanAt V_t_spanLong) (wd_X8_standsAt cI cZ h_t h_t_row h_t_tape h_t_codes h_t_widths h_t_begins h_t_spanAt h_t_spanLong h_t_spanOf h_t_out V_t V_t_row V_t_spanAt V_t_spanLong) z := by
  refine gx_ofi (cc := cX8_standsAt) (own := RX8) (by decide) rfl rfl (Nat.le_of_ble_eq_true rfl) [(0, .ref h_t), (1, .int a1), (2, .int a2)] rfl ?_
  intro p e s m args below meth c A Q ls C hQ hl hw
  have hx := C.1.1
  have hb := C.1.2.1
  rw [fn_X8_standsAt] at hf
  refine lv_iload_n hx hb dX8_standsAt_0 rfl (lv_at hl 2 rfl) ?_
  refine lv_aload_n hx hb dX8_standsAt_1 rfl (lv_at hl 0 rfl) ?_
  refine gx_get C hw 0 rfl (gx_gr rfl) ln_X8_standsAt_42 dX8_standsAt_2 ?_
  refine lv_iload_n hx hb dX8_standsAt_5 rfl (lv_at hl 1 rfl) ?_
  obtain ⟨hi_6, hf⟩ := gx_g hf
  refine gx_iald C hw 3 rfl hi_6 dX8_standsAt_6 ?_
  refine lv_iadd hx hb dX8_standsAt_7 ?_
  refine lv_aload_n hx hb dX8_standsAt_8 rfl (lv_at hl 0 rfl) ?_
  refine gx_get (v := .int (V_t 5)) C hw 0 rfl (gx_gj rfl rfl) ln_X8_standsAt_61 dX8_standsAt_9 ?_
  refine lv_icmp_gt (tgt := 19) hx hb dX8_standsAt_12 (by decide) (fun hc => ?_) (fun hc => ?_)
  · replace hf := gx_t hc hf
    refine lv_iconst (v := 0) hx hb dX8_standsAt_19 (by decide) ?_
    refine lv_istore_n (lv' := [(3, .int 0), (0, .ref h_t), (1, .int a1), (2, .int a2)]) hx hb dX8_standsAt_20 rfl hl (by decide) rfl (fun ls hl => ?_)
    refine lv_iconst (v := 0) hx hb dX8_standsAt_21 (by decide) ?_
    refine lv_istore (lv' := [(4, .int 0), (3, .int 0), (0, .ref h_t), (1, .int a1), (2, .int a2)]) hx hb dX8_standsAt_22 hl (by decide) rfl (fun ls hl => ?_)
    exact tm_X8_standsAt_24 C h_t h_t_row h_t_tape h_t_codes h_t_widths h_t_begins h_t_spanAt h_t_spanLong h_t_spanOf h_t_out V_t V_t_row V_t_spanAt V_t_spanLong hQ  gx_fuel a1 a2 0 0 _ _ _ (lv_sub hl [2, 3, 4, 1, 0] rfl) hw hf
  · replace hf := gx_f hc hf
    refine lv_iconst (v := 1) hx hb dX8_standsAt_15 (by decide) ?_
    refine lv_goto (tgt := 20) hx hb dX8_standsAt_16 (by decide) ?_
    refine lv_istore_n (lv' := [(3, .int 1), (0, .ref h_t), (1, .int a1), (2, .int a2)]) hx hb dX8_standsAt_20 rfl hl (by decide) rfl (fun ls hl => ?_)
    refine lv_iconst (v := 0) hx hb dX8_standsAt_21 (by decide) ?_
    refine lv_istore (lv' := [(4, .int 0), (3, .int 1), (0, .ref h_t), (1, .int a1), (2, .int a2)]) hx hb dX8_standsAt_22 hl (by decide) rfl (fun ls hl => ?_)
    exact tm_X8_standsAt_24 C h_t h_t_row h_t_tape h_t_codes h_t_widths h_t_begins h_t_spanAt h_t_spanLong h_t_spanOf h_t_out V_t V_t_row V_t_spanAt V_t_spanLong hQ  gx_fuel a1 a2 1 0 _ _ _ (lv_sub hl [2, 3, 4, 1, 0] rfl) hw hf
-- LzwFormsModel.pack: touched ['t', 't_row', 't_codes', 't_widths', 't_begins', 't_spanAt', 't_spanLong', 't_spanOf']; used ['t', 't_row', 't_codes', 't_widths', 't_begins', 't_spanAt', 't_spanLong', 't_spanOf']; mod ['t', 't_codes', 't_widths', 't_begins', 't_spanAt', 't_spanLong', 't_spanOf']; height 5
theorem ln_X8_pack_7 : gx_L wsX8_pack RX8 7 8 1 := ⟨_, _, _, rfl, by decide +kernel, by decide, Or.inl (by decide +kernel)⟩
theorem ln_X8_pack_16 : gx_L wsX8_pack RX8 16 8 3 := ⟨_, _, _, rfl, by decide +kernel, by decide, Or.inl (by decide +kernel)⟩
theorem ln_X8_pack_19 : gx_L wsX8_pack RX8 19 8 4 := ⟨_, _, _, rfl, by decide +kernel, by decide, Or.inl (by decide +kernel)⟩
theorem ln_X8_pack_39 : gx_L wsX8_pack RX8 39 8 17 := ⟨_, _, _, rfl, by decide +kernel, by decide, Or.inl (by decide +kernel)⟩
theorem ln_X8_pack_42 : gx_L wsX8_pack RX8 42 8 18 := ⟨_, _, _, rfl, by decide +kernel, by decide, Or.inl (by decide +kernel)⟩
theorem ln_X8_pack_45 : gx_L wsX8_pack RX8 45 8 19 := ⟨_, _, _, rfl, by decide +kernel, by decide, Or.inl (by decide +kernel)⟩
theorem ln_X8_pack_54 : gx_L wsX8_pack RX8 54 8 0 := ⟨_, _, _, rfl, by decide +kernel, by decide, Or.inl (by decide +kernel)⟩
theorem ln_X8_pack_61 : gx_L wsX8_pack RX8 61 8 5 := ⟨_, _, _, rfl, by decide +kernel, by decide, Or.inl (by decide +kernel)⟩
theorem ln_X8_pack_68 : gx_L wsX8_pack RX8 68 8 9 := ⟨_, _, _, rfl, by decide +kernel, by decide, Or.inl (by decide +kernel)⟩
theorem lp_X8_pack_68 : gx_LP wsX8_pack RX8 68 8 9 false .int := ⟨_, _, _, tyX8, rfl, by decide +kernel, by decide, by decide +kernel, tyX8_ok, nmX8, by decide +kernel, by decide +kernel, by decide +kernel⟩
theorem ln_X8_pack_77 : gx_L wsX8_pack RX8 77 8 21 := ⟨_, _, _, rfl, by decide +kernel, by decide, Or.inl (by decide +kernel)⟩
theorem lp_X8_pack_77 : gx_LP wsX8_pack RX8 77 8 21 false .boolean := ⟨_, _, _, tyX8, rfl, by decide +kernel, by decide, by decide +kernel, tyX8_ok, nmX8, by decide +kernel, by decide +kernel, by decide +kernel⟩
theorem lp_X8_pack_84 : gx_LP wsX8_pack RX8 84 8 13 false .int := ⟨_, _, _, tyX8, rfl, by decide +kernel, by decide, by decide +kernel, tyX8_ok, nmX8, by decide +kernel, by decide +kernel, by decide +kernel⟩
theorem lp_X8_pack_87 : gx_LP wsX8_pack RX8 87 8 14 false .int := ⟨_, _, _, tyX8, rfl, by decide +kernel, by decide, by decide +kernel, tyX8_ok, nmX8, by decide +kernel, by decide +kernel, by decide +kernel⟩
theorem lp_X8_pack_90 : gx_LP wsX8_pack RX8 90 8 16 false .int := ⟨_, _, _, tyX8, rfl, by decide +kernel, by decide, by decide +kernel, tyX8_ok, nmX8, by decide +kernel, by decide +kernel, by decide +kernel⟩
theorem lp_X8_pack_97 : gx_LP wsX8_pack RX8 97 8 15 false .int := ⟨_, _, _, tyX8, rfl, by decide +kernel, by decide, by decide +kernel, tyX8_ok, nmX8, by decide +kernel, by decide +kernel, by decide +kernel⟩
theorem ln_X8_pack_100 : gx_L wsX8_pack RX8 100 8 20 := ⟨_, _, _, rfl, by decide +kernel, by decide, Or.inl (by decide +kernel)⟩
theorem lp_X8_pack_100 : gx_LP wsX8_pack RX8 100 8 20 false .int := ⟨_, _, _, tyX8, rfl, by decide +kernel, by decide, by decide +kernel, tyX8_ok, nmX8, by decide +kernel, by decide +kernel, by decide +kernel⟩
theorem kl_X8_pack_64 : gx_KV wsX8_pack RX8 64 yX8_firstNumber cX8_firstNumber 1 (some .int) wsX8_firstNumber (gx_rm 0) (gx_rm 5) 0 := ⟨gX8_pack_X8_firstNumber, ⟨_, rfl⟩, ⟨by decide, by decide, by decide +kernel⟩, ⟨by decide, by decide⟩⟩
theorem kl_X8_pack_71 : gx_KV wsX8_pack RX8 71 yX8_lastNumber cX8_lastNumber 1 (some .int) wsX8_lastNumber (gx_rm 0) (gx_rm 5) 0 := ⟨gX8_pack_X8_lastNumber, ⟨_, rfl⟩, ⟨by decide, by decide, by decide +kernel⟩, ⟨by decide, by decide⟩⟩
theorem kl_X8_pack_93 : gx_KV wsX8_pack RX8 93 yX8_add cX8_add 4 none wsX8_add (gx_rm 3) (gx_rm 5) 1 := ⟨gX8_pack_X8_add, ⟨_, rfl⟩, ⟨by decide, by decide, by decide +kernel⟩, ⟨by decide, by decide⟩⟩
theorem kl_X8_pack_103 : gx_KV wsX8_pack RX8 103 yX8_clear cX8_clear 1 none wsX8_clear (gx_rm 4) (gx_rm 5) 0 := ⟨gX8_pack_X8_clear, ⟨_, rfl⟩, ⟨by decide, by decide, by decide +kernel⟩, ⟨by decide, by decide⟩⟩
theorem kl_X8_pack_106 : gx_KV wsX8_pack RX8 106 yX8_standsAt cX8_standsAt 5 (some .boolean) wsX8_standsAt (gx_rm 0) (gx_rm 5) 2 := ⟨gX8_pack_X8_standsAt, ⟨_, rfl⟩, ⟨by decide, by decide, by decide +kernel⟩, ⟨by decide, by decide⟩⟩
def wd_X8_pack (cI cZ : ClassId) (h_t h_t_row h_t_tape h_t_codes h_t_widths h_t_begins h_t_spanAt h_t_spanLong h_t_spanOf h_t_out : Nat) (V_t V_t_row V_t_codes V_t_widths V_t_begins V_t_spanAt V_t_spanLong V_t_spanOf : Nat → Int32) : va_W := [gx_o h_t 8 [none, none, none, none, some (some h_t_row), none, some (some h_t_tape), none, none, none, some (some h_t_codes), some (some h_t_widths), some (some h_t_begins), none, none, none, none, some (some h_t_spanAt), some (some h_t_spanLong), some (some h_t_spanOf), none, none, none, none, some (some h_t_out), none, none, none] V_t, gx_a h_t_row cI 300 V_t_row, gx_a h_t_codes cI 700 V_t_codes, gx_a h_t_widths cI 700 V_t_widths, gx_a h_t_begins cI 700 V_t_begins, gx_a h_t_spanAt cI 300 V_t_spanAt, gx_a h_t_spanLong cI 300 V_t_spanLong, gx_a h_t_spanOf cI 300 V_t_spanOf]
set_option maxHeartbeats 4000000 in
set_option maxRecDepth 100000 in
theorem tm_X8_pack_318 (C : gx_C cX8_pack 7 wsX8_pack RX8 D cI cZ p s m args c) (h_t h_t_row h_t_tape h_t_codes h_t_widths h_t_begins h_t_spanAt h_t_spanLong h_t_spanOf h_t_out : Nat) (V_t_row : Nat → Int32) {z : (Nat → Int32) × (Nat → Int32) × (Nat → Int32) × (Nat → Int32) × (Nat → Int32) × (Nat → Int32) × (Nat → Int32)} (hQ : gx_Qv cX8_pack p l e (gx_rm 5) s m args below meth c D A Q (wd_X8_pack cI cZ h_t h_t_row h_t_tape h_t_codes h_t_widths h_t_begins h_t_spanAt h_t_spanLong h_t_spanOf h_t_out z.1 V_t_row z.2.1 z.2.2.1 z.2.2.2.1 z.2.2.2.2.1 z.2.2.2.2.2.1 z.2.2.2.2.2.2)) (K57 : (Nat → Int32) → (Nat → Int32) → (Nat → Int32) → (Nat → Int32) → (Nat → Int32) → (Nat → Int32) → (Nat → Int32) → Int32 → Option ((Nat → Int32) × (Nat → Int32) × (Nat → Int32) × (Nat → Int32) × (Nat → Int32) × (Nat → Int32) × (Nat → Int32))) (hK57 : ∀ (V_t V_t_codes V_t_widths V_t_begins V_t_spanAt V_t_spanLong V_t_spanOf : Nat → Int32) (x1 : Int32) (ls : Array Slot) (H : Heap) (locs : List Loc), lv_has ls 7 [(0, .ref h_t), (1, .int x1)] → gx_W D A s (wd_X8_pack cI cZ h_t h_t_row h_t_tape h_t_codes h_t_widths h_t_begins h_t_spanAt h_t_spanLong h_t_spanOf h_t_out V_t V_t_row V_t_codes V_t_widths V_t_begins V_t_spanAt V_t_spanLong V_t_spanOf) H locs → K57 V_t V_t_codes V_t_widths V_t_begins V_t_spanAt V_t_spanLong V_t_spanOf x1 = some z → W p l e (gx_rm 5) s m args below meth c H locs 0 0 Q (F0 m 57 ls [])) : ∀ (V_t V_t_codes V_t_widths V_t_begins V_t_spanAt V_t_spanLong V_t_spanOf : Nat → Int32) (x1 : Int32) (ls : Array Slot) (H : Heap) (locs : List Loc), lv_has ls 7 [(0, .ref h_t), (1, .int x1)] → gx_W D A s (wd_X8_pack cI cZ h_t h_t_row h_t_tape h_t_codes h_t_widths h_t_begins h_t_spanAt h_t_spanLong h_t_spanOf h_t_out V_t V_t_row V_t_codes V_t_widths V_t_begins V_t_spanAt V_t_spanLong V_t_spanOf) H locs → fn_X8_pack_j318 V_t_row K57 V_t V_t_codes V_t_widths V_t_begins V_t_spanAt V_t_spanLong V_t_spanOf x1 = some z → W p l e (gx_rm 5) s m args below meth c H locs 0 0 Q (F0 m 318 ls []) := by
  have hx := C.1.1
  have hb := C.1.2.1
  intro V_t V_t_codes V_t_widths V_t_begins V_t_spanAt V_t_spanLong V_t_spanOf x1 ls H locs hl hw hf
  rw [fn_X8_pack_j318] at hf
  refine lv_aload_n hx hb dX8_pack_318 rfl (lv_at hl 0 rfl) ?_
  obtain ⟨y_319, hy_319, hf⟩ := gx_b hf
  refine gx_callv (As := []) (ws' := wd_X8_pack cI cZ h_t h_t_row h_t_tape h_t_codes h_t_widths h_t_begins h_t_spanAt h_t_spanLong h_t_spanOf h_t_out y_319.1 V_t_row y_319.2.1 y_319.2.2.1 y_319.2.2.2 V_t_spanAt V_t_spanLong V_t_spanOf) (isC := [0, 2, 3, 4]) (isR := [1, 5, 6, 7]) (isP := [4, 0, 5, 6, 7, 1, 2, 3]) C hw (ct_X8_clear l D cI cZ h_t h_t_row h_t_tape h_t_codes h_t_widths h_t_begins h_t_spanAt h_t_spanLong h_t_spanOf h_t_out V_t V_t_codes V_t_widths V_t_begins hy_319) kl_X8_pack_103 ⟨rfl, rfl⟩ ⟨rfl, rfl, by decide, by decide, by decide, by decide, rfl⟩ 0 rfl rfl rfl rfl hl.1 (Nat.le_of_ble_eq_true rfl) ⟨Nat.le_refl _, Nat.le_refl _⟩ dX8_pack_319 (fun H locs hw => ?_)
  refine lv_goto (tgt := 57) hx hb dX8_pack_322 (by decide) ?_
  exact hK57 y_319.1 y_319.2.1 y_319.2.2.1 y_319.2.2.2 V_t_spanAt V_t_spanLong V_t_spanOf x1 _ _ _ (lv_sub hl [0, 1] rfl) hw hf
set_option maxHeartbeats 4000000 in
set_option maxRecDepth 100000 in
theorem tm_X8_pack_299 (C : gx_C cX8_pack 7 wsX8_pack RX8 D cI cZ p s m args c) (h_t h_t_row h_t_tape h_t_codes h_t_widths h_t_begins h_t_spanAt h_t_spanLong h_t_spanOf h_t_out : Nat) (V_t_row : Nat → Int32) {z : (Nat → Int32) × (Nat → Int32) × (Nat → Int32) × (Nat → Int32) × (Nat → Int32) × (Nat → Int32) × (Nat → Int32)} (hQ : gx_Qv cX8_pack p l e (gx_rm 5) s m args below meth c D A Q (wd_X8_pack cI cZ h_t h_t_row h_t_tape h_t_codes h_t_widths h_t_begins h_t_spanAt h_t_spanLong h_t_spanOf h_t_out z.1 V_t_row z.2.1 z.2.2.1 z.2.2.2.1 z.2.2.2.2.1 z.2.2.2.2.2.1 z.2.2.2.2.2.2)) (K57 : (Nat → Int32) → (Nat → Int32) → (Nat → Int32) → (Nat → Int32) → (Nat → Int32) → (Nat → Int32) → (Nat → Int32) → Int32 → Option ((Nat → Int32) × (Nat → Int32) × (Nat → Int32) × (Nat → Int32) × (Nat → Int32) × (Nat → Int32) × (Nat → Int32))) (hK57 : ∀ (V_t V_t_codes V_t_widths V_t_begins V_t_spanAt V_t_spanLong V_t_spanOf : Nat → Int32) (x1 : Int32) (ls : Array Slot) (H : Heap) (locs : List Loc), lv_has ls 7 [(0, .ref h_t), (1, .int x1)] → gx_W D A s (wd_X8_pack cI cZ h_t h_t_row h_t_tape h_t_codes h_t_widths h_t_begins h_t_spanAt h_t_spanLong h_t_spanOf h_t_out V_t V_t_row V_t_codes V_t_widths V_t_begins V_t_spanAt V_t_spanLong V_t_spanOf) H locs → K57 V_t V_t_codes V_t_widths V_t_begins V_t_spanAt V_t_spanLong V_t_spanOf x1 = some z → W p l e (gx_rm 5) s m args below meth c H locs 0 0 Q (F0 m 57 ls [])) : ∀ (V_t V_t_codes V_t_widths V_t_begins V_t_spanAt V_t_spanLong V_t_spanOf : Nat → Int32) (x1 : Int32) (ls : Array Slot) (H : Heap) (locs : List Loc), lv_has ls 7 [(0, .ref h_t), (1, .int x1)] → gx_W D A s (wd_X8_pack cI cZ h_t h_t_row h_t_tape h_t_codes h_t_widths h_t_begins h_t_spanAt h_t_spanLong h_t_spanOf h_t_out V_t V_t_row V_t_codes V_t_widths V_t_begins V_t_spanAt V_t_spanLong V_t_spanOf) H locs → fn_X8_pack_j299 V_t_row K57 V_t V_t_codes V_t_widths V_t_begins V_t_spanAt V_t_spanLong V_t_spanOf x1 = some z → W p l e (gx_rm 5) s m args below meth c H locs 0 0 Q (F0 m 299 ls []) := by
  have hx := C.1.1
  have hb := C.1.2.1
  intro V_t V_t_codes V_t_widths V_t_begins V_t_spanAt V_t_spanLong V_t_spanOf x1 ls H locs hl hw hf
  rw [fn_X8_pack_j299] at hf
  refine lv_aload_n hx hb dX8_pack_299 rfl (lv_at hl 0 rfl) ?_
  refine gx_get (v := .int (V_t 3)) C hw 0 rfl (gx_gj rfl rfl) ln_X8_pack_16 dX8_pack_300 ?_
  refine lv_iconst (v := 1) hx hb dX8_pack_303 (by decide) ?_
  refine lv_icmp_le (tgt := 322) hx hb dX8_pack_304 (by decide) (fun hc => ?_) (fun hc => ?_)
  · replace hf := gx_t hc hf
    refine lv_goto (tgt := 57) hx hb dX8_pack_322 (by decide) ?_
    exact hK57 V_t V_t_codes V_t_widths V_t_begins V_t_spanAt V_t_spanLong V_t_spanOf x1 _ _ _ (lv_sub hl [0, 1] rfl) hw hf
  · replace hf := gx_f hc hf
    refine lv_aload_n hx hb dX8_pack_307 rfl (lv_at hl 0 rfl) ?_
    refine gx_get (v := .int (V_t 9)) C hw 0 rfl (gx_gj rfl rfl) ln_X8_pack_68 dX8_pack_308 ?_
    refine lv_aload_n hx hb dX8_pack_311 rfl (lv_at hl 0 rfl) ?_
    refine gx_get (v := .int (V_t 3)) C hw 0 rfl (gx_gj rfl rfl) ln_X8_pack_16 dX8_pack_312 ?_
    refine lv_icmp_ne (tgt := 322) hx hb dX8_pack_315 (by decide) (fun hc => ?_) (fun hc => ?_)
    · replace hf := gx_f hc hf
      refine lv_goto (tgt := 57) hx hb dX8_pack_322 (by decide) ?_
      exact hK57 V_t V_t_codes V_t_widths V_t_begins V_t_spanAt V_t_spanLong V_t_spanOf x1 _ _ _ (lv_sub hl [0, 1] rfl) hw hf
    · replace hf := gx_t hc hf
      exact tm_X8_pack_318 C h_t h_t_row h_t_tape h_t_codes h_t_widths h_t_begins h_t_spanAt h_t_spanLong h_t_spanOf h_t_out V_t_row hQ K57 hK57 V_t V_t_codes V_t_widths V_t_begins V_t_spanAt V_t_spanLong V_t_spanOf x1 _ _ _ (lv_sub hl [0, 1] rfl) hw hf
set_option maxHeartbeats 4000000 in
set_option maxRecDepth 100000 in
theorem tm_X8_pack_279 (C : gx_C cX8_pack 7 wsX8_pack RX8 D cI cZ p s m args c) (h_t h_t_row h_t_tape h_t_codes h_t_widths h_t_begins h_t_spanAt h_t_spanLong h_t_spanOf h_t_out : Nat) (V_t_row : Nat → Int32) {z : (Nat → Int32) × (Nat → Int32) × (Nat → Int32) × (Nat → Int32) × (Nat → Int32) × (Nat → Int32) × (Nat → Int32)} (hQ : gx_Qv cX8_pack p l e (gx_rm 5) s m args below meth c D A Q (wd_X8_pack cI cZ h_t h_t_row h_t_tape h_t_codes h_t_widths h_t_begins h_t_spanAt h_t_spanLong h_t_spanOf h_t_out z.1 V_t_row z.2.1 z.2.2.1 z.2.2.2.1 z.2.2.2.2.1 z.2.2.2.2.2.1 z.2.2.2.2.2.2)) (K57 : (Nat → Int32) → (Nat → Int32) → (Nat → Int32) → (Nat → Int32) → (Nat → Int32) → (Nat → Int32) → (Nat → Int32) → Int32 → Option ((Nat → Int32) × (Nat → Int32) × (Nat → Int32) × (Nat → Int32) × (Nat → Int32) × (Nat → Int32) × (Nat → Int32))) (hK57 : ∀ (V_t V_t_codes V_t_widths V_t_begins V_t_spanAt V_t_spanLong V_t_spanOf : Nat → Int32) (x1 : Int32) (ls : Array Slot) (H : Heap) (locs : List Loc), lv_has ls 7 [(0, .ref h_t), (1, .int x1)] → gx_W D A s (wd_X8_pack cI cZ h_t h_t_row h_t_tape h_t_codes h_t_widths h_t_begins h_t_spanAt h_t_spanLong h_t_spanOf h_t_out V_t V_t_row V_t_codes V_t_widths V_t_begins V_t_spanAt V_t_spanLong V_t_spanOf) H locs → K57 V_t V_t_codes V_t_widths V_t_begins V_t_spanAt V_t_spanLong V_t_spanOf x1 = some z → W p l e (gx_rm 5) s m args below meth c H locs 0 0 Q (F0 m 57 ls [])) : ∀ (V_t V_t_codes V_t_widths V_t_begins V_t_spanAt V_t_spanLong V_t_spanOf : Nat → Int32) (x1 x5 s0 : Int32) (ls : Array Slot) (H : Heap) (locs : List Loc), lv_has ls 7 [(0, .ref h_t), (1, .int x1), (5, .int x5)] → gx_W D A s (wd_X8_pack cI cZ h_t h_t_row h_t_tape h_t_codes h_t_widths h_t_begins h_t_spanAt h_t_spanLong h_t_spanOf h_t_out V_t V_t_row V_t_codes V_t_widths V_t_begins V_t_spanAt V_t_spanLong V_t_spanOf) H locs → fn_X8_pack_j279 V_t_row K57 V_t V_t_codes V_t_widths V_t_begins V_t_spanAt V_t_spanLong V_t_spanOf x1 x5 s0 = some z → W p l e (gx_rm 5) s m args below meth c H locs 0 0 Q (F0 m 279 ls [.int s0]) := by
  have hx := C.1.1
  have hb := C.1.2.1
  intro V_t V_t_codes V_t_widths V_t_begins V_t_spanAt V_t_spanLong V_t_spanOf x1 x5 s0 ls H locs hl hw hf
  rw [fn_X8_pack_j279] at hf
  refine lv_istore (lv' := [(6, .int s0), (0, .ref h_t), (1, .int x1), (5, .int x5)]) hx hb dX8_pack_279 hl (by decide) rfl (fun ls hl => ?_)
  refine lv_iload hx hb dX8_pack_281 (lv_at hl 3 rfl) ?_
  refine lv_if_eq (tgt := 322) hx hb dX8_pack_283 (by decide) (fun hc => ?_) (fun hc => ?_)
  · replace hf := gx_t hc hf
    refine lv_goto (tgt := 57) hx hb dX8_pack_322 (by decide) ?_
    exact hK57 V_t V_t_codes V_t_widths V_t_begins V_t_spanAt V_t_spanLong V_t_spanOf x1 _ _ _ (lv_sub hl [1, 2] rfl) hw hf
  · replace hf := gx_f hc hf
    refine lv_aload_n hx hb dX8_pack_286 rfl (lv_at hl 1 rfl) ?_
    refine gx_get (v := .int (V_t 3)) C hw 0 rfl (gx_gj rfl rfl) ln_X8_pack_16 dX8_pack_287 ?_
    refine lv_iconst (v := 1) hx hb dX8_pack_290 (by decide) ?_
    refine lv_icmp_ne (tgt := 299) hx hb dX8_pack_291 (by decide) (fun hc => ?_) (fun hc => ?_)
    · replace hf := gx_f hc hf
      exact tm_X8_pack_299 C h_t h_t_row h_t_tape h_t_codes h_t_widths h_t_begins h_t_spanAt h_t_spanLong h_t_spanOf h_t_out V_t_row hQ K57 hK57 V_t V_t_codes V_t_widths V_t_begins V_t_spanAt V_t_spanLong V_t_spanOf x1 _ _ _ (lv_sub hl [1, 2] rfl) hw hf
    · replace hf := gx_t hc hf
      refine lv_iload hx hb dX8_pack_294 (lv_at hl 0 rfl) ?_
      refine lv_if_ne (tgt := 318) hx hb dX8_pack_296 (by decide) (fun hc => ?_) (fun hc => ?_)
      · replace hf := gx_f hc hf
        exact tm_X8_pack_318 C h_t h_t_row h_t_tape h_t_codes h_t_widths h_t_begins h_t_spanAt h_t_spanLong h_t_spanOf h_t_out V_t_row hQ K57 hK57 V_t V_t_codes V_t_widths V_t_begins V_t_spanAt V_t_spanLong V_t_spanOf x1 _ _ _ (lv_sub hl [1, 2] rfl) hw hf
      · replace hf := gx_t hc hf
        exact tm_X8_pack_299 C h_t h_t_row h_t_tape h_t_codes h_t_widths h_t_begins h_t_spanAt h_t_spanLong h_t_spanOf h_t_out V_t_row hQ K57 hK57 V_t V_t_codes V_t_widths V_t_begins V_t_spanAt V_t_spanLong V_t_spanOf x1 _ _ _ (lv_sub hl [1, 2] rfl) hw hf
set_option maxHeartbeats 4000000 in
set_option maxRecDepth 100000 in
theorem tm_X8_pack_253 (C : gx_C cX8_pack 7 wsX8_pack RX8 D cI cZ p s m args c) (h_t h_t_row h_t_tape h_t_codes h_t_widths h_t_begins h_t_spanAt h_t_spanLong h_t_spanOf h_t_out : Nat) (V_t_row : Nat → Int32) {z : (Nat → Int32) × (Nat → Int32) × (Nat → Int32) × (Nat → Int32) × (Nat → Int32) × (Nat → Int32) × (Nat → Int32)} (hQ : gx_Qv cX8_pack p l e (gx_rm 5) s m args below meth c D A Q (wd_X8_pack cI cZ h_t h_t_row h_t_tape h_t_codes h_t_widths h_t_begins h_t_spanAt h_t_spanLong h_t_spanOf h_t_out z.1 V_t_row z.2.1 z.2.2.1 z.2.2.2.1 z.2.2.2.2.1 z.2.2.2.2.2.1 z.2.2.2.2.2.2)) (K57 : (Nat → Int32) → (Nat → Int32) → (Nat → Int32) → (Nat → Int32) → (Nat → Int32) → (Nat → Int32) → (Nat → Int32) → Int32 → Option ((Nat → Int32) × (Nat → Int32) × (Nat → Int32) × (Nat → Int32) × (Nat → Int32) × (Nat → Int32) × (Nat → Int32))) (hK57 : ∀ (V_t V_t_codes V_t_widths V_t_begins V_t_spanAt V_t_spanLong V_t_spanOf : Nat → Int32) (x1 : Int32) (ls : Array Slot) (H : Heap) (locs : List Loc), lv_has ls 7 [(0, .ref h_t), (1, .int x1)] → gx_W D A s (wd_X8_pack cI cZ h_t h_t_row h_t_tape h_t_codes h_t_widths h_t_begins h_t_spanAt h_t_spanLong h_t_spanOf h_t_out V_t V_t_row V_t_codes V_t_widths V_t_begins V_t_spanAt V_t_spanLong V_t_spanOf) H locs → K57 V_t V_t_codes V_t_widths V_t_begins V_t_spanAt V_t_spanLong V_t_spanOf x1 = some z → W p l e (gx_rm 5) s m args below meth c H locs 0 0 Q (F0 m 57 ls [])) : ∀ (V_t V_t_codes V_t_widths V_t_begins V_t_spanAt V_t_spanLong V_t_spanOf : Nat → Int32) (x1 x4 x5 : Int32) (ls : Array Slot) (H : Heap) (locs : List Loc), lv_has ls 7 [(0, .ref h_t), (1, .int x1), (4, .int x4), (5, .int x5)] → gx_W D A s (wd_X8_pack cI cZ h_t h_t_row h_t_tape h_t_codes h_t_widths h_t_begins h_t_spanAt h_t_spanLong h_t_spanOf h_t_out V_t V_t_row V_t_codes V_t_widths V_t_begins V_t_spanAt V_t_spanLong V_t_spanOf) H locs → fn_X8_pack_j253 V_t_row K57 V_t V_t_codes V_t_widths V_t_begins V_t_spanAt V_t_spanLong V_t_spanOf x1 x4 x5 = some z → W p l e (gx_rm 5) s m args below meth c H locs 0 0 Q (F0 m 253 ls []) := by
  have hx := C.1.1
  have hb := C.1.2.1
  intro V_t V_t_codes V_t_widths V_t_begins V_t_spanAt V_t_spanLong V_t_spanOf x1 x4 x5 ls H locs hl hw hf
  rw [fn_X8_pack_j253] at hf
  refine lv_iload_n hx hb dX8_pack_253 rfl (lv_at hl 1 rfl) ?_
  refine lv_iload hx hb dX8_pack_254 (lv_at hl 2 rfl) ?_
  refine lv_iadd hx hb dX8_pack_256 ?_
  refine lv_istore_n (lv' := [(1, .int (x1 + x4)), (0, .ref h_t), (4, .int x4), (5, .int x5)]) hx hb dX8_pack_257 rfl hl (by decide) rfl (fun ls hl => ?_)
  refine lv_aload_n hx hb dX8_pack_258 rfl (lv_at hl 1 rfl) ?_
  obtain ⟨y_259, hy_259, hf⟩ := gx_b hf
  refine gx_calli (As := []) (ws' := wd_X8_pack cI cZ h_t h_t_row h_t_tape h_t_codes h_t_widths h_t_begins h_t_spanAt h_t_spanLong h_t_spanOf h_t_out V_t V_t_row V_t_codes V_t_widths V_t_begins V_t_spanAt V_t_spanLong V_t_spanOf) (isC := [0]) (isR := [1, 2, 3, 4, 5, 6, 7]) (isP := [7, 0, 1, 2, 3, 4, 5, 6]) C hw (ct_X8_firstNumber l D cI cZ h_t h_t_row h_t_tape h_t_codes h_t_widths h_t_begins h_t_spanAt h_t_spanLong h_t_spanOf h_t_out V_t hy_259) kl_X8_pack_64 ⟨rfl, rfl⟩ ⟨rfl, rfl, by decide, by decide, by decide, by decide, rfl⟩ 0 rfl rfl rfl rfl hl.1 (Nat.le_of_ble_eq_true rfl) ⟨Nat.le_refl _, Nat.le_refl _⟩ dX8_pack_259 (fun H locs hw => ?_)
  refine lv_aload_n hx hb dX8_pack_262 rfl (lv_at hl 1 rfl) ?_
  refine gx_get (v := .int (V_t 20)) C hw 0 rfl (gx_gj rfl rfl) ln_X8_pack_100 dX8_pack_263 ?_
  refine lv_iadd hx hb dX8_pack_266 ?_
  refine lv_aload_n hx hb dX8_pack_267 rfl (lv_at hl 1 rfl) ?_
  obtain ⟨y_268, hy_268, hf⟩ := gx_b hf
  refine gx_calli (As := []) (ws' := wd_X8_pack cI cZ h_t h_t_row h_t_tape h_t_codes h_t_widths h_t_begins h_t_spanAt h_t_spanLong h_t_spanOf h_t_out V_t V_t_row V_t_codes V_t_widths V_t_begins V_t_spanAt V_t_spanLong V_t_spanOf) (isC := [0]) (isR := [1, 2, 3, 4, 5, 6, 7]) (isP := [7, 0, 1, 2, 3, 4, 5, 6]) C hw (ct_X8_lastNumber l D cI cZ h_t h_t_row h_t_tape h_t_codes h_t_widths h_t_begins h_t_spanAt h_t_spanLong h_t_spanOf h_t_out V_t hy_268) kl_X8_pack_71 ⟨rfl, rfl⟩ ⟨rfl, rfl, by decide, by decide, by decide, by decide, rfl⟩ 0 rfl rfl rfl rfl hl.1 (Nat.le_of_ble_eq_true rfl) ⟨Nat.le_refl _, Nat.le_refl _⟩ dX8_pack_268 (fun H locs hw => ?_)
  refine lv_icmp_lt (tgt := 278) hx hb dX8_pack_271 (by decide) (fun hc => ?_) (fun hc => ?_)
  · replace hf := gx_t hc hf
    refine lv_iconst (v := 0) hx hb dX8_pack_278 (by decide) ?_
    exact tm_X8_pack_279 C h_t h_t_row h_t_tape h_t_codes h_t_widths h_t_begins h_t_spanAt h_t_spanLong h_t_spanOf h_t_out V_t_row hQ K57 hK57 V_t V_t_codes V_t_widths V_t_begins V_t_spanAt V_t_spanLong V_t_spanOf (x1 + x4) x5 0 _ _ _ (lv_sub hl [1, 0, 3] rfl) hw hf
  · replace hf := gx_f hc hf
    refine lv_iconst (v := 1) hx hb dX8_pack_274 (by decide) ?_
    refine lv_goto (tgt := 279) hx hb dX8_pack_275 (by decide) ?_
    exact tm_X8_pack_279 C h_t h_t_row h_t_tape h_t_codes h_t_widths h_t_begins h_t_spanAt h_t_spanLong h_t_spanOf h_t_out V_t_row hQ K57 hK57 V_t V_t_codes V_t_widths V_t_begins V_t_spanAt V_t_spanLong V_t_spanOf (x1 + x4) x5 1 _ _ _ (lv_sub hl [1, 0, 3] rfl) hw hf
set_option maxHeartbeats 4000000 in
set_option maxRecDepth 100000 in
theorem tm_X8_pack_187 (C : gx_C cX8_pack 7 wsX8_pack RX8 D cI cZ p s m args c) (h_t h_t_row h_t_tape h_t_codes h_t_widths h_t_begins h_t_spanAt h_t_spanLong h_t_spanOf h_t_out : Nat) (V_t_row : Nat → Int32) {z : (Nat → Int32) × (Nat → Int32) × (Nat → Int32) × (Nat → Int32) × (Nat → Int32) × (Nat → Int32) × (Nat → Int32)} (hQ : gx_Qv cX8_pack p l e (gx_rm 5) s m args below meth c D A Q (wd_X8_pack cI cZ h_t h_t_row h_t_tape h_t_codes h_t_widths h_t_begins h_t_spanAt h_t_spanLong h_t_spanOf h_t_out z.1 V_t_row z.2.1 z.2.2.1 z.2.2.2.1 z.2.2.2.2.1 z.2.2.2.2.2.1 z.2.2.2.2.2.2)) (K57 : (Nat → Int32) → (Nat → Int32) → (Nat → Int32) → (Nat → Int32) → (Nat → Int32) → (Nat → Int32) → (Nat → Int32) → Int32 → Option ((Nat → Int32) × (Nat → Int32) × (Nat → Int32) × (Nat → Int32) × (Nat → Int32) × (Nat → Int32) × (Nat → Int32))) (hK57 : ∀ (V_t V_t_codes V_t_widths V_t_begins V_t_spanAt V_t_spanLong V_t_spanOf : Nat → Int32) (x1 : Int32) (ls : Array Slot) (H : Heap) (locs : List Loc), lv_has ls 7 [(0, .ref h_t), (1, .int x1)] → gx_W D A s (wd_X8_pack cI cZ h_t h_t_row h_t_tape h_t_codes h_t_widths h_t_begins h_t_spanAt h_t_spanLong h_t_spanOf h_t_out V_t V_t_row V_t_codes V_t_widths V_t_begins V_t_spanAt V_t_spanLong V_t_spanOf) H locs → K57 V_t V_t_codes V_t_widths V_t_begins V_t_spanAt V_t_spanLong V_t_spanOf x1 = some z → W p l e (gx_rm 5) s m args below meth c H locs 0 0 Q (F0 m 57 ls [])) : ∀ (V_t V_t_codes V_t_widths V_t_begins V_t_spanAt V_t_spanLong V_t_spanOf : Nat → Int32) (x1 x3 x4 s0 : Int32) (ls : Array Slot) (H : Heap) (locs : List Loc), lv_has ls 7 [(0, .ref h_t), (1, .int x1), (3, .int x3), (4, .int x4)] → gx_W D A s (wd_X8_pack cI cZ h_t h_t_row h_t_tape h_t_codes h_t_widths h_t_begins h_t_spanAt h_t_spanLong h_t_spanOf h_t_out V_t V_t_row V_t_codes V_t_widths V_t_begins V_t_spanAt V_t_spanLong V_t_spanOf) H locs → fn_X8_pack_j187 V_t_row K57 V_t V_t_codes V_t_widths V_t_begins V_t_spanAt V_t_spanLong V_t_spanOf x1 x3 x4 s0 = some z → W p l e (gx_rm 5) s m args below meth c H locs 0 0 Q (F0 m 187 ls [.int s0]) := by
  have hx := C.1.1
  have hb := C.1.2.1
  intro V_t V_t_codes V_t_widths V_t_begins V_t_spanAt V_t_spanLong V_t_spanOf x1 x3 x4 s0 ls H locs hl hw hf
  rw [fn_X8_pack_j187] at hf
  refine lv_istore (lv' := [(5, .int s0), (0, .ref h_t), (1, .int x1), (3, .int x3), (4, .int x4)]) hx hb dX8_pack_187 hl (by decide) rfl (fun ls hl => ?_)
  refine lv_iload hx hb dX8_pack_189 (lv_at hl 0 rfl) ?_
  refine lv_if_eq (tgt := 253) hx hb dX8_pack_191 (by decide) (fun hc => ?_) (fun hc => ?_)
  · replace hf := gx_t hc hf
    exact tm_X8_pack_253 C h_t h_t_row h_t_tape h_t_codes h_t_widths h_t_begins h_t_spanAt h_t_spanLong h_t_spanOf h_t_out V_t_row hQ K57 hK57 V_t V_t_codes V_t_widths V_t_begins V_t_spanAt V_t_spanLong V_t_spanOf x1 x4 s0 _ _ _ (lv_sub hl [1, 2, 4, 0] rfl) hw hf
  · replace hf := gx_f hc hf
    refine lv_aload_n hx hb dX8_pack_194 rfl (lv_at hl 1 rfl) ?_
    obtain ⟨y_195, hy_195, hf⟩ := gx_b hf
    refine gx_calli (As := []) (ws' := wd_X8_pack cI cZ h_t h_t_row h_t_tape h_t_codes h_t_widths h_t_begins h_t_spanAt h_t_spanLong h_t_spanOf h_t_out V_t V_t_row V_t_codes V_t_widths V_t_begins V_t_spanAt V_t_spanLong V_t_spanOf) (isC := [0]) (isR := [1, 2, 3, 4, 5, 6, 7]) (isP := [7, 0, 1, 2, 3, 4, 5, 6]) C hw (ct_X8_firstNumber l D cI cZ h_t h_t_row h_t_tape h_t_codes h_t_widths h_t_begins h_t_spanAt h_t_spanLong h_t_spanOf h_t_out V_t hy_195) kl_X8_pack_64 ⟨rfl, rfl⟩ ⟨rfl, rfl, by decide, by decide, by decide, by decide, rfl⟩ 0 rfl rfl rfl rfl hl.1 (Nat.le_of_ble_eq_true rfl) ⟨Nat.le_refl _, Nat.le_refl _⟩ dX8_pack_195 (fun H locs hw => ?_)
    refine lv_aload_n hx hb dX8_pack_198 rfl (lv_at hl 1 rfl) ?_
    refine gx_get (v := .int (V_t 20)) C hw 0 rfl (gx_gj rfl rfl) ln_X8_pack_100 dX8_pack_199 ?_
    refine lv_iadd hx hb dX8_pack_202 ?_
    refine lv_aload_n hx hb dX8_pack_203 rfl (lv_at hl 1 rfl) ?_
    obtain ⟨y_204, hy_204, hf⟩ := gx_b hf
    refine gx_calli (As := []) (ws' := wd_X8_pack cI cZ h_t h_t_row h_t_tape h_t_codes h_t_widths h_t_begins h_t_spanAt h_t_spanLong h_t_spanOf h_t_out V_t V_t_row V_t_codes V_t_widths V_t_begins V_t_spanAt V_t_spanLong V_t_spanOf) (isC := [0]) (isR := [1, 2, 3, 4, 5, 6, 7]) (isP := [7, 0, 1, 2, 3, 4, 5, 6]) C hw (ct_X8_lastNumber l D cI cZ h_t h_t_row h_t_tape h_t_codes h_t_widths h_t_begins h_t_spanAt h_t_spanLong h_t_spanOf h_t_out V_t hy_204) kl_X8_pack_71 ⟨rfl, rfl⟩ ⟨rfl, rfl, by decide, by decide, by decide, by decide, rfl⟩ 0 rfl rfl rfl rfl hl.1 (Nat.le_of_ble_eq_true rfl) ⟨Nat.le_refl _, Nat.le_refl _⟩ dX8_pack_204 (fun H locs hw => ?_)
    refine lv_icmp_ge (tgt := 253) hx hb dX8_pack_207 (by decide) (fun hc => ?_) (fun hc => ?_)
    · replace hf := gx_t hc hf
      exact tm_X8_pack_253 C h_t h_t_row h_t_tape h_t_codes h_t_widths h_t_begins h_t_spanAt h_t_spanLong h_t_spanOf h_t_out V_t_row hQ K57 hK57 V_t V_t_codes V_t_widths V_t_begins V_t_spanAt V_t_spanLong V_t_spanOf x1 x4 s0 _ _ _ (lv_sub hl [1, 2, 4, 0] rfl) hw hf
    · replace hf := gx_f hc hf
      refine lv_aload_n hx hb dX8_pack_210 rfl (lv_at hl 1 rfl) ?_
      refine gx_get C hw 0 rfl (gx_gr rfl) ln_X8_pack_39 dX8_pack_211 ?_
      refine lv_aload_n hx hb dX8_pack_214 rfl (lv_at hl 1 rfl) ?_
      refine gx_get (v := .int (V_t 20)) C hw 0 rfl (gx_gj rfl rfl) ln_X8_pack_100 dX8_pack_215 ?_
      refine lv_iload_n hx hb dX8_pack_218 rfl (lv_at hl 2 rfl) ?_
      obtain ⟨hi_219, hf⟩ := gx_g hf
      refine gx_iast (ws' := wd_X8_pack cI cZ h_t h_t_row h_t_tape h_t_codes h_t_widths h_t_begins h_t_spanAt h_t_spanLong h_t_spanOf h_t_out V_t V_t_row V_t_codes V_t_widths V_t_begins (upd V_t_spanAt (V_t 20).toNatClampNeg x1) V_t_spanLong V_t_spanOf) C hw 5 rfl hi_219 rfl dX8_pack_219 (fun H locs hw => ?_)
      refine lv_aload_n hx hb dX8_pack_220 rfl (lv_at hl 1 rfl) ?_
      refine gx_get C hw 0 rfl (gx_gr rfl) ln_X8_pack_42 dX8_pack_221 ?_
      refine lv_aload_n hx hb dX8_pack_224 rfl (lv_at hl 1 rfl) ?_
      refine gx_get (v := .int (V_t 20)) C hw 0 rfl (gx_gj rfl rfl) ln_X8_pack_100 dX8_pack_225 ?_
      refine lv_iload hx hb dX8_pack_228 (lv_at hl 4 rfl) ?_
      refine lv_iconst (v := 1) hx hb dX8_pack_230 (by decide) ?_
      refine lv_iadd hx hb dX8_pack_231 ?_
      obtain ⟨hi_232, hf⟩ := gx_g hf
      refine gx_iast (ws' := wd_X8_pack cI cZ h_t h_t_row h_t_tape h_t_codes h_t_widths h_t_begins h_t_spanAt h_t_spanLong h_t_spanOf h_t_out V_t V_t_row V_t_codes V_t_widths V_t_begins (upd V_t_spanAt (V_t 20).toNatClampNeg x1) (upd V_t_spanLong (V_t 20).toNatClampNeg (x4 + 1)) V_t_spanOf) C hw 6 rfl hi_232 rfl dX8_pack_232 (fun H locs hw => ?_)
      refine lv_aload_n hx hb dX8_pack_233 rfl (lv_at hl 1 rfl) ?_
      refine gx_get C hw 0 rfl (gx_gr rfl) ln_X8_pack_45 dX8_pack_234 ?_
      refine lv_aload_n hx hb dX8_pack_237 rfl (lv_at hl 1 rfl) ?_
      refine gx_get (v := .int (V_t 20)) C hw 0 rfl (gx_gj rfl rfl) ln_X8_pack_100 dX8_pack_238 ?_
      refine lv_iload_n hx hb dX8_pack_241 rfl (lv_at hl 3 rfl) ?_
      obtain ⟨hi_242, hf⟩ := gx_g hf
      refine gx_iast (ws' := wd_X8_pack cI cZ h_t h_t_row h_t_tape h_t_codes h_t_widths h_t_begins h_t_spanAt h_t_spanLong h_t_spanOf h_t_out V_t V_t_row V_t_codes V_t_widths V_t_begins (upd V_t_spanAt (V_t 20).toNatClampNeg x1) (upd V_t_spanLong (V_t 20).toNatClampNeg (x4 + 1)) (upd V_t_spanOf (V_t 20).toNatClampNeg x3)) C hw 7 rfl hi_242 rfl dX8_pack_242 (fun H locs hw => ?_)
      refine lv_aload_n hx hb dX8_pack_243 rfl (lv_at hl 1 rfl) ?_
      refine lv_dup hx hb dX8_pack_244 rfl ?_
      refine gx_get (v := .int (V_t 20)) C hw 0 rfl (gx_gj rfl rfl) ln_X8_pack_100 dX8_pack_245 ?_
      refine lv_iconst (v := 1) hx hb dX8_pack_248 (by decide) ?_
      refine lv_iadd hx hb dX8_pack_249 ?_
      refine gx_put (ws' := wd_X8_pack cI cZ h_t h_t_row h_t_tape h_t_codes h_t_widths h_t_begins h_t_spanAt h_t_spanLong h_t_spanOf h_t_out (upd V_t 20 ((V_t 20) + 1)) V_t_row V_t_codes V_t_widths V_t_begins (upd V_t_spanAt (V_t 20).toNatClampNeg x1) (upd V_t_spanLong (V_t 20).toNatClampNeg (x4 + 1)) (upd V_t_spanOf (V_t 20).toNatClampNeg x3)) C hw 0 rfl rfl lp_X8_pack_100 rfl rfl rfl dX8_pack_250 (fun H locs hw => ?_)
      exact tm_X8_pack_253 C h_t h_t_row h_t_tape h_t_codes h_t_widths h_t_begins h_t_spanAt h_t_spanLong h_t_spanOf h_t_out V_t_row hQ K57 hK57 (upd V_t 20 ((V_t 20) + 1)) V_t_codes V_t_widths V_t_begins (upd V_t_spanAt (V_t 20).toNatClampNeg x1) (upd V_t_spanLong (V_t 20).toNatClampNeg (x4 + 1)) (upd V_t_spanOf (V_t 20).toNatClampNeg x3) x1 x4 s0 _ _ _ (lv_sub hl [1, 2, 4, 0] rfl) hw hf
set_option maxHeartbeats 4000000 in
set_option maxRecDepth 100000 in
theorem tm_X8_pack_154 (C : gx_C cX8_pack 7 wsX8_pack RX8 D cI cZ p s m args c) (h_t h_t_row h_t_tape h_t_codes h_t_widths h_t_begins h_t_spanAt h_t_spanLong h_t_spanOf h_t_out : Nat) (V_t_row : Nat → Int32) {z : (Nat → Int32) × (Nat → Int32) × (Nat → Int32) × (Nat → Int32) × (Nat → Int32) × (Nat → Int32) × (Nat → Int32)} (hQ : gx_Qv cX8_pack p l e (gx_rm 5) s m args below meth c D A Q (wd_X8_pack cI cZ h_t h_t_row h_t_tape h_t_codes h_t_widths h_t_begins h_t_spanAt h_t_spanLong h_t_spanOf h_t_out z.1 V_t_row z.2.1 z.2.2.1 z.2.2.2.1 z.2.2.2.2.1 z.2.2.2.2.2.1 z.2.2.2.2.2.2)) (K57 : (Nat → Int32) → (Nat → Int32) → (Nat → Int32) → (Nat → Int32) → (Nat → Int32) → (Nat → Int32) → (Nat → Int32) → Int32 → Option ((Nat → Int32) × (Nat → Int32) × (Nat → Int32) × (Nat → Int32) × (Nat → Int32) × (Nat → Int32) × (Nat → Int32))) (hK57 : ∀ (V_t V_t_codes V_t_widths V_t_begins V_t_spanAt V_t_spanLong V_t_spanOf : Nat → Int32) (x1 : Int32) (ls : Array Slot) (H : Heap) (locs : List Loc), lv_has ls 7 [(0, .ref h_t), (1, .int x1)] → gx_W D A s (wd_X8_pack cI cZ h_t h_t_row h_t_tape h_t_codes h_t_widths h_t_begins h_t_spanAt h_t_spanLong h_t_spanOf h_t_out V_t V_t_row V_t_codes V_t_widths V_t_begins V_t_spanAt V_t_spanLong V_t_spanOf) H locs → K57 V_t V_t_codes V_t_widths V_t_begins V_t_spanAt V_t_spanLong V_t_spanOf x1 = some z → W p l e (gx_rm 5) s m args below meth c H locs 0 0 Q (F0 m 57 ls [])) : ∀ (V_t V_t_codes V_t_widths V_t_begins V_t_spanAt V_t_spanLong V_t_spanOf : Nat → Int32) (x1 x3 s0 : Int32) (ls : Array Slot) (H : Heap) (locs : List Loc), lv_has ls 7 [(0, .ref h_t), (1, .int x1), (3, .int x3)] → gx_W D A s (wd_X8_pack cI cZ h_t h_t_row h_t_tape h_t_codes h_t_widths h_t_begins h_t_spanAt h_t_spanLong h_t_spanOf h_t_out V_t V_t_row V_t_codes V_t_widths V_t_begins V_t_spanAt V_t_spanLong V_t_spanOf) H locs → fn_X8_pack_j154 V_t_row K57 V_t V_t_codes V_t_widths V_t_begins V_t_spanAt V_t_spanLong V_t_spanOf x1 x3 s0 = some z → W p l e (gx_rm 5) s m args below meth c H locs 0 0 Q (F0 m 154 ls [.int s0]) := by
  have hx := C.1.1
  have hb := C.1.2.1
  intro V_t V_t_codes V_t_widths V_t_begins V_t_spanAt V_t_spanLong V_t_spanOf x1 x3 s0 ls H locs hl hw hf
  rw [fn_X8_pack_j154] at hf
  refine lv_istore (lv' := [(4, .int s0), (0, .ref h_t), (1, .int x1), (3, .int x3)]) hx hb dX8_pack_154 hl (by decide) rfl (fun ls hl => ?_)
  refine lv_aload_n hx hb dX8_pack_156 rfl (lv_at hl 1 rfl) ?_
  refine lv_iload_n hx hb dX8_pack_157 rfl (lv_at hl 3 rfl) ?_
  obtain ⟨y_158, hy_158, hf⟩ := gx_b hf
  refine gx_callv (As := [.int x3]) (ws' := wd_X8_pack cI cZ h_t h_t_row h_t_tape h_t_codes h_t_widths h_t_begins h_t_spanAt h_t_spanLong h_t_spanOf h_t_out y_158.1 V_t_row y_158.2.1 y_158.2.2.1 y_158.2.2.2 V_t_spanAt V_t_spanLong V_t_spanOf) (isC := [0, 2, 3, 4]) (isR := [1, 5, 6, 7]) (isP := [4, 0, 5, 6, 7, 1, 2, 3]) C hw (ct_X8_add l D cI cZ h_t h_t_row h_t_tape h_t_codes h_t_widths h_t_begins h_t_spanAt h_t_spanLong h_t_spanOf h_t_out V_t V_t_codes V_t_widths V_t_begins x3 hy_158) kl_X8_pack_93 ⟨rfl, rfl⟩ ⟨rfl, rfl, by decide, by decide, by decide, by decide, rfl⟩ 0 rfl rfl rfl rfl hl.1 (Nat.le_of_ble_eq_true rfl) ⟨Nat.le_refl _, Nat.le_refl _⟩ dX8_pack_158 (fun H locs hw => ?_)
  refine lv_aload_n hx hb dX8_pack_161 rfl (lv_at hl 1 rfl) ?_
  refine lv_dup hx hb dX8_pack_162 rfl ?_
  refine gx_get (v := .int (y_158.1 9)) C hw 0 rfl (gx_gj rfl rfl) ln_X8_pack_68 dX8_pack_163 ?_
  refine lv_iconst (v := 1) hx hb dX8_pack_166 (by decide) ?_
  refine lv_iadd hx hb dX8_pack_167 ?_
  refine gx_put (ws' := wd_X8_pack cI cZ h_t h_t_row h_t_tape h_t_codes h_t_widths h_t_begins h_t_spanAt h_t_spanLong h_t_spanOf h_t_out (upd y_158.1 9 ((y_158.1 9) + 1)) V_t_row y_158.2.1 y_158.2.2.1 y_158.2.2.2 V_t_spanAt V_t_spanLong V_t_spanOf) C hw 0 rfl rfl lp_X8_pack_68 rfl rfl rfl dX8_pack_168 (fun H locs hw => ?_)
  refine lv_iload_n hx hb dX8_pack_171 rfl (lv_at hl 2 rfl) ?_
  refine lv_iload hx hb dX8_pack_172 (lv_at hl 0 rfl) ?_
  refine lv_iadd hx hb dX8_pack_174 ?_
  refine lv_aload_n hx hb dX8_pack_175 rfl (lv_at hl 1 rfl) ?_
  refine gx_get (v := .int (y_158.1 5)) C hw 0 rfl (gx_gj rfl ((pk_un (by decide)).trans rfl)) ln_X8_pack_61 dX8_pack_176 ?_
  refine lv_icmp_ge (tgt := 186) hx hb dX8_pack_179 (by decide) (fun hc => ?_) (fun hc => ?_)
  · replace hf := gx_t hc hf
    refine lv_iconst (v := 0) hx hb dX8_pack_186 (by decide) ?_
    exact tm_X8_pack_187 C h_t h_t_row h_t_tape h_t_codes h_t_widths h_t_begins h_t_spanAt h_t_spanLong h_t_spanOf h_t_out V_t_row hQ K57 hK57 (upd y_158.1 9 ((y_158.1 9) + 1)) y_158.2.1 y_158.2.2.1 y_158.2.2.2 V_t_spanAt V_t_spanLong V_t_spanOf x1 x3 s0 0 _ _ _ (lv_sub hl [1, 2, 3, 0] rfl) hw hf
  · replace hf := gx_f hc hf
    refine lv_iconst (v := 1) hx hb dX8_pack_182 (by decide) ?_
    refine lv_goto (tgt := 187) hx hb dX8_pack_183 (by decide) ?_
    exact tm_X8_pack_187 C h_t h_t_row h_t_tape h_t_codes h_t_widths h_t_begins h_t_spanAt h_t_spanLong h_t_spanOf h_t_out V_t_row hQ K57 hK57 (upd y_158.1 9 ((y_158.1 9) + 1)) y_158.2.1 y_158.2.2.1 y_158.2.2.2 V_t_spanAt V_t_spanLong V_t_spanOf x1 x3 s0 1 _ _ _ (lv_sub hl [1, 2, 3, 0] rfl) hw hf
set_option maxHeartbeats 4000000 in
set_option maxRecDepth 100000 in
theorem tm_X8_pack_138 (C : gx_C cX8_pack 7 wsX8_pack RX8 D cI cZ p s m args c) (h_t h_t_row h_t_tape h_t_codes h_t_widths h_t_begins h_t_spanAt h_t_spanLong h_t_spanOf h_t_out : Nat) (V_t_row : Nat → Int32) {z : (Nat → Int32) × (Nat → Int32) × (Nat → Int32) × (Nat → Int32) × (Nat → Int32) × (Nat → Int32) × (Nat → Int32)} (hQ : gx_Qv cX8_pack p l e (gx_rm 5) s m args below meth c D A Q (wd_X8_pack cI cZ h_t h_t_row h_t_tape h_t_codes h_t_widths h_t_begins h_t_spanAt h_t_spanLong h_t_spanOf h_t_out z.1 V_t_row z.2.1 z.2.2.1 z.2.2.2.1 z.2.2.2.2.1 z.2.2.2.2.2.1 z.2.2.2.2.2.2)) (K57 : (Nat → Int32) → (Nat → Int32) → (Nat → Int32) → (Nat → Int32) → (Nat → Int32) → (Nat → Int32) → (Nat → Int32) → Int32 → Option ((Nat → Int32) × (Nat → Int32) × (Nat → Int32) × (Nat → Int32) × (Nat → Int32) × (Nat → Int32) × (Nat → Int32))) (hK57 : ∀ (V_t V_t_codes V_t_widths V_t_begins V_t_spanAt V_t_spanLong V_t_spanOf : Nat → Int32) (x1 : Int32) (ls : Array Slot) (H : Heap) (locs : List Loc), lv_has ls 7 [(0, .ref h_t), (1, .int x1)] → gx_W D A s (wd_X8_pack cI cZ h_t h_t_row h_t_tape h_t_codes h_t_widths h_t_begins h_t_spanAt h_t_spanLong h_t_spanOf h_t_out V_t V_t_row V_t_codes V_t_widths V_t_begins V_t_spanAt V_t_spanLong V_t_spanOf) H locs → K57 V_t V_t_codes V_t_widths V_t_begins V_t_spanAt V_t_spanLong V_t_spanOf x1 = some z → W p l e (gx_rm 5) s m args below meth c H locs 0 0 Q (F0 m 57 ls [])) : ∀ (V_t V_t_codes V_t_widths V_t_begins V_t_spanAt V_t_spanLong V_t_spanOf : Nat → Int32) (x1 x2 s0 : Int32) (ls : Array Slot) (H : Heap) (locs : List Loc), lv_has ls 7 [(0, .ref h_t), (1, .int x1), (2, .int x2)] → gx_W D A s (wd_X8_pack cI cZ h_t h_t_row h_t_tape h_t_codes h_t_widths h_t_begins h_t_spanAt h_t_spanLong h_t_spanOf h_t_out V_t V_t_row V_t_codes V_t_widths V_t_begins V_t_spanAt V_t_spanLong V_t_spanOf) H locs → fn_X8_pack_j138 V_t_row K57 V_t V_t_codes V_t_widths V_t_begins V_t_spanAt V_t_spanLong V_t_spanOf x1 x2 s0 = some z → W p l e (gx_rm 5) s m args below meth c H locs 0 0 Q (F0 m 138 ls [.int s0]) := by
  have hx := C.1.1
  have hb := C.1.2.1
  intro V_t V_t_codes V_t_widths V_t_begins V_t_spanAt V_t_spanLong V_t_spanOf x1 x2 s0 ls H locs hl hw hf
  rw [fn_X8_pack_j138] at hf
  refine lv_istore_n (lv' := [(3, .int s0), (0, .ref h_t), (1, .int x1), (2, .int x2)]) hx hb dX8_pack_138 rfl hl (by decide) rfl (fun ls hl => ?_)
  refine lv_iload_n hx hb dX8_pack_139 rfl (lv_at hl 3 rfl) ?_
  refine lv_iconst (v := (-1)) hx hb dX8_pack_140 (by decide) ?_
  refine lv_icmp_ne (tgt := 148) hx hb dX8_pack_141 (by decide) (fun hc => ?_) (fun hc => ?_)
  · replace hf := gx_f hc hf
    refine lv_aload_n hx hb dX8_pack_148 rfl (lv_at hl 1 rfl) ?_
    refine gx_get C hw 0 rfl (gx_gr rfl) ln_X8_pack_42 dX8_pack_149 ?_
    refine lv_iload_n hx hb dX8_pack_152 rfl (lv_at hl 3 rfl) ?_
    obtain ⟨hi_153, hf⟩ := gx_g hf
    refine gx_iald C hw 6 rfl hi_153 dX8_pack_153 ?_
    exact tm_X8_pack_154 C h_t h_t_row h_t_tape h_t_codes h_t_widths h_t_begins h_t_spanAt h_t_spanLong h_t_spanOf h_t_out V_t_row hQ K57 hK57 V_t V_t_codes V_t_widths V_t_begins V_t_spanAt V_t_spanLong V_t_spanOf x1 s0 (V_t_spanLong x2.toNatClampNeg) _ _ _ (lv_sub hl [1, 2, 0] rfl) hw hf
  · replace hf := gx_t hc hf
    refine lv_iconst (v := 1) hx hb dX8_pack_144 (by decide) ?_
    refine lv_goto (tgt := 154) hx hb dX8_pack_145 (by decide) ?_
    exact tm_X8_pack_154 C h_t h_t_row h_t_tape h_t_codes h_t_widths h_t_begins h_t_spanAt h_t_spanLong h_t_spanOf h_t_out V_t_row hQ K57 hK57 V_t V_t_codes V_t_widths V_t_begins V_t_spanAt V_t_spanLong V_t_spanOf x1 s0 1 _ _ _ (lv_sub hl [1, 2, 0] rfl) hw hf
set_option maxHeartbeats 4000000 in
set_option maxRecDepth 100000 in
theorem tm_X8_pack_97 (C : gx_C cX8_pack 7 wsX8_pack RX8 D cI cZ p s m args c) (h_t h_t_row h_t_tape h_t_codes h_t_widths h_t_begins h_t_spanAt h_t_spanLong h_t_spanOf h_t_out : Nat) (V_t_row : Nat → Int32) {z : (Nat → Int32) × (Nat → Int32) × (Nat → Int32) × (Nat → Int32) × (Nat → Int32) × (Nat → Int32) × (Nat → Int32)} (hQ : gx_Qv cX8_pack p l e (gx_rm 5) s m args below meth c D A Q (wd_X8_pack cI cZ h_t h_t_row h_t_tape h_t_codes h_t_widths h_t_begins h_t_spanAt h_t_spanLong h_t_spanOf h_t_out z.1 V_t_row z.2.1 z.2.2.1 z.2.2.2.1 z.2.2.2.2.1 z.2.2.2.2.2.1 z.2.2.2.2.2.2)) (K57 : (Nat → Int32) → (Nat → Int32) → (Nat → Int32) → (Nat → Int32) → (Nat → Int32) → (Nat → Int32) → (Nat → Int32) → Int32 → Option ((Nat → Int32) × (Nat → Int32) × (Nat → Int32) × (Nat → Int32) × (Nat → Int32) × (Nat → Int32) × (Nat → Int32))) (hK57 : ∀ (V_t V_t_codes V_t_widths V_t_begins V_t_spanAt V_t_spanLong V_t_spanOf : Nat → Int32) (x1 : Int32) (ls : Array Slot) (H : Heap) (locs : List Loc), lv_has ls 7 [(0, .ref h_t), (1, .int x1)] → gx_W D A s (wd_X8_pack cI cZ h_t h_t_row h_t_tape h_t_codes h_t_widths h_t_begins h_t_spanAt h_t_spanLong h_t_spanOf h_t_out V_t V_t_row V_t_codes V_t_widths V_t_begins V_t_spanAt V_t_spanLong V_t_spanOf) H locs → K57 V_t V_t_codes V_t_widths V_t_begins V_t_spanAt V_t_spanLong V_t_spanOf x1 = some z → W p l e (gx_rm 5) s m args below meth c H locs 0 0 Q (F0 m 57 ls [])) (K69 : (Nat → Int32) → (Nat → Int32) → (Nat → Int32) → (Nat → Int32) → (Nat → Int32) → (Nat → Int32) → (Nat → Int32) → Int32 → Int32 → Int32 → Option ((Nat → Int32) × (Nat → Int32) × (Nat → Int32) × (Nat → Int32) × (Nat → Int32) × (Nat → Int32) × (Nat → Int32))) (hK69 : ∀ (V_t V_t_codes V_t_widths V_t_begins V_t_spanAt V_t_spanLong V_t_spanOf : Nat → Int32) (x1 x2 x3 : Int32) (ls : Array Slot) (H : Heap) (locs : List Loc), lv_has ls 7 [(0, .ref h_t), (1, .int x1), (2, .int x2), (3, .int x3)] → gx_W D A s (wd_X8_pack cI cZ h_t h_t_row h_t_tape h_t_codes h_t_widths h_t_begins h_t_spanAt h_t_spanLong h_t_spanOf h_t_out V_t V_t_row V_t_codes V_t_widths V_t_begins V_t_spanAt V_t_spanLong V_t_spanOf) H locs → K69 V_t V_t_codes V_t_widths V_t_begins V_t_spanAt V_t_spanLong V_t_spanOf x1 x2 x3 = some z → W p l e (gx_rm 5) s m args below meth c H locs 0 0 Q (F0 m 69 ls [])) : ∀ (V_t V_t_codes V_t_widths V_t_begins V_t_spanAt V_t_spanLong V_t_spanOf : Nat → Int32) (x1 x2 x3 : Int32) (ls : Array Slot) (H : Heap) (locs : List Loc), lv_has ls 7 [(0, .ref h_t), (1, .int x1), (2, .int x2), (3, .int x3)] → gx_W D A s (wd_X8_pack cI cZ h_t h_t_row h_t_tape h_t_codes h_t_widths h_t_begins h_t_spanAt h_t_spanLong h_t_spanOf h_t_out V_t V_t_row V_t_codes V_t_widths V_t_begins V_t_spanAt V_t_spanLong V_t_spanOf) H locs → fn_X8_pack_j97 V_t_row K57 K69 V_t V_t_codes V_t_widths V_t_begins V_t_spanAt V_t_spanLong V_t_spanOf x1 x2 x3 = some z → W p l e (gx_rm 5) s m args below meth c H locs 0 0 Q (F0 m 97 ls []) := by
  have hx := C.1.1
  have hb := C.1.2.1
  intro V_t V_t_codes V_t_widths V_t_begins V_t_spanAt V_t_spanLong V_t_spanOf x1 x2 x3 ls H locs hl hw hf
  rw [fn_X8_pack_j97] at hf
  refine lv_aload_n hx hb dX8_pack_97 rfl (lv_at hl 0 rfl) ?_
  refine lv_iload_n hx hb dX8_pack_98 rfl (lv_at hl 3 rfl) ?_
  refine lv_iload_n hx hb dX8_pack_99 rfl (lv_at hl 1 rfl) ?_
  obtain ⟨y_100, hy_100, hf⟩ := gx_b hf
  refine gx_calli (As := [.int x3, .int x1]) (ws' := wd_X8_pack cI cZ h_t h_t_row h_t_tape h_t_codes h_t_widths h_t_begins h_t_spanAt h_t_spanLong h_t_spanOf h_t_out V_t V_t_row V_t_codes V_t_widths V_t_begins V_t_spanAt V_t_spanLong V_t_spanOf) (isC := [0, 1, 5, 6]) (isR := [2, 3, 4, 7]) (isP := [4, 5, 0, 1, 2, 6, 7, 3]) C hw (ct_X8_standsAt l D cI cZ h_t h_t_row h_t_tape h_t_codes h_t_widths h_t_begins h_t_spanAt h_t_spanLong h_t_spanOf h_t_out V_t V_t_row V_t_spanAt V_t_spanLong x3 x1 hy_100) kl_X8_pack_106 ⟨rfl, rfl⟩ ⟨rfl, rfl, by decide, by decide, by decide, by decide, rfl⟩ 0 rfl rfl rfl rfl hl.1 (Nat.le_of_ble_eq_true rfl) ⟨Nat.le_refl _, Nat.le_refl _⟩ dX8_pack_100 (fun H locs hw => ?_)
  refine lv_if_eq (tgt := 110) hx hb dX8_pack_103 (by decide) (fun hc => ?_) (fun hc => ?_)
  · replace hf := gx_t hc hf
    refine lv_iload_n hx hb dX8_pack_110 rfl (lv_at hl 2 rfl) ?_
    refine lv_istore_n (lv' := [(2, .int x2), (0, .ref h_t), (1, .int x1), (3, .int x3)]) hx hb dX8_pack_111 rfl hl (by decide) rfl (fun ls hl => ?_)
    refine lv_iinc (v := (x3 + 1)) (lv' := [(3, .int (x3 + 1)), (2, .int x2), (0, .ref h_t), (1, .int x1)]) hx hb dX8_pack_112 hl (k := 3) rfl rfl (by decide) rfl (fun ls hl => ?_)
    refine lv_goto (tgt := 69) hx hb dX8_pack_115 (by decide) ?_
    exact hK69 V_t V_t_codes V_t_widths V_t_begins V_t_spanAt V_t_spanLong V_t_spanOf x1 x2 (x3 + 1) _ _ _ (lv_sub hl [2, 3, 1, 0] rfl) hw hf
  · replace hf := gx_f hc hf
    refine lv_iload_n hx hb dX8_pack_106 rfl (lv_at hl 3 rfl) ?_
    refine lv_goto (tgt := 111) hx hb dX8_pack_107 (by decide) ?_
    refine lv_istore_n (lv' := [(2, .int x3), (0, .ref h_t), (1, .int x1), (3, .int x3)]) hx hb dX8_pack_111 rfl hl (by decide) rfl (fun ls hl => ?_)
    refine lv_iinc (v := (x3 + 1)) (lv' := [(3, .int (x3 + 1)), (2, .int x3), (0, .ref h_t), (1, .int x1)]) hx hb dX8_pack_112 hl (k := 3) rfl rfl (by decide) rfl (fun ls hl => ?_)
    refine lv_goto (tgt := 69) hx hb dX8_pack_115 (by decide) ?_
    exact hK69 V_t V_t_codes V_t_widths V_t_begins V_t_spanAt V_t_spanLong V_t_spanOf x1 x3 (x3 + 1) _ _ _ (lv_sub hl [2, 3, 1, 0] rfl) hw hf
set_option maxHeartbeats 4000000 in
set_option maxRecDepth 100000 in
theorem tm_X8_pack_69 (C : gx_C cX8_pack 7 wsX8_pack RX8 D cI cZ p s m args c) (h_t h_t_row h_t_tape h_t_codes h_t_widths h_t_begins h_t_spanAt h_t_spanLong h_t_spanOf h_t_out : Nat) (V_t_row : Nat → Int32) {z : (Nat → Int32) × (Nat → Int32) × (Nat → Int32) × (Nat → Int32) × (Nat → Int32) × (Nat → Int32) × (Nat → Int32)} (hQ : gx_Qv cX8_pack p l e (gx_rm 5) s m args below meth c D A Q (wd_X8_pack cI cZ h_t h_t_row h_t_tape h_t_codes h_t_widths h_t_begins h_t_spanAt h_t_spanLong h_t_spanOf h_t_out z.1 V_t_row z.2.1 z.2.2.1 z.2.2.2.1 z.2.2.2.2.1 z.2.2.2.2.2.1 z.2.2.2.2.2.2)) (K57 : (Nat → Int32) → (Nat → Int32) → (Nat → Int32) → (Nat → Int32) → (Nat → Int32) → (Nat → Int32) → (Nat → Int32) → Int32 → Option ((Nat → Int32) × (Nat → Int32) × (Nat → Int32) × (Nat → Int32) × (Nat → Int32) × (Nat → Int32) × (Nat → Int32))) (hK57 : ∀ (V_t V_t_codes V_t_widths V_t_begins V_t_spanAt V_t_spanLong V_t_spanOf : Nat → Int32) (x1 : Int32) (ls : Array Slot) (H : Heap) (locs : List Loc), lv_has ls 7 [(0, .ref h_t), (1, .int x1)] → gx_W D A s (wd_X8_pack cI cZ h_t h_t_row h_t_tape h_t_codes h_t_widths h_t_begins h_t_spanAt h_t_spanLong h_t_spanOf h_t_out V_t V_t_row V_t_codes V_t_widths V_t_begins V_t_spanAt V_t_spanLong V_t_spanOf) H locs → K57 V_t V_t_codes V_t_widths V_t_begins V_t_spanAt V_t_spanLong V_t_spanOf x1 = some z → W p l e (gx_rm 5) s m args below meth c H locs 0 0 Q (F0 m 57 ls [])) : ∀ (n : Nat), (∀ (V_t V_t_codes V_t_widths V_t_begins V_t_spanAt V_t_spanLong V_t_spanOf : Nat → Int32) (x1 x2 x3 : Int32) (ls : Array Slot) (H : Heap) (locs : List Loc), lv_has ls 7 [(0, .ref h_t), (1, .int x1), (2, .int x2), (3, .int x3)] → gx_W D A s (wd_X8_pack cI cZ h_t h_t_row h_t_tape h_t_codes h_t_widths h_t_begins h_t_spanAt h_t_spanLong h_t_spanOf h_t_out V_t V_t_row V_t_codes V_t_widths V_t_begins V_t_spanAt V_t_spanLong V_t_spanOf) H locs → fn_X8_pack_l69 V_t_row K57 n V_t V_t_codes V_t_widths V_t_begins V_t_spanAt V_t_spanLong V_t_spanOf x1 x2 x3 = some z → W p l e (gx_rm 5) s m args below meth c H locs 0 0 Q (F0 m 69 ls [])) := by
  have hx := C.1.1
  have hb := C.1.2.1
  intro n
  induction n with
  | zero => intro V_t V_t_codes V_t_widths V_t_begins V_t_spanAt V_t_spanLong V_t_spanOf x1 x2 x3 ls H locs hl hw hf; rw [fn_X8_pack_l69] at hf; cases hf
  | succ n ih =>
    intro V_t V_t_codes V_t_widths V_t_begins V_t_spanAt V_t_spanLong V_t_spanOf x1 x2 x3 ls H locs hl hw hf
    rw [fn_X8_pack_l69] at hf
    refine lv_iload_n hx hb dX8_pack_69 rfl (lv_at hl 3 rfl) ?_
    refine lv_aload_n hx hb dX8_pack_70 rfl (lv_at hl 0 rfl) ?_
    refine gx_get (v := .int (V_t 20)) C hw 0 rfl (gx_gj rfl rfl) ln_X8_pack_100 dX8_pack_71 ?_
    refine lv_icmp_ge (tgt := 118) hx hb dX8_pack_74 (by decide) (fun hc => ?_) (fun hc => ?_)
    · replace hf := gx_t hc hf
      refine lv_iload_n hx hb dX8_pack_118 rfl (lv_at hl 2 rfl) ?_
      refine lv_iconst (v := (-1)) hx hb dX8_pack_119 (by decide) ?_
      refine lv_icmp_ne (tgt := 132) hx hb dX8_pack_120 (by decide) (fun hc => ?_) (fun hc => ?_)
      · replace hf := gx_f hc hf
        refine lv_aload_n hx hb dX8_pack_132 rfl (lv_at hl 0 rfl) ?_
        obtain ⟨y_133, hy_133, hf⟩ := gx_b hf
        refine gx_calli (As := []) (ws' := wd_X8_pack cI cZ h_t h_t_row h_t_tape h_t_codes h_t_widths h_t_begins h_t_spanAt h_t_spanLong h_t_spanOf h_t_out V_t V_t_row V_t_codes V_t_widths V_t_begins V_t_spanAt V_t_spanLong V_t_spanOf) (isC := [0]) (isR := [1, 2, 3, 4, 5, 6, 7]) (isP := [7, 0, 1, 2, 3, 4, 5, 6]) C hw (ct_X8_firstNumber l D cI cZ h_t h_t_row h_t_tape h_t_codes h_t_widths h_t_begins h_t_spanAt h_t_spanLong h_t_spanOf h_t_out V_t hy_133) kl_X8_pack_64 ⟨rfl, rfl⟩ ⟨rfl, rfl, by decide, by decide, by decide, by decide, rfl⟩ 0 rfl rfl rfl rfl hl.1 (Nat.le_of_ble_eq_true rfl) ⟨Nat.le_refl _, Nat.le_refl _⟩ dX8_pack_133 (fun H locs hw => ?_)
        refine lv_iload_n hx hb dX8_pack_136 rfl (lv_at hl 2 rfl) ?_
        refine lv_iadd hx hb dX8_pack_137 ?_
        exact tm_X8_pack_138 C h_t h_t_row h_t_tape h_t_codes h_t_widths h_t_begins h_t_spanAt h_t_spanLong h_t_spanOf h_t_out V_t_row hQ K57 hK57 V_t V_t_codes V_t_widths V_t_begins V_t_spanAt V_t_spanLong V_t_spanOf x1 x2 (y_133 + x2) _ _ _ (lv_sub hl [0, 1, 2] rfl) hw hf
      · replace hf := gx_t hc hf
        refine lv_aload_n hx hb dX8_pack_123 rfl (lv_at hl 0 rfl) ?_
        refine gx_get C hw 0 rfl (gx_gr rfl) ln_X8_pack_19 dX8_pack_124 ?_
        refine lv_iload_n hx hb dX8_pack_127 rfl (lv_at hl 1 rfl) ?_
        obtain ⟨hi_128, hf⟩ := gx_g hf
        refine gx_iald C hw 1 rfl hi_128 dX8_pack_128 ?_
        refine lv_goto (tgt := 138) hx hb dX8_pack_129 (by decide) ?_
        exact tm_X8_pack_138 C h_t h_t_row h_t_tape h_t_codes h_t_widths h_t_begins h_t_spanAt h_t_spanLong h_t_spanOf h_t_out V_t_row hQ K57 hK57 V_t V_t_codes V_t_widths V_t_begins V_t_spanAt V_t_spanLong V_t_spanOf x1 x2 (V_t_row x1.toNatClampNeg) _ _ _ (lv_sub hl [0, 1, 2] rfl) hw hf
    · replace hf := gx_f hc hf
      refine lv_iload_n hx hb dX8_pack_77 rfl (lv_at hl 2 rfl) ?_
      refine lv_iconst (v := (-1)) hx hb dX8_pack_78 (by decide) ?_
      refine lv_icmp_eq (tgt := 97) hx hb dX8_pack_79 (by decide) (fun hc => ?_) (fun hc => ?_)
      · replace hf := gx_t hc hf
        exact tm_X8_pack_97 C h_t h_t_row h_t_tape h_t_codes h_t_widths h_t_begins h_t_spanAt h_t_spanLong h_t_spanOf h_t_out V_t_row hQ K57 hK57 (fn_X8_pack_l69 V_t_row K57 n) ih V_t V_t_codes V_t_widths V_t_begins V_t_spanAt V_t_spanLong V_t_spanOf x1 x2 x3 _ _ _ (lv_sub hl [0, 1, 2, 3] rfl) hw hf
      · replace hf := gx_f hc hf
        refine lv_aload_n hx hb dX8_pack_82 rfl (lv_at hl 0 rfl) ?_
        refine gx_get C hw 0 rfl (gx_gr rfl) ln_X8_pack_42 dX8_pack_83 ?_
        refine lv_iload_n hx hb dX8_pack_86 rfl (lv_at hl 3 rfl) ?_
        obtain ⟨hi_87, hf⟩ := gx_g hf
        refine gx_iald C hw 6 rfl hi_87 dX8_pack_87 ?_
        refine lv_aload_n hx hb dX8_pack_88 rfl (lv_at hl 0 rfl) ?_
        refine gx_get C hw 0 rfl (gx_gr rfl) ln_X8_pack_42 dX8_pack_89 ?_
        refine lv_iload_n hx hb dX8_pack_92 rfl (lv_at hl 2 rfl) ?_
        obtain ⟨hi_93, hf⟩ := gx_g hf
        refine gx_iald C hw 6 rfl hi_93 dX8_pack_93 ?_
        refine lv_icmp_le (tgt := 110) hx hb dX8_pack_94 (by decide) (fun hc => ?_) (fun hc => ?_)
        · replace hf := gx_t hc hf
          refine lv_iload_n hx hb dX8_pack_110 rfl (lv_at hl 2 rfl) ?_
          refine lv_istore_n (lv' := [(2, .int x2), (0, .ref h_t), (1, .int x1), (3, .int x3)]) hx hb dX8_pack_111 rfl hl (by decide) rfl (fun ls hl => ?_)
          refine lv_iinc (v := (x3 + 1)) (lv' := [(3, .int (x3 + 1)), (2, .int x2), (0, .ref h_t), (1, .int x1)]) hx hb dX8_pack_112 hl (k := 3) rfl rfl (by decide) rfl (fun ls hl => ?_)
          refine lv_goto (tgt := 69) hx hb dX8_pack_115 (by decide) ?_
          exact ih V_t V_t_codes V_t_widths V_t_begins V_t_spanAt V_t_spanLong V_t_spanOf x1 x2 (x3 + 1) _ _ _ (lv_sub hl [2, 3, 1, 0] rfl) hw hf
        · replace hf := gx_f hc hf
          exact tm_X8_pack_97 C h_t h_t_row h_t_tape h_t_codes h_t_widths h_t_begins h_t_spanAt h_t_spanLong h_t_spanOf h_t_out V_t_row hQ K57 hK57 (fn_X8_pack_l69 V_t_row K57 n) ih V_t V_t_codes V_t_widths V_t_begins V_t_spanAt V_t_spanLong V_t_spanOf x1 x2 x3 _ _ _ (lv_sub hl [0, 1, 2, 3] rfl) hw hf
set_option maxHeartbeats 4000000 in
set_option maxRecDepth 100000 in
theorem tm_X8_pack_57 (C : gx_C cX8_pack 7 wsX8_pack RX8 D cI cZ p s m args c) (h_t h_t_row h_t_tape h_t_codes h_t_widths h_t_begins h_t_spanAt h_t_spanLong h_t_spanOf h_t_out : Nat) (V_t_row : Nat → Int32) {z : (Nat → Int32) × (Nat → Int32) × (Nat → Int32) × (Nat → Int32) × (Nat → Int32) × (Nat → Int32) × (Nat → Int32)} (hQ : gx_Qv cX8_pack p l e (gx_rm 5) s m args below meth c D A Q (wd_X8_pack cI cZ h_t h_t_row h_t_tape h_t_codes h_t_widths h_t_begins h_t_spanAt h_t_spanLong h_t_spanOf h_t_out z.1 V_t_row z.2.1 z.2.2.1 z.2.2.2.1 z.2.2.2.2.1 z.2.2.2.2.2.1 z.2.2.2.2.2.2)) : ∀ (n : Nat), (∀ (V_t V_t_codes V_t_widths V_t_begins V_t_spanAt V_t_spanLong V_t_spanOf : Nat → Int32) (x1 : Int32) (ls : Array Slot) (H : Heap) (locs : List Loc), lv_has ls 7 [(0, .ref h_t), (1, .int x1)] → gx_W D A s (wd_X8_pack cI cZ h_t h_t_row h_t_tape h_t_codes h_t_widths h_t_begins h_t_spanAt h_t_spanLong h_t_spanOf h_t_out V_t V_t_row V_t_codes V_t_widths V_t_begins V_t_spanAt V_t_spanLong V_t_spanOf) H locs → fn_X8_pack_l57 V_t_row n V_t V_t_codes V_t_widths V_t_begins V_t_spanAt V_t_spanLong V_t_spanOf x1 = some z → W p l e (gx_rm 5) s m args below meth c H locs 0 0 Q (F0 m 57 ls [])) := by
  have hx := C.1.1
  have hb := C.1.2.1
  intro n
  induction n with
  | zero => intro V_t V_t_codes V_t_widths V_t_begins V_t_spanAt V_t_spanLong V_t_spanOf x1 ls H locs hl hw hf; rw [fn_X8_pack_l57] at hf; cases hf
  | succ n ih =>
    intro V_t V_t_codes V_t_widths V_t_begins V_t_spanAt V_t_spanLong V_t_spanOf x1 ls H locs hl hw hf
    rw [fn_X8_pack_l57] at hf
    refine lv_iload_n hx hb dX8_pack_57 rfl (lv_at hl 1 rfl) ?_
    refine lv_aload_n hx hb dX8_pack_58 rfl (lv_at hl 0 rfl) ?_
    refine gx_get (v := .int (V_t 5)) C hw 0 rfl (gx_gj rfl rfl) ln_X8_pack_61 dX8_pack_59 ?_
    refine lv_icmp_ge (tgt := 325) hx hb dX8_pack_62 (by decide) (fun hc => ?_) (fun hc => ?_)
    · replace hf := gx_t hc hf
      refine lv_aload_n hx hb dX8_pack_325 rfl (lv_at hl 0 rfl) ?_
      refine gx_get (v := .int (V_t 0)) C hw 0 rfl (gx_gj rfl rfl) ln_X8_pack_54 dX8_pack_326 ?_
      refine lv_iconst (v := 2) hx hb dX8_pack_329 (by decide) ?_
      refine lv_icmp_eq (tgt := 345) hx hb dX8_pack_330 (by decide) (fun hc => ?_) (fun hc => ?_)
      · replace hf := gx_t hc hf
        obtain rfl := Option.some.inj hf
        exact hQ _ _ _ _ dX8_pack_345 hw
      · replace hf := gx_f hc hf
        refine lv_aload_n hx hb dX8_pack_333 rfl (lv_at hl 0 rfl) ?_
        refine lv_iconst (v := 1) hx hb dX8_pack_334 (by decide) ?_
        refine lv_aload_n hx hb dX8_pack_335 rfl (lv_at hl 0 rfl) ?_
        refine gx_get (v := .int (V_t 1)) C hw 0 rfl (gx_gj rfl rfl) ln_X8_pack_7 dX8_pack_336 ?_
        refine lv_ishl hx hb dX8_pack_339 ?_
        refine lv_iconst (v := 1) hx hb dX8_pack_340 (by decide) ?_
        refine lv_iadd hx hb dX8_pack_341 ?_
        obtain ⟨y_342, hy_342, hf⟩ := gx_b hf
        refine gx_callv (As := [.int ((1 <<< ((V_t 1) &&& 31)) + 1)]) (ws' := wd_X8_pack cI cZ h_t h_t_row h_t_tape h_t_codes h_t_widths h_t_begins h_t_spanAt h_t_spanLong h_t_spanOf h_t_out y_342.1 V_t_row y_342.2.1 y_342.2.2.1 y_342.2.2.2 V_t_spanAt V_t_spanLong V_t_spanOf) (isC := [0, 2, 3, 4]) (isR := [1, 5, 6, 7]) (isP := [4, 0, 5, 6, 7, 1, 2, 3]) C hw (ct_X8_add l D cI cZ h_t h_t_row h_t_tape h_t_codes h_t_widths h_t_begins h_t_spanAt h_t_spanLong h_t_spanOf h_t_out V_t V_t_codes V_t_widths V_t_begins ((1 <<< ((V_t 1) &&& 31)) + 1) hy_342) kl_X8_pack_93 ⟨rfl, rfl⟩ ⟨rfl, rfl, by decide, by decide, by decide, by decide, rfl⟩ 0 rfl rfl rfl rfl hl.1 (Nat.le_of_ble_eq_true rfl) ⟨Nat.le_refl _, Nat.le_refl _⟩ dX8_pack_342 (fun H locs hw => ?_)
        obtain rfl := Option.some.inj hf
        exact hQ _ _ _ _ dX8_pack_345 hw
    · replace hf := gx_f hc hf
      refine lv_iconst (v := (-1)) hx hb dX8_pack_65 (by decide) ?_
      refine lv_istore_n (lv' := [(2, .int (-1)), (0, .ref h_t), (1, .int x1)]) hx hb dX8_pack_66 rfl hl (by decide) rfl (fun ls hl => ?_)
      refine lv_iconst (v := 0) hx hb dX8_pack_67 (by decide) ?_
      refine lv_istore_n (lv' := [(3, .int 0), (2, .int (-1)), (0, .ref h_t), (1, .int x1)]) hx hb dX8_pack_68 rfl hl (by decide) rfl (fun ls hl => ?_)
      exact tm_X8_pack_69 C h_t h_t_row h_t_tape h_t_codes h_t_widths h_t_begins h_t_spanAt h_t_spanLong h_t_spanOf h_t_out V_t_row hQ (fn_X8_pack_l57 V_t_row n) ih gx_fuel V_t V_t_codes V_t_widths V_t_begins V_t_spanAt V_t_spanLong V_t_spanOf x1 (-1) 0 _ _ _ (lv_sub hl [2, 3, 1, 0] rfl) hw hf
set_option maxHeartbeats 4000000 in
set_option maxRecDepth 100000 in
theorem ct_X8_pack (l : Launch) (D : va_G) (cI cZ : ClassId) (h_t h_t_row h_t_tape h_t_codes h_t_widths h_t_begins h_t_spanAt h_t_spanLong h_t_spanOf h_t_out : Nat) (V_t V_t_row V_t_codes V_t_widths V_t_begins V_t_spanAt V_t_spanLong V_t_spanOf : Nat → Int32) {z : (Nat → Int32) × (Nat → Int32) × (Nat → Int32) × (Nat → Int32) × (Nat → Int32) × (Nat → Int32) × (Nat → Int32)} (hf : fn_X8_pack V_t V_t_row V_t_codes V_t_widths V_t_begins V_t_spanAt V_t_spanLong V_t_spanOf = some z) : gx_Mv l yX8_pack wsX8_pack (gx_rm 5) D cI cZ [.ref h_t] (wd_X8_pack cI cZ h_t h_t_row h_t_tape h_t_codes h_t_widths h_t_begins h_t_spanAt h_t_spanLong h_t_spanOf h_t_out V_t V_t_row V_t_codes V_t_widths V_t_begins V_t_spanAt V_t_spanLong V_t_spanOf) (wd_X8_pack cI cZ h_t h_t_row h_t_tape h_t_codes h_t_widths h_t_begins h_t_spanAt h_t_spanLong h_t_spanOf h_t_out z.1 V_t_row z.2.1 z.2.2.1 z.2.2.2.1 z.2.2.2.2.1 z.2.2.2.2.2.1 z.2.2.2.2.2.2) := by
  refine gx_ofv (cc := cX8_pack) (own := RX8) (by decide) rfl rfl (Nat.le_of_ble_eq_true rfl) [(0, .ref h_t)] rfl ?_
  intro p e s m args below meth c A Q ls C hQ hl hw
  have hx := C.1.1
  have hb := C.1.2.1
  rw [fn_X8_pack] at hf
  refine lv_aload_n hx hb dX8_pack_0 rfl (lv_at hl 0 rfl) ?_
  refine gx_get (v := .int (V_t 21)) C hw 0 rfl (gx_gj rfl rfl) ln_X8_pack_77 dX8_pack_1 ?_
  refine lv_if_eq (tgt := 8) hx hb dX8_pack_4 (by decide) (fun hc => ?_) (fun hc => ?_)
  · replace hf := gx_t hc hf
    refine lv_aload_n hx hb dX8_pack_8 rfl (lv_at hl 0 rfl) ?_
    refine lv_iconst (v := 1) hx hb dX8_pack_9 (by decide) ?_
    refine gx_put (ws' := wd_X8_pack cI cZ h_t h_t_row h_t_tape h_t_codes h_t_widths h_t_begins h_t_spanAt h_t_spanLong h_t_spanOf h_t_out (upd V_t 21 1) V_t_row V_t_codes V_t_widths V_t_begins V_t_spanAt V_t_spanLong V_t_spanOf) C hw 0 rfl rfl lp_X8_pack_77 (gx_nb (Or.inr rfl)) (gx_fb (Or.inr rfl)) rfl dX8_pack_10 (fun H locs hw => ?_)
    refine lv_aload_n hx hb dX8_pack_13 rfl (lv_at hl 0 rfl) ?_
    refine lv_iconst (v := 0) hx hb dX8_pack_14 (by decide) ?_
    refine gx_put (ws' := wd_X8_pack cI cZ h_t h_t_row h_t_tape h_t_codes h_t_widths h_t_begins h_t_spanAt h_t_spanLong h_t_spanOf h_t_out (upd (upd V_t 21 1) 13 0) V_t_row V_t_codes V_t_widths V_t_begins V_t_spanAt V_t_spanLong V_t_spanOf) C hw 0 rfl rfl lp_X8_pack_84 rfl rfl rfl dX8_pack_15 (fun H locs hw => ?_)
    refine lv_aload_n hx hb dX8_pack_18 rfl (lv_at hl 0 rfl) ?_
    refine lv_iconst (v := 0) hx hb dX8_pack_19 (by decide) ?_
    refine gx_put (ws' := wd_X8_pack cI cZ h_t h_t_row h_t_tape h_t_codes h_t_widths h_t_begins h_t_spanAt h_t_spanLong h_t_spanOf h_t_out (upd (upd (upd V_t 21 1) 13 0) 14 0) V_t_row V_t_codes V_t_widths V_t_begins V_t_spanAt V_t_spanLong V_t_spanOf) C hw 0 rfl rfl lp_X8_pack_87 rfl rfl rfl dX8_pack_20 (fun H locs hw => ?_)
    refine lv_aload_n hx hb dX8_pack_23 rfl (lv_at hl 0 rfl) ?_
    refine lv_iconst (v := 0) hx hb dX8_pack_24 (by decide) ?_
    refine gx_put (ws' := wd_X8_pack cI cZ h_t h_t_row h_t_tape h_t_codes h_t_widths h_t_begins h_t_spanAt h_t_spanLong h_t_spanOf h_t_out (upd (upd (upd (upd V_t 21 1) 13 0) 14 0) 15 0) V_t_row V_t_codes V_t_widths V_t_begins V_t_spanAt V_t_spanLong V_t_spanOf) C hw 0 rfl rfl lp_X8_pack_97 rfl rfl rfl dX8_pack_25 (fun H locs hw => ?_)
    refine lv_aload_n hx hb dX8_pack_28 rfl (lv_at hl 0 rfl) ?_
    refine lv_iconst (v := 0) hx hb dX8_pack_29 (by decide) ?_
    refine gx_put (ws' := wd_X8_pack cI cZ h_t h_t_row h_t_tape h_t_codes h_t_widths h_t_begins h_t_spanAt h_t_spanLong h_t_spanOf h_t_out (upd (upd (upd (upd (upd V_t 21 1) 13 0) 14 0) 15 0) 16 0) V_t_row V_t_codes V_t_widths V_t_begins V_t_spanAt V_t_spanLong V_t_spanOf) C hw 0 rfl rfl lp_X8_pack_90 rfl rfl rfl dX8_pack_30 (fun H locs hw => ?_)
    refine lv_aload_n hx hb dX8_pack_33 rfl (lv_at hl 0 rfl) ?_
    refine lv_iconst (v := 0) hx hb dX8_pack_34 (by decide) ?_
    refine gx_put (ws' := wd_X8_pack cI cZ h_t h_t_row h_t_tape h_t_codes h_t_widths h_t_begins h_t_spanAt h_t_spanLong h_t_spanOf h_t_out (upd (upd (upd (upd (upd (upd V_t 21 1) 13 0) 14 0) 15 0) 16 0) 9 0) V_t_row V_t_codes V_t_widths V_t_begins V_t_spanAt V_t_spanLong V_t_spanOf) C hw 0 rfl rfl lp_X8_pack_68 rfl rfl rfl dX8_pack_35 (fun H locs hw => ?_)
    refine lv_aload_n hx hb dX8_pack_38 rfl (lv_at hl 0 rfl) ?_
    refine lv_iconst (v := 0) hx hb dX8_pack_39 (by decide) ?_
    refine gx_put (ws' := wd_X8_pack cI cZ h_t h_t_row h_t_tape h_t_codes h_t_widths h_t_begins h_t_spanAt h_t_spanLong h_t_spanOf h_t_out (upd (upd (upd (upd (upd (upd (upd V_t 21 1) 13 0) 14 0) 15 0) 16 0) 9 0) 20 0) V_t_row V_t_codes V_t_widths V_t_begins V_t_spanAt V_t_spanLong V_t_spanOf) C hw 0 rfl rfl lp_X8_pack_100 rfl rfl rfl dX8_pack_40 (fun H locs hw => ?_)
    refine lv_aload_n hx hb dX8_pack_43 rfl (lv_at hl 0 rfl) ?_
    refine gx_get (v := .int (V_t 0)) C hw 0 rfl (gx_gj rfl ((pk_un (by decide)).trans ((pk_un (by decide)).trans ((pk_un (by decide)).trans ((pk_un (by decide)).trans ((pk_un (by decide)).trans ((pk_un (by decide)).trans ((pk_un (by decide)).trans rfl)))))))) ln_X8_pack_54 dX8_pack_44 ?_
    refine lv_iconst (v := 2) hx hb dX8_pack_47 (by decide) ?_
    refine lv_icmp_eq (tgt := 55) hx hb dX8_pack_48 (by decide) (fun hc => ?_) (fun hc => ?_)
    · replace hf := gx_t hc hf
      refine lv_iconst (v := 0) hx hb dX8_pack_55 (by decide) ?_
      refine lv_istore_n (lv' := [(1, .int 0), (0, .ref h_t)]) hx hb dX8_pack_56 rfl hl (by decide) rfl (fun ls hl => ?_)
      exact tm_X8_pack_57 C h_t h_t_row h_t_tape h_t_codes h_t_widths h_t_begins h_t_spanAt h_t_spanLong h_t_spanOf h_t_out V_t_row hQ  gx_fuel (upd (upd (upd (upd (upd (upd (upd V_t 21 1) 13 0) 14 0) 15 0) 16 0) 9 0) 20 0) V_t_codes V_t_widths V_t_begins V_t_spanAt V_t_spanLong V_t_spanOf 0 _ _ _ (lv_sub hl [1, 0] rfl) hw hf
    · replace hf := gx_f hc hf
      refine lv_aload_n hx hb dX8_pack_51 rfl (lv_at hl 0 rfl) ?_
      obtain ⟨y_52, hy_52, hf⟩ := gx_b hf
      refine gx_callv (As := []) (ws' := wd_X8_pack cI cZ h_t h_t_row h_t_tape h_t_codes h_t_widths h_t_begins h_t_spanAt h_t_spanLong h_t_spanOf h_t_out y_52.1 V_t_row y_52.2.1 y_52.2.2.1 y_52.2.2.2 V_t_spanAt V_t_spanLong V_t_spanOf) (isC := [0, 2, 3, 4]) (isR := [1, 5, 6, 7]) (isP := [4, 0, 5, 6, 7, 1, 2, 3]) C hw (ct_X8_clear l D cI cZ h_t h_t_row h_t_tape h_t_codes h_t_widths h_t_begins h_t_spanAt h_t_spanLong h_t_spanOf h_t_out (upd (upd (upd (upd (upd (upd (upd V_t 21 1) 13 0) 14 0) 15 0) 16 0) 9 0) 20 0) V_t_codes V_t_widths V_t_begins hy_52) kl_X8_pack_103 ⟨rfl, rfl⟩ ⟨rfl, rfl, by decide, by decide, by decide, by decide, rfl⟩ 0 rfl rfl rfl rfl hl.1 (Nat.le_of_ble_eq_true rfl) ⟨Nat.le_refl _, Nat.le_refl _⟩ dX8_pack_52 (fun H locs hw => ?_)
      refine lv_iconst (v := 0) hx hb dX8_pack_55 (by decide) ?_
      refine lv_istore_n (lv' := [(1, .int 0), (0, .ref h_t)]) hx hb dX8_pack_56 rfl hl (by decide) rfl (fun ls hl => ?_)
      exact tm_X8_pack_57 C h_t h_t_row h_t_tape h_t_codes h_t_widths h_t_begins h_t_spanAt h_t_spanLong h_t_spanOf h_t_out V_t_row hQ  gx_fuel y_52.1 y_52.2.1 y_52.2.2.1 y_52.2.2.2 V_t_spanAt V_t_spanLong V_t_spanOf 0 _ _ _ (lv_sub hl [1, 0] rfl) hw hf
  · replace hf := gx_f hc hf
    obtain rfl := Option.some.inj hf
    exact hQ _ _ _ _ dX8_pack_7 hw
-- LzwFormsModel.setting: touched ['t']; used ['t']; mod ['t']; height 1
theorem lp_X8_setting_7 : gx_LP wsX8_setting RX8 7 8 1 false .int := ⟨_, _, _, tyX8, rfl, by decide +kernel, by decide, by decide +kernel, tyX8_ok, nmX8, by decide +kernel, by decide +kernel, by decide +kernel⟩
theorem lp_X8_setting_13 : gx_LP wsX8_setting RX8 13 8 2 false .int := ⟨_, _, _, tyX8, rfl, by decide +kernel, by decide, by decide +kernel, tyX8_ok, nmX8, by decide +kernel, by decide +kernel, by decide +kernel⟩
theorem lp_X8_setting_16 : gx_LP wsX8_setting RX8 16 8 3 false .int := ⟨_, _, _, tyX8, rfl, by decide +kernel, by decide, by decide +kernel, tyX8_ok, nmX8, by decide +kernel, by decide +kernel, by decide +kernel⟩
theorem lp_X8_setting_54 : gx_LP wsX8_setting RX8 54 8 0 false .int := ⟨_, _, _, tyX8, rfl, by decide +kernel, by decide, by decide +kernel, tyX8_ok, nmX8, by decide +kernel, by decide +kernel, by decide +kernel⟩
theorem ln_X8_setting_61 : gx_L wsX8_setting RX8 61 8 5 := ⟨_, _, _, rfl, by decide +kernel, by decide, Or.inl (by decide +kernel)⟩
theorem kl_X8_setting_51 : gx_KV wsX8_setting RX8 51 yX8_layCodes cX8_layCodes 1 none wsX8_layCodes (gx_rm 0) (gx_rm 1) 0 := ⟨gX8_setting_X8_layCodes, ⟨_, rfl⟩, ⟨by decide, by decide, by decide +kernel⟩, ⟨by decide, by decide⟩⟩
theorem kl_X8_setting_57 : gx_KS wsX8_setting RX8 57 yX8_in cX8_in 3 (some .boolean) wsX8_in (gx_rm 0) (gx_rm 1) 3 := ⟨gX8_setting_X8_in, ⟨_, rfl⟩, ⟨by decide, by decide, by decide +kernel⟩, ⟨by decide, by decide⟩⟩
def wd_X8_setting (cI cZ : ClassId) (h_t h_t_row h_t_tape h_t_codes h_t_widths h_t_begins h_t_spanAt h_t_spanLong h_t_spanOf h_t_out : Nat) (V_t : Nat → Int32) : va_W := [gx_o h_t 8 [none, none, none, none, some (some h_t_row), none, some (some h_t_tape), none, none, none, some (some h_t_codes), some (some h_t_widths), some (some h_t_begins), none, none, none, none, some (some h_t_spanAt), some (some h_t_spanLong), some (some h_t_spanOf), none, none, none, none, some (some h_t_out), none, none, none] V_t]
set_option maxHeartbeats 4000000 in
set_option maxRecDepth 100000 in
theorem tm_X8_setting_60 (C : gx_C cX8_setting 6 wsX8_setting RX8 D cI cZ p s m args c) (h_t h_t_row h_t_tape h_t_codes h_t_widths h_t_begins h_t_spanAt h_t_spanLong h_t_spanOf h_t_out : Nat) {z : Int32 × (Nat → Int32)} (hQ : gx_Qi cX8_setting .int p l e (gx_rm 1) s m args below meth c D A Q (wd_X8_setting cI cZ h_t h_t_row h_t_tape h_t_codes h_t_widths h_t_begins h_t_spanAt h_t_spanLong h_t_spanOf h_t_out z.2) z.1) : ∀ (V_t : Nat → Int32) (x1 x2 x3 x4 s0 : Int32) (ls : Array Slot) (H : Heap) (locs : List Loc), lv_has ls 6 [(0, .ref h_t), (1, .int x1), (2, .int x2), (3, .int x3), (4, .int x4)] → gx_W D A s (wd_X8_setting cI cZ h_t h_t_row h_t_tape h_t_codes h_t_widths h_t_begins h_t_spanAt h_t_spanLong h_t_spanOf h_t_out V_t) H locs → fn_X8_setting_j60 V_t x1 x2 x3 x4 s0 = some z → W p l e (gx_rm 1) s m args below meth c H locs 0 0 Q (F0 m 60 ls [.int s0]) := by
  have hx := C.1.1
  have hb := C.1.2.1
  intro V_t x1 x2 x3 x4 s0 ls H locs hl hw hf
  rw [fn_X8_setting_j60] at hf
  refine lv_istore (lv' := [(5, .int s0), (0, .ref h_t), (1, .int x1), (2, .int x2), (3, .int x3), (4, .int x4)]) hx hb dX8_setting_60 hl (by decide) rfl (fun ls hl => ?_)
  refine lv_iload hx hb dX8_setting_62 (lv_at hl 0 rfl) ?_
  refine lv_if_ne (tgt := 70) hx hb dX8_setting_64 (by decide) (fun hc => ?_) (fun hc => ?_)
  · replace hf := gx_f hc hf
    refine lv_aload_n hx hb dX8_setting_70 rfl (lv_at hl 1 rfl) ?_
    refine gx_get (v := .int (V_t 5)) C hw 0 rfl (gx_gj rfl rfl) ln_X8_setting_61 dX8_setting_71 ?_
    refine lv_if_le (tgt := 80) hx hb dX8_setting_74 (by decide) (fun hc => ?_) (fun hc => ?_)
    · replace hf := gx_t hc hf
      refine lv_aload_n hx hb dX8_setting_80 rfl (lv_at hl 1 rfl) ?_
      refine lv_iload_n hx hb dX8_setting_81 rfl (lv_at hl 2 rfl) ?_
      refine gx_put (ws' := wd_X8_setting cI cZ h_t h_t_row h_t_tape h_t_codes h_t_widths h_t_begins h_t_spanAt h_t_spanLong h_t_spanOf h_t_out (upd V_t 0 x1)) C hw 0 rfl rfl lp_X8_setting_54 rfl rfl rfl dX8_setting_82 (fun H locs hw => ?_)
      refine lv_aload_n hx hb dX8_setting_85 rfl (lv_at hl 1 rfl) ?_
      refine lv_iload_n hx hb dX8_setting_86 rfl (lv_at hl 3 rfl) ?_
      refine gx_put (ws' := wd_X8_setting cI cZ h_t h_t_row h_t_tape h_t_codes h_t_widths h_t_begins h_t_spanAt h_t_spanLong h_t_spanOf h_t_out (upd (upd V_t 0 x1) 1 x2)) C hw 0 rfl rfl lp_X8_setting_7 rfl rfl rfl dX8_setting_87 (fun H locs hw => ?_)
      refine lv_aload_n hx hb dX8_setting_90 rfl (lv_at hl 1 rfl) ?_
      refine lv_iload_n hx hb dX8_setting_91 rfl (lv_at hl 4 rfl) ?_
      refine gx_put (ws' := wd_X8_setting cI cZ h_t h_t_row h_t_tape h_t_codes h_t_widths h_t_begins h_t_spanAt h_t_spanLong h_t_spanOf h_t_out (upd (upd (upd V_t 0 x1) 1 x2) 2 x3)) C hw 0 rfl rfl lp_X8_setting_13 rfl rfl rfl dX8_setting_92 (fun H locs hw => ?_)
      refine lv_aload_n hx hb dX8_setting_95 rfl (lv_at hl 1 rfl) ?_
      refine lv_iload hx hb dX8_setting_96 (lv_at hl 5 rfl) ?_
      refine gx_put (ws' := wd_X8_setting cI cZ h_t h_t_row h_t_tape h_t_codes h_t_widths h_t_begins h_t_spanAt h_t_spanLong h_t_spanOf h_t_out (upd (upd (upd (upd V_t 0 x1) 1 x2) 2 x3) 3 x4)) C hw 0 rfl rfl lp_X8_setting_16 rfl rfl rfl dX8_setting_98 (fun H locs hw => ?_)
      refine lv_aload_n hx hb dX8_setting_101 rfl (lv_at hl 1 rfl) ?_
      obtain ⟨y_102, hy_102, hf⟩ := gx_b hf
      refine gx_callv (As := []) (ws' := wd_X8_setting cI cZ h_t h_t_row h_t_tape h_t_codes h_t_widths h_t_begins h_t_spanAt h_t_spanLong h_t_spanOf h_t_out y_102) (isC := [0]) (isR := []) (isP := [0]) C hw (ct_X8_layCodes l D cI cZ h_t h_t_row h_t_tape h_t_codes h_t_widths h_t_begins h_t_spanAt h_t_spanLong h_t_spanOf h_t_out (upd (upd (upd (upd V_t 0 x1) 1 x2) 2 x3) 3 x4) hy_102) kl_X8_setting_51 ⟨rfl, rfl⟩ ⟨rfl, rfl, by decide, by decide, by decide, by decide, rfl⟩ 0 rfl rfl rfl rfl hl.1 (Nat.le_of_ble_eq_true rfl) ⟨Nat.le_refl _, Nat.le_refl _⟩ dX8_setting_102 (fun H locs hw => ?_)
      refine lv_iconst (v := 1) hx hb dX8_setting_105 (by decide) ?_
      obtain rfl := Option.some.inj hf
      exact hQ _ _ _ _ dX8_setting_106 rfl hw
    · replace hf := gx_f hc hf
      refine lv_bipush (v := (-3)) hx hb dX8_setting_77 (by decide) ?_
      obtain rfl := Option.some.inj hf
      exact hQ _ _ _ _ dX8_setting_79 rfl hw
  · replace hf := gx_t hc hf
    refine lv_bipush (v := (-2)) hx hb dX8_setting_67 (by decide) ?_
    obtain rfl := Option.some.inj hf
    exact hQ _ _ _ _ dX8_setting_69 rfl hw
set_option maxHeartbeats 4000000 in
set_option maxRecDepth 100000 in
theorem tm_X8_setting_59 (C : gx_C cX8_setting 6 wsX8_setting RX8 D cI cZ p s m args c) (h_t h_t_row h_t_tape h_t_codes h_t_widths h_t_begins h_t_spanAt h_t_spanLong h_t_spanOf h_t_out : Nat) {z : Int32 × (Nat → Int32)} (hQ : gx_Qi cX8_setting .int p l e (gx_rm 1) s m args below meth c D A Q (wd_X8_setting cI cZ h_t h_t_row h_t_tape h_t_codes h_t_widths h_t_begins h_t_spanAt h_t_spanLong h_t_spanOf h_t_out z.2) z.1) : ∀ (V_t : Nat → Int32) (x1 x2 x3 x4 : Int32) (ls : Array Slot) (H : Heap) (locs : List Loc), lv_has ls 6 [(0, .ref h_t), (1, .int x1), (2, .int x2), (3, .int x3), (4, .int x4)] → gx_W D A s (wd_X8_setting cI cZ h_t h_t_row h_t_tape h_t_codes h_t_widths h_t_begins h_t_spanAt h_t_spanLong h_t_spanOf h_t_out V_t) H locs → fn_X8_setting_j59 V_t x1 x2 x3 x4 = some z → W p l e (gx_rm 1) s m args below meth c H locs 0 0 Q (F0 m 59 ls []) := by
  have hx := C.1.1
  have hb := C.1.2.1
  intro V_t x1 x2 x3 x4 ls H locs hl hw hf
  rw [fn_X8_setting_j59] at hf
  refine lv_iconst (v := 0) hx hb dX8_setting_59 (by decide) ?_
  exact tm_X8_setting_60 C h_t h_t_row h_t_tape h_t_codes h_t_widths h_t_begins h_t_spanAt h_t_spanLong h_t_spanOf h_t_out hQ  V_t x1 x2 x3 x4 0 _ _ _ (lv_sub hl [0, 1, 2, 3, 4] rfl) hw hf
set_option maxHeartbeats 4000000 in
set_option maxRecDepth 100000 in
theorem tm_X8_setting_32 (C : gx_C cX8_setting 6 wsX8_setting RX8 D cI cZ p s m args c) (h_t h_t_row h_t_tape h_t_codes h_t_widths h_t_begins h_t_spanAt h_t_spanLong h_t_spanOf h_t_out : Nat) {z : Int32 × (Nat → Int32)} (hQ : gx_Qi cX8_setting .int p l e (gx_rm 1) s m args below meth c D A Q (wd_X8_setting cI cZ h_t h_t_row h_t_tape h_t_codes h_t_widths h_t_begins h_t_spanAt h_t_spanLong h_t_spanOf h_t_out z.2) z.1) : ∀ (V_t : Nat → Int32) (x1 x2 x3 x4 : Int32) (ls : Array Slot) (H : Heap) (locs : List Loc), lv_has ls 6 [(0, .ref h_t), (1, .int x1), (2, .int x2), (3, .int x3), (4, .int x4)] → gx_W D A s (wd_X8_setting cI cZ h_t h_t_row h_t_tape h_t_codes h_t_widths h_t_begins h_t_spanAt h_t_spanLong h_t_spanOf h_t_out V_t) H locs → fn_X8_setting_j32 V_t x1 x2 x3 x4 = some z → W p l e (gx_rm 1) s m args below meth c H locs 0 0 Q (F0 m 32 ls []) := by
  have hx := C.1.1
  have hb := C.1.2.1
  intro V_t x1 x2 x3 x4 ls H locs hl hw hf
  rw [fn_X8_setting_j32] at hf
  refine lv_iload_n hx hb dX8_setting_32 rfl (lv_at hl 3 rfl) ?_
  refine lv_iload_n hx hb dX8_setting_33 rfl (lv_at hl 2 rfl) ?_
  refine lv_iconst (v := 2) hx hb dX8_setting_34 (by decide) ?_
  refine lv_iadd hx hb dX8_setting_35 ?_
  refine lv_bipush (v := 12) hx hb dX8_setting_36 (by decide) ?_
  obtain ⟨y_38, hy_38, hf⟩ := gx_b hf
  refine gx_calls (As := [.int x3, .int (x2 + 2), .int 12]) C hw (ct_X8_in l D cI cZ x3 (x2 + 2) 12 hy_38) kl_X8_setting_57 ⟨rfl, rfl⟩ rfl rfl hl.1 (Nat.le_of_ble_eq_true rfl) ⟨Nat.le_refl _, Nat.le_refl _⟩ dX8_setting_38 (fun H locs hw => ?_)
  refine lv_if_eq (tgt := 59) hx hb dX8_setting_41 (by decide) (fun hc => ?_) (fun hc => ?_)
  · replace hf := gx_t hc hf
    exact tm_X8_setting_59 C h_t h_t_row h_t_tape h_t_codes h_t_widths h_t_begins h_t_spanAt h_t_spanLong h_t_spanOf h_t_out hQ  V_t x1 x2 x3 x4 _ _ _ (lv_sub hl [0, 1, 2, 3, 4] rfl) hw hf
  · replace hf := gx_f hc hf
    refine lv_iload hx hb dX8_setting_44 (lv_at hl 4 rfl) ?_
    refine lv_iconst (v := 0) hx hb dX8_setting_46 (by decide) ?_
    refine lv_bipush (v := 100) hx hb dX8_setting_47 (by decide) ?_
    obtain ⟨y_49, hy_49, hf⟩ := gx_b hf
    refine gx_calls (As := [.int x4, .int 0, .int 100]) C hw (ct_X8_in l D cI cZ x4 0 100 hy_49) kl_X8_setting_57 ⟨rfl, rfl⟩ rfl rfl hl.1 (Nat.le_of_ble_eq_true rfl) ⟨Nat.le_refl _, Nat.le_refl _⟩ dX8_setting_49 (fun H locs hw => ?_)
    refine lv_if_eq (tgt := 59) hx hb dX8_setting_52 (by decide) (fun hc => ?_) (fun hc => ?_)
    · replace hf := gx_t hc hf
      exact tm_X8_setting_59 C h_t h_t_row h_t_tape h_t_codes h_t_widths h_t_begins h_t_spanAt h_t_spanLong h_t_spanOf h_t_out hQ  V_t x1 x2 x3 x4 _ _ _ (lv_sub hl [0, 1, 2, 3, 4] rfl) hw hf
    · replace hf := gx_f hc hf
      refine lv_iconst (v := 1) hx hb dX8_setting_55 (by decide) ?_
      refine lv_goto (tgt := 60) hx hb dX8_setting_56 (by decide) ?_
      exact tm_X8_setting_60 C h_t h_t_row h_t_tape h_t_codes h_t_widths h_t_begins h_t_spanAt h_t_spanLong h_t_spanOf h_t_out hQ  V_t x1 x2 x3 x4 1 _ _ _ (lv_sub hl [0, 1, 2, 3, 4] rfl) hw hf
set_option maxHeartbeats 4000000 in
set_option maxRecDepth 100000 in
theorem ct_X8_setting (l : Launch) (D : va_G) (cI cZ : ClassId) (h_t h_t_row h_t_tape h_t_codes h_t_widths h_t_begins h_t_spanAt h_t_spanLong h_t_spanOf h_t_out : Nat) (V_t : Nat → Int32) (a1 a2 a3 a4 : Int32) {z : Int32 × (Nat → Int32)} (hf : fn_X8_setting V_t a1 a2 a3 a4 = some z) : gx_Mi l yX8_setting wsX8_setting (gx_rm 1) D cI cZ [.ref h_t, .int a1, .int a2, .int a3, .int a4] (wd_X8_setting cI cZ h_t h_t_row h_t_tape h_t_codes h_t_widths h_t_begins h_t_spanAt h_t_spanLong h_t_spanOf h_t_out V_t) (wd_X8_setting cI cZ h_t h_t_row h_t_tape h_t_codes h_t_widths h_t_begins h_t_spanAt h_t_spanLong h_t_spanOf h_t_out z.2) z.1 := by
  refine gx_ofi (cc := cX8_setting) (own := RX8) (by decide) rfl rfl (Nat.le_of_ble_eq_true rfl) [(0, .ref h_t), (1, .int a1), (2, .int a2), (3, .int a3), (4, .int a4)] rfl ?_
  intro p e s m args below meth c A Q ls C hQ hl hw
  have hx := C.1.1
  have hb := C.1.2.1
  rw [fn_X8_setting] at hf
  refine lv_iload_n hx hb dX8_setting_0 rfl (lv_at hl 1 rfl) ?_
  refine lv_iconst (v := 0) hx hb dX8_setting_1 (by decide) ?_
  refine lv_iconst (v := 2) hx hb dX8_setting_2 (by decide) ?_
  obtain ⟨y_3, hy_3, hf⟩ := gx_b hf
  refine gx_calls (As := [.int a1, .int 0, .int 2]) C hw (ct_X8_in l D cI cZ a1 0 2 hy_3) kl_X8_setting_57 ⟨rfl, rfl⟩ rfl rfl hl.1 (Nat.le_of_ble_eq_true rfl) ⟨Nat.le_refl _, Nat.le_refl _⟩ dX8_setting_3 (fun H locs hw => ?_)
  refine lv_if_eq (tgt := 59) hx hb dX8_setting_6 (by decide) (fun hc => ?_) (fun hc => ?_)
  · replace hf := gx_t hc hf
    exact tm_X8_setting_59 C h_t h_t_row h_t_tape h_t_codes h_t_widths h_t_begins h_t_spanAt h_t_spanLong h_t_spanOf h_t_out hQ  V_t a1 a2 a3 a4 _ _ _ (lv_sub hl [0, 1, 2, 3, 4] rfl) hw hf
  · replace hf := gx_f hc hf
    refine lv_iload_n hx hb dX8_setting_9 rfl (lv_at hl 1 rfl) ?_
    refine lv_if_ne (tgt := 26) hx hb dX8_setting_10 (by decide) (fun hc => ?_) (fun hc => ?_)
    · replace hf := gx_f hc hf
      refine lv_iload_n hx hb dX8_setting_26 rfl (lv_at hl 2 rfl) ?_
      refine lv_bipush (v := 8) hx hb dX8_setting_27 (by decide) ?_
      refine lv_icmp_ne (tgt := 59) hx hb dX8_setting_29 (by decide) (fun hc => ?_) (fun hc => ?_)
      · replace hf := gx_f hc hf
        exact tm_X8_setting_59 C h_t h_t_row h_t_tape h_t_codes h_t_widths h_t_begins h_t_spanAt h_t_spanLong h_t_spanOf h_t_out hQ  V_t a1 a2 a3 a4 _ _ _ (lv_sub hl [0, 1, 2, 3, 4] rfl) hw hf
      · replace hf := gx_t hc hf
        exact tm_X8_setting_32 C h_t h_t_row h_t_tape h_t_codes h_t_widths h_t_begins h_t_spanAt h_t_spanLong h_t_spanOf h_t_out hQ  V_t a1 a2 a3 a4 _ _ _ (lv_sub hl [0, 1, 2, 3, 4] rfl) hw hf
    · replace hf := gx_t hc hf
      refine lv_iload_n hx hb dX8_setting_13 rfl (lv_at hl 2 rfl) ?_
      refine lv_iconst (v := 2) hx hb dX8_setting_14 (by decide) ?_
      refine lv_bipush (v := 8) hx hb dX8_setting_15 (by decide) ?_
      obtain ⟨y_17, hy_17, hf⟩ := gx_b hf
      refine gx_calls (As := [.int a2, .int 2, .int 8]) C hw (ct_X8_in l D cI cZ a2 2 8 hy_17) kl_X8_setting_57 ⟨rfl, rfl⟩ rfl rfl hl.1 (Nat.le_of_ble_eq_true rfl) ⟨Nat.le_refl _, Nat.le_refl _⟩ dX8_setting_17 (fun H locs hw => ?_)
      refine lv_if_eq (tgt := 59) hx hb dX8_setting_20 (by decide) (fun hc => ?_) (fun hc => ?_)
      · replace hf := gx_t hc hf
        exact tm_X8_setting_59 C h_t h_t_row h_t_tape h_t_codes h_t_widths h_t_begins h_t_spanAt h_t_spanLong h_t_spanOf h_t_out hQ  V_t a1 a2 a3 a4 _ _ _ (lv_sub hl [0, 1, 2, 3, 4] rfl) hw hf
      · replace hf := gx_f hc hf
        refine lv_goto (tgt := 32) hx hb dX8_setting_23 (by decide) ?_
        exact tm_X8_setting_32 C h_t h_t_row h_t_tape h_t_codes h_t_widths h_t_begins h_t_spanAt h_t_spanLong h_t_spanOf h_t_out hQ  V_t a1 a2 a3 a4 _ _ _ (lv_sub hl [0, 1, 2, 3, 4] rfl) hw hf
-- LzwFormsModel.symbol: touched ['t', 't_row']; used ['t', 't_row']; mod ['t', 't_row']; height 1
theorem ln_X8_symbol_7 : gx_L wsX8_symbol RX8 7 8 1 := ⟨_, _, _, rfl, by decide +kernel, by decide, Or.inl (by decide +kernel)⟩
theorem ln_X8_symbol_19 : gx_L wsX8_symbol RX8 19 8 4 := ⟨_, _, _, rfl, by decide +kernel, by decide, Or.inl (by decide +kernel)⟩
theorem ln_X8_symbol_61 : gx_L wsX8_symbol RX8 61 8 5 := ⟨_, _, _, rfl, by decide +kernel, by decide, Or.inl (by decide +kernel)⟩
theorem lp_X8_symbol_61 : gx_LP wsX8_symbol RX8 61 8 5 false .int := ⟨_, _, _, tyX8, rfl, by decide +kernel, by decide, by decide +kernel, tyX8_ok, nmX8, by decide +kernel, by decide +kernel, by decide +kernel⟩
theorem kl_X8_symbol_51 : gx_KV wsX8_symbol RX8 51 yX8_layCodes cX8_layCodes 1 none wsX8_layCodes (gx_rm 0) (gx_rm 1) 0 := ⟨gX8_symbol_X8_layCodes, ⟨_, rfl⟩, ⟨by decide, by decide, by decide +kernel⟩, ⟨by decide, by decide⟩⟩
theorem kl_X8_symbol_57 : gx_KS wsX8_symbol RX8 57 yX8_in cX8_in 3 (some .boolean) wsX8_in (gx_rm 0) (gx_rm 1) 3 := ⟨gX8_symbol_X8_in, ⟨_, rfl⟩, ⟨by decide, by decide, by decide +kernel⟩, ⟨by decide, by decide⟩⟩
def wd_X8_symbol (cI cZ : ClassId) (h_t h_t_row h_t_tape h_t_codes h_t_widths h_t_begins h_t_spanAt h_t_spanLong h_t_spanOf h_t_out : Nat) (V_t V_t_row : Nat → Int32) : va_W := [gx_o h_t 8 [none, none, none, none, some (some h_t_row), none, some (some h_t_tape), none, none, none, some (some h_t_codes), some (some h_t_widths), some (some h_t_begins), none, none, none, none, some (some h_t_spanAt), some (some h_t_spanLong), some (some h_t_spanOf), none, none, none, none, some (some h_t_out), none, none, none] V_t, gx_a h_t_row cI 300 V_t_row]
set_option maxHeartbeats 4000000 in
set_option maxRecDepth 100000 in
theorem ct_X8_symbol (l : Launch) (D : va_G) (cI cZ : ClassId) (h_t h_t_row h_t_tape h_t_codes h_t_widths h_t_begins h_t_spanAt h_t_spanLong h_t_spanOf h_t_out : Nat) (V_t V_t_row : Nat → Int32) (a1 : Int32) {z : Int32 × (Nat → Int32) × (Nat → Int32)} (hf : fn_X8_symbol V_t V_t_row a1 = some z) : gx_Mi l yX8_symbol wsX8_symbol (gx_rm 1) D cI cZ [.ref h_t, .int a1] (wd_X8_symbol cI cZ h_t h_t_row h_t_tape h_t_codes h_t_widths h_t_begins h_t_spanAt h_t_spanLong h_t_spanOf h_t_out V_t V_t_row) (wd_X8_symbol cI cZ h_t h_t_row h_t_tape h_t_codes h_t_widths h_t_begins h_t_spanAt h_t_spanLong h_t_spanOf h_t_out z.2.1 z.2.2) z.1 := by
  refine gx_ofi (cc := cX8_symbol) (own := RX8) (by decide) rfl rfl (Nat.le_of_ble_eq_true rfl) [(0, .ref h_t), (1, .int a1)] rfl ?_
  intro p e s m args below meth c A Q ls C hQ hl hw
  have hx := C.1.1
  have hb := C.1.2.1
  rw [fn_X8_symbol] at hf
  refine lv_iload_n hx hb dX8_symbol_0 rfl (lv_at hl 1 rfl) ?_
  refine lv_iconst (v := 0) hx hb dX8_symbol_1 (by decide) ?_
  refine lv_iconst (v := 1) hx hb dX8_symbol_2 (by decide) ?_
  refine lv_aload_n hx hb dX8_symbol_3 rfl (lv_at hl 0 rfl) ?_
  refine gx_get (v := .int (V_t 1)) C hw 0 rfl (gx_gj rfl rfl) ln_X8_symbol_7 dX8_symbol_4 ?_
  refine lv_ishl hx hb dX8_symbol_7 ?_
  refine lv_iconst (v := 1) hx hb dX8_symbol_8 (by decide) ?_
  refine lv_isub hx hb dX8_symbol_9 ?_
  obtain ⟨y_10, hy_10, hf⟩ := gx_b hf
  refine gx_calls (As := [.int a1, .int 0, .int ((1 <<< ((V_t 1) &&& 31)) - 1)]) C hw (ct_X8_in l D cI cZ a1 0 ((1 <<< ((V_t 1) &&& 31)) - 1) hy_10) kl_X8_symbol_57 ⟨rfl, rfl⟩ rfl rfl hl.1 (Nat.le_of_ble_eq_true rfl) ⟨Nat.le_refl _, Nat.le_refl _⟩ dX8_symbol_10 (fun H locs hw => ?_)
  refine lv_if_ne (tgt := 19) hx hb dX8_symbol_13 (by decide) (fun hc => ?_) (fun hc => ?_)
  · replace hf := gx_f hc hf
    refine lv_aload_n hx hb dX8_symbol_19 rfl (lv_at hl 0 rfl) ?_
    refine gx_get (v := .int (V_t 5)) C hw 0 rfl (gx_gj rfl rfl) ln_X8_symbol_61 dX8_symbol_20 ?_
    refine lv_sipush (v := 300) hx hb dX8_symbol_23 (by decide) ?_
    refine lv_icmp_ne (tgt := 32) hx hb dX8_symbol_26 (by decide) (fun hc => ?_) (fun hc => ?_)
    · replace hf := gx_f hc hf
      refine lv_aload_n hx hb dX8_symbol_32 rfl (lv_at hl 0 rfl) ?_
      refine gx_get C hw 0 rfl (gx_gr rfl) ln_X8_symbol_19 dX8_symbol_33 ?_
      refine lv_aload_n hx hb dX8_symbol_36 rfl (lv_at hl 0 rfl) ?_
      refine gx_get (v := .int (V_t 5)) C hw 0 rfl (gx_gj rfl rfl) ln_X8_symbol_61 dX8_symbol_37 ?_
      refine lv_iload_n hx hb dX8_symbol_40 rfl (lv_at hl 1 rfl) ?_
      obtain ⟨hi_41, hf⟩ := gx_g hf
      refine gx_iast (ws' := wd_X8_symbol cI cZ h_t h_t_row h_t_tape h_t_codes h_t_widths h_t_begins h_t_spanAt h_t_spanLong h_t_spanOf h_t_out V_t (upd V_t_row (V_t 5).toNatClampNeg a1)) C hw 1 rfl hi_41 rfl dX8_symbol_41 (fun H locs hw => ?_)
      refine lv_aload_n hx hb dX8_symbol_42 rfl (lv_at hl 0 rfl) ?_
      refine lv_dup hx hb dX8_symbol_43 rfl ?_
      refine gx_get (v := .int (V_t 5)) C hw 0 rfl (gx_gj rfl rfl) ln_X8_symbol_61 dX8_symbol_44 ?_
      refine lv_iconst (v := 1) hx hb dX8_symbol_47 (by decide) ?_
      refine lv_iadd hx hb dX8_symbol_48 ?_
      refine gx_put (ws' := wd_X8_symbol cI cZ h_t h_t_row h_t_tape h_t_codes h_t_widths h_t_begins h_t_spanAt h_t_spanLong h_t_spanOf h_t_out (upd V_t 5 ((V_t 5) + 1)) (upd V_t_row (V_t 5).toNatClampNeg a1)) C hw 0 rfl rfl lp_X8_symbol_61 rfl rfl rfl dX8_symbol_49 (fun H locs hw => ?_)
      refine lv_aload_n hx hb dX8_symbol_52 rfl (lv_at hl 0 rfl) ?_
      obtain ⟨y_53, hy_53, hf⟩ := gx_b hf
      refine gx_callv (As := []) (ws' := wd_X8_symbol cI cZ h_t h_t_row h_t_tape h_t_codes h_t_widths h_t_begins h_t_spanAt h_t_spanLong h_t_spanOf h_t_out y_53 (upd V_t_row (V_t 5).toNatClampNeg a1)) (isC := [0]) (isR := [1]) (isP := [1, 0]) C hw (ct_X8_layCodes l D cI cZ h_t h_t_row h_t_tape h_t_codes h_t_widths h_t_begins h_t_spanAt h_t_spanLong h_t_spanOf h_t_out (upd V_t 5 ((V_t 5) + 1)) hy_53) kl_X8_symbol_51 ⟨rfl, rfl⟩ ⟨rfl, rfl, by decide, by decide, by decide, by decide, rfl⟩ 0 rfl rfl rfl rfl hl.1 (Nat.le_of_ble_eq_true rfl) ⟨Nat.le_refl _, Nat.le_refl _⟩ dX8_symbol_53 (fun H locs hw => ?_)
      refine lv_aload_n hx hb dX8_symbol_56 rfl (lv_at hl 0 rfl) ?_
      refine gx_get (v := .int (y_53 5)) C hw 0 rfl (gx_gj rfl rfl) ln_X8_symbol_61 dX8_symbol_57 ?_
      obtain rfl := Option.some.inj hf
      exact hQ _ _ _ _ dX8_symbol_60 rfl hw
    · replace hf := gx_t hc hf
      refine lv_bipush (v := (-4)) hx hb dX8_symbol_29 (by decide) ?_
      obtain rfl := Option.some.inj hf
      exact hQ _ _ _ _ dX8_symbol_31 rfl hw
  · replace hf := gx_t hc hf
    refine lv_bipush (v := (-2)) hx hb dX8_symbol_16 (by decide) ?_
    obtain rfl := Option.some.inj hf
    exact hQ _ _ _ _ dX8_symbol_18 rfl hw
-- LzwFormsModel.empty: touched ['t']; used ['t']; mod ['t']; height 1
theorem ln_X8_empty_61 : gx_L wsX8_empty RX8 61 8 5 := ⟨_, _, _, rfl, by decide +kernel, by decide, Or.inl (by decide +kernel)⟩
theorem lp_X8_empty_61 : gx_LP wsX8_empty RX8 61 8 5 false .int := ⟨_, _, _, tyX8, rfl, by decide +kernel, by decide, by decide +kernel, tyX8_ok, nmX8, by decide +kernel, by decide +kernel, by decide +kernel⟩
theorem kl_X8_empty_51 : gx_KV wsX8_empty RX8 51 yX8_layCodes cX8_layCodes 1 none wsX8_layCodes (gx_rm 0) (gx_rm 1) 0 := ⟨gX8_empty_X8_layCodes, ⟨_, rfl⟩, ⟨by decide, by decide, by decide +kernel⟩, ⟨by decide, by decide⟩⟩
def wd_X8_empty (cI cZ : ClassId) (h_t h_t_row h_t_tape h_t_codes h_t_widths h_t_begins h_t_spanAt h_t_spanLong h_t_spanOf h_t_out : Nat) (V_t : Nat → Int32) : va_W := [gx_o h_t 8 [none, none, none, none, some (some h_t_row), none, some (some h_t_tape), none, none, none, some (some h_t_codes), some (some h_t_widths), some (some h_t_begins), none, none, none, none, some (some h_t_spanAt), some (some h_t_spanLong), some (some h_t_spanOf), none, none, none, none, some (some h_t_out), none, none, none] V_t]
set_option maxHeartbeats 4000000 in
set_option maxRecDepth 100000 in
theorem ct_X8_empty (l : Launch) (D : va_G) (cI cZ : ClassId) (h_t h_t_row h_t_tape h_t_codes h_t_widths h_t_begins h_t_spanAt h_t_spanLong h_t_spanOf h_t_out : Nat) (V_t : Nat → Int32) {z : Int32 × (Nat → Int32)} (hf : fn_X8_empty V_t = some z) : gx_Mi l yX8_empty wsX8_empty (gx_rm 1) D cI cZ [.ref h_t] (wd_X8_empty cI cZ h_t h_t_row h_t_tape h_t_codes h_t_widths h_t_begins h_t_spanAt h_t_spanLong h_t_spanOf h_t_out V_t) (wd_X8_empty cI cZ h_t h_t_row h_t_tape h_t_codes h_t_widths h_t_begins h_t_spanAt h_t_spanLong h_t_spanOf h_t_out z.2) z.1 := by
  refine gx_ofi (cc := cX8_empty) (own := RX8) (by decide) rfl rfl (Nat.le_of_ble_eq_true rfl) [(0, .ref h_t)] rfl ?_
  intro p e s m args below meth c A Q ls C hQ hl hw
  have hx := C.1.1
  have hb := C.1.2.1
  rw [fn_X8_empty] at hf
  refine lv_aload_n hx hb dX8_empty_0 rfl (lv_at hl 0 rfl) ?_
  refine gx_get (v := .int (V_t 5)) C hw 0 rfl (gx_gj rfl rfl) ln_X8_empty_61 dX8_empty_1 ?_
  refine lv_istore_n (lv' := [(1, .int (V_t 5)), (0, .ref h_t)]) hx hb dX8_empty_4 rfl hl (by decide) rfl (fun ls hl => ?_)
  refine lv_aload_n hx hb dX8_empty_5 rfl (lv_at hl 1 rfl) ?_
  refine lv_iconst (v := 0) hx hb dX8_empty_6 (by decide) ?_
  refine gx_put (ws' := wd_X8_empty cI cZ h_t h_t_row h_t_tape h_t_codes h_t_widths h_t_begins h_t_spanAt h_t_spanLong h_t_spanOf h_t_out (upd V_t 5 0)) C hw 0 rfl rfl lp_X8_empty_61 rfl rfl rfl dX8_empty_7 (fun H locs hw => ?_)
  refine lv_aload_n hx hb dX8_empty_10 rfl (lv_at hl 1 rfl) ?_
  obtain ⟨y_11, hy_11, hf⟩ := gx_b hf
  refine gx_callv (As := []) (ws' := wd_X8_empty cI cZ h_t h_t_row h_t_tape h_t_codes h_t_widths h_t_begins h_t_spanAt h_t_spanLong h_t_spanOf h_t_out y_11) (isC := [0]) (isR := []) (isP := [0]) C hw (ct_X8_layCodes l D cI cZ h_t h_t_row h_t_tape h_t_codes h_t_widths h_t_begins h_t_spanAt h_t_spanLong h_t_spanOf h_t_out (upd V_t 5 0) hy_11) kl_X8_empty_51 ⟨rfl, rfl⟩ ⟨rfl, rfl, by decide, by decide, by decide, by decide, rfl⟩ 0 rfl rfl rfl rfl hl.1 (Nat.le_of_ble_eq_true rfl) ⟨Nat.le_refl _, Nat.le_refl _⟩ dX8_empty_11 (fun H locs hw => ?_)
  refine lv_iload_n hx hb dX8_empty_14 rfl (lv_at hl 0 rfl) ?_
  obtain rfl := Option.some.inj hf
  exact hQ _ _ _ _ dX8_empty_15 rfl hw
-- LzwFormsModel.at: touched ['t', 't_row']; used ['t', 't_row']; mod []; height 1
theorem ln_X8_at_19 : gx_L wsX8_at RX8 19 8 4 := ⟨_, _, _, rfl, by decide +kernel, by decide, Or.inl (by decide +kernel)⟩
theorem ln_X8_at_61 : gx_L wsX8_at RX8 61 8 5 := ⟨_, _, _, rfl, by decide +kernel, by decide, Or.inl (by decide +kernel)⟩
theorem kl_X8_at_57 : gx_KS wsX8_at RX8 57 yX8_in cX8_in 3 (some .boolean) wsX8_in (gx_rm 0) (gx_rm 1) 3 := ⟨gX8_at_X8_in, ⟨_, rfl⟩, ⟨by decide, by decide, by decide +kernel⟩, ⟨by decide, by decide⟩⟩
def wd_X8_at (cI cZ : ClassId) (h_t h_t_row h_t_tape h_t_codes h_t_widths h_t_begins h_t_spanAt h_t_spanLong h_t_spanOf h_t_out : Nat) (V_t V_t_row : Nat → Int32) : va_W := [gx_o h_t 8 [none, none, none, none, some (some h_t_row), none, some (some h_t_tape), none, none, none, some (some h_t_codes), some (some h_t_widths), some (some h_t_begins), none, none, none, none, some (some h_t_spanAt), some (some h_t_spanLong), some (some h_t_spanOf), none, none, none, none, some (some h_t_out), none, none, none] V_t, gx_a h_t_row cI 300 V_t_row]
set_option maxHeartbeats 4000000 in
set_option maxRecDepth 100000 in
theorem ct_X8_at (l : Launch) (D : va_G) (cI cZ : ClassId) (h_t h_t_row h_t_tape h_t_codes h_t_widths h_t_begins h_t_spanAt h_t_spanLong h_t_spanOf h_t_out : Nat) (V_t V_t_row : Nat → Int32) (a1 : Int32) {z : Int32} (hf : fn_X8_at V_t V_t_row a1 = some z) : gx_Mi l yX8_at wsX8_at (gx_rm 1) D cI cZ [.ref h_t, .int a1] (wd_X8_at cI cZ h_t h_t_row h_t_tape h_t_codes h_t_widths h_t_begins h_t_spanAt h_t_spanLong h_t_spanOf h_t_out V_t V_t_row) (wd_X8_at cI cZ h_t h_t_row h_t_tape h_t_codes h_t_widths h_t_begins h_t_spanAt h_t_spanLong h_t_spanOf h_t_out V_t V_t_row) z := by
  refine gx_ofi (cc := cX8_at) (own := RX8) (by decide) rfl rfl (Nat.le_of_ble_eq_true rfl) [(0, .ref h_t), (1, .int a1)] rfl ?_
  intro p e s m args below meth c A Q ls C hQ hl hw
  have hx := C.1.1
  have hb := C.1.2.1
  rw [fn_X8_at] at hf
  refine lv_iload_n hx hb dX8_at_0 rfl (lv_at hl 1 rfl) ?_
  refine lv_iconst (v := 0) hx hb dX8_at_1 (by decide) ?_
  refine lv_aload_n hx hb dX8_at_2 rfl (lv_at hl 0 rfl) ?_
  refine gx_get (v := .int (V_t 5)) C hw 0 rfl (gx_gj rfl rfl) ln_X8_at_61 dX8_at_3 ?_
  refine lv_iconst (v := 1) hx hb dX8_at_6 (by decide) ?_
  refine lv_isub hx hb dX8_at_7 ?_
  obtain ⟨y_8, hy_8, hf⟩ := gx_b hf
  refine gx_calls (As := [.int a1, .int 0, .int ((V_t 5) - 1)]) C hw (ct_X8_in l D cI cZ a1 0 ((V_t 5) - 1) hy_8) kl_X8_at_57 ⟨rfl, rfl⟩ rfl rfl hl.1 (Nat.le_of_ble_eq_true rfl) ⟨Nat.le_refl _, Nat.le_refl _⟩ dX8_at_8 (fun H locs hw => ?_)
  refine lv_if_eq (tgt := 23) hx hb dX8_at_11 (by decide) (fun hc => ?_) (fun hc => ?_)
  · replace hf := gx_t hc hf
    refine lv_iconst (v := (-1)) hx hb dX8_at_23 (by decide) ?_
    obtain rfl := Option.some.inj hf
    exact hQ _ _ _ _ dX8_at_24 rfl hw
  · replace hf := gx_f hc hf
    refine lv_aload_n hx hb dX8_at_14 rfl (lv_at hl 0 rfl) ?_
    refine gx_get C hw 0 rfl (gx_gr rfl) ln_X8_at_19 dX8_at_15 ?_
    refine lv_iload_n hx hb dX8_at_18 rfl (lv_at hl 1 rfl) ?_
    obtain ⟨hi_19, hf⟩ := gx_g hf
    refine gx_iald C hw 1 rfl hi_19 dX8_at_19 ?_
    refine lv_goto (tgt := 24) hx hb dX8_at_20 (by decide) ?_
    obtain rfl := Option.some.inj hf
    exact hQ _ _ _ _ dX8_at_24 rfl hw
-- LzwFormsModel.told: touched ['t', 't_row', 't_codes', 't_widths', 't_begins', 't_spanAt', 't_spanLong', 't_spanOf']; used ['t', 't_row', 't_codes', 't_widths', 't_begins', 't_spanAt', 't_spanLong', 't_spanOf']; mod ['t', 't_codes', 't_widths', 't_begins', 't_spanAt', 't_spanLong', 't_spanOf']; height 6
theorem ln_X8_told_7 : gx_L wsX8_told RX8 7 8 1 := ⟨_, _, _, rfl, by decide +kernel, by decide, Or.inl (by decide +kernel)⟩
theorem ln_X8_told_13 : gx_L wsX8_told RX8 13 8 2 := ⟨_, _, _, rfl, by decide +kernel, by decide, Or.inl (by decide +kernel)⟩
theorem ln_X8_told_16 : gx_L wsX8_told RX8 16 8 3 := ⟨_, _, _, rfl, by decide +kernel, by decide, Or.inl (by decide +kernel)⟩
theorem ln_X8_told_54 : gx_L wsX8_told RX8 54 8 0 := ⟨_, _, _, rfl, by decide +kernel, by decide, Or.inl (by decide +kernel)⟩
theorem ln_X8_told_61 : gx_L wsX8_told RX8 61 8 5 := ⟨_, _, _, rfl, by decide +kernel, by decide, Or.inl (by decide +kernel)⟩
theorem ln_X8_told_84 : gx_L wsX8_told RX8 84 8 13 := ⟨_, _, _, rfl, by decide +kernel, by decide, Or.inl (by decide +kernel)⟩
theorem ln_X8_told_87 : gx_L wsX8_told RX8 87 8 14 := ⟨_, _, _, rfl, by decide +kernel, by decide, Or.inl (by decide +kernel)⟩
theorem ln_X8_told_97 : gx_L wsX8_told RX8 97 8 15 := ⟨_, _, _, rfl, by decide +kernel, by decide, Or.inl (by decide +kernel)⟩
theorem ln_X8_told_100 : gx_L wsX8_told RX8 100 8 20 := ⟨_, _, _, rfl, by decide +kernel, by decide, Or.inl (by decide +kernel)⟩
theorem ln_X8_told_113 : gx_L wsX8_told RX8 113 8 7 := ⟨_, _, _, rfl, by decide +kernel, by decide, Or.inl (by decide +kernel)⟩
theorem kl_X8_told_110 : gx_KV wsX8_told RX8 110 yX8_pack cX8_pack 7 none wsX8_pack (gx_rm 5) (gx_rm 6) 0 := ⟨gX8_told_X8_pack, ⟨_, rfl⟩, ⟨by decide, by decide, by decide +kernel⟩, ⟨by decide, by decide⟩⟩
def wd_X8_told (cI cZ : ClassId) (h_t h_t_row h_t_tape h_t_codes h_t_widths h_t_begins h_t_spanAt h_t_spanLong h_t_spanOf h_t_out : Nat) (V_t V_t_row V_t_codes V_t_widths V_t_begins V_t_spanAt V_t_spanLong V_t_spanOf : Nat → Int32) : va_W := [gx_o h_t 8 [none, none, none, none, some (some h_t_row), none, some (some h_t_tape), none, none, none, some (some h_t_codes), some (some h_t_widths), some (some h_t_begins), none, none, none, none, some (some h_t_spanAt), some (some h_t_spanLong), some (some h_t_spanOf), none, none, none, none, some (some h_t_out), none, none, none] V_t, gx_a h_t_row cI 300 V_t_row, gx_a h_t_codes cI 700 V_t_codes, gx_a h_t_widths cI 700 V_t_widths, gx_a h_t_begins cI 700 V_t_begins, gx_a h_t_spanAt cI 300 V_t_spanAt, gx_a h_t_spanLong cI 300 V_t_spanLong, gx_a h_t_spanOf cI 300 V_t_spanOf]
set_option maxHeartbeats 4000000 in
set_option maxRecDepth 100000 in
theorem ct_X8_told (l : Launch) (D : va_G) (cI cZ : ClassId) (h_t h_t_row h_t_tape h_t_codes h_t_widths h_t_begins h_t_spanAt h_t_spanLong h_t_spanOf h_t_out : Nat) (V_t V_t_row V_t_codes V_t_widths V_t_begins V_t_spanAt V_t_spanLong V_t_spanOf : Nat → Int32) (a1 : Int32) {z : Int32 × (Nat → Int32) × (Nat → Int32) × (Nat → Int32) × (Nat → Int32) × (Nat → Int32) × (Nat → Int32) × (Nat → Int32)} (hf : fn_X8_told V_t V_t_row V_t_codes V_t_widths V_t_begins V_t_spanAt V_t_spanLong V_t_spanOf a1 = some z) : gx_Mi l yX8_told wsX8_told (gx_rm 6) D cI cZ [.ref h_t, .int a1] (wd_X8_told cI cZ h_t h_t_row h_t_tape h_t_codes h_t_widths h_t_begins h_t_spanAt h_t_spanLong h_t_spanOf h_t_out V_t V_t_row V_t_codes V_t_widths V_t_begins V_t_spanAt V_t_spanLong V_t_spanOf) (wd_X8_told cI cZ h_t h_t_row h_t_tape h_t_codes h_t_widths h_t_begins h_t_spanAt h_t_spanLong h_t_spanOf h_t_out z.2.1 V_t_row z.2.2.1 z.2.2.2.1 z.2.2.2.2.1 z.2.2.2.2.2.1 z.2.2.2.2.2.2.1 z.2.2.2.2.2.2.2) z.1 := by
  refine gx_ofi (cc := cX8_told) (own := RX8) (by decide) rfl rfl (Nat.le_of_ble_eq_true rfl) [(0, .ref h_t), (1, .int a1)] rfl ?_
  intro p e s m args below meth c A Q ls C hQ hl hw
  have hx := C.1.1
  have hb := C.1.2.1
  rw [fn_X8_told] at hf
  refine lv_aload_n hx hb dX8_told_0 rfl (lv_at hl 0 rfl) ?_
  obtain ⟨y_1, hy_1, hf⟩ := gx_b hf
  refine gx_callv (As := []) (ws' := wd_X8_told cI cZ h_t h_t_row h_t_tape h_t_codes h_t_widths h_t_begins h_t_spanAt h_t_spanLong h_t_spanOf h_t_out y_1.1 V_t_row y_1.2.1 y_1.2.2.1 y_1.2.2.2.1 y_1.2.2.2.2.1 y_1.2.2.2.2.2.1 y_1.2.2.2.2.2.2) (isC := [0, 1, 2, 3, 4, 5, 6, 7]) (isR := []) (isP := [0, 1, 2, 3, 4, 5, 6, 7]) C hw (ct_X8_pack l D cI cZ h_t h_t_row h_t_tape h_t_codes h_t_widths h_t_begins h_t_spanAt h_t_spanLong h_t_spanOf h_t_out V_t V_t_row V_t_codes V_t_widths V_t_begins V_t_spanAt V_t_spanLong V_t_spanOf hy_1) kl_X8_told_110 ⟨rfl, rfl⟩ ⟨rfl, rfl, by decide, by decide, by decide, by decide, rfl⟩ 0 rfl rfl rfl rfl hl.1 (Nat.le_of_ble_eq_true rfl) ⟨Nat.le_refl _, Nat.le_refl _⟩ dX8_told_1 (fun H locs hw => ?_)
  refine lv_iload_n hx hb dX8_told_4 rfl (lv_at hl 1 rfl) ?_
  by_cases hs0 : a1 = 0
  · replace hf := gx_t hs0 hf
    refine gx_tin (tgt := 56) hx hb dX8_told_5 hs0 (k := 0) ⟨by decide, by decide, by decide⟩ rfl (by decide) ?_
    refine lv_aload_n hx hb dX8_told_56 rfl (lv_at hl 0 rfl) ?_
    refine gx_get (v := .int (y_1.1 5)) C hw 0 rfl (gx_gj rfl rfl) ln_X8_told_61 dX8_told_57 ?_
    obtain rfl := Option.some.inj hf
    exact hQ _ _ _ _ dX8_told_60 rfl hw
  replace hf := gx_f hs0 hf
  by_cases hs1 : a1 = 1
  · replace hf := gx_t hs1 hf
    refine gx_tin (tgt := 61) hx hb dX8_told_5 hs1 (k := 1) ⟨by decide, by decide, by decide⟩ rfl (by decide) ?_
    refine lv_aload_n hx hb dX8_told_61 rfl (lv_at hl 0 rfl) ?_
    refine gx_get (v := .int (y_1.1 0)) C hw 0 rfl (gx_gj rfl rfl) ln_X8_told_54 dX8_told_62 ?_
    obtain rfl := Option.some.inj hf
    exact hQ _ _ _ _ dX8_told_65 rfl hw
  replace hf := gx_f hs1 hf
  by_cases hs2 : a1 = 2
  · replace hf := gx_t hs2 hf
    refine gx_tin (tgt := 66) hx hb dX8_told_5 hs2 (k := 2) ⟨by decide, by decide, by decide⟩ rfl (by decide) ?_
    refine lv_aload_n hx hb dX8_told_66 rfl (lv_at hl 0 rfl) ?_
    refine gx_get (v := .int (y_1.1 1)) C hw 0 rfl (gx_gj rfl rfl) ln_X8_told_7 dX8_told_67 ?_
    obtain rfl := Option.some.inj hf
    exact hQ _ _ _ _ dX8_told_70 rfl hw
  replace hf := gx_f hs2 hf
  by_cases hs3 : a1 = 3
  · replace hf := gx_t hs3 hf
    refine gx_tin (tgt := 71) hx hb dX8_told_5 hs3 (k := 3) ⟨by decide, by decide, by decide⟩ rfl (by decide) ?_
    refine lv_aload_n hx hb dX8_told_71 rfl (lv_at hl 0 rfl) ?_
    refine gx_get (v := .int (y_1.1 2)) C hw 0 rfl (gx_gj rfl rfl) ln_X8_told_13 dX8_told_72 ?_
    obtain rfl := Option.some.inj hf
    exact hQ _ _ _ _ dX8_told_75 rfl hw
  replace hf := gx_f hs3 hf
  by_cases hs4 : a1 = 4
  · replace hf := gx_t hs4 hf
    refine gx_tin (tgt := 76) hx hb dX8_told_5 hs4 (k := 4) ⟨by decide, by decide, by decide⟩ rfl (by decide) ?_
    refine lv_aload_n hx hb dX8_told_76 rfl (lv_at hl 0 rfl) ?_
    refine gx_get (v := .int (y_1.1 3)) C hw 0 rfl (gx_gj rfl rfl) ln_X8_told_16 dX8_told_77 ?_
    obtain rfl := Option.some.inj hf
    exact hQ _ _ _ _ dX8_told_80 rfl hw
  replace hf := gx_f hs4 hf
  by_cases hs5 : a1 = 5
  · replace hf := gx_t hs5 hf
    refine gx_tin (tgt := 81) hx hb dX8_told_5 hs5 (k := 5) ⟨by decide, by decide, by decide⟩ rfl (by decide) ?_
    refine lv_aload_n hx hb dX8_told_81 rfl (lv_at hl 0 rfl) ?_
    refine gx_get (v := .int (y_1.1 7)) C hw 0 rfl (gx_gj rfl rfl) ln_X8_told_113 dX8_told_82 ?_
    obtain rfl := Option.some.inj hf
    exact hQ _ _ _ _ dX8_told_85 rfl hw
  replace hf := gx_f hs5 hf
  by_cases hs6 : a1 = 6
  · replace hf := gx_t hs6 hf
    refine gx_tin (tgt := 86) hx hb dX8_told_5 hs6 (k := 6) ⟨by decide, by decide, by decide⟩ rfl (by decide) ?_
    refine lv_aload_n hx hb dX8_told_86 rfl (lv_at hl 0 rfl) ?_
    refine gx_get (v := .int (y_1.1 13)) C hw 0 rfl (gx_gj rfl rfl) ln_X8_told_84 dX8_told_87 ?_
    obtain rfl := Option.some.inj hf
    exact hQ _ _ _ _ dX8_told_90 rfl hw
  replace hf := gx_f hs6 hf
  by_cases hs7 : a1 = 7
  · replace hf := gx_t hs7 hf
    refine gx_tin (tgt := 91) hx hb dX8_told_5 hs7 (k := 7) ⟨by decide, by decide, by decide⟩ rfl (by decide) ?_
    refine lv_aload_n hx hb dX8_told_91 rfl (lv_at hl 0 rfl) ?_
    refine gx_get (v := .int (y_1.1 14)) C hw 0 rfl (gx_gj rfl rfl) ln_X8_told_87 dX8_told_92 ?_
    obtain rfl := Option.some.inj hf
    exact hQ _ _ _ _ dX8_told_95 rfl hw
  replace hf := gx_f hs7 hf
  by_cases hs8 : a1 = 8
  · replace hf := gx_t hs8 hf
    refine gx_tin (tgt := 96) hx hb dX8_told_5 hs8 (k := 8) ⟨by decide, by decide, by decide⟩ rfl (by decide) ?_
    refine lv_aload_n hx hb dX8_told_96 rfl (lv_at hl 0 rfl) ?_
    refine gx_get (v := .int (y_1.1 20)) C hw 0 rfl (gx_gj rfl rfl) ln_X8_told_100 dX8_told_97 ?_
    obtain rfl := Option.some.inj hf
    exact hQ _ _ _ _ dX8_told_100 rfl hw
  replace hf := gx_f hs8 hf
  refine lv_tableOut (tgt := 101) hx hb dX8_told_5 (gx_tout 9 (by decide) (gx_all9 hs0 hs1 hs2 hs3 hs4 hs5 hs6 hs7 hs8)) (by decide) ?_
  refine lv_iload_n hx hb dX8_told_101 rfl (lv_at hl 1 rfl) ?_
  refine lv_bipush (v := 9) hx hb dX8_told_102 (by decide) ?_
  refine lv_icmp_ne (tgt := 114) hx hb dX8_told_104 (by decide) (fun hc => ?_) (fun hc => ?_)
  · replace hf := gx_f hc hf
    refine lv_bipush (v := (-2)) hx hb dX8_told_114 (by decide) ?_
    obtain rfl := Option.some.inj hf
    exact hQ _ _ _ _ dX8_told_116 rfl hw
  · replace hf := gx_t hc hf
    refine lv_aload_n hx hb dX8_told_107 rfl (lv_at hl 0 rfl) ?_
    refine gx_get (v := .int (y_1.1 15)) C hw 0 rfl (gx_gj rfl rfl) ln_X8_told_97 dX8_told_108 ?_
    refine lv_goto (tgt := 116) hx hb dX8_told_111 (by decide) ?_
    obtain rfl := Option.some.inj hf
    exact hQ _ _ _ _ dX8_told_116 rfl hw
-- LzwFormsModel.code: touched ['t', 't_row', 't_codes', 't_widths', 't_begins', 't_spanAt', 't_spanLong', 't_spanOf']; used ['t', 't_row', 't_codes', 't_widths', 't_begins', 't_spanAt', 't_spanLong', 't_spanOf']; mod ['t', 't_codes', 't_widths', 't_begins', 't_spanAt', 't_spanLong', 't_spanOf']; height 6
theorem ln_X8_code_30 : gx_L wsX8_code RX8 30 8 10 := ⟨_, _, _, rfl, by decide +kernel, by decide, Or.inl (by decide +kernel)⟩
theorem ln_X8_code_33 : gx_L wsX8_code RX8 33 8 11 := ⟨_, _, _, rfl, by decide +kernel, by decide, Or.inl (by decide +kernel)⟩
theorem ln_X8_code_36 : gx_L wsX8_code RX8 36 8 12 := ⟨_, _, _, rfl, by decide +kernel, by decide, Or.inl (by decide +kernel)⟩
theorem ln_X8_code_84 : gx_L wsX8_code RX8 84 8 13 := ⟨_, _, _, rfl, by decide +kernel, by decide, Or.inl (by decide +kernel)⟩
theorem kl_X8_code_57 : gx_KS wsX8_code RX8 57 yX8_in cX8_in 3 (some .boolean) wsX8_in (gx_rm 0) (gx_rm 6) 3 := ⟨gX8_code_X8_in, ⟨_, rfl⟩, ⟨by decide, by decide, by decide +kernel⟩, ⟨by decide, by decide⟩⟩
theorem kl_X8_code_110 : gx_KV wsX8_code RX8 110 yX8_pack cX8_pack 7 none wsX8_pack (gx_rm 5) (gx_rm 6) 0 := ⟨gX8_code_X8_pack, ⟨_, rfl⟩, ⟨by decide, by decide, by decide +kernel⟩, ⟨by decide, by decide⟩⟩
def wd_X8_code (cI cZ : ClassId) (h_t h_t_row h_t_tape h_t_codes h_t_widths h_t_begins h_t_spanAt h_t_spanLong h_t_spanOf h_t_out : Nat) (V_t V_t_row V_t_codes V_t_widths V_t_begins V_t_spanAt V_t_spanLong V_t_spanOf : Nat → Int32) : va_W := [gx_o h_t 8 [none, none, none, none, some (some h_t_row), none, some (some h_t_tape), none, none, none, some (some h_t_codes), some (some h_t_widths), some (some h_t_begins), none, none, none, none, some (some h_t_spanAt), some (some h_t_spanLong), some (some h_t_spanOf), none, none, none, none, some (some h_t_out), none, none, none] V_t, gx_a h_t_row cI 300 V_t_row, gx_a h_t_codes cI 700 V_t_codes, gx_a h_t_widths cI 700 V_t_widths, gx_a h_t_begins cI 700 V_t_begins, gx_a h_t_spanAt cI 300 V_t_spanAt, gx_a h_t_spanLong cI 300 V_t_spanLong, gx_a h_t_spanOf cI 300 V_t_spanOf]
set_option maxHeartbeats 4000000 in
set_option maxRecDepth 100000 in
theorem ct_X8_code (l : Launch) (D : va_G) (cI cZ : ClassId) (h_t h_t_row h_t_tape h_t_codes h_t_widths h_t_begins h_t_spanAt h_t_spanLong h_t_spanOf h_t_out : Nat) (V_t V_t_row V_t_codes V_t_widths V_t_begins V_t_spanAt V_t_spanLong V_t_spanOf : Nat → Int32) (a1 a2 : Int32) {z : Int32 × (Nat → Int32) × (Nat → Int32) × (Nat → Int32) × (Nat → Int32) × (Nat → Int32) × (Nat → Int32) × (Nat → Int32)} (hf : fn_X8_code V_t V_t_row V_t_codes V_t_widths V_t_begins V_t_spanAt V_t_spanLong V_t_spanOf a1 a2 = some z) : gx_Mi l yX8_code wsX8_code (gx_rm 6) D cI cZ [.ref h_t, .int a1, .int a2] (wd_X8_code cI cZ h_t h_t_row h_t_tape h_t_codes h_t_widths h_t_begins h_t_spanAt h_t_spanLong h_t_spanOf h_t_out V_t V_t_row V_t_codes V_t_widths V_t_begins V_t_spanAt V_t_spanLong V_t_spanOf) (wd_X8_code cI cZ h_t h_t_row h_t_tape h_t_codes h_t_widths h_t_begins h_t_spanAt h_t_spanLong h_t_spanOf h_t_out z.2.1 V_t_row z.2.2.1 z.2.2.2.1 z.2.2.2.2.1 z.2.2.2.2.2.1 z.2.2.2.2.2.2.1 z.2.2.2.2.2.2.2) z.1 := by
  refine gx_ofi (cc := cX8_code) (own := RX8) (by decide) rfl rfl (Nat.le_of_ble_eq_true rfl) [(0, .ref h_t), (1, .int a1), (2, .int a2)] rfl ?_
  intro p e s m args below meth c A Q ls C hQ hl hw
  have hx := C.1.1
  have hb := C.1.2.1
  rw [fn_X8_code] at hf
  refine lv_iload_n hx hb dX8_code_0 rfl (lv_at hl 2 rfl) ?_
  refine lv_iconst (v := 0) hx hb dX8_code_1 (by decide) ?_
  refine lv_iconst (v := 2) hx hb dX8_code_2 (by decide) ?_
  obtain ⟨y_3, hy_3, hf⟩ := gx_b hf
  refine gx_calls (As := [.int a2, .int 0, .int 2]) C hw (ct_X8_in l D cI cZ a2 0 2 hy_3) kl_X8_code_57 ⟨rfl, rfl⟩ rfl rfl hl.1 (Nat.le_of_ble_eq_true rfl) ⟨Nat.le_refl _, Nat.le_refl _⟩ dX8_code_3 (fun H locs hw => ?_)
  refine lv_if_ne (tgt := 12) hx hb dX8_code_6 (by decide) (fun hc => ?_) (fun hc => ?_)
  · replace hf := gx_f hc hf
    refine lv_aload_n hx hb dX8_code_12 rfl (lv_at hl 0 rfl) ?_
    obtain ⟨y_13, hy_13, hf⟩ := gx_b hf
    refine gx_callv (As := []) (ws' := wd_X8_code cI cZ h_t h_t_row h_t_tape h_t_codes h_t_widths h_t_begins h_t_spanAt h_t_spanLong h_t_spanOf h_t_out y_13.1 V_t_row y_13.2.1 y_13.2.2.1 y_13.2.2.2.1 y_13.2.2.2.2.1 y_13.2.2.2.2.2.1 y_13.2.2.2.2.2.2) (isC := [0, 1, 2, 3, 4, 5, 6, 7]) (isR := []) (isP := [0, 1, 2, 3, 4, 5, 6, 7]) C hw (ct_X8_pack l D cI cZ h_t h_t_row h_t_tape h_t_codes h_t_widths h_t_begins h_t_spanAt h_t_spanLong h_t_spanOf h_t_out V_t V_t_row V_t_codes V_t_widths V_t_begins V_t_spanAt V_t_spanLong V_t_spanOf hy_13) kl_X8_code_110 ⟨rfl, rfl⟩ ⟨rfl, rfl, by decide, by decide, by decide, by decide, rfl⟩ 0 rfl rfl rfl rfl hl.1 (Nat.le_of_ble_eq_true rfl) ⟨Nat.le_refl _, Nat.le_refl _⟩ dX8_code_13 (fun H locs hw => ?_)
    refine lv_iload_n hx hb dX8_code_16 rfl (lv_at hl 1 rfl) ?_
    refine lv_iconst (v := 0) hx hb dX8_code_17 (by decide) ?_
    refine lv_aload_n hx hb dX8_code_18 rfl (lv_at hl 0 rfl) ?_
    refine gx_get (v := .int (y_13.1 13)) C hw 0 rfl (gx_gj rfl rfl) ln_X8_code_84 dX8_code_19 ?_
    refine lv_iconst (v := 1) hx hb dX8_code_22 (by decide) ?_
    refine lv_isub hx hb dX8_code_23 ?_
    obtain ⟨y_24, hy_24, hf⟩ := gx_b hf
    refine gx_calls (As := [.int a1, .int 0, .int ((y_13.1 13) - 1)]) C hw (ct_X8_in l D cI cZ a1 0 ((y_13.1 13) - 1) hy_24) kl_X8_code_57 ⟨rfl, rfl⟩ rfl rfl hl.1 (Nat.le_of_ble_eq_true rfl) ⟨Nat.le_refl _, Nat.le_refl _⟩ dX8_code_24 (fun H locs hw => ?_)
    refine lv_if_ne (tgt := 32) hx hb dX8_code_27 (by decide) (fun hc => ?_) (fun hc => ?_)
    · replace hf := gx_f hc hf
      refine lv_iload_n hx hb dX8_code_32 rfl (lv_at hl 2 rfl) ?_
      refine lv_if_ne (tgt := 45) hx hb dX8_code_33 (by decide) (fun hc => ?_) (fun hc => ?_)
      · replace hf := gx_f hc hf
        refine lv_iload_n hx hb dX8_code_45 rfl (lv_at hl 2 rfl) ?_
        refine lv_iconst (v := 1) hx hb dX8_code_46 (by decide) ?_
        refine lv_icmp_ne (tgt := 59) hx hb dX8_code_47 (by decide) (fun hc => ?_) (fun hc => ?_)
        · replace hf := gx_f hc hf
          refine lv_aload_n hx hb dX8_code_59 rfl (lv_at hl 0 rfl) ?_
          refine gx_get C hw 0 rfl (gx_gr rfl) ln_X8_code_36 dX8_code_60 ?_
          refine lv_iload_n hx hb dX8_code_63 rfl (lv_at hl 1 rfl) ?_
          obtain ⟨hi_64, hf⟩ := gx_g hf
          refine gx_iald C hw 4 rfl hi_64 dX8_code_64 ?_
          obtain rfl := Option.some.inj hf
          exact hQ _ _ _ _ dX8_code_65 rfl hw
        · replace hf := gx_t hc hf
          refine lv_aload_n hx hb dX8_code_50 rfl (lv_at hl 0 rfl) ?_
          refine gx_get C hw 0 rfl (gx_gr rfl) ln_X8_code_33 dX8_code_51 ?_
          refine lv_iload_n hx hb dX8_code_54 rfl (lv_at hl 1 rfl) ?_
          obtain ⟨hi_55, hf⟩ := gx_g hf
          refine gx_iald C hw 3 rfl hi_55 dX8_code_55 ?_
          refine lv_goto (tgt := 65) hx hb dX8_code_56 (by decide) ?_
          obtain rfl := Option.some.inj hf
          exact hQ _ _ _ _ dX8_code_65 rfl hw
      · replace hf := gx_t hc hf
        refine lv_aload_n hx hb dX8_code_36 rfl (lv_at hl 0 rfl) ?_
        refine gx_get C hw 0 rfl (gx_gr rfl) ln_X8_code_30 dX8_code_37 ?_
        refine lv_iload_n hx hb dX8_code_40 rfl (lv_at hl 1 rfl) ?_
        obtain ⟨hi_41, hf⟩ := gx_g hf
        refine gx_iald C hw 2 rfl hi_41 dX8_code_41 ?_
        refine lv_goto (tgt := 65) hx hb dX8_code_42 (by decide) ?_
        obtain rfl := Option.some.inj hf
        exact hQ _ _ _ _ dX8_code_65 rfl hw
    · replace hf := gx_t hc hf
      refine lv_iconst (v := (-1)) hx hb dX8_code_30 (by decide) ?_
      obtain rfl := Option.some.inj hf
      exact hQ _ _ _ _ dX8_code_31 rfl hw
  · replace hf := gx_t hc hf
    refine lv_bipush (v := (-2)) hx hb dX8_code_9 (by decide) ?_
    obtain rfl := Option.some.inj hf
    exact hQ _ _ _ _ dX8_code_11 rfl hw
-- LzwFormsModel.string: touched ['t', 't_row', 't_codes', 't_widths', 't_begins', 't_spanAt', 't_spanLong', 't_spanOf']; used ['t', 't_row', 't_codes', 't_widths', 't_begins', 't_spanAt', 't_spanLong', 't_spanOf']; mod ['t', 't_codes', 't_widths', 't_begins', 't_spanAt', 't_spanLong', 't_spanOf']; height 6
theorem ln_X8_string_7 : gx_L wsX8_string RX8 7 8 1 := ⟨_, _, _, rfl, by decide +kernel, by decide, Or.inl (by decide +kernel)⟩
theorem ln_X8_string_19 : gx_L wsX8_string RX8 19 8 4 := ⟨_, _, _, rfl, by decide +kernel, by decide, Or.inl (by decide +kernel)⟩
theorem ln_X8_string_39 : gx_L wsX8_string RX8 39 8 17 := ⟨_, _, _, rfl, by decide +kernel, by decide, Or.inl (by decide +kernel)⟩
theorem ln_X8_string_42 : gx_L wsX8_string RX8 42 8 18 := ⟨_, _, _, rfl, by decide +kernel, by decide, Or.inl (by decide +kernel)⟩
theorem ln_X8_string_45 : gx_L wsX8_string RX8 45 8 19 := ⟨_, _, _, rfl, by decide +kernel, by decide, Or.inl (by decide +kernel)⟩
theorem ln_X8_string_100 : gx_L wsX8_string RX8 100 8 20 := ⟨_, _, _, rfl, by decide +kernel, by decide, Or.inl (by decide +kernel)⟩
theorem kl_X8_string_57 : gx_KS wsX8_string RX8 57 yX8_in cX8_in 3 (some .boolean) wsX8_in (gx_rm 0) (gx_rm 6) 3 := ⟨gX8_string_X8_in, ⟨_, rfl⟩, ⟨by decide, by decide, by decide +kernel⟩, ⟨by decide, by decide⟩⟩
theorem kl_X8_string_64 : gx_KV wsX8_string RX8 64 yX8_firstNumber cX8_firstNumber 1 (some .int) wsX8_firstNumber (gx_rm 0) (gx_rm 6) 0 := ⟨gX8_string_X8_firstNumber, ⟨_, rfl⟩, ⟨by decide, by decide, by decide +kernel⟩, ⟨by decide, by decide⟩⟩
theorem kl_X8_string_110 : gx_KV wsX8_string RX8 110 yX8_pack cX8_pack 7 none wsX8_pack (gx_rm 5) (gx_rm 6) 0 := ⟨gX8_string_X8_pack, ⟨_, rfl⟩, ⟨by decide, by decide, by decide +kernel⟩, ⟨by decide, by decide⟩⟩
def wd_X8_string (cI cZ : ClassId) (h_t h_t_row h_t_tape h_t_codes h_t_widths h_t_begins h_t_spanAt h_t_spanLong h_t_spanOf h_t_out : Nat) (V_t V_t_row V_t_codes V_t_widths V_t_begins V_t_spanAt V_t_spanLong V_t_spanOf : Nat → Int32) : va_W := [gx_o h_t 8 [none, none, none, none, some (some h_t_row), none, some (some h_t_tape), none, none, none, some (some h_t_codes), some (some h_t_widths), some (some h_t_begins), none, none, none, none, some (some h_t_spanAt), some (some h_t_spanLong), some (some h_t_spanOf), none, none, none, none, some (some h_t_out), none, none, none] V_t, gx_a h_t_row cI 300 V_t_row, gx_a h_t_codes cI 700 V_t_codes, gx_a h_t_widths cI 700 V_t_widths, gx_a h_t_begins cI 700 V_t_begins, gx_a h_t_spanAt cI 300 V_t_spanAt, gx_a h_t_spanLong cI 300 V_t_spanLong, gx_a h_t_spanOf cI 300 V_t_spanOf]
set_option maxHeartbeats 4000000 in
set_option maxRecDepth 100000 in
theorem ct_X8_string (l : Launch) (D : va_G) (cI cZ : ClassId) (h_t h_t_row h_t_tape h_t_codes h_t_widths h_t_begins h_t_spanAt h_t_spanLong h_t_spanOf h_t_out : Nat) (V_t V_t_row V_t_codes V_t_widths V_t_begins V_t_spanAt V_t_spanLong V_t_spanOf : Nat → Int32) (a1 a2 : Int32) {z : Int32 × (Nat → Int32) × (Nat → Int32) × (Nat → Int32) × (Nat → Int32) × (Nat → Int32) × (Nat → Int32) × (Nat → Int32)} (hf : fn_X8_string V_t V_t_row V_t_codes V_t_widths V_t_begins V_t_spanAt V_t_spanLong V_t_spanOf a1 a2 = some z) : gx_Mi l yX8_string wsX8_string (gx_rm 6) D cI cZ [.ref h_t, .int a1, .int a2] (wd_X8_string cI cZ h_t h_t_row h_t_tape h_t_codes h_t_widths h_t_begins h_t_spanAt h_t_spanLong h_t_spanOf h_t_out V_t V_t_row V_t_codes V_t_widths V_t_begins V_t_spanAt V_t_spanLong V_t_spanOf) (wd_X8_string cI cZ h_t h_t_row h_t_tape h_t_codes h_t_widths h_t_begins h_t_spanAt h_t_spanLong h_t_spanOf h_t_out z.2.1 V_t_row z.2.2.1 z.2.2.2.1 z.2.2.2.2.1 z.2.2.2.2.2.1 z.2.2.2.2.2.2.1 z.2.2.2.2.2.2.2) z.1 := by
  refine gx_ofi (cc := cX8_string) (own := RX8) (by decide) rfl rfl (Nat.le_of_ble_eq_true rfl) [(0, .ref h_t), (1, .int a1), (2, .int a2)] rfl ?_
  intro p e s m args below meth c A Q ls C hQ hl hw
  have hx := C.1.1
  have hb := C.1.2.1
  rw [fn_X8_string] at hf
  refine lv_iload_n hx hb dX8_string_0 rfl (lv_at hl 2 rfl) ?_
  refine lv_iconst (v := 0) hx hb dX8_string_1 (by decide) ?_
  refine lv_iconst (v := 2) hx hb dX8_string_2 (by decide) ?_
  obtain ⟨y_3, hy_3, hf⟩ := gx_b hf
  refine gx_calls (As := [.int a2, .int 0, .int 2]) C hw (ct_X8_in l D cI cZ a2 0 2 hy_3) kl_X8_string_57 ⟨rfl, rfl⟩ rfl rfl hl.1 (Nat.le_of_ble_eq_true rfl) ⟨Nat.le_refl _, Nat.le_refl _⟩ dX8_string_3 (fun H locs hw => ?_)
  refine lv_if_ne (tgt := 12) hx hb dX8_string_6 (by decide) (fun hc => ?_) (fun hc => ?_)
  · replace hf := gx_f hc hf
    refine lv_aload_n hx hb dX8_string_12 rfl (lv_at hl 0 rfl) ?_
    obtain ⟨y_13, hy_13, hf⟩ := gx_b hf
    refine gx_callv (As := []) (ws' := wd_X8_string cI cZ h_t h_t_row h_t_tape h_t_codes h_t_widths h_t_begins h_t_spanAt h_t_spanLong h_t_spanOf h_t_out y_13.1 V_t_row y_13.2.1 y_13.2.2.1 y_13.2.2.2.1 y_13.2.2.2.2.1 y_13.2.2.2.2.2.1 y_13.2.2.2.2.2.2) (isC := [0, 1, 2, 3, 4, 5, 6, 7]) (isR := []) (isP := [0, 1, 2, 3, 4, 5, 6, 7]) C hw (ct_X8_pack l D cI cZ h_t h_t_row h_t_tape h_t_codes h_t_widths h_t_begins h_t_spanAt h_t_spanLong h_t_spanOf h_t_out V_t V_t_row V_t_codes V_t_widths V_t_begins V_t_spanAt V_t_spanLong V_t_spanOf hy_13) kl_X8_string_110 ⟨rfl, rfl⟩ ⟨rfl, rfl, by decide, by decide, by decide, by decide, rfl⟩ 0 rfl rfl rfl rfl hl.1 (Nat.le_of_ble_eq_true rfl) ⟨Nat.le_refl _, Nat.le_refl _⟩ dX8_string_13 (fun H locs hw => ?_)
    refine lv_iload_n hx hb dX8_string_16 rfl (lv_at hl 1 rfl) ?_
    refine lv_iconst (v := 0) hx hb dX8_string_17 (by decide) ?_
    refine lv_iconst (v := 1) hx hb dX8_string_18 (by decide) ?_
    refine lv_aload_n hx hb dX8_string_19 rfl (lv_at hl 0 rfl) ?_
    refine gx_get (v := .int (y_13.1 1)) C hw 0 rfl (gx_gj rfl rfl) ln_X8_string_7 dX8_string_20 ?_
    refine lv_ishl hx hb dX8_string_23 ?_
    refine lv_iconst (v := 1) hx hb dX8_string_24 (by decide) ?_
    refine lv_isub hx hb dX8_string_25 ?_
    obtain ⟨y_26, hy_26, hf⟩ := gx_b hf
    refine gx_calls (As := [.int a1, .int 0, .int ((1 <<< ((y_13.1 1) &&& 31)) - 1)]) C hw (ct_X8_in l D cI cZ a1 0 ((1 <<< ((y_13.1 1) &&& 31)) - 1) hy_26) kl_X8_string_57 ⟨rfl, rfl⟩ rfl rfl hl.1 (Nat.le_of_ble_eq_true rfl) ⟨Nat.le_refl _, Nat.le_refl _⟩ dX8_string_26 (fun H locs hw => ?_)
    refine lv_if_eq (tgt := 51) hx hb dX8_string_29 (by decide) (fun hc => ?_) (fun hc => ?_)
    · replace hf := gx_t hc hf
      refine lv_iload_n hx hb dX8_string_51 rfl (lv_at hl 1 rfl) ?_
      refine lv_aload_n hx hb dX8_string_52 rfl (lv_at hl 0 rfl) ?_
      obtain ⟨y_53, hy_53, hf⟩ := gx_b hf
      refine gx_calli (As := []) (ws' := wd_X8_string cI cZ h_t h_t_row h_t_tape h_t_codes h_t_widths h_t_begins h_t_spanAt h_t_spanLong h_t_spanOf h_t_out y_13.1 V_t_row y_13.2.1 y_13.2.2.1 y_13.2.2.2.1 y_13.2.2.2.2.1 y_13.2.2.2.2.2.1 y_13.2.2.2.2.2.2) (isC := [0]) (isR := [1, 2, 3, 4, 5, 6, 7]) (isP := [7, 0, 1, 2, 3, 4, 5, 6]) C hw (ct_X8_firstNumber l D cI cZ h_t h_t_row h_t_tape h_t_codes h_t_widths h_t_begins h_t_spanAt h_t_spanLong h_t_spanOf h_t_out y_13.1 hy_53) kl_X8_string_64 ⟨rfl, rfl⟩ ⟨rfl, rfl, by decide, by decide, by decide, by decide, rfl⟩ 0 rfl rfl rfl rfl hl.1 (Nat.le_of_ble_eq_true rfl) ⟨Nat.le_refl _, Nat.le_refl _⟩ dX8_string_53 (fun H locs hw => ?_)
      refine lv_isub hx hb dX8_string_56 ?_
      refine lv_istore_n (lv' := [(3, .int (a1 - y_53)), (0, .ref h_t), (1, .int a1), (2, .int a2)]) hx hb dX8_string_57 rfl hl (by decide) rfl (fun ls hl => ?_)
      refine lv_iload_n hx hb dX8_string_58 rfl (lv_at hl 0 rfl) ?_
      refine lv_iconst (v := 0) hx hb dX8_string_59 (by decide) ?_
      refine lv_aload_n hx hb dX8_string_60 rfl (lv_at hl 1 rfl) ?_
      refine gx_get (v := .int (y_13.1 20)) C hw 0 rfl (gx_gj rfl rfl) ln_X8_string_100 dX8_string_61 ?_
      refine lv_iconst (v := 1) hx hb dX8_string_64 (by decide) ?_
      refine lv_isub hx hb dX8_string_65 ?_
      obtain ⟨y_66, hy_66, hf⟩ := gx_b hf
      refine gx_calls (As := [.int (a1 - y_53), .int 0, .int ((y_13.1 20) - 1)]) C hw (ct_X8_in l D cI cZ (a1 - y_53) 0 ((y_13.1 20) - 1) hy_66) kl_X8_string_57 ⟨rfl, rfl⟩ rfl rfl hl.1 (Nat.le_of_ble_eq_true rfl) ⟨Nat.le_refl _, Nat.le_refl _⟩ dX8_string_66 (fun H locs hw => ?_)
      refine lv_if_ne (tgt := 74) hx hb dX8_string_69 (by decide) (fun hc => ?_) (fun hc => ?_)
      · replace hf := gx_f hc hf
        refine lv_iload_n hx hb dX8_string_74 rfl (lv_at hl 3 rfl) ?_
        refine lv_if_ne (tgt := 87) hx hb dX8_string_75 (by decide) (fun hc => ?_) (fun hc => ?_)
        · replace hf := gx_f hc hf
          refine lv_iload_n hx hb dX8_string_87 rfl (lv_at hl 3 rfl) ?_
          refine lv_iconst (v := 1) hx hb dX8_string_88 (by decide) ?_
          refine lv_icmp_ne (tgt := 115) hx hb dX8_string_89 (by decide) (fun hc => ?_) (fun hc => ?_)
          · replace hf := gx_f hc hf
            refine lv_aload_n hx hb dX8_string_115 rfl (lv_at hl 1 rfl) ?_
            refine gx_get C hw 0 rfl (gx_gr rfl) ln_X8_string_42 dX8_string_116 ?_
            refine lv_iload_n hx hb dX8_string_119 rfl (lv_at hl 0 rfl) ?_
            obtain ⟨hi_120, hf⟩ := gx_g hf
            refine gx_iald C hw 6 rfl hi_120 dX8_string_120 ?_
            obtain rfl := Option.some.inj hf
            exact hQ _ _ _ _ dX8_string_121 rfl hw
          · replace hf := gx_t hc hf
            refine lv_aload_n hx hb dX8_string_92 rfl (lv_at hl 1 rfl) ?_
            refine gx_get C hw 0 rfl (gx_gr rfl) ln_X8_string_19 dX8_string_93 ?_
            refine lv_aload_n hx hb dX8_string_96 rfl (lv_at hl 1 rfl) ?_
            refine gx_get C hw 0 rfl (gx_gr rfl) ln_X8_string_39 dX8_string_97 ?_
            refine lv_iload_n hx hb dX8_string_100 rfl (lv_at hl 0 rfl) ?_
            obtain ⟨hi_101, hf⟩ := gx_g hf
            refine gx_iald C hw 5 rfl hi_101 dX8_string_101 ?_
            refine lv_aload_n hx hb dX8_string_102 rfl (lv_at hl 1 rfl) ?_
            refine gx_get C hw 0 rfl (gx_gr rfl) ln_X8_string_42 dX8_string_103 ?_
            refine lv_iload_n hx hb dX8_string_106 rfl (lv_at hl 0 rfl) ?_
            obtain ⟨hi_107, hf⟩ := gx_g hf
            refine gx_iald C hw 6 rfl hi_107 dX8_string_107 ?_
            refine lv_iadd hx hb dX8_string_108 ?_
            refine lv_iconst (v := 1) hx hb dX8_string_109 (by decide) ?_
            refine lv_isub hx hb dX8_string_110 ?_
            obtain ⟨hi_111, hf⟩ := gx_g hf
            refine gx_iald C hw 1 rfl hi_111 dX8_string_111 ?_
            refine lv_goto (tgt := 121) hx hb dX8_string_112 (by decide) ?_
            obtain rfl := Option.some.inj hf
            exact hQ _ _ _ _ dX8_string_121 rfl hw
        · replace hf := gx_t hc hf
          refine lv_aload_n hx hb dX8_string_78 rfl (lv_at hl 1 rfl) ?_
          refine gx_get C hw 0 rfl (gx_gr rfl) ln_X8_string_45 dX8_string_79 ?_
          refine lv_iload_n hx hb dX8_string_82 rfl (lv_at hl 0 rfl) ?_
          obtain ⟨hi_83, hf⟩ := gx_g hf
          refine gx_iald C hw 7 rfl hi_83 dX8_string_83 ?_
          refine lv_goto (tgt := 121) hx hb dX8_string_84 (by decide) ?_
          obtain rfl := Option.some.inj hf
          exact hQ _ _ _ _ dX8_string_121 rfl hw
      · replace hf := gx_t hc hf
        refine lv_iconst (v := (-1)) hx hb dX8_string_72 (by decide) ?_
        obtain rfl := Option.some.inj hf
        exact hQ _ _ _ _ dX8_string_73 rfl hw
    · replace hf := gx_f hc hf
      refine lv_iload_n hx hb dX8_string_32 rfl (lv_at hl 2 rfl) ?_
      refine lv_if_ne (tgt := 40) hx hb dX8_string_33 (by decide) (fun hc => ?_) (fun hc => ?_)
      · replace hf := gx_f hc hf
        refine lv_iload_n hx hb dX8_string_40 rfl (lv_at hl 2 rfl) ?_
        refine lv_iconst (v := 1) hx hb dX8_string_41 (by decide) ?_
        refine lv_icmp_ne (tgt := 49) hx hb dX8_string_42 (by decide) (fun hc => ?_) (fun hc => ?_)
        · replace hf := gx_f hc hf
          refine lv_iconst (v := 1) hx hb dX8_string_49 (by decide) ?_
          obtain rfl := Option.some.inj hf
          exact hQ _ _ _ _ dX8_string_50 rfl hw
        · replace hf := gx_t hc hf
          refine lv_iload_n hx hb dX8_string_45 rfl (lv_at hl 1 rfl) ?_
          refine lv_goto (tgt := 50) hx hb dX8_string_46 (by decide) ?_
          obtain rfl := Option.some.inj hf
          exact hQ _ _ _ _ dX8_string_50 rfl hw
      · replace hf := gx_t hc hf
        refine lv_iconst (v := (-1)) hx hb dX8_string_36 (by decide) ?_
        refine lv_goto (tgt := 50) hx hb dX8_string_37 (by decide) ?_
        obtain rfl := Option.some.inj hf
        exact hQ _ _ _ _ dX8_string_50 rfl hw
  · replace hf := gx_t hc hf
    refine lv_bipush (v := (-2)) hx hb dX8_string_9 (by decide) ?_
    obtain rfl := Option.some.inj hf
    exact hQ _ _ _ _ dX8_string_11 rfl hw
-- LzwFormsModel.turnTape: touched ['t', 't_tape']; used ['t', 't_tape']; mod ['t_tape']; height 0
theorem ln_X8_turnTape_23 : gx_L wsX8_turnTape RX8 23 8 6 := ⟨_, _, _, rfl, by decide +kernel, by decide, Or.inl (by decide +kernel)⟩
theorem ln_X8_turnTape_54 : gx_L wsX8_turnTape RX8 54 8 0 := ⟨_, _, _, rfl, by decide +kernel, by decide, Or.inl (by decide +kernel)⟩
theorem ln_X8_turnTape_113 : gx_L wsX8_turnTape RX8 113 8 7 := ⟨_, _, _, rfl, by decide +kernel, by decide, Or.inl (by decide +kernel)⟩
def wd_X8_turnTape (cI cZ : ClassId) (h_t h_t_row h_t_tape h_t_codes h_t_widths h_t_begins h_t_spanAt h_t_spanLong h_t_spanOf h_t_out : Nat) (V_t V_t_tape : Nat → Int32) : va_W := [gx_o h_t 8 [none, none, none, none, some (some h_t_row), none, some (some h_t_tape), none, none, none, some (some h_t_codes), some (some h_t_widths), some (some h_t_begins), none, none, none, none, some (some h_t_spanAt), some (some h_t_spanLong), some (some h_t_spanOf), none, none, none, none, some (some h_t_out), none, none, none] V_t, gx_a h_t_tape cZ 3200 V_t_tape]
set_option maxHeartbeats 4000000 in
set_option maxRecDepth 100000 in
theorem tm_X8_turnTape_20 (C : gx_C cX8_turnTape 4 wsX8_turnTape RX8 D cI cZ p s m args c) (h_t h_t_row h_t_tape h_t_codes h_t_widths h_t_begins h_t_spanAt h_t_spanLong h_t_spanOf h_t_out : Nat) (V_t : Nat → Int32) {z : (Nat → Int32)} (hQ : gx_Qv cX8_turnTape p l e (gx_rm 0) s m args below meth c D A Q (wd_X8_turnTape cI cZ h_t h_t_row h_t_tape h_t_codes h_t_widths h_t_begins h_t_spanAt h_t_spanLong h_t_spanOf h_t_out V_t z)) (K2 : (Nat → Int32) → Int32 → Option ((Nat → Int32))) (hK2 : ∀ (V_t_tape : Nat → Int32) (x1 : Int32) (ls : Array Slot) (H : Heap) (locs : List Loc), lv_has ls 4 [(0, .ref h_t), (1, .int x1)] → gx_W D A s (wd_X8_turnTape cI cZ h_t h_t_row h_t_tape h_t_codes h_t_widths h_t_begins h_t_spanAt h_t_spanLong h_t_spanOf h_t_out V_t V_t_tape) H locs → K2 V_t_tape x1 = some z → W p l e (gx_rm 0) s m args below meth c H locs 0 0 Q (F0 m 2 ls [])) : ∀ (n : Nat), (∀ (V_t_tape : Nat → Int32) (x1 x2 : Int32) (ls : Array Slot) (H : Heap) (locs : List Loc), lv_has ls 4 [(0, .ref h_t), (1, .int x1), (2, .int x2)] → gx_W D A s (wd_X8_turnTape cI cZ h_t h_t_row h_t_tape h_t_codes h_t_widths h_t_begins h_t_spanAt h_t_spanLong h_t_spanOf h_t_out V_t V_t_tape) H locs → fn_X8_turnTape_l20 V_t K2 n V_t_tape x1 x2 = some z → W p l e (gx_rm 0) s m args below meth c H locs 0 0 Q (F0 m 20 ls [])) := by
  have hx := C.1.1
  have hb := C.1.2.1
  intro n
  induction n with
  | zero => intro V_t_tape x1 x2 ls H locs hl hw hf; rw [fn_X8_turnTape_l20] at hf; cases hf
  | succ n ih =>
    intro V_t_tape x1 x2 ls H locs hl hw hf
    rw [fn_X8_turnTape_l20] at hf
    refine lv_iload_n hx hb dX8_turnTape_20 rfl (lv_at hl 2 rfl) ?_
    refine lv_iconst (v := 4) hx hb dX8_turnTape_21 (by decide) ?_
    refine lv_icmp_ge (tgt := 83) hx hb dX8_turnTape_22 (by decide) (fun hc => ?_) (fun hc => ?_)
    · replace hf := gx_t hc hf
      refine lv_iinc (v := (x1 + 1)) (lv' := [(1, .int (x1 + 1)), (0, .ref h_t), (2, .int x2)]) hx hb dX8_turnTape_83 hl (k := 1) rfl rfl (by decide) rfl (fun ls hl => ?_)
      refine lv_goto (tgt := 2) hx hb dX8_turnTape_86 (by decide) ?_
      exact hK2 V_t_tape (x1 + 1) _ _ _ (lv_sub hl [1, 0] rfl) hw hf
    · replace hf := gx_f hc hf
      refine lv_aload_n hx hb dX8_turnTape_25 rfl (lv_at hl 0 rfl) ?_
      refine gx_get C hw 0 rfl (gx_gr rfl) ln_X8_turnTape_23 dX8_turnTape_26 ?_
      refine lv_bipush (v := 8) hx hb dX8_turnTape_29 (by decide) ?_
      refine lv_iload_n hx hb dX8_turnTape_31 rfl (lv_at hl 1 rfl) ?_
      refine lv_imul hx hb dX8_turnTape_32 ?_
      refine lv_iload_n hx hb dX8_turnTape_33 rfl (lv_at hl 2 rfl) ?_
      refine lv_iadd hx hb dX8_turnTape_34 ?_
      obtain ⟨hi_35, hf⟩ := gx_g hf
      refine gx_zald C hw 1 rfl hi_35 dX8_turnTape_35 ?_
      refine lv_istore_n (lv' := [(3, .int (V_t_tape ((8 * x1) + x2).toNatClampNeg)), (0, .ref h_t), (1, .int x1), (2, .int x2)]) hx hb dX8_turnTape_36 rfl hl (by decide) rfl (fun ls hl => ?_)
      refine lv_aload_n hx hb dX8_turnTape_37 rfl (lv_at hl 1 rfl) ?_
      refine gx_get C hw 0 rfl (gx_gr rfl) ln_X8_turnTape_23 dX8_turnTape_38 ?_
      refine lv_bipush (v := 8) hx hb dX8_turnTape_41 (by decide) ?_
      refine lv_iload_n hx hb dX8_turnTape_43 rfl (lv_at hl 2 rfl) ?_
      refine lv_imul hx hb dX8_turnTape_44 ?_
      refine lv_iload_n hx hb dX8_turnTape_45 rfl (lv_at hl 3 rfl) ?_
      refine lv_iadd hx hb dX8_turnTape_46 ?_
      refine lv_aload_n hx hb dX8_turnTape_47 rfl (lv_at hl 1 rfl) ?_
      refine gx_get C hw 0 rfl (gx_gr rfl) ln_X8_turnTape_23 dX8_turnTape_48 ?_
      refine lv_bipush (v := 8) hx hb dX8_turnTape_51 (by decide) ?_
      refine lv_iload_n hx hb dX8_turnTape_53 rfl (lv_at hl 2 rfl) ?_
      refine lv_imul hx hb dX8_turnTape_54 ?_
      refine lv_bipush (v := 7) hx hb dX8_turnTape_55 (by decide) ?_
      refine lv_iadd hx hb dX8_turnTape_57 ?_
      refine lv_iload_n hx hb dX8_turnTape_58 rfl (lv_at hl 3 rfl) ?_
      refine lv_isub hx hb dX8_turnTape_59 ?_
      obtain ⟨hi_60, hf⟩ := gx_g hf
      refine gx_zald C hw 1 rfl hi_60 dX8_turnTape_60 ?_
      obtain ⟨hi_61, hf⟩ := gx_g hf
      refine gx_zast (ws' := wd_X8_turnTape cI cZ h_t h_t_row h_t_tape h_t_codes h_t_widths h_t_begins h_t_spanAt h_t_spanLong h_t_spanOf h_t_out V_t (upd V_t_tape ((8 * x1) + x2).toNatClampNeg (vp_nar .boolean (V_t_tape (((8 * x1) + 7) - x2).toNatClampNeg)))) C hw 1 rfl hi_61 rfl dX8_turnTape_61 (fun H locs hw => ?_)
      refine lv_aload_n hx hb dX8_turnTape_62 rfl (lv_at hl 1 rfl) ?_
      refine gx_get C hw 0 rfl (gx_gr rfl) ln_X8_turnTape_23 dX8_turnTape_63 ?_
      refine lv_bipush (v := 8) hx hb dX8_turnTape_66 (by decide) ?_
      refine lv_iload_n hx hb dX8_turnTape_68 rfl (lv_at hl 2 rfl) ?_
      refine lv_imul hx hb dX8_turnTape_69 ?_
      refine lv_bipush (v := 7) hx hb dX8_turnTape_70 (by decide) ?_
      refine lv_iadd hx hb dX8_turnTape_72 ?_
      refine lv_iload_n hx hb dX8_turnTape_73 rfl (lv_at hl 3 rfl) ?_
      refine lv_isub hx hb dX8_turnTape_74 ?_
      refine lv_iload_n hx hb dX8_turnTape_75 rfl (lv_at hl 0 rfl) ?_
      obtain ⟨hi_76, hf⟩ := gx_g hf
      refine gx_zast (ws' := wd_X8_turnTape cI cZ h_t h_t_row h_t_tape h_t_codes h_t_widths h_t_begins h_t_spanAt h_t_spanLong h_t_spanOf h_t_out V_t (upd (upd V_t_tape ((8 * x1) + x2).toNatClampNeg (vp_nar .boolean (V_t_tape (((8 * x1) + 7) - x2).toNatClampNeg))) (((8 * x1) + 7) - x2).toNatClampNeg (vp_nar .boolean (V_t_tape ((8 * x1) + x2).toNatClampNeg)))) C hw 1 rfl hi_76 rfl dX8_turnTape_76 (fun H locs hw => ?_)
      refine lv_iinc (v := (x2 + 1)) (lv' := [(2, .int (x2 + 1)), (3, .int (V_t_tape ((8 * x1) + x2).toNatClampNeg)), (0, .ref h_t), (1, .int x1)]) hx hb dX8_turnTape_77 hl (k := 3) rfl rfl (by decide) rfl (fun ls hl => ?_)
      refine lv_goto (tgt := 20) hx hb dX8_turnTape_80 (by decide) ?_
      exact ih (upd (upd V_t_tape ((8 * x1) + x2).toNatClampNeg (vp_nar .boolean (V_t_tape (((8 * x1) + 7) - x2).toNatClampNeg))) (((8 * x1) + 7) - x2).toNatClampNeg (vp_nar .boolean (V_t_tape ((8 * x1) + x2).toNatClampNeg))) x1 (x2 + 1) _ _ _ (lv_sub hl [2, 3, 0] rfl) hw hf
set_option maxHeartbeats 4000000 in
set_option maxRecDepth 100000 in
theorem tm_X8_turnTape_2 (C : gx_C cX8_turnTape 4 wsX8_turnTape RX8 D cI cZ p s m args c) (h_t h_t_row h_t_tape h_t_codes h_t_widths h_t_begins h_t_spanAt h_t_spanLong h_t_spanOf h_t_out : Nat) (V_t : Nat → Int32) {z : (Nat → Int32)} (hQ : gx_Qv cX8_turnTape p l e (gx_rm 0) s m args below meth c D A Q (wd_X8_turnTape cI cZ h_t h_t_row h_t_tape h_t_codes h_t_widths h_t_begins h_t_spanAt h_t_spanLong h_t_spanOf h_t_out V_t z)) : ∀ (n : Nat), (∀ (V_t_tape : Nat → Int32) (x1 : Int32) (ls : Array Slot) (H : Heap) (locs : List Loc), lv_has ls 4 [(0, .ref h_t), (1, .int x1)] → gx_W D A s (wd_X8_turnTape cI cZ h_t h_t_row h_t_tape h_t_codes h_t_widths h_t_begins h_t_spanAt h_t_spanLong h_t_spanOf h_t_out V_t V_t_tape) H locs → fn_X8_turnTape_l2 V_t n V_t_tape x1 = some z → W p l e (gx_rm 0) s m args below meth c H locs 0 0 Q (F0 m 2 ls [])) := by
  have hx := C.1.1
  have hb := C.1.2.1
  intro n
  induction n with
  | zero => intro V_t_tape x1 ls H locs hl hw hf; rw [fn_X8_turnTape_l2] at hf; cases hf
  | succ n ih =>
    intro V_t_tape x1 ls H locs hl hw hf
    rw [fn_X8_turnTape_l2] at hf
    refine lv_iload_n hx hb dX8_turnTape_2 rfl (lv_at hl 1 rfl) ?_
    refine lv_aload_n hx hb dX8_turnTape_3 rfl (lv_at hl 0 rfl) ?_
    refine gx_get (v := .int (V_t 7)) C hw 0 rfl (gx_gj rfl rfl) ln_X8_turnTape_113 dX8_turnTape_4 ?_
    refine lv_icmp_ge (tgt := 89) hx hb dX8_turnTape_7 (by decide) (fun hc => ?_) (fun hc => ?_)
    · replace hf := gx_t hc hf
      obtain rfl := Option.some.inj hf
      exact hQ _ _ _ _ dX8_turnTape_89 hw
    · replace hf := gx_f hc hf
      refine lv_aload_n hx hb dX8_turnTape_10 rfl (lv_at hl 0 rfl) ?_
      refine gx_get (v := .int (V_t 0)) C hw 0 rfl (gx_gj rfl rfl) ln_X8_turnTape_54 dX8_turnTape_11 ?_
      refine lv_iconst (v := 1) hx hb dX8_turnTape_14 (by decide) ?_
      refine lv_icmp_ne (tgt := 89) hx hb dX8_turnTape_15 (by decide) (fun hc => ?_) (fun hc => ?_)
      · replace hf := gx_f hc hf
        obtain rfl := Option.some.inj hf
        exact hQ _ _ _ _ dX8_turnTape_89 hw
      · replace hf := gx_t hc hf
        refine lv_iconst (v := 0) hx hb dX8_turnTape_18 (by decide) ?_
        refine lv_istore_n (lv' := [(2, .int 0), (0, .ref h_t), (1, .int x1)]) hx hb dX8_turnTape_19 rfl hl (by decide) rfl (fun ls hl => ?_)
        exact tm_X8_turnTape_20 C h_t h_t_row h_t_tape h_t_codes h_t_widths h_t_begins h_t_spanAt h_t_spanLong h_t_spanOf h_t_out V_t hQ (fn_X8_turnTape_l2 V_t n) ih gx_fuel V_t_tape x1 0 _ _ _ (lv_sub hl [1, 2, 0] rfl) hw hf
set_option maxHeartbeats 4000000 in
set_option maxRecDepth 100000 in
theorem ct_X8_turnTape (l : Launch) (D : va_G) (cI cZ : ClassId) (h_t h_t_row h_t_tape h_t_codes h_t_widths h_t_begins h_t_spanAt h_t_spanLong h_t_spanOf h_t_out : Nat) (V_t V_t_tape : Nat → Int32) {z : (Nat → Int32)} (hf : fn_X8_turnTape V_t V_t_tape = some z) : gx_Mv l yX8_turnTape wsX8_turnTape (gx_rm 0) D cI cZ [.ref h_t] (wd_X8_turnTape cI cZ h_t h_t_row h_t_tape h_t_codes h_t_widths h_t_begins h_t_spanAt h_t_spanLong h_t_spanOf h_t_out V_t V_t_tape) (wd_X8_turnTape cI cZ h_t h_t_row h_t_tape h_t_codes h_t_widths h_t_begins h_t_spanAt h_t_spanLong h_t_spanOf h_t_out V_t z) := by
  refine gx_ofv (cc := cX8_turnTape) (own := RX8) (by decide) rfl rfl (Nat.le_of_ble_eq_true rfl) [(0, .ref h_t)] rfl ?_
  intro p e s m args below meth c A Q ls C hQ hl hw
  have hx := C.1.1
  have hb := C.1.2.1
  rw [fn_X8_turnTape] at hf
  refine lv_iconst (v := 0) hx hb dX8_turnTape_0 (by decide) ?_
  refine lv_istore_n (lv' := [(1, .int 0), (0, .ref h_t)]) hx hb dX8_turnTape_1 rfl hl (by decide) rfl (fun ls hl => ?_)
  exact tm_X8_turnTape_2 C h_t h_t_row h_t_tape h_t_codes h_t_widths h_t_begins h_t_spanAt h_t_spanLong h_t_spanOf h_t_out V_t hQ  gx_fuel V_t_tape 0 _ _ _ (lv_sub hl [1, 0] rfl) hw hf
-- LzwFormsModel.write: touched ['t', 't_row', 't_tape', 't_codes', 't_widths', 't_begins', 't_spanAt', 't_spanLong', 't_spanOf']; used ['t', 't_row', 't_tape', 't_codes', 't_widths', 't_begins', 't_spanAt', 't_spanLong', 't_spanOf']; mod ['t', 't_tape', 't_codes', 't_widths', 't_begins', 't_spanAt', 't_spanLong', 't_spanOf']; height 6
theorem ln_X8_write_23 : gx_L wsX8_write RX8 23 8 6 := ⟨_, _, _, rfl, by decide +kernel, by decide, Or.inl (by decide +kernel)⟩
theorem ln_X8_write_30 : gx_L wsX8_write RX8 30 8 10 := ⟨_, _, _, rfl, by decide +kernel, by decide, Or.inl (by decide +kernel)⟩
theorem ln_X8_write_33 : gx_L wsX8_write RX8 33 8 11 := ⟨_, _, _, rfl, by decide +kernel, by decide, Or.inl (by decide +kernel)⟩
theorem ln_X8_write_36 : gx_L wsX8_write RX8 36 8 12 := ⟨_, _, _, rfl, by decide +kernel, by decide, Or.inl (by decide +kernel)⟩
theorem ln_X8_write_54 : gx_L wsX8_write RX8 54 8 0 := ⟨_, _, _, rfl, by decide +kernel, by decide, Or.inl (by decide +kernel)⟩
theorem ln_X8_write_84 : gx_L wsX8_write RX8 84 8 13 := ⟨_, _, _, rfl, by decide +kernel, by decide, Or.inl (by decide +kernel)⟩
theorem ln_X8_write_87 : gx_L wsX8_write RX8 87 8 14 := ⟨_, _, _, rfl, by decide +kernel, by decide, Or.inl (by decide +kernel)⟩
theorem ln_X8_write_113 : gx_L wsX8_write RX8 113 8 7 := ⟨_, _, _, rfl, by decide +kernel, by decide, Or.inl (by decide +kernel)⟩
theorem lp_X8_write_113 : gx_LP wsX8_write RX8 113 8 7 false .int := ⟨_, _, _, tyX8, rfl, by decide +kernel, by decide, by decide +kernel, tyX8_ok, nmX8, by decide +kernel, by decide +kernel, by decide +kernel⟩
theorem kl_X8_write_110 : gx_KV wsX8_write RX8 110 yX8_pack cX8_pack 7 none wsX8_pack (gx_rm 5) (gx_rm 6) 0 := ⟨gX8_write_X8_pack, ⟨_, rfl⟩, ⟨by decide, by decide, by decide +kernel⟩, ⟨by decide, by decide⟩⟩
theorem kl_X8_write_116 : gx_KV wsX8_write RX8 116 yX8_turnTape cX8_turnTape 4 none wsX8_turnTape (gx_rm 0) (gx_rm 6) 0 := ⟨gX8_write_X8_turnTape, ⟨_, rfl⟩, ⟨by decide, by decide, by decide +kernel⟩, ⟨by decide, by decide⟩⟩
def wd_X8_write (cI cZ : ClassId) (h_t h_t_row h_t_tape h_t_codes h_t_widths h_t_begins h_t_spanAt h_t_spanLong h_t_spanOf h_t_out : Nat) (V_t V_t_row V_t_tape V_t_codes V_t_widths V_t_begins V_t_spanAt V_t_spanLong V_t_spanOf : Nat → Int32) : va_W := [gx_o h_t 8 [none, none, none, none, some (some h_t_row), none, some (some h_t_tape), none, none, none, some (some h_t_codes), some (some h_t_widths), some (some h_t_begins), none, none, none, none, some (some h_t_spanAt), some (some h_t_spanLong), some (some h_t_spanOf), none, none, none, none, some (some h_t_out), none, none, none] V_t, gx_a h_t_row cI 300 V_t_row, gx_a h_t_tape cZ 3200 V_t_tape, gx_a h_t_codes cI 700 V_t_codes, gx_a h_t_widths cI 700 V_t_widths, gx_a h_t_begins cI 700 V_t_begins, gx_a h_t_spanAt cI 300 V_t_spanAt, gx_a h_t_spanLong cI 300 V_t_spanLong, gx_a h_t_spanOf cI 300 V_t_spanOf]
set_option maxHeartbeats 4000000 in
set_option maxRecDepth 100000 in
theorem tm_X8_write_97 (C : gx_C cX8_write 5 wsX8_write RX8 D cI cZ p s m args c) (h_t h_t_row h_t_tape h_t_codes h_t_widths h_t_begins h_t_spanAt h_t_spanLong h_t_spanOf h_t_out : Nat) (V_t_row : Nat → Int32) {z : Int32 × (Nat → Int32) × (Nat → Int32) × (Nat → Int32) × (Nat → Int32) × (Nat → Int32) × (Nat → Int32) × (Nat → Int32) × (Nat → Int32)} (hQ : gx_Qi cX8_write .int p l e (gx_rm 6) s m args below meth c D A Q (wd_X8_write cI cZ h_t h_t_row h_t_tape h_t_codes h_t_widths h_t_begins h_t_spanAt h_t_spanLong h_t_spanOf h_t_out z.2.1 V_t_row z.2.2.1 z.2.2.2.1 z.2.2.2.2.1 z.2.2.2.2.2.1 z.2.2.2.2.2.2.1 z.2.2.2.2.2.2.2.1 z.2.2.2.2.2.2.2.2) z.1) (K55 : (Nat → Int32) → (Nat → Int32) → (Nat → Int32) → (Nat → Int32) → (Nat → Int32) → (Nat → Int32) → (Nat → Int32) → (Nat → Int32) → Int32 → Option (Int32 × (Nat → Int32) × (Nat → Int32) × (Nat → Int32) × (Nat → Int32) × (Nat → Int32) × (Nat → Int32) × (Nat → Int32) × (Nat → Int32))) (hK55 : ∀ (V_t V_t_tape V_t_codes V_t_widths V_t_begins V_t_spanAt V_t_spanLong V_t_spanOf : Nat → Int32) (x2 : Int32) (ls : Array Slot) (H : Heap) (locs : List Loc), lv_has ls 5 [(0, .ref h_t), (2, .int x2)] → gx_W D A s (wd_X8_write cI cZ h_t h_t_row h_t_tape h_t_codes h_t_widths h_t_begins h_t_spanAt h_t_spanLong h_t_spanOf h_t_out V_t V_t_row V_t_tape V_t_codes V_t_widths V_t_begins V_t_spanAt V_t_spanLong V_t_spanOf) H locs → K55 V_t V_t_tape V_t_codes V_t_widths V_t_begins V_t_spanAt V_t_spanLong V_t_spanOf x2 = some z → W p l e (gx_rm 6) s m args below meth c H locs 0 0 Q (F0 m 55 ls [])) (K65 : (Nat → Int32) → (Nat → Int32) → (Nat → Int32) → (Nat → Int32) → (Nat → Int32) → (Nat → Int32) → (Nat → Int32) → (Nat → Int32) → Int32 → Int32 → Option (Int32 × (Nat → Int32) × (Nat → Int32) × (Nat → Int32) × (Nat → Int32) × (Nat → Int32) × (Nat → Int32) × (Nat → Int32) × (Nat → Int32))) (hK65 : ∀ (V_t V_t_tape V_t_codes V_t_widths V_t_begins V_t_spanAt V_t_spanLong V_t_spanOf : Nat → Int32) (x2 x3 : Int32) (ls : Array Slot) (H : Heap) (locs : List Loc), lv_has ls 5 [(0, .ref h_t), (2, .int x2), (3, .int x3)] → gx_W D A s (wd_X8_write cI cZ h_t h_t_row h_t_tape h_t_codes h_t_widths h_t_begins h_t_spanAt h_t_spanLong h_t_spanOf h_t_out V_t V_t_row V_t_tape V_t_codes V_t_widths V_t_begins V_t_spanAt V_t_spanLong V_t_spanOf) H locs → K65 V_t V_t_tape V_t_codes V_t_widths V_t_begins V_t_spanAt V_t_spanLong V_t_spanOf x2 x3 = some z → W p l e (gx_rm 6) s m args below meth c H locs 0 0 Q (F0 m 65 ls [])) : ∀ (V_t V_t_tape V_t_codes V_t_widths V_t_begins V_t_spanAt V_t_spanLong V_t_spanOf : Nat → Int32) (x2 x3 s0 : Int32) (ls : Array Slot) (H : Heap) (locs : List Loc), lv_has ls 5 [(0, .ref h_t), (2, .int x2), (3, .int x3)] → gx_W D A s (wd_X8_write cI cZ h_t h_t_row h_t_tape h_t_codes h_t_widths h_t_begins h_t_spanAt h_t_spanLong h_t_spanOf h_t_out V_t V_t_row V_t_tape V_t_codes V_t_widths V_t_begins V_t_spanAt V_t_spanLong V_t_spanOf) H locs → fn_X8_write_j97 V_t_row K55 K65 V_t V_t_tape V_t_codes V_t_widths V_t_begins V_t_spanAt V_t_spanLong V_t_spanOf x2 x3 s0 = some z → W p l e (gx_rm 6) s m args below meth c H locs 0 0 Q (F0 m 97 ls [.int s0]) := by
  have hx := C.1.1
  have hb := C.1.2.1
  intro V_t V_t_tape V_t_codes V_t_widths V_t_begins V_t_spanAt V_t_spanLong V_t_spanOf x2 x3 s0 ls H locs hl hw hf
  rw [fn_X8_write_j97] at hf
  refine lv_istore (lv' := [(4, .int s0), (0, .ref h_t), (2, .int x2), (3, .int x3)]) hx hb dX8_write_97 hl (by decide) rfl (fun ls hl => ?_)
  refine lv_aload_n hx hb dX8_write_99 rfl (lv_at hl 1 rfl) ?_
  refine gx_get C hw 0 rfl (gx_gr rfl) ln_X8_write_23 dX8_write_100 ?_
  refine lv_aload_n hx hb dX8_write_103 rfl (lv_at hl 1 rfl) ?_
  refine gx_get C hw 0 rfl (gx_gr rfl) ln_X8_write_36 dX8_write_104 ?_
  refine lv_iload_n hx hb dX8_write_107 rfl (lv_at hl 2 rfl) ?_
  obtain ⟨hi_108, hf⟩ := gx_g hf
  refine gx_iald C hw 5 rfl hi_108 dX8_write_108 ?_
  refine lv_iload_n hx hb dX8_write_109 rfl (lv_at hl 3 rfl) ?_
  refine lv_iadd hx hb dX8_write_110 ?_
  refine lv_aload_n hx hb dX8_write_111 rfl (lv_at hl 1 rfl) ?_
  refine gx_get C hw 0 rfl (gx_gr rfl) ln_X8_write_30 dX8_write_112 ?_
  refine lv_iload_n hx hb dX8_write_115 rfl (lv_at hl 2 rfl) ?_
  obtain ⟨hi_116, hf⟩ := gx_g hf
  refine gx_iald C hw 3 rfl hi_116 dX8_write_116 ?_
  refine lv_iload hx hb dX8_write_117 (lv_at hl 0 rfl) ?_
  refine lv_ishr hx hb dX8_write_119 ?_
  refine lv_iconst (v := 1) hx hb dX8_write_120 (by decide) ?_
  refine lv_iand hx hb dX8_write_121 ?_
  refine lv_iconst (v := 1) hx hb dX8_write_122 (by decide) ?_
  refine lv_icmp_ne (tgt := 130) hx hb dX8_write_123 (by decide) (fun hc => ?_) (fun hc => ?_)
  · replace hf := gx_f hc hf
    refine lv_iconst (v := 0) hx hb dX8_write_130 (by decide) ?_
    obtain ⟨hi_131, hf⟩ := gx_g hf
    refine gx_zast (ws' := wd_X8_write cI cZ h_t h_t_row h_t_tape h_t_codes h_t_widths h_t_begins h_t_spanAt h_t_spanLong h_t_spanOf h_t_out V_t V_t_row (upd V_t_tape ((V_t_begins x2.toNatClampNeg) + x3).toNatClampNeg (vp_nar .boolean 0)) V_t_codes V_t_widths V_t_begins V_t_spanAt V_t_spanLong V_t_spanOf) C hw 2 rfl hi_131 rfl dX8_write_131 (fun H locs hw => ?_)
    refine lv_iinc (v := (x3 + 1)) (lv' := [(3, .int (x3 + 1)), (4, .int s0), (0, .ref h_t), (2, .int x2)]) hx hb dX8_write_132 hl (k := 3) rfl rfl (by decide) rfl (fun ls hl => ?_)
    refine lv_goto (tgt := 65) hx hb dX8_write_135 (by decide) ?_
    exact hK65 V_t (upd V_t_tape ((V_t_begins x2.toNatClampNeg) + x3).toNatClampNeg (vp_nar .boolean 0)) V_t_codes V_t_widths V_t_begins V_t_spanAt V_t_spanLong V_t_spanOf x2 (x3 + 1) _ _ _ (lv_sub hl [2, 3, 0] rfl) hw hf
  · replace hf := gx_t hc hf
    refine lv_iconst (v := 1) hx hb dX8_write_126 (by decide) ?_
    refine lv_goto (tgt := 131) hx hb dX8_write_127 (by decide) ?_
    obtain ⟨hi_131, hf⟩ := gx_g hf
    refine gx_zast (ws' := wd_X8_write cI cZ h_t h_t_row h_t_tape h_t_codes h_t_widths h_t_begins h_t_spanAt h_t_spanLong h_t_spanOf h_t_out V_t V_t_row (upd V_t_tape ((V_t_begins x2.toNatClampNeg) + x3).toNatClampNeg (vp_nar .boolean 1)) V_t_codes V_t_widths V_t_begins V_t_spanAt V_t_spanLong V_t_spanOf) C hw 2 rfl hi_131 rfl dX8_write_131 (fun H locs hw => ?_)
    refine lv_iinc (v := (x3 + 1)) (lv' := [(3, .int (x3 + 1)), (4, .int s0), (0, .ref h_t), (2, .int x2)]) hx hb dX8_write_132 hl (k := 3) rfl rfl (by decide) rfl (fun ls hl => ?_)
    refine lv_goto (tgt := 65) hx hb dX8_write_135 (by decide) ?_
    exact hK65 V_t (upd V_t_tape ((V_t_begins x2.toNatClampNeg) + x3).toNatClampNeg (vp_nar .boolean 1)) V_t_codes V_t_widths V_t_begins V_t_spanAt V_t_spanLong V_t_spanOf x2 (x3 + 1) _ _ _ (lv_sub hl [2, 3, 0] rfl) hw hf
set_option maxHeartbeats 4000000 in
set_option maxRecDepth 100000 in
theorem tm_X8_write_65 (C : gx_C cX8_write 5 wsX8_write RX8 D cI cZ p s m args c) (h_t h_t_row h_t_tape h_t_codes h_t_widths h_t_begins h_t_spanAt h_t_spanLong h_t_spanOf h_t_out : Nat) (V_t_row : Nat → Int32) {z : Int32 × (Nat → Int32) × (Nat → Int32) × (Nat → Int32) × (Nat → Int32) × (Nat → Int32) × (Nat → Int32) × (Nat → Int32) × (Nat → Int32)} (hQ : gx_Qi cX8_write .int p l e (gx_rm 6) s m args below meth c D A Q (wd_X8_write cI cZ h_t h_t_row h_t_tape h_t_codes h_t_widths h_t_begins h_t_spanAt h_t_spanLong h_t_spanOf h_t_out z.2.1 V_t_row z.2.2.1 z.2.2.2.1 z.2.2.2.2.1 z.2.2.2.2.2.1 z.2.2.2.2.2.2.1 z.2.2.2.2.2.2.2.1 z.2.2.2.2.2.2.2.2) z.1) (K55 : (Nat → Int32) → (Nat → Int32) → (Nat → Int32) → (Nat → Int32) → (Nat → Int32) → (Nat → Int32) → (Nat → Int32) → (Nat → Int32) → Int32 → Option (Int32 × (Nat → Int32) × (Nat → Int32) × (Nat → Int32) × (Nat → Int32) × (Nat → Int32) × (Nat → Int32) × (Nat → Int32) × (Nat → Int32))) (hK55 : ∀ (V_t V_t_tape V_t_codes V_t_widths V_t_begins V_t_spanAt V_t_spanLong V_t_spanOf : Nat → Int32) (x2 : Int32) (ls : Array Slot) (H : Heap) (locs : List Loc), lv_has ls 5 [(0, .ref h_t), (2, .int x2)] → gx_W D A s (wd_X8_write cI cZ h_t h_t_row h_t_tape h_t_codes h_t_widths h_t_begins h_t_spanAt h_t_spanLong h_t_spanOf h_t_out V_t V_t_row V_t_tape V_t_codes V_t_widths V_t_begins V_t_spanAt V_t_spanLong V_t_spanOf) H locs → K55 V_t V_t_tape V_t_codes V_t_widths V_t_begins V_t_spanAt V_t_spanLong V_t_spanOf x2 = some z → W p l e (gx_rm 6) s m args below meth c H locs 0 0 Q (F0 m 55 ls [])) : ∀ (n : Nat), (∀ (V_t V_t_tape V_t_codes V_t_widths V_t_begins V_t_spanAt V_t_spanLong V_t_spanOf : Nat → Int32) (x2 x3 : Int32) (ls : Array Slot) (H : Heap) (locs : List Loc), lv_has ls 5 [(0, .ref h_t), (2, .int x2), (3, .int x3)] → gx_W D A s (wd_X8_write cI cZ h_t h_t_row h_t_tape h_t_codes h_t_widths h_t_begins h_t_spanAt h_t_spanLong h_t_spanOf h_t_out V_t V_t_row V_t_tape V_t_codes V_t_widths V_t_begins V_t_spanAt V_t_spanLong V_t_spanOf) H locs → fn_X8_write_l65 V_t_row K55 n V_t V_t_tape V_t_codes V_t_widths V_t_begins V_t_spanAt V_t_spanLong V_t_spanOf x2 x3 = some z → W p l e (gx_rm 6) s m args below meth c H locs 0 0 Q (F0 m 65 ls [])) := by
  have hx := C.1.1
  have hb := C.1.2.1
  intro n
  induction n with
  | zero => intro V_t V_t_tape V_t_codes V_t_widths V_t_begins V_t_spanAt V_t_spanLong V_t_spanOf x2 x3 ls H locs hl hw hf; rw [fn_X8_write_l65] at hf; cases hf
  | succ n ih =>
    intro V_t V_t_tape V_t_codes V_t_widths V_t_begins V_t_spanAt V_t_spanLong V_t_spanOf x2 x3 ls H locs hl hw hf
    rw [fn_X8_write_l65] at hf
    refine lv_iload_n hx hb dX8_write_65 rfl (lv_at hl 2 rfl) ?_
    refine lv_aload_n hx hb dX8_write_66 rfl (lv_at hl 0 rfl) ?_
    refine gx_get C hw 0 rfl (gx_gr rfl) ln_X8_write_33 dX8_write_67 ?_
    refine lv_iload_n hx hb dX8_write_70 rfl (lv_at hl 1 rfl) ?_
    obtain ⟨hi_71, hf⟩ := gx_g hf
    refine gx_iald C hw 4 rfl hi_71 dX8_write_71 ?_
    refine lv_icmp_ge (tgt := 138) hx hb dX8_write_72 (by decide) (fun hc => ?_) (fun hc => ?_)
    · replace hf := gx_t hc hf
      refine lv_iinc (v := (x2 + 1)) (lv' := [(2, .int (x2 + 1)), (0, .ref h_t), (3, .int x3)]) hx hb dX8_write_138 hl (k := 1) rfl rfl (by decide) rfl (fun ls hl => ?_)
      refine lv_goto (tgt := 55) hx hb dX8_write_141 (by decide) ?_
      exact hK55 V_t V_t_tape V_t_codes V_t_widths V_t_begins V_t_spanAt V_t_spanLong V_t_spanOf (x2 + 1) _ _ _ (lv_sub hl [1, 0] rfl) hw hf
    · replace hf := gx_f hc hf
      refine lv_aload_n hx hb dX8_write_75 rfl (lv_at hl 0 rfl) ?_
      refine gx_get (v := .int (V_t 0)) C hw 0 rfl (gx_gj rfl rfl) ln_X8_write_54 dX8_write_76 ?_
      refine lv_iconst (v := 1) hx hb dX8_write_79 (by decide) ?_
      refine lv_icmp_ne (tgt := 96) hx hb dX8_write_80 (by decide) (fun hc => ?_) (fun hc => ?_)
      · replace hf := gx_f hc hf
        refine lv_iload_n hx hb dX8_write_96 rfl (lv_at hl 2 rfl) ?_
        exact tm_X8_write_97 C h_t h_t_row h_t_tape h_t_codes h_t_widths h_t_begins h_t_spanAt h_t_spanLong h_t_spanOf h_t_out V_t_row hQ K55 hK55 (fn_X8_write_l65 V_t_row K55 n) ih V_t V_t_tape V_t_codes V_t_widths V_t_begins V_t_spanAt V_t_spanLong V_t_spanOf x2 x3 x3 _ _ _ (lv_sub hl [0, 1, 2] rfl) hw hf
      · replace hf := gx_t hc hf
        refine lv_aload_n hx hb dX8_write_83 rfl (lv_at hl 0 rfl) ?_
        refine gx_get C hw 0 rfl (gx_gr rfl) ln_X8_write_33 dX8_write_84 ?_
        refine lv_iload_n hx hb dX8_write_87 rfl (lv_at hl 1 rfl) ?_
        obtain ⟨hi_88, hf⟩ := gx_g hf
        refine gx_iald C hw 4 rfl hi_88 dX8_write_88 ?_
        refine lv_iconst (v := 1) hx hb dX8_write_89 (by decide) ?_
        refine lv_isub hx hb dX8_write_90 ?_
        refine lv_iload_n hx hb dX8_write_91 rfl (lv_at hl 2 rfl) ?_
        refine lv_isub hx hb dX8_write_92 ?_
        refine lv_goto (tgt := 97) hx hb dX8_write_93 (by decide) ?_
        exact tm_X8_write_97 C h_t h_t_row h_t_tape h_t_codes h_t_widths h_t_begins h_t_spanAt h_t_spanLong h_t_spanOf h_t_out V_t_row hQ K55 hK55 (fn_X8_write_l65 V_t_row K55 n) ih V_t V_t_tape V_t_codes V_t_widths V_t_begins V_t_spanAt V_t_spanLong V_t_spanOf x2 x3 (((V_t_widths x2.toNatClampNeg) - 1) - x3) _ _ _ (lv_sub hl [0, 1, 2] rfl) hw hf
set_option maxHeartbeats 4000000 in
set_option maxRecDepth 100000 in
theorem tm_X8_write_55 (C : gx_C cX8_write 5 wsX8_write RX8 D cI cZ p s m args c) (h_t h_t_row h_t_tape h_t_codes h_t_widths h_t_begins h_t_spanAt h_t_spanLong h_t_spanOf h_t_out : Nat) (V_t_row : Nat → Int32) {z : Int32 × (Nat → Int32) × (Nat → Int32) × (Nat → Int32) × (Nat → Int32) × (Nat → Int32) × (Nat → Int32) × (Nat → Int32) × (Nat → Int32)} (hQ : gx_Qi cX8_write .int p l e (gx_rm 6) s m args below meth c D A Q (wd_X8_write cI cZ h_t h_t_row h_t_tape h_t_codes h_t_widths h_t_begins h_t_spanAt h_t_spanLong h_t_spanOf h_t_out z.2.1 V_t_row z.2.2.1 z.2.2.2.1 z.2.2.2.2.1 z.2.2.2.2.2.1 z.2.2.2.2.2.2.1 z.2.2.2.2.2.2.2.1 z.2.2.2.2.2.2.2.2) z.1) : ∀ (n : Nat), (∀ (V_t V_t_tape V_t_codes V_t_widths V_t_begins V_t_spanAt V_t_spanLong V_t_spanOf : Nat → Int32) (x2 : Int32) (ls : Array Slot) (H : Heap) (locs : List Loc), lv_has ls 5 [(0, .ref h_t), (2, .int x2)] → gx_W D A s (wd_X8_write cI cZ h_t h_t_row h_t_tape h_t_codes h_t_widths h_t_begins h_t_spanAt h_t_spanLong h_t_spanOf h_t_out V_t V_t_row V_t_tape V_t_codes V_t_widths V_t_begins V_t_spanAt V_t_spanLong V_t_spanOf) H locs → fn_X8_write_l55 V_t_row n V_t V_t_tape V_t_codes V_t_widths V_t_begins V_t_spanAt V_t_spanLong V_t_spanOf x2 = some z → W p l e (gx_rm 6) s m args below meth c H locs 0 0 Q (F0 m 55 ls [])) := by
  have hx := C.1.1
  have hb := C.1.2.1
  intro n
  induction n with
  | zero => intro V_t V_t_tape V_t_codes V_t_widths V_t_begins V_t_spanAt V_t_spanLong V_t_spanOf x2 ls H locs hl hw hf; rw [fn_X8_write_l55] at hf; cases hf
  | succ n ih =>
    intro V_t V_t_tape V_t_codes V_t_widths V_t_begins V_t_spanAt V_t_spanLong V_t_spanOf x2 ls H locs hl hw hf
    rw [fn_X8_write_l55] at hf
    refine lv_iload_n hx hb dX8_write_55 rfl (lv_at hl 1 rfl) ?_
    refine lv_aload_n hx hb dX8_write_56 rfl (lv_at hl 0 rfl) ?_
    refine gx_get (v := .int (V_t 13)) C hw 0 rfl (gx_gj rfl rfl) ln_X8_write_84 dX8_write_57 ?_
    refine lv_icmp_ge (tgt := 144) hx hb dX8_write_60 (by decide) (fun hc => ?_) (fun hc => ?_)
    · replace hf := gx_t hc hf
      refine lv_aload_n hx hb dX8_write_144 rfl (lv_at hl 0 rfl) ?_
      obtain ⟨y_145, hy_145, hf⟩ := gx_b hf
      refine gx_callv (As := []) (ws' := wd_X8_write cI cZ h_t h_t_row h_t_tape h_t_codes h_t_widths h_t_begins h_t_spanAt h_t_spanLong h_t_spanOf h_t_out V_t V_t_row y_145 V_t_codes V_t_widths V_t_begins V_t_spanAt V_t_spanLong V_t_spanOf) (isC := [0, 2]) (isR := [1, 3, 4, 5, 6, 7, 8]) (isP := [7, 0, 8, 1, 2, 3, 4, 5, 6]) C hw (ct_X8_turnTape l D cI cZ h_t h_t_row h_t_tape h_t_codes h_t_widths h_t_begins h_t_spanAt h_t_spanLong h_t_spanOf h_t_out V_t V_t_tape hy_145) kl_X8_write_116 ⟨rfl, rfl⟩ ⟨rfl, rfl, by decide, by decide, by decide, by decide, rfl⟩ 0 rfl rfl rfl rfl hl.1 (Nat.le_of_ble_eq_true rfl) ⟨Nat.le_refl _, Nat.le_refl _⟩ dX8_write_145 (fun H locs hw => ?_)
      refine lv_aload_n hx hb dX8_write_148 rfl (lv_at hl 0 rfl) ?_
      refine gx_get (v := .int (V_t 7)) C hw 0 rfl (gx_gj rfl rfl) ln_X8_write_113 dX8_write_149 ?_
      obtain rfl := Option.some.inj hf
      exact hQ _ _ _ _ dX8_write_152 rfl hw
    · replace hf := gx_f hc hf
      refine lv_iconst (v := 0) hx hb dX8_write_63 (by decide) ?_
      refine lv_istore_n (lv' := [(3, .int 0), (0, .ref h_t), (2, .int x2)]) hx hb dX8_write_64 rfl hl (by decide) rfl (fun ls hl => ?_)
      exact tm_X8_write_65 C h_t h_t_row h_t_tape h_t_codes h_t_widths h_t_begins h_t_spanAt h_t_spanLong h_t_spanOf h_t_out V_t_row hQ (fn_X8_write_l55 V_t_row n) ih gx_fuel V_t V_t_tape V_t_codes V_t_widths V_t_begins V_t_spanAt V_t_spanLong V_t_spanOf x2 0 _ _ _ (lv_sub hl [1, 2, 0] rfl) hw hf
set_option maxHeartbeats 4000000 in
set_option maxRecDepth 100000 in
theorem tm_X8_write_32 (C : gx_C cX8_write 5 wsX8_write RX8 D cI cZ p s m args c) (h_t h_t_row h_t_tape h_t_codes h_t_widths h_t_begins h_t_spanAt h_t_spanLong h_t_spanOf h_t_out : Nat) (V_t_row : Nat → Int32) {z : Int32 × (Nat → Int32) × (Nat → Int32) × (Nat → Int32) × (Nat → Int32) × (Nat → Int32) × (Nat → Int32) × (Nat → Int32) × (Nat → Int32)} (hQ : gx_Qi cX8_write .int p l e (gx_rm 6) s m args below meth c D A Q (wd_X8_write cI cZ h_t h_t_row h_t_tape h_t_codes h_t_widths h_t_begins h_t_spanAt h_t_spanLong h_t_spanOf h_t_out z.2.1 V_t_row z.2.2.1 z.2.2.2.1 z.2.2.2.2.1 z.2.2.2.2.2.1 z.2.2.2.2.2.2.1 z.2.2.2.2.2.2.2.1 z.2.2.2.2.2.2.2.2) z.1) : ∀ (n : Nat), (∀ (V_t V_t_tape V_t_codes V_t_widths V_t_begins V_t_spanAt V_t_spanLong V_t_spanOf : Nat → Int32) (x1 x2 : Int32) (ls : Array Slot) (H : Heap) (locs : List Loc), lv_has ls 5 [(0, .ref h_t), (1, .int x1), (2, .int x2)] → gx_W D A s (wd_X8_write cI cZ h_t h_t_row h_t_tape h_t_codes h_t_widths h_t_begins h_t_spanAt h_t_spanLong h_t_spanOf h_t_out V_t V_t_row V_t_tape V_t_codes V_t_widths V_t_begins V_t_spanAt V_t_spanLong V_t_spanOf) H locs → fn_X8_write_l32 V_t_row n V_t V_t_tape V_t_codes V_t_widths V_t_begins V_t_spanAt V_t_spanLong V_t_spanOf x1 x2 = some z → W p l e (gx_rm 6) s m args below meth c H locs 0 0 Q (F0 m 32 ls [])) := by
  have hx := C.1.1
  have hb := C.1.2.1
  intro n
  induction n with
  | zero => intro V_t V_t_tape V_t_codes V_t_widths V_t_begins V_t_spanAt V_t_spanLong V_t_spanOf x1 x2 ls H locs hl hw hf; rw [fn_X8_write_l32] at hf; cases hf
  | succ n ih =>
    intro V_t V_t_tape V_t_codes V_t_widths V_t_begins V_t_spanAt V_t_spanLong V_t_spanOf x1 x2 ls H locs hl hw hf
    rw [fn_X8_write_l32] at hf
    refine lv_iload_n hx hb dX8_write_32 rfl (lv_at hl 2 rfl) ?_
    refine lv_bipush (v := 8) hx hb dX8_write_33 (by decide) ?_
    refine lv_iload_n hx hb dX8_write_35 rfl (lv_at hl 1 rfl) ?_
    refine lv_imul hx hb dX8_write_36 ?_
    refine lv_icmp_ge (tgt := 53) hx hb dX8_write_37 (by decide) (fun hc => ?_) (fun hc => ?_)
    · replace hf := gx_t hc hf
      refine lv_iconst (v := 0) hx hb dX8_write_53 (by decide) ?_
      refine lv_istore_n (lv' := [(2, .int 0), (0, .ref h_t), (1, .int x1)]) hx hb dX8_write_54 rfl hl (by decide) rfl (fun ls hl => ?_)
      exact tm_X8_write_55 C h_t h_t_row h_t_tape h_t_codes h_t_widths h_t_begins h_t_spanAt h_t_spanLong h_t_spanOf h_t_out V_t_row hQ  gx_fuel V_t V_t_tape V_t_codes V_t_widths V_t_begins V_t_spanAt V_t_spanLong V_t_spanOf 0 _ _ _ (lv_sub hl [1, 0] rfl) hw hf
    · replace hf := gx_f hc hf
      refine lv_aload_n hx hb dX8_write_40 rfl (lv_at hl 0 rfl) ?_
      refine gx_get C hw 0 rfl (gx_gr rfl) ln_X8_write_23 dX8_write_41 ?_
      refine lv_iload_n hx hb dX8_write_44 rfl (lv_at hl 2 rfl) ?_
      refine lv_iconst (v := 0) hx hb dX8_write_45 (by decide) ?_
      obtain ⟨hi_46, hf⟩ := gx_g hf
      refine gx_zast (ws' := wd_X8_write cI cZ h_t h_t_row h_t_tape h_t_codes h_t_widths h_t_begins h_t_spanAt h_t_spanLong h_t_spanOf h_t_out V_t V_t_row (upd V_t_tape x2.toNatClampNeg (vp_nar .boolean 0)) V_t_codes V_t_widths V_t_begins V_t_spanAt V_t_spanLong V_t_spanOf) C hw 2 rfl hi_46 rfl dX8_write_46 (fun H locs hw => ?_)
      refine lv_iinc (v := (x2 + 1)) (lv' := [(2, .int (x2 + 1)), (0, .ref h_t), (1, .int x1)]) hx hb dX8_write_47 hl (k := 2) rfl rfl (by decide) rfl (fun ls hl => ?_)
      refine lv_goto (tgt := 32) hx hb dX8_write_50 (by decide) ?_
      exact ih V_t (upd V_t_tape x2.toNatClampNeg (vp_nar .boolean 0)) V_t_codes V_t_widths V_t_begins V_t_spanAt V_t_spanLong V_t_spanOf x1 (x2 + 1) _ _ _ (lv_sub hl [1, 2, 0] rfl) hw hf
set_option maxHeartbeats 4000000 in
set_option maxRecDepth 100000 in
theorem ct_X8_write (l : Launch) (D : va_G) (cI cZ : ClassId) (h_t h_t_row h_t_tape h_t_codes h_t_widths h_t_begins h_t_spanAt h_t_spanLong h_t_spanOf h_t_out : Nat) (V_t V_t_row V_t_tape V_t_codes V_t_widths V_t_begins V_t_spanAt V_t_spanLong V_t_spanOf : Nat → Int32) {z : Int32 × (Nat → Int32) × (Nat → Int32) × (Nat → Int32) × (Nat → Int32) × (Nat → Int32) × (Nat → Int32) × (Nat → Int32) × (Nat → Int32)} (hf : fn_X8_write V_t V_t_row V_t_tape V_t_codes V_t_widths V_t_begins V_t_spanAt V_t_spanLong V_t_spanOf = some z) : gx_Mi l yX8_write wsX8_write (gx_rm 6) D cI cZ [.ref h_t] (wd_X8_write cI cZ h_t h_t_row h_t_tape h_t_codes h_t_widths h_t_begins h_t_spanAt h_t_spanLong h_t_spanOf h_t_out V_t V_t_row V_t_tape V_t_codes V_t_widths V_t_begins V_t_spanAt V_t_spanLong V_t_spanOf) (wd_X8_write cI cZ h_t h_t_row h_t_tape h_t_codes h_t_widths h_t_begins h_t_spanAt h_t_spanLong h_t_spanOf h_t_out z.2.1 V_t_row z.2.2.1 z.2.2.2.1 z.2.2.2.2.1 z.2.2.2.2.2.1 z.2.2.2.2.2.2.1 z.2.2.2.2.2.2.2.1 z.2.2.2.2.2.2.2.2) z.1 := by
  refine gx_ofi (cc := cX8_write) (own := RX8) (by decide) rfl rfl (Nat.le_of_ble_eq_true rfl) [(0, .ref h_t)] rfl ?_
  intro p e s m args below meth c A Q ls C hQ hl hw
  have hx := C.1.1
  have hb := C.1.2.1
  rw [fn_X8_write] at hf
  refine lv_aload_n hx hb dX8_write_0 rfl (lv_at hl 0 rfl) ?_
  obtain ⟨y_1, hy_1, hf⟩ := gx_b hf
  refine gx_callv (As := []) (ws' := wd_X8_write cI cZ h_t h_t_row h_t_tape h_t_codes h_t_widths h_t_begins h_t_spanAt h_t_spanLong h_t_spanOf h_t_out y_1.1 V_t_row V_t_tape y_1.2.1 y_1.2.2.1 y_1.2.2.2.1 y_1.2.2.2.2.1 y_1.2.2.2.2.2.1 y_1.2.2.2.2.2.2) (isC := [0, 1, 3, 4, 5, 6, 7, 8]) (isR := [2]) (isP := [1, 2, 0, 3, 4, 5, 6, 7, 8]) C hw (ct_X8_pack l D cI cZ h_t h_t_row h_t_tape h_t_codes h_t_widths h_t_begins h_t_spanAt h_t_spanLong h_t_spanOf h_t_out V_t V_t_row V_t_codes V_t_widths V_t_begins V_t_spanAt V_t_spanLong V_t_spanOf hy_1) kl_X8_write_110 ⟨rfl, rfl⟩ ⟨rfl, rfl, by decide, by decide, by decide, by decide, rfl⟩ 0 rfl rfl rfl rfl hl.1 (Nat.le_of_ble_eq_true rfl) ⟨Nat.le_refl _, Nat.le_refl _⟩ dX8_write_1 (fun H locs hw => ?_)
  refine lv_aload_n hx hb dX8_write_4 rfl (lv_at hl 0 rfl) ?_
  refine gx_get (v := .int (y_1.1 14)) C hw 0 rfl (gx_gj rfl rfl) ln_X8_write_87 dX8_write_5 ?_
  refine lv_bipush (v := 7) hx hb dX8_write_8 (by decide) ?_
  refine lv_iadd hx hb dX8_write_10 ?_
  refine lv_bipush (v := 8) hx hb dX8_write_11 (by decide) ?_
  refine lv_idiv hx hb dX8_write_13 (by decide) ?_
  refine lv_istore_n (lv' := [(1, .int (((y_1.1 14) + 7) / 8)), (0, .ref h_t)]) hx hb dX8_write_14 rfl hl (by decide) rfl (fun ls hl => ?_)
  refine lv_iload_n hx hb dX8_write_15 rfl (lv_at hl 0 rfl) ?_
  refine lv_sipush (v := 400) hx hb dX8_write_16 (by decide) ?_
  refine lv_icmp_le (tgt := 25) hx hb dX8_write_19 (by decide) (fun hc => ?_) (fun hc => ?_)
  · replace hf := gx_t hc hf
    refine lv_aload_n hx hb dX8_write_25 rfl (lv_at hl 1 rfl) ?_
    refine lv_iload_n hx hb dX8_write_26 rfl (lv_at hl 0 rfl) ?_
    refine gx_put (ws' := wd_X8_write cI cZ h_t h_t_row h_t_tape h_t_codes h_t_widths h_t_begins h_t_spanAt h_t_spanLong h_t_spanOf h_t_out (upd y_1.1 7 (((y_1.1 14) + 7) / 8)) V_t_row V_t_tape y_1.2.1 y_1.2.2.1 y_1.2.2.2.1 y_1.2.2.2.2.1 y_1.2.2.2.2.2.1 y_1.2.2.2.2.2.2) C hw 0 rfl rfl lp_X8_write_113 rfl rfl rfl dX8_write_27 (fun H locs hw => ?_)
    refine lv_iconst (v := 0) hx hb dX8_write_30 (by decide) ?_
    refine lv_istore_n (lv' := [(2, .int 0), (1, .int (((y_1.1 14) + 7) / 8)), (0, .ref h_t)]) hx hb dX8_write_31 rfl hl (by decide) rfl (fun ls hl => ?_)
    exact tm_X8_write_32 C h_t h_t_row h_t_tape h_t_codes h_t_widths h_t_begins h_t_spanAt h_t_spanLong h_t_spanOf h_t_out V_t_row hQ  gx_fuel (upd y_1.1 7 (((y_1.1 14) + 7) / 8)) V_t_tape y_1.2.1 y_1.2.2.1 y_1.2.2.2.1 y_1.2.2.2.2.1 y_1.2.2.2.2.2.1 y_1.2.2.2.2.2.2 (((y_1.1 14) + 7) / 8) 0 _ _ _ (lv_sub hl [2, 1, 0] rfl) hw hf
  · replace hf := gx_f hc hf
    refine lv_bipush (v := (-4)) hx hb dX8_write_22 (by decide) ?_
    obtain rfl := Option.some.inj hf
    exact hQ _ _ _ _ dX8_write_24 rfl hw
-- LzwFormsModel.more: touched ['t', 't_tape']; used ['t', 't_tape']; mod ['t', 't_tape']; height 1
theorem ln_X8_more_23 : gx_L wsX8_more RX8 23 8 6 := ⟨_, _, _, rfl, by decide +kernel, by decide, Or.inl (by decide +kernel)⟩
theorem ln_X8_more_113 : gx_L wsX8_more RX8 113 8 7 := ⟨_, _, _, rfl, by decide +kernel, by decide, Or.inl (by decide +kernel)⟩
theorem lp_X8_more_113 : gx_LP wsX8_more RX8 113 8 7 false .int := ⟨_, _, _, tyX8, rfl, by decide +kernel, by decide, by decide +kernel, tyX8_ok, nmX8, by decide +kernel, by decide +kernel, by decide +kernel⟩
theorem kl_X8_more_57 : gx_KS wsX8_more RX8 57 yX8_in cX8_in 3 (some .boolean) wsX8_in (gx_rm 0) (gx_rm 1) 3 := ⟨gX8_more_X8_in, ⟨_, rfl⟩, ⟨by decide, by decide, by decide +kernel⟩, ⟨by decide, by decide⟩⟩
def wd_X8_more (cI cZ : ClassId) (h_t h_t_row h_t_tape h_t_codes h_t_widths h_t_begins h_t_spanAt h_t_spanLong h_t_spanOf h_t_out : Nat) (V_t V_t_tape : Nat → Int32) : va_W := [gx_o h_t 8 [none, none, none, none, some (some h_t_row), none, some (some h_t_tape), none, none, none, some (some h_t_codes), some (some h_t_widths), some (some h_t_begins), none, none, none, none, some (some h_t_spanAt), some (some h_t_spanLong), some (some h_t_spanOf), none, none, none, none, some (some h_t_out), none, none, none] V_t, gx_a h_t_tape cZ 3200 V_t_tape]
set_option maxHeartbeats 4000000 in
set_option maxRecDepth 100000 in
theorem tm_X8_more_29 (C : gx_C cX8_more 3 wsX8_more RX8 D cI cZ p s m args c) (h_t h_t_row h_t_tape h_t_codes h_t_widths h_t_begins h_t_spanAt h_t_spanLong h_t_spanOf h_t_out : Nat) {z : Int32 × (Nat → Int32) × (Nat → Int32)} (hQ : gx_Qi cX8_more .int p l e (gx_rm 1) s m args below meth c D A Q (wd_X8_more cI cZ h_t h_t_row h_t_tape h_t_codes h_t_widths h_t_begins h_t_spanAt h_t_spanLong h_t_spanOf h_t_out z.2.1 z.2.2) z.1) : ∀ (n : Nat), (∀ (V_t V_t_tape : Nat → Int32) (x1 x2 : Int32) (ls : Array Slot) (H : Heap) (locs : List Loc), lv_has ls 3 [(0, .ref h_t), (1, .int x1), (2, .int x2)] → gx_W D A s (wd_X8_more cI cZ h_t h_t_row h_t_tape h_t_codes h_t_widths h_t_begins h_t_spanAt h_t_spanLong h_t_spanOf h_t_out V_t V_t_tape) H locs → fn_X8_more_l29 n V_t V_t_tape x1 x2 = some z → W p l e (gx_rm 1) s m args below meth c H locs 0 0 Q (F0 m 29 ls [])) := by
  have hx := C.1.1
  have hb := C.1.2.1
  intro n
  induction n with
  | zero => intro V_t V_t_tape x1 x2 ls H locs hl hw hf; rw [fn_X8_more_l29] at hf; cases hf
  | succ n ih =>
    intro V_t V_t_tape x1 x2 ls H locs hl hw hf
    rw [fn_X8_more_l29] at hf
    refine lv_iload_n hx hb dX8_more_29 rfl (lv_at hl 2 rfl) ?_
    refine lv_bipush (v := 8) hx hb dX8_more_30 (by decide) ?_
    refine lv_icmp_ge (tgt := 69) hx hb dX8_more_32 (by decide) (fun hc => ?_) (fun hc => ?_)
    · replace hf := gx_t hc hf
      refine lv_aload_n hx hb dX8_more_69 rfl (lv_at hl 0 rfl) ?_
      refine lv_dup hx hb dX8_more_70 rfl ?_
      refine gx_get (v := .int (V_t 7)) C hw 0 rfl (gx_gj rfl rfl) ln_X8_more_113 dX8_more_71 ?_
      refine lv_iconst (v := 1) hx hb dX8_more_74 (by decide) ?_
      refine lv_iadd hx hb dX8_more_75 ?_
      refine gx_put (ws' := wd_X8_more cI cZ h_t h_t_row h_t_tape h_t_codes h_t_widths h_t_begins h_t_spanAt h_t_spanLong h_t_spanOf h_t_out (upd V_t 7 ((V_t 7) + 1)) V_t_tape) C hw 0 rfl rfl lp_X8_more_113 rfl rfl rfl dX8_more_76 (fun H locs hw => ?_)
      refine lv_aload_n hx hb dX8_more_79 rfl (lv_at hl 0 rfl) ?_
      refine gx_get (v := .int ((V_t 7) + 1)) C hw 0 rfl (gx_gj rfl pk_us) ln_X8_more_113 dX8_more_80 ?_
      obtain rfl := Option.some.inj hf
      exact hQ _ _ _ _ dX8_more_83 rfl hw
    · replace hf := gx_f hc hf
      refine lv_aload_n hx hb dX8_more_35 rfl (lv_at hl 0 rfl) ?_
      refine gx_get C hw 0 rfl (gx_gr rfl) ln_X8_more_23 dX8_more_36 ?_
      refine lv_bipush (v := 8) hx hb dX8_more_39 (by decide) ?_
      refine lv_aload_n hx hb dX8_more_41 rfl (lv_at hl 0 rfl) ?_
      refine gx_get (v := .int (V_t 7)) C hw 0 rfl (gx_gj rfl rfl) ln_X8_more_113 dX8_more_42 ?_
      refine lv_imul hx hb dX8_more_45 ?_
      refine lv_iload_n hx hb dX8_more_46 rfl (lv_at hl 2 rfl) ?_
      refine lv_iadd hx hb dX8_more_47 ?_
      refine lv_iload_n hx hb dX8_more_48 rfl (lv_at hl 1 rfl) ?_
      refine lv_iload_n hx hb dX8_more_49 rfl (lv_at hl 2 rfl) ?_
      refine lv_ishr hx hb dX8_more_50 ?_
      refine lv_iconst (v := 1) hx hb dX8_more_51 (by decide) ?_
      refine lv_iand hx hb dX8_more_52 ?_
      refine lv_iconst (v := 1) hx hb dX8_more_53 (by decide) ?_
      refine lv_icmp_ne (tgt := 61) hx hb dX8_more_54 (by decide) (fun hc => ?_) (fun hc => ?_)
      · replace hf := gx_f hc hf
        refine lv_iconst (v := 0) hx hb dX8_more_61 (by decide) ?_
        obtain ⟨hi_62, hf⟩ := gx_g hf
        refine gx_zast (ws' := wd_X8_more cI cZ h_t h_t_row h_t_tape h_t_codes h_t_widths h_t_begins h_t_spanAt h_t_spanLong h_t_spanOf h_t_out V_t (upd V_t_tape ((8 * (V_t 7)) + x2).toNatClampNeg (vp_nar .boolean 0))) C hw 1 rfl hi_62 rfl dX8_more_62 (fun H locs hw => ?_)
        refine lv_iinc (v := (x2 + 1)) (lv' := [(2, .int (x2 + 1)), (0, .ref h_t), (1, .int x1)]) hx hb dX8_more_63 hl (k := 2) rfl rfl (by decide) rfl (fun ls hl => ?_)
        refine lv_goto (tgt := 29) hx hb dX8_more_66 (by decide) ?_
        exact ih V_t (upd V_t_tape ((8 * (V_t 7)) + x2).toNatClampNeg (vp_nar .boolean 0)) x1 (x2 + 1) _ _ _ (lv_sub hl [1, 2, 0] rfl) hw hf
      · replace hf := gx_t hc hf
        refine lv_iconst (v := 1) hx hb dX8_more_57 (by decide) ?_
        refine lv_goto (tgt := 62) hx hb dX8_more_58 (by decide) ?_
        obtain ⟨hi_62, hf⟩ := gx_g hf
        refine gx_zast (ws' := wd_X8_more cI cZ h_t h_t_row h_t_tape h_t_codes h_t_widths h_t_begins h_t_spanAt h_t_spanLong h_t_spanOf h_t_out V_t (upd V_t_tape ((8 * (V_t 7)) + x2).toNatClampNeg (vp_nar .boolean 1))) C hw 1 rfl hi_62 rfl dX8_more_62 (fun H locs hw => ?_)
        refine lv_iinc (v := (x2 + 1)) (lv' := [(2, .int (x2 + 1)), (0, .ref h_t), (1, .int x1)]) hx hb dX8_more_63 hl (k := 2) rfl rfl (by decide) rfl (fun ls hl => ?_)
        refine lv_goto (tgt := 29) hx hb dX8_more_66 (by decide) ?_
        exact ih V_t (upd V_t_tape ((8 * (V_t 7)) + x2).toNatClampNeg (vp_nar .boolean 1)) x1 (x2 + 1) _ _ _ (lv_sub hl [1, 2, 0] rfl) hw hf
set_option maxHeartbeats 4000000 in
set_option maxRecDepth 100000 in
theorem ct_X8_more (l : Launch) (D : va_G) (cI cZ : ClassId) (h_t h_t_row h_t_tape h_t_codes h_t_widths h_t_begins h_t_spanAt h_t_spanLong h_t_spanOf h_t_out : Nat) (V_t V_t_tape : Nat → Int32) (a1 : Int32) {z : Int32 × (Nat → Int32) × (Nat → Int32)} (hf : fn_X8_more V_t V_t_tape a1 = some z) : gx_Mi l yX8_more wsX8_more (gx_rm 1) D cI cZ [.ref h_t, .int a1] (wd_X8_more cI cZ h_t h_t_row h_t_tape h_t_codes h_t_widths h_t_begins h_t_spanAt h_t_spanLong h_t_spanOf h_t_out V_t V_t_tape) (wd_X8_more cI cZ h_t h_t_row h_t_tape h_t_codes h_t_widths h_t_begins h_t_spanAt h_t_spanLong h_t_spanOf h_t_out z.2.1 z.2.2) z.1 := by
  refine gx_ofi (cc := cX8_more) (own := RX8) (by decide) rfl rfl (Nat.le_of_ble_eq_true rfl) [(0, .ref h_t), (1, .int a1)] rfl ?_
  intro p e s m args below meth c A Q ls C hQ hl hw
  have hx := C.1.1
  have hb := C.1.2.1
  rw [fn_X8_more] at hf
  refine lv_iload_n hx hb dX8_more_0 rfl (lv_at hl 1 rfl) ?_
  refine lv_iconst (v := 0) hx hb dX8_more_1 (by decide) ?_
  refine lv_sipush (v := 255) hx hb dX8_more_2 (by decide) ?_
  obtain ⟨y_5, hy_5, hf⟩ := gx_b hf
  refine gx_calls (As := [.int a1, .int 0, .int 255]) C hw (ct_X8_in l D cI cZ a1 0 255 hy_5) kl_X8_more_57 ⟨rfl, rfl⟩ rfl rfl hl.1 (Nat.le_of_ble_eq_true rfl) ⟨Nat.le_refl _, Nat.le_refl _⟩ dX8_more_5 (fun H locs hw => ?_)
  refine lv_if_ne (tgt := 14) hx hb dX8_more_8 (by decide) (fun hc => ?_) (fun hc => ?_)
  · replace hf := gx_f hc hf
    refine lv_aload_n hx hb dX8_more_14 rfl (lv_at hl 0 rfl) ?_
    refine gx_get (v := .int (V_t 7)) C hw 0 rfl (gx_gj rfl rfl) ln_X8_more_113 dX8_more_15 ?_
    refine lv_sipush (v := 400) hx hb dX8_more_18 (by decide) ?_
    refine lv_icmp_ne (tgt := 27) hx hb dX8_more_21 (by decide) (fun hc => ?_) (fun hc => ?_)
    · replace hf := gx_f hc hf
      refine lv_iconst (v := 0) hx hb dX8_more_27 (by decide) ?_
      refine lv_istore_n (lv' := [(2, .int 0), (0, .ref h_t), (1, .int a1)]) hx hb dX8_more_28 rfl hl (by decide) rfl (fun ls hl => ?_)
      exact tm_X8_more_29 C h_t h_t_row h_t_tape h_t_codes h_t_widths h_t_begins h_t_spanAt h_t_spanLong h_t_spanOf h_t_out hQ  gx_fuel V_t V_t_tape a1 0 _ _ _ (lv_sub hl [1, 2, 0] rfl) hw hf
    · replace hf := gx_t hc hf
      refine lv_bipush (v := (-4)) hx hb dX8_more_24 (by decide) ?_
      obtain rfl := Option.some.inj hf
      exact hQ _ _ _ _ dX8_more_26 rfl hw
  · replace hf := gx_t hc hf
    refine lv_bipush (v := (-2)) hx hb dX8_more_11 (by decide) ?_
    obtain rfl := Option.some.inj hf
    exact hQ _ _ _ _ dX8_more_13 rfl hw
-- LzwFormsModel.cut: touched ['t']; used ['t']; mod ['t']; height 1
theorem ln_X8_cut_113 : gx_L wsX8_cut RX8 113 8 7 := ⟨_, _, _, rfl, by decide +kernel, by decide, Or.inl (by decide +kernel)⟩
theorem lp_X8_cut_113 : gx_LP wsX8_cut RX8 113 8 7 false .int := ⟨_, _, _, tyX8, rfl, by decide +kernel, by decide, by decide +kernel, tyX8_ok, nmX8, by decide +kernel, by decide +kernel, by decide +kernel⟩
theorem kl_X8_cut_57 : gx_KS wsX8_cut RX8 57 yX8_in cX8_in 3 (some .boolean) wsX8_in (gx_rm 0) (gx_rm 1) 3 := ⟨gX8_cut_X8_in, ⟨_, rfl⟩, ⟨by decide, by decide, by decide +kernel⟩, ⟨by decide, by decide⟩⟩
def wd_X8_cut (cI cZ : ClassId) (h_t h_t_row h_t_tape h_t_codes h_t_widths h_t_begins h_t_spanAt h_t_spanLong h_t_spanOf h_t_out : Nat) (V_t : Nat → Int32) : va_W := [gx_o h_t 8 [none, none, none, none, some (some h_t_row), none, some (some h_t_tape), none, none, none, some (some h_t_codes), some (some h_t_widths), some (some h_t_begins), none, none, none, none, some (some h_t_spanAt), some (some h_t_spanLong), some (some h_t_spanOf), none, none, none, none, some (some h_t_out), none, none, none] V_t]
set_option maxHeartbeats 4000000 in
set_option maxRecDepth 100000 in
theorem ct_X8_cut (l : Launch) (D : va_G) (cI cZ : ClassId) (h_t h_t_row h_t_tape h_t_codes h_t_widths h_t_begins h_t_spanAt h_t_spanLong h_t_spanOf h_t_out : Nat) (V_t : Nat → Int32) (a1 : Int32) {z : Int32 × (Nat → Int32)} (hf : fn_X8_cut V_t a1 = some z) : gx_Mi l yX8_cut wsX8_cut (gx_rm 1) D cI cZ [.ref h_t, .int a1] (wd_X8_cut cI cZ h_t h_t_row h_t_tape h_t_codes h_t_widths h_t_begins h_t_spanAt h_t_spanLong h_t_spanOf h_t_out V_t) (wd_X8_cut cI cZ h_t h_t_row h_t_tape h_t_codes h_t_widths h_t_begins h_t_spanAt h_t_spanLong h_t_spanOf h_t_out z.2) z.1 := by
  refine gx_ofi (cc := cX8_cut) (own := RX8) (by decide) rfl rfl (Nat.le_of_ble_eq_true rfl) [(0, .ref h_t), (1, .int a1)] rfl ?_
  intro p e s m args below meth c A Q ls C hQ hl hw
  have hx := C.1.1
  have hb := C.1.2.1
  rw [fn_X8_cut] at hf
  refine lv_iload_n hx hb dX8_cut_0 rfl (lv_at hl 1 rfl) ?_
  refine lv_iconst (v := 0) hx hb dX8_cut_1 (by decide) ?_
  refine lv_aload_n hx hb dX8_cut_2 rfl (lv_at hl 0 rfl) ?_
  refine gx_get (v := .int (V_t 7)) C hw 0 rfl (gx_gj rfl rfl) ln_X8_cut_113 dX8_cut_3 ?_
  obtain ⟨y_6, hy_6, hf⟩ := gx_b hf
  refine gx_calls (As := [.int a1, .int 0, .int (V_t 7)]) C hw (ct_X8_in l D cI cZ a1 0 (V_t 7) hy_6) kl_X8_cut_57 ⟨rfl, rfl⟩ rfl rfl hl.1 (Nat.le_of_ble_eq_true rfl) ⟨Nat.le_refl _, Nat.le_refl _⟩ dX8_cut_6 (fun H locs hw => ?_)
  refine lv_if_ne (tgt := 15) hx hb dX8_cut_9 (by decide) (fun hc => ?_) (fun hc => ?_)
  · replace hf := gx_f hc hf
    refine lv_aload_n hx hb dX8_cut_15 rfl (lv_at hl 0 rfl) ?_
    refine gx_get (v := .int (V_t 7)) C hw 0 rfl (gx_gj rfl rfl) ln_X8_cut_113 dX8_cut_16 ?_
    refine lv_iload_n hx hb dX8_cut_19 rfl (lv_at hl 1 rfl) ?_
    refine lv_isub hx hb dX8_cut_20 ?_
    refine lv_istore_n (lv' := [(2, .int ((V_t 7) - a1)), (0, .ref h_t), (1, .int a1)]) hx hb dX8_cut_21 rfl hl (by decide) rfl (fun ls hl => ?_)
    refine lv_aload_n hx hb dX8_cut_22 rfl (lv_at hl 1 rfl) ?_
    refine lv_iload_n hx hb dX8_cut_23 rfl (lv_at hl 2 rfl) ?_
    refine gx_put (ws' := wd_X8_cut cI cZ h_t h_t_row h_t_tape h_t_codes h_t_widths h_t_begins h_t_spanAt h_t_spanLong h_t_spanOf h_t_out (upd V_t 7 a1)) C hw 0 rfl rfl lp_X8_cut_113 rfl rfl rfl dX8_cut_24 (fun H locs hw => ?_)
    refine lv_iload_n hx hb dX8_cut_27 rfl (lv_at hl 0 rfl) ?_
    obtain rfl := Option.some.inj hf
    exact hQ _ _ _ _ dX8_cut_28 rfl hw
  · replace hf := gx_t hc hf
    refine lv_bipush (v := (-2)) hx hb dX8_cut_12 (by decide) ?_
    obtain rfl := Option.some.inj hf
    exact hQ _ _ _ _ dX8_cut_14 rfl hw
-- LzwFormsModel.octet: touched ['t', 't_tape']; used ['t', 't_tape']; mod []; height 1
theorem ln_X8_octet_23 : gx_L wsX8_octet RX8 23 8 6 := ⟨_, _, _, rfl, by decide +kernel, by decide, Or.inl (by decide +kernel)⟩
theorem ln_X8_octet_113 : gx_L wsX8_octet RX8 113 8 7 := ⟨_, _, _, rfl, by decide +kernel, by decide, Or.inl (by decide +kernel)⟩
theorem kl_X8_octet_57 : gx_KS wsX8_octet RX8 57 yX8_in cX8_in 3 (some .boolean) wsX8_in (gx_rm 0) (gx_rm 1) 3 := ⟨gX8_octet_X8_in, ⟨_, rfl⟩, ⟨by decide, by decide, by decide +kernel⟩, ⟨by decide, by decide⟩⟩
def wd_X8_octet (cI cZ : ClassId) (h_t h_t_row h_t_tape h_t_codes h_t_widths h_t_begins h_t_spanAt h_t_spanLong h_t_spanOf h_t_out : Nat) (V_t V_t_tape : Nat → Int32) : va_W := [gx_o h_t 8 [none, none, none, none, some (some h_t_row), none, some (some h_t_tape), none, none, none, some (some h_t_codes), some (some h_t_widths), some (some h_t_begins), none, none, none, none, some (some h_t_spanAt), some (some h_t_spanLong), some (some h_t_spanOf), none, none, none, none, some (some h_t_out), none, none, none] V_t, gx_a h_t_tape cZ 3200 V_t_tape]
set_option maxHeartbeats 4000000 in
set_option maxRecDepth 100000 in
theorem tm_X8_octet_20 (C : gx_C cX8_octet 4 wsX8_octet RX8 D cI cZ p s m args c) (h_t h_t_row h_t_tape h_t_codes h_t_widths h_t_begins h_t_spanAt h_t_spanLong h_t_spanOf h_t_out : Nat) (V_t V_t_tape : Nat → Int32) {z : Int32} (hQ : gx_Qi cX8_octet .int p l e (gx_rm 1) s m args below meth c D A Q (wd_X8_octet cI cZ h_t h_t_row h_t_tape h_t_codes h_t_widths h_t_begins h_t_spanAt h_t_spanLong h_t_spanOf h_t_out V_t V_t_tape) z) : ∀ (n : Nat), (∀ (x1 x2 x3 : Int32) (ls : Array Slot) (H : Heap) (locs : List Loc), lv_has ls 4 [(0, .ref h_t), (1, .int x1), (2, .int x2), (3, .int x3)] → gx_W D A s (wd_X8_octet cI cZ h_t h_t_row h_t_tape h_t_codes h_t_widths h_t_begins h_t_spanAt h_t_spanLong h_t_spanOf h_t_out V_t V_t_tape) H locs → fn_X8_octet_l20 V_t V_t_tape n x1 x2 x3 = some z → W p l e (gx_rm 1) s m args below meth c H locs 0 0 Q (F0 m 20 ls [])) := by
  have hx := C.1.1
  have hb := C.1.2.1
  intro n
  induction n with
  | zero => intro x1 x2 x3 ls H locs hl hw hf; rw [fn_X8_octet_l20] at hf; cases hf
  | succ n ih =>
    intro x1 x2 x3 ls H locs hl hw hf
    rw [fn_X8_octet_l20] at hf
    refine lv_iload_n hx hb dX8_octet_20 rfl (lv_at hl 3 rfl) ?_
    refine lv_bipush (v := 8) hx hb dX8_octet_21 (by decide) ?_
    refine lv_icmp_ge (tgt := 56) hx hb dX8_octet_23 (by decide) (fun hc => ?_) (fun hc => ?_)
    · replace hf := gx_t hc hf
      refine lv_iload_n hx hb dX8_octet_56 rfl (lv_at hl 2 rfl) ?_
      obtain rfl := Option.some.inj hf
      exact hQ _ _ _ _ dX8_octet_57 rfl hw
    · replace hf := gx_f hc hf
      refine lv_iload_n hx hb dX8_octet_26 rfl (lv_at hl 2 rfl) ?_
      refine lv_aload_n hx hb dX8_octet_27 rfl (lv_at hl 0 rfl) ?_
      refine gx_get C hw 0 rfl (gx_gr rfl) ln_X8_octet_23 dX8_octet_28 ?_
      refine lv_bipush (v := 8) hx hb dX8_octet_31 (by decide) ?_
      refine lv_iload_n hx hb dX8_octet_33 rfl (lv_at hl 1 rfl) ?_
      refine lv_imul hx hb dX8_octet_34 ?_
      refine lv_iload_n hx hb dX8_octet_35 rfl (lv_at hl 3 rfl) ?_
      refine lv_iadd hx hb dX8_octet_36 ?_
      obtain ⟨hi_37, hf⟩ := gx_g hf
      refine gx_zald C hw 1 rfl hi_37 dX8_octet_37 ?_
      refine lv_if_eq (tgt := 47) hx hb dX8_octet_38 (by decide) (fun hc => ?_) (fun hc => ?_)
      · replace hf := gx_t hc hf
        refine lv_iconst (v := 0) hx hb dX8_octet_47 (by decide) ?_
        refine lv_iadd hx hb dX8_octet_48 ?_
        refine lv_istore_n (lv' := [(2, .int (x2 + 0)), (0, .ref h_t), (1, .int x1), (3, .int x3)]) hx hb dX8_octet_49 rfl hl (by decide) rfl (fun ls hl => ?_)
        refine lv_iinc (v := (x3 + 1)) (lv' := [(3, .int (x3 + 1)), (2, .int (x2 + 0)), (0, .ref h_t), (1, .int x1)]) hx hb dX8_octet_50 hl (k := 3) rfl rfl (by decide) rfl (fun ls hl => ?_)
        refine lv_goto (tgt := 20) hx hb dX8_octet_53 (by decide) ?_
        exact ih x1 (x2 + 0) (x3 + 1) _ _ _ (lv_sub hl [2, 3, 1, 0] rfl) hw hf
      · replace hf := gx_f hc hf
        refine lv_iconst (v := 1) hx hb dX8_octet_41 (by decide) ?_
        refine lv_iload_n hx hb dX8_octet_42 rfl (lv_at hl 3 rfl) ?_
        refine lv_ishl hx hb dX8_octet_43 ?_
        refine lv_goto (tgt := 48) hx hb dX8_octet_44 (by decide) ?_
        refine lv_iadd hx hb dX8_octet_48 ?_
        refine lv_istore_n (lv' := [(2, .int (x2 + (1 <<< (x3 &&& 31)))), (0, .ref h_t), (1, .int x1), (3, .int x3)]) hx hb dX8_octet_49 rfl hl (by decide) rfl (fun ls hl => ?_)
        refine lv_iinc (v := (x3 + 1)) (lv' := [(3, .int (x3 + 1)), (2, .int (x2 + (1 <<< (x3 &&& 31)))), (0, .ref h_t), (1, .int x1)]) hx hb dX8_octet_50 hl (k := 3) rfl rfl (by decide) rfl (fun ls hl => ?_)
        refine lv_goto (tgt := 20) hx hb dX8_octet_53 (by decide) ?_
        exact ih x1 (x2 + (1 <<< (x3 &&& 31))) (x3 + 1) _ _ _ (lv_sub hl [2, 3, 1, 0] rfl) hw hf
set_option maxHeartbeats 4000000 in
set_option maxRecDepth 100000 in
theorem ct_X8_octet (l : Launch) (D : va_G) (cI cZ : ClassId) (h_t h_t_row h_t_tape h_t_codes h_t_widths h_t_begins h_t_spanAt h_t_spanLong h_t_spanOf h_t_out : Nat) (V_t V_t_tape : Nat → Int32) (a1 : Int32) {z : Int32} (hf : fn_X8_octet V_t V_t_tape a1 = some z) : gx_Mi l yX8_octet wsX8_octet (gx_rm 1) D cI cZ [.ref h_t, .int a1] (wd_X8_octet cI cZ h_t h_t_row h_t_tape h_t_codes h_t_widths h_t_begins h_t_spanAt h_t_spanLong h_t_spanOf h_t_out V_t V_t_tape) (wd_X8_octet cI cZ h_t h_t_row h_t_tape h_t_codes h_t_widths h_t_begins h_t_spanAt h_t_spanLong h_t_spanOf h_t_out V_t V_t_tape) z := by
  refine gx_ofi (cc := cX8_octet) (own := RX8) (by decide) rfl rfl (Nat.le_of_ble_eq_true rfl) [(0, .ref h_t), (1, .int a1)] rfl ?_
  intro p e s m args below meth c A Q ls C hQ hl hw
  have hx := C.1.1
  have hb := C.1.2.1
  rw [fn_X8_octet] at hf
  refine lv_iload_n hx hb dX8_octet_0 rfl (lv_at hl 1 rfl) ?_
  refine lv_iconst (v := 0) hx hb dX8_octet_1 (by decide) ?_
  refine lv_aload_n hx hb dX8_octet_2 rfl (lv_at hl 0 rfl) ?_
  refine gx_get (v := .int (V_t 7)) C hw 0 rfl (gx_gj rfl rfl) ln_X8_octet_113 dX8_octet_3 ?_
  refine lv_iconst (v := 1) hx hb dX8_octet_6 (by decide) ?_
  refine lv_isub hx hb dX8_octet_7 ?_
  obtain ⟨y_8, hy_8, hf⟩ := gx_b hf
  refine gx_calls (As := [.int a1, .int 0, .int ((V_t 7) - 1)]) C hw (ct_X8_in l D cI cZ a1 0 ((V_t 7) - 1) hy_8) kl_X8_octet_57 ⟨rfl, rfl⟩ rfl rfl hl.1 (Nat.le_of_ble_eq_true rfl) ⟨Nat.le_refl _, Nat.le_refl _⟩ dX8_octet_8 (fun H locs hw => ?_)
  refine lv_if_ne (tgt := 16) hx hb dX8_octet_11 (by decide) (fun hc => ?_) (fun hc => ?_)
  · replace hf := gx_f hc hf
    refine lv_iconst (v := 0) hx hb dX8_octet_16 (by decide) ?_
    refine lv_istore_n (lv' := [(2, .int 0), (0, .ref h_t), (1, .int a1)]) hx hb dX8_octet_17 rfl hl (by decide) rfl (fun ls hl => ?_)
    refine lv_iconst (v := 0) hx hb dX8_octet_18 (by decide) ?_
    refine lv_istore_n (lv' := [(3, .int 0), (2, .int 0), (0, .ref h_t), (1, .int a1)]) hx hb dX8_octet_19 rfl hl (by decide) rfl (fun ls hl => ?_)
    exact tm_X8_octet_20 C h_t h_t_row h_t_tape h_t_codes h_t_widths h_t_begins h_t_spanAt h_t_spanLong h_t_spanOf h_t_out V_t V_t_tape hQ  gx_fuel a1 0 0 _ _ _ (lv_sub hl [2, 3, 1, 0] rfl) hw hf
  · replace hf := gx_t hc hf
    refine lv_iconst (v := (-1)) hx hb dX8_octet_14 (by decide) ?_
    obtain rfl := Option.some.inj hf
    exact hQ _ _ _ _ dX8_octet_15 rfl hw
-- LzwFormsModel.flip: touched ['t', 't_tape']; used ['t', 't_tape']; mod ['t_tape']; height 2
theorem ln_X8_flip_23 : gx_L wsX8_flip RX8 23 8 6 := ⟨_, _, _, rfl, by decide +kernel, by decide, Or.inl (by decide +kernel)⟩
theorem ln_X8_flip_113 : gx_L wsX8_flip RX8 113 8 7 := ⟨_, _, _, rfl, by decide +kernel, by decide, Or.inl (by decide +kernel)⟩
theorem kl_X8_flip_57 : gx_KS wsX8_flip RX8 57 yX8_in cX8_in 3 (some .boolean) wsX8_in (gx_rm 0) (gx_rm 2) 3 := ⟨gX8_flip_X8_in, ⟨_, rfl⟩, ⟨by decide, by decide, by decide +kernel⟩, ⟨by decide, by decide⟩⟩
theorem kl_X8_flip_119 : gx_KV wsX8_flip RX8 119 yX8_octet cX8_octet 4 (some .int) wsX8_octet (gx_rm 1) (gx_rm 2) 1 := ⟨gX8_flip_X8_octet, ⟨_, rfl⟩, ⟨by decide, by decide, by decide +kernel⟩, ⟨by decide, by decide⟩⟩
def wd_X8_flip (cI cZ : ClassId) (h_t h_t_row h_t_tape h_t_codes h_t_widths h_t_begins h_t_spanAt h_t_spanLong h_t_spanOf h_t_out : Nat) (V_t V_t_tape : Nat → Int32) : va_W := [gx_o h_t 8 [none, none, none, none, some (some h_t_row), none, some (some h_t_tape), none, none, none, some (some h_t_codes), some (some h_t_widths), some (some h_t_begins), none, none, none, none, some (some h_t_spanAt), some (some h_t_spanLong), some (some h_t_spanOf), none, none, none, none, some (some h_t_out), none, none, none] V_t, gx_a h_t_tape cZ 3200 V_t_tape]
set_option maxHeartbeats 4000000 in
set_option maxRecDepth 100000 in
theorem tm_X8_flip_58 (C : gx_C cX8_flip 3 wsX8_flip RX8 D cI cZ p s m args c) (h_t h_t_row h_t_tape h_t_codes h_t_widths h_t_begins h_t_spanAt h_t_spanLong h_t_spanOf h_t_out : Nat) (V_t : Nat → Int32) {z : Int32 × (Nat → Int32)} (hQ : gx_Qi cX8_flip .int p l e (gx_rm 2) s m args below meth c D A Q (wd_X8_flip cI cZ h_t h_t_row h_t_tape h_t_codes h_t_widths h_t_begins h_t_spanAt h_t_spanLong h_t_spanOf h_t_out V_t z.2) z.1) : ∀ (V_t_tape : Nat → Int32) (x1 s1 s2 : Int32) (ls : Array Slot) (H : Heap) (locs : List Loc), lv_has ls 3 [(0, .ref h_t), (1, .int x1)] → gx_W D A s (wd_X8_flip cI cZ h_t h_t_row h_t_tape h_t_codes h_t_widths h_t_begins h_t_spanAt h_t_spanLong h_t_spanOf h_t_out V_t V_t_tape) H locs → fn_X8_flip_j58 V_t V_t_tape x1 s1 s2 = some z → W p l e (gx_rm 2) s m args below meth c H locs 0 0 Q (F0 m 58 ls [.int s2, .int s1, .ref h_t_tape]) := by
  have hx := C.1.1
  have hb := C.1.2.1
  intro V_t_tape x1 s1 s2 ls H locs hl hw hf
  rw [fn_X8_flip_j58] at hf
  obtain ⟨hi_58, hf⟩ := gx_g hf
  refine gx_zast (ws' := wd_X8_flip cI cZ h_t h_t_row h_t_tape h_t_codes h_t_widths h_t_begins h_t_spanAt h_t_spanLong h_t_spanOf h_t_out V_t (upd V_t_tape s1.toNatClampNeg (vp_nar .boolean s2))) C hw 1 rfl hi_58 rfl dX8_flip_58 (fun H locs hw => ?_)
  refine lv_aload_n hx hb dX8_flip_59 rfl (lv_at hl 0 rfl) ?_
  refine lv_iload_n hx hb dX8_flip_60 rfl (lv_at hl 1 rfl) ?_
  obtain ⟨y_61, hy_61, hf⟩ := gx_b hf
  refine gx_calli (As := [.int x1]) (ws' := wd_X8_flip cI cZ h_t h_t_row h_t_tape h_t_codes h_t_widths h_t_begins h_t_spanAt h_t_spanLong h_t_spanOf h_t_out V_t (upd V_t_tape s1.toNatClampNeg (vp_nar .boolean s2))) (isC := [0, 1]) (isR := []) (isP := [0, 1]) C hw (ct_X8_octet l D cI cZ h_t h_t_row h_t_tape h_t_codes h_t_widths h_t_begins h_t_spanAt h_t_spanLong h_t_spanOf h_t_out V_t (upd V_t_tape s1.toNatClampNeg (vp_nar .boolean s2)) x1 hy_61) kl_X8_flip_119 ⟨rfl, rfl⟩ ⟨rfl, rfl, by decide, by decide, by decide, by decide, rfl⟩ 0 rfl rfl rfl rfl hl.1 (Nat.le_of_ble_eq_true rfl) ⟨Nat.le_refl _, Nat.le_refl _⟩ dX8_flip_61 (fun H locs hw => ?_)
  obtain rfl := Option.some.inj hf
  exact hQ _ _ _ _ dX8_flip_64 rfl hw
set_option maxHeartbeats 4000000 in
set_option maxRecDepth 100000 in
theorem ct_X8_flip (l : Launch) (D : va_G) (cI cZ : ClassId) (h_t h_t_row h_t_tape h_t_codes h_t_widths h_t_begins h_t_spanAt h_t_spanLong h_t_spanOf h_t_out : Nat) (V_t V_t_tape : Nat → Int32) (a1 a2 : Int32) {z : Int32 × (Nat → Int32)} (hf : fn_X8_flip V_t V_t_tape a1 a2 = some z) : gx_Mi l yX8_flip wsX8_flip (gx_rm 2) D cI cZ [.ref h_t, .int a1, .int a2] (wd_X8_flip cI cZ h_t h_t_row h_t_tape h_t_codes h_t_widths h_t_begins h_t_spanAt h_t_spanLong h_t_spanOf h_t_out V_t V_t_tape) (wd_X8_flip cI cZ h_t h_t_row h_t_tape h_t_codes h_t_widths h_t_begins h_t_spanAt h_t_spanLong h_t_spanOf h_t_out V_t z.2) z.1 := by
  refine gx_ofi (cc := cX8_flip) (own := RX8) (by decide) rfl rfl (Nat.le_of_ble_eq_true rfl) [(0, .ref h_t), (1, .int a1), (2, .int a2)] rfl ?_
  intro p e s m args below meth c A Q ls C hQ hl hw
  have hx := C.1.1
  have hb := C.1.2.1
  rw [fn_X8_flip] at hf
  refine lv_iload_n hx hb dX8_flip_0 rfl (lv_at hl 2 rfl) ?_
  refine lv_iconst (v := 0) hx hb dX8_flip_1 (by decide) ?_
  refine lv_bipush (v := 7) hx hb dX8_flip_2 (by decide) ?_
  obtain ⟨y_4, hy_4, hf⟩ := gx_b hf
  refine gx_calls (As := [.int a2, .int 0, .int 7]) C hw (ct_X8_in l D cI cZ a2 0 7 hy_4) kl_X8_flip_57 ⟨rfl, rfl⟩ rfl rfl hl.1 (Nat.le_of_ble_eq_true rfl) ⟨Nat.le_refl _, Nat.le_refl _⟩ dX8_flip_4 (fun H locs hw => ?_)
  refine lv_if_ne (tgt := 13) hx hb dX8_flip_7 (by decide) (fun hc => ?_) (fun hc => ?_)
  · replace hf := gx_f hc hf
    refine lv_iload_n hx hb dX8_flip_13 rfl (lv_at hl 1 rfl) ?_
    refine lv_iconst (v := 0) hx hb dX8_flip_14 (by decide) ?_
    refine lv_aload_n hx hb dX8_flip_15 rfl (lv_at hl 0 rfl) ?_
    refine gx_get (v := .int (V_t 7)) C hw 0 rfl (gx_gj rfl rfl) ln_X8_flip_113 dX8_flip_16 ?_
    refine lv_iconst (v := 1) hx hb dX8_flip_19 (by decide) ?_
    refine lv_isub hx hb dX8_flip_20 ?_
    obtain ⟨y_21, hy_21, hf⟩ := gx_b hf
    refine gx_calls (As := [.int a1, .int 0, .int ((V_t 7) - 1)]) C hw (ct_X8_in l D cI cZ a1 0 ((V_t 7) - 1) hy_21) kl_X8_flip_57 ⟨rfl, rfl⟩ rfl rfl hl.1 (Nat.le_of_ble_eq_true rfl) ⟨Nat.le_refl _, Nat.le_refl _⟩ dX8_flip_21 (fun H locs hw => ?_)
    refine lv_if_ne (tgt := 29) hx hb dX8_flip_24 (by decide) (fun hc => ?_) (fun hc => ?_)
    · replace hf := gx_f hc hf
      refine lv_aload_n hx hb dX8_flip_29 rfl (lv_at hl 0 rfl) ?_
      refine gx_get C hw 0 rfl (gx_gr rfl) ln_X8_flip_23 dX8_flip_30 ?_
      refine lv_bipush (v := 8) hx hb dX8_flip_33 (by decide) ?_
      refine lv_iload_n hx hb dX8_flip_35 rfl (lv_at hl 1 rfl) ?_
      refine lv_imul hx hb dX8_flip_36 ?_
      refine lv_iload_n hx hb dX8_flip_37 rfl (lv_at hl 2 rfl) ?_
      refine lv_iadd hx hb dX8_flip_38 ?_
      refine lv_aload_n hx hb dX8_flip_39 rfl (lv_at hl 0 rfl) ?_
      refine gx_get C hw 0 rfl (gx_gr rfl) ln_X8_flip_23 dX8_flip_40 ?_
      refine lv_bipush (v := 8) hx hb dX8_flip_43 (by decide) ?_
      refine lv_iload_n hx hb dX8_flip_45 rfl (lv_at hl 1 rfl) ?_
      refine lv_imul hx hb dX8_flip_46 ?_
      refine lv_iload_n hx hb dX8_flip_47 rfl (lv_at hl 2 rfl) ?_
      refine lv_iadd hx hb dX8_flip_48 ?_
      obtain ⟨hi_49, hf⟩ := gx_g hf
      refine gx_zald C hw 1 rfl hi_49 dX8_flip_49 ?_
      refine lv_if_ne (tgt := 57) hx hb dX8_flip_50 (by decide) (fun hc => ?_) (fun hc => ?_)
      · replace hf := gx_f hc hf
        refine lv_iconst (v := 0) hx hb dX8_flip_57 (by decide) ?_
        exact tm_X8_flip_58 C h_t h_t_row h_t_tape h_t_codes h_t_widths h_t_begins h_t_spanAt h_t_spanLong h_t_spanOf h_t_out V_t hQ  V_t_tape a1 ((8 * a1) + a2) 0 _ _ _ (lv_sub hl [0, 1] rfl) hw hf
      · replace hf := gx_t hc hf
        refine lv_iconst (v := 1) hx hb dX8_flip_53 (by decide) ?_
        refine lv_goto (tgt := 58) hx hb dX8_flip_54 (by decide) ?_
        exact tm_X8_flip_58 C h_t h_t_row h_t_tape h_t_codes h_t_widths h_t_begins h_t_spanAt h_t_spanLong h_t_spanOf h_t_out V_t hQ  V_t_tape a1 ((8 * a1) + a2) 1 _ _ _ (lv_sub hl [0, 1] rfl) hw hf
    · replace hf := gx_t hc hf
      refine lv_iconst (v := (-1)) hx hb dX8_flip_27 (by decide) ?_
      obtain rfl := Option.some.inj hf
      exact hQ _ _ _ _ dX8_flip_28 rfl hw
  · replace hf := gx_t hc hf
    refine lv_bipush (v := (-2)) hx hb dX8_flip_10 (by decide) ?_
    obtain rfl := Option.some.inj hf
    exact hQ _ _ _ _ dX8_flip_12 rfl hw
-- LzwFormsModel.bit: touched ['t', 't_tape']; used ['t', 't_tape']; mod ['t']; height 0
theorem ln_X8_bit_23 : gx_L wsX8_bit RX8 23 8 6 := ⟨_, _, _, rfl, by decide +kernel, by decide, Or.inl (by decide +kernel)⟩
theorem ln_X8_bit_54 : gx_L wsX8_bit RX8 54 8 0 := ⟨_, _, _, rfl, by decide +kernel, by decide, Or.inl (by decide +kernel)⟩
theorem ln_X8_bit_113 : gx_L wsX8_bit RX8 113 8 7 := ⟨_, _, _, rfl, by decide +kernel, by decide, Or.inl (by decide +kernel)⟩
theorem ln_X8_bit_123 : gx_L wsX8_bit RX8 123 8 23 := ⟨_, _, _, rfl, by decide +kernel, by decide, Or.inl (by decide +kernel)⟩
theorem lp_X8_bit_123 : gx_LP wsX8_bit RX8 123 8 23 false .int := ⟨_, _, _, tyX8, rfl, by decide +kernel, by decide, by decide +kernel, tyX8_ok, nmX8, by decide +kernel, by decide +kernel, by decide +kernel⟩
theorem ln_X8_bit_126 : gx_L wsX8_bit RX8 126 8 22 := ⟨_, _, _, rfl, by decide +kernel, by decide, Or.inl (by decide +kernel)⟩
theorem lp_X8_bit_126 : gx_LP wsX8_bit RX8 126 8 22 false .int := ⟨_, _, _, tyX8, rfl, by decide +kernel, by decide, by decide +kernel, tyX8_ok, nmX8, by decide +kernel, by decide +kernel, by decide +kernel⟩
def wd_X8_bit (cI cZ : ClassId) (h_t h_t_row h_t_tape h_t_codes h_t_widths h_t_begins h_t_spanAt h_t_spanLong h_t_spanOf h_t_out : Nat) (V_t V_t_tape : Nat → Int32) : va_W := [gx_o h_t 8 [none, none, none, none, some (some h_t_row), none, some (some h_t_tape), none, none, none, some (some h_t_codes), some (some h_t_widths), some (some h_t_begins), none, none, none, none, some (some h_t_spanAt), some (some h_t_spanLong), some (some h_t_spanOf), none, none, none, none, some (some h_t_out), none, none, none] V_t, gx_a h_t_tape cZ 3200 V_t_tape]
set_option maxHeartbeats 4000000 in
set_option maxRecDepth 100000 in
theorem tm_X8_bit_71 (C : gx_C cX8_bit 2 wsX8_bit RX8 D cI cZ p s m args c) (h_t h_t_row h_t_tape h_t_codes h_t_widths h_t_begins h_t_spanAt h_t_spanLong h_t_spanOf h_t_out : Nat) (V_t_tape : Nat → Int32) {z : Int32 × (Nat → Int32)} (hQ : gx_Qi cX8_bit .int p l e (gx_rm 0) s m args below meth c D A Q (wd_X8_bit cI cZ h_t h_t_row h_t_tape h_t_codes h_t_widths h_t_begins h_t_spanAt h_t_spanLong h_t_spanOf h_t_out z.2 V_t_tape) z.1) : ∀ (V_t : Nat → Int32) (s0 : Int32) (ls : Array Slot) (H : Heap) (locs : List Loc), lv_has ls 2 [(0, .ref h_t)] → gx_W D A s (wd_X8_bit cI cZ h_t h_t_row h_t_tape h_t_codes h_t_widths h_t_begins h_t_spanAt h_t_spanLong h_t_spanOf h_t_out V_t V_t_tape) H locs → fn_X8_bit_j71 V_t_tape V_t s0 = some z → W p l e (gx_rm 0) s m args below meth c H locs 0 0 Q (F0 m 71 ls [.int s0]) := by
  have hx := C.1.1
  have hb := C.1.2.1
  intro V_t s0 ls H locs hl hw hf
  rw [fn_X8_bit_j71] at hf
  refine lv_istore_n (lv' := [(1, .int s0), (0, .ref h_t)]) hx hb dX8_bit_71 rfl hl (by decide) rfl (fun ls hl => ?_)
  refine lv_aload_n hx hb dX8_bit_72 rfl (lv_at hl 1 rfl) ?_
  refine lv_dup hx hb dX8_bit_73 rfl ?_
  refine gx_get (v := .int (V_t 22)) C hw 0 rfl (gx_gj rfl rfl) ln_X8_bit_126 dX8_bit_74 ?_
  refine lv_iconst (v := 1) hx hb dX8_bit_77 (by decide) ?_
  refine lv_iadd hx hb dX8_bit_78 ?_
  refine gx_put (ws' := wd_X8_bit cI cZ h_t h_t_row h_t_tape h_t_codes h_t_widths h_t_begins h_t_spanAt h_t_spanLong h_t_spanOf h_t_out (upd V_t 22 ((V_t 22) + 1)) V_t_tape) C hw 0 rfl rfl lp_X8_bit_126 rfl rfl rfl dX8_bit_79 (fun H locs hw => ?_)
  refine lv_aload_n hx hb dX8_bit_82 rfl (lv_at hl 1 rfl) ?_
  refine gx_get C hw 0 rfl (gx_gr rfl) ln_X8_bit_23 dX8_bit_83 ?_
  refine lv_iload_n hx hb dX8_bit_86 rfl (lv_at hl 0 rfl) ?_
  obtain ⟨hi_87, hf⟩ := gx_g hf
  refine gx_zald C hw 1 rfl hi_87 dX8_bit_87 ?_
  refine lv_if_eq (tgt := 95) hx hb dX8_bit_88 (by decide) (fun hc => ?_) (fun hc => ?_)
  · replace hf := gx_t hc hf
    refine lv_iconst (v := 0) hx hb dX8_bit_95 (by decide) ?_
    obtain rfl := Option.some.inj hf
    exact hQ _ _ _ _ dX8_bit_96 rfl hw
  · replace hf := gx_f hc hf
    refine lv_iconst (v := 1) hx hb dX8_bit_91 (by decide) ?_
    refine lv_goto (tgt := 96) hx hb dX8_bit_92 (by decide) ?_
    obtain rfl := Option.some.inj hf
    exact hQ _ _ _ _ dX8_bit_96 rfl hw
set_option maxHeartbeats 4000000 in
set_option maxRecDepth 100000 in
theorem tm_X8_bit_26 (C : gx_C cX8_bit 2 wsX8_bit RX8 D cI cZ p s m args c) (h_t h_t_row h_t_tape h_t_codes h_t_widths h_t_begins h_t_spanAt h_t_spanLong h_t_spanOf h_t_out : Nat) (V_t_tape : Nat → Int32) {z : Int32 × (Nat → Int32)} (hQ : gx_Qi cX8_bit .int p l e (gx_rm 0) s m args below meth c D A Q (wd_X8_bit cI cZ h_t h_t_row h_t_tape h_t_codes h_t_widths h_t_begins h_t_spanAt h_t_spanLong h_t_spanOf h_t_out z.2 V_t_tape) z.1) : ∀ (V_t : Nat → Int32) (ls : Array Slot) (H : Heap) (locs : List Loc), lv_has ls 2 [(0, .ref h_t)] → gx_W D A s (wd_X8_bit cI cZ h_t h_t_row h_t_tape h_t_codes h_t_widths h_t_begins h_t_spanAt h_t_spanLong h_t_spanOf h_t_out V_t V_t_tape) H locs → fn_X8_bit_j26 V_t_tape V_t = some z → W p l e (gx_rm 0) s m args below meth c H locs 0 0 Q (F0 m 26 ls []) := by
  have hx := C.1.1
  have hb := C.1.2.1
  intro V_t ls H locs hl hw hf
  rw [fn_X8_bit_j26] at hf
  refine lv_aload_n hx hb dX8_bit_26 rfl (lv_at hl 0 rfl) ?_
  refine gx_get (v := .int (V_t 23)) C hw 0 rfl (gx_gj rfl rfl) ln_X8_bit_123 dX8_bit_27 ?_
  refine lv_if_eq (tgt := 35) hx hb dX8_bit_30 (by decide) (fun hc => ?_) (fun hc => ?_)
  · replace hf := gx_t hc hf
    refine lv_aload_n hx hb dX8_bit_35 rfl (lv_at hl 0 rfl) ?_
    refine gx_get (v := .int (V_t 0)) C hw 0 rfl (gx_gj rfl rfl) ln_X8_bit_54 dX8_bit_36 ?_
    refine lv_iconst (v := 1) hx hb dX8_bit_39 (by decide) ?_
    refine lv_icmp_ne (tgt := 67) hx hb dX8_bit_40 (by decide) (fun hc => ?_) (fun hc => ?_)
    · replace hf := gx_f hc hf
      refine lv_aload_n hx hb dX8_bit_67 rfl (lv_at hl 0 rfl) ?_
      refine gx_get (v := .int (V_t 22)) C hw 0 rfl (gx_gj rfl rfl) ln_X8_bit_126 dX8_bit_68 ?_
      exact tm_X8_bit_71 C h_t h_t_row h_t_tape h_t_codes h_t_widths h_t_begins h_t_spanAt h_t_spanLong h_t_spanOf h_t_out V_t_tape hQ  V_t (V_t 22) _ _ _ (lv_sub hl [0] rfl) hw hf
    · replace hf := gx_t hc hf
      refine lv_bipush (v := 8) hx hb dX8_bit_43 (by decide) ?_
      refine lv_aload_n hx hb dX8_bit_45 rfl (lv_at hl 0 rfl) ?_
      refine gx_get (v := .int (V_t 22)) C hw 0 rfl (gx_gj rfl rfl) ln_X8_bit_126 dX8_bit_46 ?_
      refine lv_bipush (v := 8) hx hb dX8_bit_49 (by decide) ?_
      refine lv_idiv hx hb dX8_bit_51 (by decide) ?_
      refine lv_imul hx hb dX8_bit_52 ?_
      refine lv_bipush (v := 7) hx hb dX8_bit_53 (by decide) ?_
      refine lv_iadd hx hb dX8_bit_55 ?_
      refine lv_aload_n hx hb dX8_bit_56 rfl (lv_at hl 0 rfl) ?_
      refine gx_get (v := .int (V_t 22)) C hw 0 rfl (gx_gj rfl rfl) ln_X8_bit_126 dX8_bit_57 ?_
      refine lv_bipush (v := 8) hx hb dX8_bit_60 (by decide) ?_
      refine lv_irem hx hb dX8_bit_62 (by decide) ?_
      refine lv_isub hx hb dX8_bit_63 ?_
      refine lv_goto (tgt := 71) hx hb dX8_bit_64 (by decide) ?_
      exact tm_X8_bit_71 C h_t h_t_row h_t_tape h_t_codes h_t_widths h_t_begins h_t_spanAt h_t_spanLong h_t_spanOf h_t_out V_t_tape hQ  V_t (((8 * ((V_t 22) / 8)) + 7) - ((V_t 22) - (V_t 22) / 8 * 8)) _ _ _ (lv_sub hl [0] rfl) hw hf
  · replace hf := gx_f hc hf
    refine lv_iconst (v := 0) hx hb dX8_bit_33 (by decide) ?_
    obtain rfl := Option.some.inj hf
    exact hQ _ _ _ _ dX8_bit_34 rfl hw
set_option maxHeartbeats 4000000 in
set_option maxRecDepth 100000 in
theorem ct_X8_bit (l : Launch) (D : va_G) (cI cZ : ClassId) (h_t h_t_row h_t_tape h_t_codes h_t_widths h_t_begins h_t_spanAt h_t_spanLong h_t_spanOf h_t_out : Nat) (V_t V_t_tape : Nat → Int32) {z : Int32 × (Nat → Int32)} (hf : fn_X8_bit V_t V_t_tape = some z) : gx_Mi l yX8_bit wsX8_bit (gx_rm 0) D cI cZ [.ref h_t] (wd_X8_bit cI cZ h_t h_t_row h_t_tape h_t_codes h_t_widths h_t_begins h_t_spanAt h_t_spanLong h_t_spanOf h_t_out V_t V_t_tape) (wd_X8_bit cI cZ h_t h_t_row h_t_tape h_t_codes h_t_widths h_t_begins h_t_spanAt h_t_spanLong h_t_spanOf h_t_out z.2 V_t_tape) z.1 := by
  refine gx_ofi (cc := cX8_bit) (own := RX8) (by decide) rfl rfl (Nat.le_of_ble_eq_true rfl) [(0, .ref h_t)] rfl ?_
  intro p e s m args below meth c A Q ls C hQ hl hw
  have hx := C.1.1
  have hb := C.1.2.1
  rw [fn_X8_bit] at hf
  refine lv_aload_n hx hb dX8_bit_0 rfl (lv_at hl 0 rfl) ?_
  refine gx_get (v := .int (V_t 23)) C hw 0 rfl (gx_gj rfl rfl) ln_X8_bit_123 dX8_bit_1 ?_
  refine lv_if_ne (tgt := 26) hx hb dX8_bit_4 (by decide) (fun hc => ?_) (fun hc => ?_)
  · replace hf := gx_f hc hf
    exact tm_X8_bit_26 C h_t h_t_row h_t_tape h_t_codes h_t_widths h_t_begins h_t_spanAt h_t_spanLong h_t_spanOf h_t_out V_t_tape hQ  V_t _ _ _ (lv_sub hl [0] rfl) hw hf
  · replace hf := gx_t hc hf
    refine lv_aload_n hx hb dX8_bit_7 rfl (lv_at hl 0 rfl) ?_
    refine gx_get (v := .int (V_t 22)) C hw 0 rfl (gx_gj rfl rfl) ln_X8_bit_126 dX8_bit_8 ?_
    refine lv_bipush (v := 8) hx hb dX8_bit_11 (by decide) ?_
    refine lv_aload_n hx hb dX8_bit_13 rfl (lv_at hl 0 rfl) ?_
    refine gx_get (v := .int (V_t 7)) C hw 0 rfl (gx_gj rfl rfl) ln_X8_bit_113 dX8_bit_14 ?_
    refine lv_imul hx hb dX8_bit_17 ?_
    refine lv_icmp_ne (tgt := 26) hx hb dX8_bit_18 (by decide) (fun hc => ?_) (fun hc => ?_)
    · replace hf := gx_f hc hf
      exact tm_X8_bit_26 C h_t h_t_row h_t_tape h_t_codes h_t_widths h_t_begins h_t_spanAt h_t_spanLong h_t_spanOf h_t_out V_t_tape hQ  V_t _ _ _ (lv_sub hl [0] rfl) hw hf
    · replace hf := gx_t hc hf
      refine lv_aload_n hx hb dX8_bit_21 rfl (lv_at hl 0 rfl) ?_
      refine lv_iconst (v := 1) hx hb dX8_bit_22 (by decide) ?_
      refine gx_put (ws' := wd_X8_bit cI cZ h_t h_t_row h_t_tape h_t_codes h_t_widths h_t_begins h_t_spanAt h_t_spanLong h_t_spanOf h_t_out (upd V_t 23 1) V_t_tape) C hw 0 rfl rfl lp_X8_bit_123 rfl rfl rfl dX8_bit_23 (fun H locs hw => ?_)
      exact tm_X8_bit_26 C h_t h_t_row h_t_tape h_t_codes h_t_widths h_t_begins h_t_spanAt h_t_spanLong h_t_spanOf h_t_out V_t_tape hQ  (upd V_t 23 1) _ _ _ (lv_sub hl [0] rfl) hw hf
-- LzwFormsModel.number: touched ['t', 't_tape']; used ['t', 't_tape']; mod ['t']; height 1
theorem ln_X8_number_54 : gx_L wsX8_number RX8 54 8 0 := ⟨_, _, _, rfl, by decide +kernel, by decide, Or.inl (by decide +kernel)⟩
theorem kl_X8_number_129 : gx_KV wsX8_number RX8 129 yX8_bit cX8_bit 2 (some .int) wsX8_bit (gx_rm 0) (gx_rm 1) 0 := ⟨gX8_number_X8_bit, ⟨_, rfl⟩, ⟨by decide, by decide, by decide +kernel⟩, ⟨by decide, by decide⟩⟩
def wd_X8_number (cI cZ : ClassId) (h_t h_t_row h_t_tape h_t_codes h_t_widths h_t_begins h_t_spanAt h_t_spanLong h_t_spanOf h_t_out : Nat) (V_t V_t_tape : Nat → Int32) : va_W := [gx_o h_t 8 [none, none, none, none, some (some h_t_row), none, some (some h_t_tape), none, none, none, some (some h_t_codes), some (some h_t_widths), some (some h_t_begins), none, none, none, none, some (some h_t_spanAt), some (some h_t_spanLong), some (some h_t_spanOf), none, none, none, none, some (some h_t_out), none, none, none] V_t, gx_a h_t_tape cZ 3200 V_t_tape]
set_option maxHeartbeats 4000000 in
set_option maxRecDepth 100000 in
theorem tm_X8_number_4 (C : gx_C cX8_number 5 wsX8_number RX8 D cI cZ p s m args c) (h_t h_t_row h_t_tape h_t_codes h_t_widths h_t_begins h_t_spanAt h_t_spanLong h_t_spanOf h_t_out : Nat) (V_t_tape : Nat → Int32) {z : Int32 × (Nat → Int32)} (hQ : gx_Qi cX8_number .int p l e (gx_rm 1) s m args below meth c D A Q (wd_X8_number cI cZ h_t h_t_row h_t_tape h_t_codes h_t_widths h_t_begins h_t_spanAt h_t_spanLong h_t_spanOf h_t_out z.2 V_t_tape) z.1) : ∀ (n : Nat), (∀ (V_t : Nat → Int32) (x1 x2 x3 : Int32) (ls : Array Slot) (H : Heap) (locs : List Loc), lv_has ls 5 [(0, .ref h_t), (1, .int x1), (2, .int x2), (3, .int x3)] → gx_W D A s (wd_X8_number cI cZ h_t h_t_row h_t_tape h_t_codes h_t_widths h_t_begins h_t_spanAt h_t_spanLong h_t_spanOf h_t_out V_t V_t_tape) H locs → fn_X8_number_l4 V_t_tape n V_t x1 x2 x3 = some z → W p l e (gx_rm 1) s m args below meth c H locs 0 0 Q (F0 m 4 ls [])) := by
  have hx := C.1.1
  have hb := C.1.2.1
  intro n
  induction n with
  | zero => intro V_t x1 x2 x3 ls H locs hl hw hf; rw [fn_X8_number_l4] at hf; cases hf
  | succ n ih =>
    intro V_t x1 x2 x3 ls H locs hl hw hf
    rw [fn_X8_number_l4] at hf
    refine lv_iload_n hx hb dX8_number_4 rfl (lv_at hl 3 rfl) ?_
    refine lv_iload_n hx hb dX8_number_5 rfl (lv_at hl 1 rfl) ?_
    refine lv_icmp_ge (tgt := 45) hx hb dX8_number_6 (by decide) (fun hc => ?_) (fun hc => ?_)
    · replace hf := gx_t hc hf
      refine lv_iload_n hx hb dX8_number_45 rfl (lv_at hl 2 rfl) ?_
      obtain rfl := Option.some.inj hf
      exact hQ _ _ _ _ dX8_number_46 rfl hw
    · replace hf := gx_f hc hf
      refine lv_aload_n hx hb dX8_number_9 rfl (lv_at hl 0 rfl) ?_
      obtain ⟨y_10, hy_10, hf⟩ := gx_b hf
      refine gx_calli (As := []) (ws' := wd_X8_number cI cZ h_t h_t_row h_t_tape h_t_codes h_t_widths h_t_begins h_t_spanAt h_t_spanLong h_t_spanOf h_t_out y_10.2 V_t_tape) (isC := [0, 1]) (isR := []) (isP := [0, 1]) C hw (ct_X8_bit l D cI cZ h_t h_t_row h_t_tape h_t_codes h_t_widths h_t_begins h_t_spanAt h_t_spanLong h_t_spanOf h_t_out V_t V_t_tape hy_10) kl_X8_number_129 ⟨rfl, rfl⟩ ⟨rfl, rfl, by decide, by decide, by decide, by decide, rfl⟩ 0 rfl rfl rfl rfl hl.1 (Nat.le_of_ble_eq_true rfl) ⟨Nat.le_refl _, Nat.le_refl _⟩ dX8_number_10 (fun H locs hw => ?_)
      refine lv_istore (lv' := [(4, .int y_10.1), (0, .ref h_t), (1, .int x1), (2, .int x2), (3, .int x3)]) hx hb dX8_number_13 hl (by decide) rfl (fun ls hl => ?_)
      refine lv_aload_n hx hb dX8_number_15 rfl (lv_at hl 1 rfl) ?_
      refine gx_get (v := .int (y_10.2 0)) C hw 0 rfl (gx_gj rfl rfl) ln_X8_number_54 dX8_number_16 ?_
      refine lv_iconst (v := 1) hx hb dX8_number_19 (by decide) ?_
      refine lv_icmp_ne (tgt := 32) hx hb dX8_number_20 (by decide) (fun hc => ?_) (fun hc => ?_)
      · replace hf := gx_f hc hf
        refine lv_iload_n hx hb dX8_number_32 rfl (lv_at hl 3 rfl) ?_
        refine lv_iload hx hb dX8_number_33 (lv_at hl 0 rfl) ?_
        refine lv_iload_n hx hb dX8_number_35 rfl (lv_at hl 4 rfl) ?_
        refine lv_ishl hx hb dX8_number_36 ?_
        refine lv_iadd hx hb dX8_number_37 ?_
        refine lv_istore_n (lv' := [(2, .int (x2 + (y_10.1 <<< (x3 &&& 31)))), (4, .int y_10.1), (0, .ref h_t), (1, .int x1), (3, .int x3)]) hx hb dX8_number_38 rfl hl (by decide) rfl (fun ls hl => ?_)
        refine lv_iinc (v := (x3 + 1)) (lv' := [(3, .int (x3 + 1)), (2, .int (x2 + (y_10.1 <<< (x3 &&& 31)))), (4, .int y_10.1), (0, .ref h_t), (1, .int x1)]) hx hb dX8_number_39 hl (k := 4) rfl rfl (by decide) rfl (fun ls hl => ?_)
        refine lv_goto (tgt := 4) hx hb dX8_number_42 (by decide) ?_
        exact ih y_10.2 x1 (x2 + (y_10.1 <<< (x3 &&& 31))) (x3 + 1) _ _ _ (lv_sub hl [3, 4, 1, 0] rfl) hw hf
      · replace hf := gx_t hc hf
        refine lv_iconst (v := 2) hx hb dX8_number_23 (by decide) ?_
        refine lv_iload_n hx hb dX8_number_24 rfl (lv_at hl 3 rfl) ?_
        refine lv_imul hx hb dX8_number_25 ?_
        refine lv_iload hx hb dX8_number_26 (lv_at hl 0 rfl) ?_
        refine lv_iadd hx hb dX8_number_28 ?_
        refine lv_goto (tgt := 38) hx hb dX8_number_29 (by decide) ?_
        refine lv_istore_n (lv' := [(2, .int ((2 * x2) + y_10.1)), (4, .int y_10.1), (0, .ref h_t), (1, .int x1), (3, .int x3)]) hx hb dX8_number_38 rfl hl (by decide) rfl (fun ls hl => ?_)
        refine lv_iinc (v := (x3 + 1)) (lv' := [(3, .int (x3 + 1)), (2, .int ((2 * x2) + y_10.1)), (4, .int y_10.1), (0, .ref h_t), (1, .int x1)]) hx hb dX8_number_39 hl (k := 4) rfl rfl (by decide) rfl (fun ls hl => ?_)
        refine lv_goto (tgt := 4) hx hb dX8_number_42 (by decide) ?_
        exact ih y_10.2 x1 ((2 * x2) + y_10.1) (x3 + 1) _ _ _ (lv_sub hl [3, 4, 1, 0] rfl) hw hf
set_option maxHeartbeats 4000000 in
set_option maxRecDepth 100000 in
theorem ct_X8_number (l : Launch) (D : va_G) (cI cZ : ClassId) (h_t h_t_row h_t_tape h_t_codes h_t_widths h_t_begins h_t_spanAt h_t_spanLong h_t_spanOf h_t_out : Nat) (V_t V_t_tape : Nat → Int32) (a1 : Int32) {z : Int32 × (Nat → Int32)} (hf : fn_X8_number V_t V_t_tape a1 = some z) : gx_Mi l yX8_number wsX8_number (gx_rm 1) D cI cZ [.ref h_t, .int a1] (wd_X8_number cI cZ h_t h_t_row h_t_tape h_t_codes h_t_widths h_t_begins h_t_spanAt h_t_spanLong h_t_spanOf h_t_out V_t V_t_tape) (wd_X8_number cI cZ h_t h_t_row h_t_tape h_t_codes h_t_widths h_t_begins h_t_spanAt h_t_spanLong h_t_spanOf h_t_out z.2 V_t_tape) z.1 := by
  refine gx_ofi (cc := cX8_number) (own := RX8) (by decide) rfl rfl (Nat.le_of_ble_eq_true rfl) [(0, .ref h_t), (1, .int a1)] rfl ?_
  intro p e s m args below meth c A Q ls C hQ hl hw
  have hx := C.1.1
  have hb := C.1.2.1
  rw [fn_X8_number] at hf
  refine lv_iconst (v := 0) hx hb dX8_number_0 (by decide) ?_
  refine lv_istore_n (lv' := [(2, .int 0), (0, .ref h_t), (1, .int a1)]) hx hb dX8_number_1 rfl hl (by decide) rfl (fun ls hl => ?_)
  refine lv_iconst (v := 0) hx hb dX8_number_2 (by decide) ?_
  refine lv_istore_n (lv' := [(3, .int 0), (2, .int 0), (0, .ref h_t), (1, .int a1)]) hx hb dX8_number_3 rfl hl (by decide) rfl (fun ls hl => ?_)
  exact tm_X8_number_4 C h_t h_t_row h_t_tape h_t_codes h_t_widths h_t_begins h_t_spanAt h_t_spanLong h_t_spanOf h_t_out V_t_tape hQ  gx_fuel V_t a1 0 0 _ _ _ (lv_sub hl [2, 3, 1, 0] rfl) hw hf
-- LzwFormsModel.zeros: touched ['t', 't_tape']; used ['t', 't_tape']; mod ['t']; height 1
theorem ln_X8_zeros_123 : gx_L wsX8_zeros RX8 123 8 23 := ⟨_, _, _, rfl, by decide +kernel, by decide, Or.inl (by decide +kernel)⟩
theorem lp_X8_zeros_123 : gx_LP wsX8_zeros RX8 123 8 23 false .int := ⟨_, _, _, tyX8, rfl, by decide +kernel, by decide, by decide +kernel, tyX8_ok, nmX8, by decide +kernel, by decide +kernel, by decide +kernel⟩
theorem kl_X8_zeros_129 : gx_KV wsX8_zeros RX8 129 yX8_bit cX8_bit 2 (some .int) wsX8_bit (gx_rm 0) (gx_rm 1) 0 := ⟨gX8_zeros_X8_bit, ⟨_, rfl⟩, ⟨by decide, by decide, by decide +kernel⟩, ⟨by decide, by decide⟩⟩
def wd_X8_zeros (cI cZ : ClassId) (h_t h_t_row h_t_tape h_t_codes h_t_widths h_t_begins h_t_spanAt h_t_spanLong h_t_spanOf h_t_out : Nat) (V_t V_t_tape : Nat → Int32) : va_W := [gx_o h_t 8 [none, none, none, none, some (some h_t_row), none, some (some h_t_tape), none, none, none, some (some h_t_codes), some (some h_t_widths), some (some h_t_begins), none, none, none, none, some (some h_t_spanAt), some (some h_t_spanLong), some (some h_t_spanOf), none, none, none, none, some (some h_t_out), none, none, none] V_t, gx_a h_t_tape cZ 3200 V_t_tape]
set_option maxHeartbeats 4000000 in
set_option maxRecDepth 100000 in
theorem tm_X8_zeros_2 (C : gx_C cX8_zeros 3 wsX8_zeros RX8 D cI cZ p s m args c) (h_t h_t_row h_t_tape h_t_codes h_t_widths h_t_begins h_t_spanAt h_t_spanLong h_t_spanOf h_t_out : Nat) (V_t_tape : Nat → Int32) {z : (Nat → Int32)} (hQ : gx_Qv cX8_zeros p l e (gx_rm 1) s m args below meth c D A Q (wd_X8_zeros cI cZ h_t h_t_row h_t_tape h_t_codes h_t_widths h_t_begins h_t_spanAt h_t_spanLong h_t_spanOf h_t_out z V_t_tape)) : ∀ (n : Nat), (∀ (V_t : Nat → Int32) (x1 x2 : Int32) (ls : Array Slot) (H : Heap) (locs : List Loc), lv_has ls 3 [(0, .ref h_t), (1, .int x1), (2, .int x2)] → gx_W D A s (wd_X8_zeros cI cZ h_t h_t_row h_t_tape h_t_codes h_t_widths h_t_begins h_t_spanAt h_t_spanLong h_t_spanOf h_t_out V_t V_t_tape) H locs → fn_X8_zeros_l2 V_t_tape n V_t x1 x2 = some z → W p l e (gx_rm 1) s m args below meth c H locs 0 0 Q (F0 m 2 ls [])) := by
  have hx := C.1.1
  have hb := C.1.2.1
  intro n
  induction n with
  | zero => intro V_t x1 x2 ls H locs hl hw hf; rw [fn_X8_zeros_l2] at hf; cases hf
  | succ n ih =>
    intro V_t x1 x2 ls H locs hl hw hf
    rw [fn_X8_zeros_l2] at hf
    refine lv_iload_n hx hb dX8_zeros_2 rfl (lv_at hl 2 rfl) ?_
    refine lv_iload_n hx hb dX8_zeros_3 rfl (lv_at hl 1 rfl) ?_
    refine lv_icmp_ge (tgt := 34) hx hb dX8_zeros_4 (by decide) (fun hc => ?_) (fun hc => ?_)
    · replace hf := gx_t hc hf
      obtain rfl := Option.some.inj hf
      exact hQ _ _ _ _ dX8_zeros_34 hw
    · replace hf := gx_f hc hf
      refine lv_aload_n hx hb dX8_zeros_7 rfl (lv_at hl 0 rfl) ?_
      refine gx_get (v := .int (V_t 23)) C hw 0 rfl (gx_gj rfl rfl) ln_X8_zeros_123 dX8_zeros_8 ?_
      refine lv_if_ne (tgt := 34) hx hb dX8_zeros_11 (by decide) (fun hc => ?_) (fun hc => ?_)
      · replace hf := gx_f hc hf
        obtain rfl := Option.some.inj hf
        exact hQ _ _ _ _ dX8_zeros_34 hw
      · replace hf := gx_t hc hf
        refine lv_aload_n hx hb dX8_zeros_14 rfl (lv_at hl 0 rfl) ?_
        obtain ⟨y_15, hy_15, hf⟩ := gx_b hf
        refine gx_calli (As := []) (ws' := wd_X8_zeros cI cZ h_t h_t_row h_t_tape h_t_codes h_t_widths h_t_begins h_t_spanAt h_t_spanLong h_t_spanOf h_t_out y_15.2 V_t_tape) (isC := [0, 1]) (isR := []) (isP := [0, 1]) C hw (ct_X8_bit l D cI cZ h_t h_t_row h_t_tape h_t_codes h_t_widths h_t_begins h_t_spanAt h_t_spanLong h_t_spanOf h_t_out V_t V_t_tape hy_15) kl_X8_zeros_129 ⟨rfl, rfl⟩ ⟨rfl, rfl, by decide, by decide, by decide, by decide, rfl⟩ 0 rfl rfl rfl rfl hl.1 (Nat.le_of_ble_eq_true rfl) ⟨Nat.le_refl _, Nat.le_refl _⟩ dX8_zeros_15 (fun H locs hw => ?_)
        refine lv_iconst (v := 1) hx hb dX8_zeros_18 (by decide) ?_
        refine lv_icmp_ne (tgt := 28) hx hb dX8_zeros_19 (by decide) (fun hc => ?_) (fun hc => ?_)
        · replace hf := gx_f hc hf
          refine lv_iinc (v := (x2 + 1)) (lv' := [(2, .int (x2 + 1)), (0, .ref h_t), (1, .int x1)]) hx hb dX8_zeros_28 hl (k := 2) rfl rfl (by decide) rfl (fun ls hl => ?_)
          refine lv_goto (tgt := 2) hx hb dX8_zeros_31 (by decide) ?_
          exact ih y_15.2 x1 (x2 + 1) _ _ _ (lv_sub hl [1, 2, 0] rfl) hw hf
        · replace hf := gx_t hc hf
          refine lv_aload_n hx hb dX8_zeros_22 rfl (lv_at hl 0 rfl) ?_
          refine lv_bipush (v := 6) hx hb dX8_zeros_23 (by decide) ?_
          refine gx_put (ws' := wd_X8_zeros cI cZ h_t h_t_row h_t_tape h_t_codes h_t_widths h_t_begins h_t_spanAt h_t_spanLong h_t_spanOf h_t_out (upd y_15.2 23 6) V_t_tape) C hw 0 rfl rfl lp_X8_zeros_123 rfl rfl rfl dX8_zeros_25 (fun H locs hw => ?_)
          refine lv_iinc (v := (x2 + 1)) (lv' := [(2, .int (x2 + 1)), (0, .ref h_t), (1, .int x1)]) hx hb dX8_zeros_28 hl (k := 2) rfl rfl (by decide) rfl (fun ls hl => ?_)
          refine lv_goto (tgt := 2) hx hb dX8_zeros_31 (by decide) ?_
          exact ih (upd y_15.2 23 6) x1 (x2 + 1) _ _ _ (lv_sub hl [1, 2, 0] rfl) hw hf
set_option maxHeartbeats 4000000 in
set_option maxRecDepth 100000 in
theorem ct_X8_zeros (l : Launch) (D : va_G) (cI cZ : ClassId) (h_t h_t_row h_t_tape h_t_codes h_t_widths h_t_begins h_t_spanAt h_t_spanLong h_t_spanOf h_t_out : Nat) (V_t V_t_tape : Nat → Int32) (a1 : Int32) {z : (Nat → Int32)} (hf : fn_X8_zeros V_t V_t_tape a1 = some z) : gx_Mv l yX8_zeros wsX8_zeros (gx_rm 1) D cI cZ [.ref h_t, .int a1] (wd_X8_zeros cI cZ h_t h_t_row h_t_tape h_t_codes h_t_widths h_t_begins h_t_spanAt h_t_spanLong h_t_spanOf h_t_out V_t V_t_tape) (wd_X8_zeros cI cZ h_t h_t_row h_t_tape h_t_codes h_t_widths h_t_begins h_t_spanAt h_t_spanLong h_t_spanOf h_t_out z V_t_tape) := by
  refine gx_ofv (cc := cX8_zeros) (own := RX8) (by decide) rfl rfl (Nat.le_of_ble_eq_true rfl) [(0, .ref h_t), (1, .int a1)] rfl ?_
  intro p e s m args below meth c A Q ls C hQ hl hw
  have hx := C.1.1
  have hb := C.1.2.1
  rw [fn_X8_zeros] at hf
  refine lv_iconst (v := 0) hx hb dX8_zeros_0 (by decide) ?_
  refine lv_istore_n (lv' := [(2, .int 0), (0, .ref h_t), (1, .int a1)]) hx hb dX8_zeros_1 rfl hl (by decide) rfl (fun ls hl => ?_)
  exact tm_X8_zeros_2 C h_t h_t_row h_t_tape h_t_codes h_t_widths h_t_begins h_t_spanAt h_t_spanLong h_t_spanOf h_t_out V_t_tape hQ  gx_fuel V_t a1 0 _ _ _ (lv_sub hl [1, 2, 0] rfl) hw hf
-- LzwFormsModel.give: touched ['t', 't_spanAt', 't_spanLong', 't_out']; used ['t', 't_spanAt', 't_spanLong', 't_out']; mod ['t', 't_spanAt', 't_spanLong', 't_out']; height 2
theorem ln_X8_give_39 : gx_L wsX8_give RX8 39 8 17 := ⟨_, _, _, rfl, by decide +kernel, by decide, Or.inl (by decide +kernel)⟩
theorem ln_X8_give_42 : gx_L wsX8_give RX8 42 8 18 := ⟨_, _, _, rfl, by decide +kernel, by decide, Or.inl (by decide +kernel)⟩
theorem ln_X8_give_48 : gx_L wsX8_give RX8 48 8 24 := ⟨_, _, _, rfl, by decide +kernel, by decide, Or.inl (by decide +kernel)⟩
theorem ln_X8_give_68 : gx_L wsX8_give RX8 68 8 9 := ⟨_, _, _, rfl, by decide +kernel, by decide, Or.inl (by decide +kernel)⟩
theorem lp_X8_give_68 : gx_LP wsX8_give RX8 68 8 9 false .int := ⟨_, _, _, tyX8, rfl, by decide +kernel, by decide, by decide +kernel, tyX8_ok, nmX8, by decide +kernel, by decide +kernel, by decide +kernel⟩
theorem ln_X8_give_123 : gx_L wsX8_give RX8 123 8 23 := ⟨_, _, _, rfl, by decide +kernel, by decide, Or.inl (by decide +kernel)⟩
theorem lp_X8_give_123 : gx_LP wsX8_give RX8 123 8 23 false .int := ⟨_, _, _, tyX8, rfl, by decide +kernel, by decide, by decide +kernel, tyX8_ok, nmX8, by decide +kernel, by decide +kernel, by decide +kernel⟩
theorem ln_X8_give_132 : gx_L wsX8_give RX8 132 8 26 := ⟨_, _, _, rfl, by decide +kernel, by decide, Or.inl (by decide +kernel)⟩
theorem lp_X8_give_132 : gx_LP wsX8_give RX8 132 8 26 false .int := ⟨_, _, _, tyX8, rfl, by decide +kernel, by decide, by decide +kernel, tyX8_ok, nmX8, by decide +kernel, by decide +kernel, by decide +kernel⟩
theorem ln_X8_give_135 : gx_L wsX8_give RX8 135 8 27 := ⟨_, _, _, rfl, by decide +kernel, by decide, Or.inl (by decide +kernel)⟩
theorem lp_X8_give_135 : gx_LP wsX8_give RX8 135 8 27 false .int := ⟨_, _, _, tyX8, rfl, by decide +kernel, by decide, by decide +kernel, tyX8_ok, nmX8, by decide +kernel, by decide +kernel, by decide +kernel⟩
theorem ln_X8_give_138 : gx_L wsX8_give RX8 138 8 25 := ⟨_, _, _, rfl, by decide +kernel, by decide, Or.inl (by decide +kernel)⟩
theorem lp_X8_give_138 : gx_LP wsX8_give RX8 138 8 25 false .int := ⟨_, _, _, tyX8, rfl, by decide +kernel, by decide, by decide +kernel, tyX8_ok, nmX8, by decide +kernel, by decide +kernel, by decide +kernel⟩
theorem kl_X8_give_64 : gx_KV wsX8_give RX8 64 yX8_firstNumber cX8_firstNumber 1 (some .int) wsX8_firstNumber (gx_rm 0) (gx_rm 2) 0 := ⟨gX8_give_X8_firstNumber, ⟨_, rfl⟩, ⟨by decide, by decide, by decide +kernel⟩, ⟨by decide, by decide⟩⟩
theorem kl_X8_give_71 : gx_KV wsX8_give RX8 71 yX8_lastNumber cX8_lastNumber 1 (some .int) wsX8_lastNumber (gx_rm 0) (gx_rm 2) 0 := ⟨gX8_give_X8_lastNumber, ⟨_, rfl⟩, ⟨by decide, by decide, by decide +kernel⟩, ⟨by decide, by decide⟩⟩
theorem kl_X8_give_74 : gx_KV wsX8_give RX8 74 yX8_countNow cX8_countNow 2 (some .int) wsX8_countNow (gx_rm 1) (gx_rm 2) 0 := ⟨gX8_give_X8_countNow, ⟨_, rfl⟩, ⟨by decide, by decide, by decide +kernel⟩, ⟨by decide, by decide⟩⟩
def wd_X8_give (cI cZ : ClassId) (h_t h_t_row h_t_tape h_t_codes h_t_widths h_t_begins h_t_spanAt h_t_spanLong h_t_spanOf h_t_out : Nat) (V_t V_t_spanAt V_t_spanLong V_t_out : Nat → Int32) : va_W := [gx_o h_t 8 [none, none, none, none, some (some h_t_row), none, some (some h_t_tape), none, none, none, some (some h_t_codes), some (some h_t_widths), some (some h_t_begins), none, none, none, none, some (some h_t_spanAt), some (some h_t_spanLong), some (some h_t_spanOf), none, none, none, none, some (some h_t_out), none, none, none] V_t, gx_a h_t_spanAt cI 300 V_t_spanAt, gx_a h_t_spanLong cI 300 V_t_spanLong, gx_a h_t_out cI 300 V_t_out]
set_option maxHeartbeats 4000000 in
set_option maxRecDepth 100000 in
theorem tm_X8_give_238 (C : gx_C cX8_give 8 wsX8_give RX8 D cI cZ p s m args c) (h_t h_t_row h_t_tape h_t_codes h_t_widths h_t_begins h_t_spanAt h_t_spanLong h_t_spanOf h_t_out : Nat) {z : (Nat → Int32) × (Nat → Int32) × (Nat → Int32) × (Nat → Int32)} (hQ : gx_Qv cX8_give p l e (gx_rm 2) s m args below meth c D A Q (wd_X8_give cI cZ h_t h_t_row h_t_tape h_t_codes h_t_widths h_t_begins h_t_spanAt h_t_spanLong h_t_spanOf h_t_out z.1 z.2.1 z.2.2.1 z.2.2.2)) : ∀ (V_t V_t_spanAt V_t_spanLong V_t_out : Nat → Int32) (x5 x6 : Int32) (ls : Array Slot) (H : Heap) (locs : List Loc), lv_has ls 8 [(0, .ref h_t), (5, .int x5), (6, .int x6)] → gx_W D A s (wd_X8_give cI cZ h_t h_t_row h_t_tape h_t_codes h_t_widths h_t_begins h_t_spanAt h_t_spanLong h_t_spanOf h_t_out V_t V_t_spanAt V_t_spanLong V_t_out) H locs → fn_X8_give_j238 V_t V_t_spanAt V_t_spanLong V_t_out x5 x6 = some z → W p l e (gx_rm 2) s m args below meth c H locs 0 0 Q (F0 m 238 ls []) := by
  have hx := C.1.1
  have hb := C.1.2.1
  intro V_t V_t_spanAt V_t_spanLong V_t_out x5 x6 ls H locs hl hw hf
  rw [fn_X8_give_j238] at hf
  refine lv_aload_n hx hb dX8_give_238 rfl (lv_at hl 0 rfl) ?_
  refine lv_iload hx hb dX8_give_239 (lv_at hl 2 rfl) ?_
  refine gx_put (ws' := wd_X8_give cI cZ h_t h_t_row h_t_tape h_t_codes h_t_widths h_t_begins h_t_spanAt h_t_spanLong h_t_spanOf h_t_out (upd V_t 26 x6) V_t_spanAt V_t_spanLong V_t_out) C hw 0 rfl rfl lp_X8_give_132 rfl rfl rfl dX8_give_241 (fun H locs hw => ?_)
  refine lv_aload_n hx hb dX8_give_244 rfl (lv_at hl 0 rfl) ?_
  refine lv_iload hx hb dX8_give_245 (lv_at hl 1 rfl) ?_
  refine gx_put (ws' := wd_X8_give cI cZ h_t h_t_row h_t_tape h_t_codes h_t_widths h_t_begins h_t_spanAt h_t_spanLong h_t_spanOf h_t_out (upd (upd V_t 26 x6) 27 x5) V_t_spanAt V_t_spanLong V_t_out) C hw 0 rfl rfl lp_X8_give_135 rfl rfl rfl dX8_give_247 (fun H locs hw => ?_)
  refine lv_aload_n hx hb dX8_give_250 rfl (lv_at hl 0 rfl) ?_
  refine lv_dup hx hb dX8_give_251 rfl ?_
  refine gx_get (v := .int (V_t 9)) C hw 0 rfl (gx_gj rfl ((pk_un (by decide)).trans ((pk_un (by decide)).trans rfl))) ln_X8_give_68 dX8_give_252 ?_
  refine lv_iconst (v := 1) hx hb dX8_give_255 (by decide) ?_
  refine lv_iadd hx hb dX8_give_256 ?_
  refine gx_put (ws' := wd_X8_give cI cZ h_t h_t_row h_t_tape h_t_codes h_t_widths h_t_begins h_t_spanAt h_t_spanLong h_t_spanOf h_t_out (upd (upd (upd V_t 26 x6) 27 x5) 9 ((V_t 9) + 1)) V_t_spanAt V_t_spanLong V_t_out) C hw 0 rfl rfl lp_X8_give_68 rfl rfl rfl dX8_give_257 (fun H locs hw => ?_)
  obtain rfl := Option.some.inj hf
  exact hQ _ _ _ _ dX8_give_260 hw
set_option maxHeartbeats 4000000 in
set_option maxRecDepth 100000 in
theorem tm_X8_give_194 (C : gx_C cX8_give 8 wsX8_give RX8 D cI cZ p s m args c) (h_t h_t_row h_t_tape h_t_codes h_t_widths h_t_begins h_t_spanAt h_t_spanLong h_t_spanOf h_t_out : Nat) {z : (Nat → Int32) × (Nat → Int32) × (Nat → Int32) × (Nat → Int32)} (hQ : gx_Qv cX8_give p l e (gx_rm 2) s m args below meth c D A Q (wd_X8_give cI cZ h_t h_t_row h_t_tape h_t_codes h_t_widths h_t_begins h_t_spanAt h_t_spanLong h_t_spanOf h_t_out z.1 z.2.1 z.2.2.1 z.2.2.2)) : ∀ (V_t V_t_spanAt V_t_spanLong V_t_out : Nat → Int32) (x2 x3 x5 x6 : Int32) (ls : Array Slot) (H : Heap) (locs : List Loc), lv_has ls 8 [(0, .ref h_t), (2, .int x2), (3, .int x3), (5, .int x5), (6, .int x6)] → gx_W D A s (wd_X8_give cI cZ h_t h_t_row h_t_tape h_t_codes h_t_widths h_t_begins h_t_spanAt h_t_spanLong h_t_spanOf h_t_out V_t V_t_spanAt V_t_spanLong V_t_out) H locs → fn_X8_give_j194 V_t V_t_spanAt V_t_spanLong V_t_out x2 x3 x5 x6 = some z → W p l e (gx_rm 2) s m args below meth c H locs 0 0 Q (F0 m 194 ls []) := by
  have hx := C.1.1
  have hb := C.1.2.1
  intro V_t V_t_spanAt V_t_spanLong V_t_out x2 x3 x5 x6 ls H locs hl hw hf
  rw [fn_X8_give_j194] at hf
  refine lv_iload_n hx hb dX8_give_194 rfl (lv_at hl 1 rfl) ?_
  refine lv_if_ne (tgt := 238) hx hb dX8_give_195 (by decide) (fun hc => ?_) (fun hc => ?_)
  · replace hf := gx_f hc hf
    exact tm_X8_give_238 C h_t h_t_row h_t_tape h_t_codes h_t_widths h_t_begins h_t_spanAt h_t_spanLong h_t_spanOf h_t_out hQ  V_t V_t_spanAt V_t_spanLong V_t_out x5 x6 _ _ _ (lv_sub hl [0, 3, 4] rfl) hw hf
  · replace hf := gx_t hc hf
    refine lv_iload_n hx hb dX8_give_198 rfl (lv_at hl 2 rfl) ?_
    refine lv_aload_n hx hb dX8_give_199 rfl (lv_at hl 0 rfl) ?_
    obtain ⟨y_200, hy_200, hf⟩ := gx_b hf
    refine gx_calli (As := []) (ws' := wd_X8_give cI cZ h_t h_t_row h_t_tape h_t_codes h_t_widths h_t_begins h_t_spanAt h_t_spanLong h_t_spanOf h_t_out V_t V_t_spanAt V_t_spanLong V_t_out) (isC := [0]) (isR := [1, 2, 3]) (isP := [3, 0, 1, 2]) C hw (ct_X8_lastNumber l D cI cZ h_t h_t_row h_t_tape h_t_codes h_t_widths h_t_begins h_t_spanAt h_t_spanLong h_t_spanOf h_t_out V_t hy_200) kl_X8_give_71 ⟨rfl, rfl⟩ ⟨rfl, rfl, by decide, by decide, by decide, by decide, rfl⟩ 0 rfl rfl rfl rfl hl.1 (Nat.le_of_ble_eq_true rfl) ⟨Nat.le_refl _, Nat.le_refl _⟩ dX8_give_200 (fun H locs hw => ?_)
    refine lv_icmp_ge (tgt := 238) hx hb dX8_give_203 (by decide) (fun hc => ?_) (fun hc => ?_)
    · replace hf := gx_t hc hf
      exact tm_X8_give_238 C h_t h_t_row h_t_tape h_t_codes h_t_widths h_t_begins h_t_spanAt h_t_spanLong h_t_spanOf h_t_out hQ  V_t V_t_spanAt V_t_spanLong V_t_out x5 x6 _ _ _ (lv_sub hl [0, 3, 4] rfl) hw hf
    · replace hf := gx_f hc hf
      refine lv_aload_n hx hb dX8_give_206 rfl (lv_at hl 0 rfl) ?_
      refine gx_get C hw 0 rfl (gx_gr rfl) ln_X8_give_39 dX8_give_207 ?_
      refine lv_iload_n hx hb dX8_give_210 rfl (lv_at hl 2 rfl) ?_
      refine lv_aload_n hx hb dX8_give_211 rfl (lv_at hl 0 rfl) ?_
      obtain ⟨y_212, hy_212, hf⟩ := gx_b hf
      refine gx_calli (As := []) (ws' := wd_X8_give cI cZ h_t h_t_row h_t_tape h_t_codes h_t_widths h_t_begins h_t_spanAt h_t_spanLong h_t_spanOf h_t_out V_t V_t_spanAt V_t_spanLong V_t_out) (isC := [0]) (isR := [1, 2, 3]) (isP := [3, 0, 1, 2]) C hw (ct_X8_firstNumber l D cI cZ h_t h_t_row h_t_tape h_t_codes h_t_widths h_t_begins h_t_spanAt h_t_spanLong h_t_spanOf h_t_out V_t hy_212) kl_X8_give_64 ⟨rfl, rfl⟩ ⟨rfl, rfl, by decide, by decide, by decide, by decide, rfl⟩ 0 rfl rfl rfl rfl hl.1 (Nat.le_of_ble_eq_true rfl) ⟨Nat.le_refl _, Nat.le_refl _⟩ dX8_give_212 (fun H locs hw => ?_)
      refine lv_isub hx hb dX8_give_215 ?_
      refine lv_aload_n hx hb dX8_give_216 rfl (lv_at hl 0 rfl) ?_
      refine gx_get (v := .int (V_t 26)) C hw 0 rfl (gx_gj rfl rfl) ln_X8_give_132 dX8_give_217 ?_
      obtain ⟨hi_220, hf⟩ := gx_g hf
      refine gx_iast (ws' := wd_X8_give cI cZ h_t h_t_row h_t_tape h_t_codes h_t_widths h_t_begins h_t_spanAt h_t_spanLong h_t_spanOf h_t_out V_t (upd V_t_spanAt (x3 - y_212).toNatClampNeg (V_t 26)) V_t_spanLong V_t_out) C hw 1 rfl hi_220 rfl dX8_give_220 (fun H locs hw => ?_)
      refine lv_aload_n hx hb dX8_give_221 rfl (lv_at hl 0 rfl) ?_
      refine gx_get C hw 0 rfl (gx_gr rfl) ln_X8_give_42 dX8_give_222 ?_
      refine lv_iload_n hx hb dX8_give_225 rfl (lv_at hl 2 rfl) ?_
      refine lv_aload_n hx hb dX8_give_226 rfl (lv_at hl 0 rfl) ?_
      obtain ⟨y_227, hy_227, hf⟩ := gx_b hf
      refine gx_calli (As := []) (ws' := wd_X8_give cI cZ h_t h_t_row h_t_tape h_t_codes h_t_widths h_t_begins h_t_spanAt h_t_spanLong h_t_spanOf h_t_out V_t (upd V_t_spanAt (x3 - y_212).toNatClampNeg (V_t 26)) V_t_spanLong V_t_out) (isC := [0]) (isR := [1, 2, 3]) (isP := [3, 0, 1, 2]) C hw (ct_X8_firstNumber l D cI cZ h_t h_t_row h_t_tape h_t_codes h_t_widths h_t_begins h_t_spanAt h_t_spanLong h_t_spanOf h_t_out V_t hy_227) kl_X8_give_64 ⟨rfl, rfl⟩ ⟨rfl, rfl, by decide, by decide, by decide, by decide, rfl⟩ 0 rfl rfl rfl rfl hl.1 (Nat.le_of_ble_eq_true rfl) ⟨Nat.le_refl _, Nat.le_refl _⟩ dX8_give_227 (fun H locs hw => ?_)
      refine lv_isub hx hb dX8_give_230 ?_
      refine lv_aload_n hx hb dX8_give_231 rfl (lv_at hl 0 rfl) ?_
      refine gx_get (v := .int (V_t 27)) C hw 0 rfl (gx_gj rfl rfl) ln_X8_give_135 dX8_give_232 ?_
      refine lv_iconst (v := 1) hx hb dX8_give_235 (by decide) ?_
      refine lv_iadd hx hb dX8_give_236 ?_
      obtain ⟨hi_237, hf⟩ := gx_g hf
      refine gx_iast (ws' := wd_X8_give cI cZ h_t h_t_row h_t_tape h_t_codes h_t_widths h_t_begins h_t_spanAt h_t_spanLong h_t_spanOf h_t_out V_t (upd V_t_spanAt (x3 - y_212).toNatClampNeg (V_t 26)) (upd V_t_spanLong (x3 - y_227).toNatClampNeg ((V_t 27) + 1)) V_t_out) C hw 2 rfl hi_237 rfl dX8_give_237 (fun H locs hw => ?_)
      exact tm_X8_give_238 C h_t h_t_row h_t_tape h_t_codes h_t_widths h_t_begins h_t_spanAt h_t_spanLong h_t_spanOf h_t_out hQ  V_t (upd V_t_spanAt (x3 - y_212).toNatClampNeg (V_t 26)) (upd V_t_spanLong (x3 - y_227).toNatClampNeg ((V_t 27) + 1)) V_t_out x5 x6 _ _ _ (lv_sub hl [0, 3, 4] rfl) hw hf
set_option maxHeartbeats 4000000 in
set_option maxRecDepth 100000 in
theorem tm_X8_give_177 (C : gx_C cX8_give 8 wsX8_give RX8 D cI cZ p s m args c) (h_t h_t_row h_t_tape h_t_codes h_t_widths h_t_begins h_t_spanAt h_t_spanLong h_t_spanOf h_t_out : Nat) {z : (Nat → Int32) × (Nat → Int32) × (Nat → Int32) × (Nat → Int32)} (hQ : gx_Qv cX8_give p l e (gx_rm 2) s m args below meth c D A Q (wd_X8_give cI cZ h_t h_t_row h_t_tape h_t_codes h_t_widths h_t_begins h_t_spanAt h_t_spanLong h_t_spanOf h_t_out z.1 z.2.1 z.2.2.1 z.2.2.2)) (K117 : (Nat → Int32) → (Nat → Int32) → (Nat → Int32) → (Nat → Int32) → Int32 → Int32 → Int32 → Int32 → Int32 → Int32 → Int32 → Option ((Nat → Int32) × (Nat → Int32) × (Nat → Int32) × (Nat → Int32))) (hK117 : ∀ (V_t V_t_spanAt V_t_spanLong V_t_out : Nat → Int32) (x1 x2 x3 x4 x5 x6 x7 : Int32) (ls : Array Slot) (H : Heap) (locs : List Loc), lv_has ls 8 [(0, .ref h_t), (1, .int x1), (2, .int x2), (3, .int x3), (4, .int x4), (5, .int x5), (6, .int x6), (7, .int x7)] → gx_W D A s (wd_X8_give cI cZ h_t h_t_row h_t_tape h_t_codes h_t_widths h_t_begins h_t_spanAt h_t_spanLong h_t_spanOf h_t_out V_t V_t_spanAt V_t_spanLong V_t_out) H locs → K117 V_t V_t_spanAt V_t_spanLong V_t_out x1 x2 x3 x4 x5 x6 x7 = some z → W p l e (gx_rm 2) s m args below meth c H locs 0 0 Q (F0 m 117 ls [])) : ∀ (V_t V_t_spanAt V_t_spanLong V_t_out : Nat → Int32) (x1 x2 x3 x4 x5 x6 x7 s1 s2 : Int32) (ls : Array Slot) (H : Heap) (locs : List Loc), lv_has ls 8 [(0, .ref h_t), (1, .int x1), (2, .int x2), (3, .int x3), (4, .int x4), (5, .int x5), (6, .int x6), (7, .int x7)] → gx_W D A s (wd_X8_give cI cZ h_t h_t_row h_t_tape h_t_codes h_t_widths h_t_begins h_t_spanAt h_t_spanLong h_t_spanOf h_t_out V_t V_t_spanAt V_t_spanLong V_t_out) H locs → fn_X8_give_j177 K117 V_t V_t_spanAt V_t_spanLong V_t_out x1 x2 x3 x4 x5 x6 x7 s1 s2 = some z → W p l e (gx_rm 2) s m args below meth c H locs 0 0 Q (F0 m 177 ls [.int s2, .int s1, .ref h_t_out]) := by
  have hx := C.1.1
  have hb := C.1.2.1
  intro V_t V_t_spanAt V_t_spanLong V_t_out x1 x2 x3 x4 x5 x6 x7 s1 s2 ls H locs hl hw hf
  rw [fn_X8_give_j177] at hf
  obtain ⟨hi_177, hf⟩ := gx_g hf
  refine gx_iast (ws' := wd_X8_give cI cZ h_t h_t_row h_t_tape h_t_codes h_t_widths h_t_begins h_t_spanAt h_t_spanLong h_t_spanOf h_t_out V_t V_t_spanAt V_t_spanLong (upd V_t_out s1.toNatClampNeg s2)) C hw 3 rfl hi_177 rfl dX8_give_177 (fun H locs hw => ?_)
  refine lv_aload_n hx hb dX8_give_178 rfl (lv_at hl 0 rfl) ?_
  refine lv_dup hx hb dX8_give_179 rfl ?_
  refine gx_get (v := .int (V_t 25)) C hw 0 rfl (gx_gj rfl rfl) ln_X8_give_138 dX8_give_180 ?_
  refine lv_iconst (v := 1) hx hb dX8_give_183 (by decide) ?_
  refine lv_iadd hx hb dX8_give_184 ?_
  refine gx_put (ws' := wd_X8_give cI cZ h_t h_t_row h_t_tape h_t_codes h_t_widths h_t_begins h_t_spanAt h_t_spanLong h_t_spanOf h_t_out (upd V_t 25 ((V_t 25) + 1)) V_t_spanAt V_t_spanLong (upd V_t_out s1.toNatClampNeg s2)) C hw 0 rfl rfl lp_X8_give_138 rfl rfl rfl dX8_give_185 (fun H locs hw => ?_)
  refine lv_iinc (v := (x7 + 1)) (lv' := [(7, .int (x7 + 1)), (0, .ref h_t), (1, .int x1), (2, .int x2), (3, .int x3), (4, .int x4), (5, .int x5), (6, .int x6)]) hx hb dX8_give_188 hl (k := 7) rfl rfl (by decide) rfl (fun ls hl => ?_)
  refine lv_goto (tgt := 117) hx hb dX8_give_191 (by decide) ?_
  exact hK117 (upd V_t 25 ((V_t 25) + 1)) V_t_spanAt V_t_spanLong (upd V_t_out s1.toNatClampNeg s2) x1 x2 x3 x4 x5 x6 (x7 + 1) _ _ _ (lv_sub hl [1, 2, 3, 4, 5, 6, 7, 0] rfl) hw hf
set_option maxHeartbeats 4000000 in
set_option maxRecDepth 100000 in
theorem tm_X8_give_117 (C : gx_C cX8_give 8 wsX8_give RX8 D cI cZ p s m args c) (h_t h_t_row h_t_tape h_t_codes h_t_widths h_t_begins h_t_spanAt h_t_spanLong h_t_spanOf h_t_out : Nat) {z : (Nat → Int32) × (Nat → Int32) × (Nat → Int32) × (Nat → Int32)} (hQ : gx_Qv cX8_give p l e (gx_rm 2) s m args below meth c D A Q (wd_X8_give cI cZ h_t h_t_row h_t_tape h_t_codes h_t_widths h_t_begins h_t_spanAt h_t_spanLong h_t_spanOf h_t_out z.1 z.2.1 z.2.2.1 z.2.2.2)) : ∀ (n : Nat), (∀ (V_t V_t_spanAt V_t_spanLong V_t_out : Nat → Int32) (x1 x2 x3 x4 x5 x6 x7 : Int32) (ls : Array Slot) (H : Heap) (locs : List Loc), lv_has ls 8 [(0, .ref h_t), (1, .int x1), (2, .int x2), (3, .int x3), (4, .int x4), (5, .int x5), (6, .int x6), (7, .int x7)] → gx_W D A s (wd_X8_give cI cZ h_t h_t_row h_t_tape h_t_codes h_t_widths h_t_begins h_t_spanAt h_t_spanLong h_t_spanOf h_t_out V_t V_t_spanAt V_t_spanLong V_t_out) H locs → fn_X8_give_l117 n V_t V_t_spanAt V_t_spanLong V_t_out x1 x2 x3 x4 x5 x6 x7 = some z → W p l e (gx_rm 2) s m args below meth c H locs 0 0 Q (F0 m 117 ls [])) := by
  have hx := C.1.1
  have hb := C.1.2.1
  intro n
  induction n with
  | zero => intro V_t V_t_spanAt V_t_spanLong V_t_out x1 x2 x3 x4 x5 x6 x7 ls H locs hl hw hf; rw [fn_X8_give_l117] at hf; cases hf
  | succ n ih =>
    intro V_t V_t_spanAt V_t_spanLong V_t_out x1 x2 x3 x4 x5 x6 x7 ls H locs hl hw hf
    rw [fn_X8_give_l117] at hf
    refine lv_iload hx hb dX8_give_117 (lv_at hl 7 rfl) ?_
    refine lv_iload hx hb dX8_give_119 (lv_at hl 5 rfl) ?_
    refine lv_icmp_ge (tgt := 194) hx hb dX8_give_121 (by decide) (fun hc => ?_) (fun hc => ?_)
    · replace hf := gx_t hc hf
      exact tm_X8_give_194 C h_t h_t_row h_t_tape h_t_codes h_t_widths h_t_begins h_t_spanAt h_t_spanLong h_t_spanOf h_t_out hQ  V_t V_t_spanAt V_t_spanLong V_t_out x2 x3 x5 x6 _ _ _ (lv_sub hl [0, 2, 3, 5, 6] rfl) hw hf
    · replace hf := gx_f hc hf
      refine lv_aload_n hx hb dX8_give_124 rfl (lv_at hl 0 rfl) ?_
      refine gx_get (v := .int (V_t 23)) C hw 0 rfl (gx_gj rfl rfl) ln_X8_give_123 dX8_give_125 ?_
      refine lv_if_ne (tgt := 194) hx hb dX8_give_128 (by decide) (fun hc => ?_) (fun hc => ?_)
      · replace hf := gx_f hc hf
        exact tm_X8_give_194 C h_t h_t_row h_t_tape h_t_codes h_t_widths h_t_begins h_t_spanAt h_t_spanLong h_t_spanOf h_t_out hQ  V_t V_t_spanAt V_t_spanLong V_t_out x2 x3 x5 x6 _ _ _ (lv_sub hl [0, 2, 3, 5, 6] rfl) hw hf
      · replace hf := gx_t hc hf
        refine lv_aload_n hx hb dX8_give_131 rfl (lv_at hl 0 rfl) ?_
        refine gx_get (v := .int (V_t 25)) C hw 0 rfl (gx_gj rfl rfl) ln_X8_give_138 dX8_give_132 ?_
        refine lv_sipush (v := 300) hx hb dX8_give_135 (by decide) ?_
        refine lv_icmp_ne (tgt := 149) hx hb dX8_give_138 (by decide) (fun hc => ?_) (fun hc => ?_)
        · replace hf := gx_f hc hf
          refine lv_aload_n hx hb dX8_give_149 rfl (lv_at hl 0 rfl) ?_
          refine gx_get C hw 0 rfl (gx_gr rfl) ln_X8_give_48 dX8_give_150 ?_
          refine lv_aload_n hx hb dX8_give_153 rfl (lv_at hl 0 rfl) ?_
          refine gx_get (v := .int (V_t 25)) C hw 0 rfl (gx_gj rfl rfl) ln_X8_give_138 dX8_give_154 ?_
          refine lv_iload hx hb dX8_give_157 (lv_at hl 4 rfl) ?_
          refine lv_iconst (v := (-1)) hx hb dX8_give_159 (by decide) ?_
          refine lv_icmp_ne (tgt := 167) hx hb dX8_give_160 (by decide) (fun hc => ?_) (fun hc => ?_)
          · replace hf := gx_f hc hf
            refine lv_aload_n hx hb dX8_give_167 rfl (lv_at hl 0 rfl) ?_
            refine gx_get C hw 0 rfl (gx_gr rfl) ln_X8_give_48 dX8_give_168 ?_
            refine lv_iload hx hb dX8_give_171 (lv_at hl 4 rfl) ?_
            refine lv_iload hx hb dX8_give_173 (lv_at hl 7 rfl) ?_
            refine lv_iadd hx hb dX8_give_175 ?_
            obtain ⟨hi_176, hf⟩ := gx_g hf
            refine gx_iald C hw 3 rfl hi_176 dX8_give_176 ?_
            exact tm_X8_give_177 C h_t h_t_row h_t_tape h_t_codes h_t_widths h_t_begins h_t_spanAt h_t_spanLong h_t_spanOf h_t_out hQ (fn_X8_give_l117 n) ih V_t V_t_spanAt V_t_spanLong V_t_out x1 x2 x3 x4 x5 x6 x7 (V_t 25) (V_t_out (x4 + x7).toNatClampNeg) _ _ _ (lv_sub hl [0, 1, 2, 3, 4, 5, 6, 7] rfl) hw hf
          · replace hf := gx_t hc hf
            refine lv_iload_n hx hb dX8_give_163 rfl (lv_at hl 1 rfl) ?_
            refine lv_goto (tgt := 177) hx hb dX8_give_164 (by decide) ?_
            exact tm_X8_give_177 C h_t h_t_row h_t_tape h_t_codes h_t_widths h_t_begins h_t_spanAt h_t_spanLong h_t_spanOf h_t_out hQ (fn_X8_give_l117 n) ih V_t V_t_spanAt V_t_spanLong V_t_out x1 x2 x3 x4 x5 x6 x7 (V_t 25) x1 _ _ _ (lv_sub hl [0, 1, 2, 3, 4, 5, 6, 7] rfl) hw hf
        · replace hf := gx_t hc hf
          refine lv_aload_n hx hb dX8_give_141 rfl (lv_at hl 0 rfl) ?_
          refine lv_iconst (v := 5) hx hb dX8_give_142 (by decide) ?_
          refine gx_put (ws' := wd_X8_give cI cZ h_t h_t_row h_t_tape h_t_codes h_t_widths h_t_begins h_t_spanAt h_t_spanLong h_t_spanOf h_t_out (upd V_t 23 5) V_t_spanAt V_t_spanLong V_t_out) C hw 0 rfl rfl lp_X8_give_123 rfl rfl rfl dX8_give_143 (fun H locs hw => ?_)
          refine lv_goto (tgt := 188) hx hb dX8_give_146 (by decide) ?_
          refine lv_iinc (v := (x7 + 1)) (lv' := [(7, .int (x7 + 1)), (0, .ref h_t), (1, .int x1), (2, .int x2), (3, .int x3), (4, .int x4), (5, .int x5), (6, .int x6)]) hx hb dX8_give_188 hl (k := 7) rfl rfl (by decide) rfl (fun ls hl => ?_)
          refine lv_goto (tgt := 117) hx hb dX8_give_191 (by decide) ?_
          exact ih (upd V_t 23 5) V_t_spanAt V_t_spanLong V_t_out x1 x2 x3 x4 x5 x6 (x7 + 1) _ _ _ (lv_sub hl [1, 2, 3, 4, 5, 6, 7, 0] rfl) hw hf
set_option maxHeartbeats 4000000 in
set_option maxRecDepth 100000 in
theorem tm_X8_give_99 (C : gx_C cX8_give 8 wsX8_give RX8 D cI cZ p s m args c) (h_t h_t_row h_t_tape h_t_codes h_t_widths h_t_begins h_t_spanAt h_t_spanLong h_t_spanOf h_t_out : Nat) {z : (Nat → Int32) × (Nat → Int32) × (Nat → Int32) × (Nat → Int32)} (hQ : gx_Qv cX8_give p l e (gx_rm 2) s m args below meth c D A Q (wd_X8_give cI cZ h_t h_t_row h_t_tape h_t_codes h_t_widths h_t_begins h_t_spanAt h_t_spanLong h_t_spanOf h_t_out z.1 z.2.1 z.2.2.1 z.2.2.2)) : ∀ (V_t V_t_spanAt V_t_spanLong V_t_out : Nat → Int32) (x1 x2 x3 x4 x6 : Int32) (ls : Array Slot) (H : Heap) (locs : List Loc), lv_has ls 8 [(0, .ref h_t), (1, .int x1), (2, .int x2), (3, .int x3), (4, .int x4), (6, .int x6)] → gx_W D A s (wd_X8_give cI cZ h_t h_t_row h_t_tape h_t_codes h_t_widths h_t_begins h_t_spanAt h_t_spanLong h_t_spanOf h_t_out V_t V_t_spanAt V_t_spanLong V_t_out) H locs → fn_X8_give_j99 V_t V_t_spanAt V_t_spanLong V_t_out x1 x2 x3 x4 x6 = some z → W p l e (gx_rm 2) s m args below meth c H locs 0 0 Q (F0 m 99 ls []) := by
  have hx := C.1.1
  have hb := C.1.2.1
  intro V_t V_t_spanAt V_t_spanLong V_t_out x1 x2 x3 x4 x6 ls H locs hl hw hf
  rw [fn_X8_give_j99] at hf
  refine lv_aload_n hx hb dX8_give_99 rfl (lv_at hl 0 rfl) ?_
  refine gx_get C hw 0 rfl (gx_gr rfl) ln_X8_give_42 dX8_give_100 ?_
  refine lv_iload hx hb dX8_give_103 (lv_at hl 5 rfl) ?_
  obtain ⟨hi_105, hf⟩ := gx_g hf
  refine gx_iald C hw 2 rfl hi_105 dX8_give_105 ?_
  refine lv_istore (lv' := [(5, .int (V_t_spanLong x6.toNatClampNeg)), (0, .ref h_t), (1, .int x1), (2, .int x2), (3, .int x3), (4, .int x4), (6, .int x6)]) hx hb dX8_give_106 hl (by decide) rfl (fun ls hl => ?_)
  refine lv_aload_n hx hb dX8_give_108 rfl (lv_at hl 1 rfl) ?_
  refine gx_get (v := .int (V_t 25)) C hw 0 rfl (gx_gj rfl rfl) ln_X8_give_138 dX8_give_109 ?_
  refine lv_istore (lv' := [(6, .int (V_t 25)), (5, .int (V_t_spanLong x6.toNatClampNeg)), (0, .ref h_t), (1, .int x1), (2, .int x2), (3, .int x3), (4, .int x4)]) hx hb dX8_give_112 hl (by decide) rfl (fun ls hl => ?_)
  refine lv_iconst (v := 0) hx hb dX8_give_114 (by decide) ?_
  refine lv_istore (lv' := [(7, .int 0), (6, .int (V_t 25)), (5, .int (V_t_spanLong x6.toNatClampNeg)), (0, .ref h_t), (1, .int x1), (2, .int x2), (3, .int x3), (4, .int x4)]) hx hb dX8_give_115 hl (by decide) rfl (fun ls hl => ?_)
  exact tm_X8_give_117 C h_t h_t_row h_t_tape h_t_codes h_t_widths h_t_begins h_t_spanAt h_t_spanLong h_t_spanOf h_t_out hQ  gx_fuel V_t V_t_spanAt V_t_spanLong V_t_out x1 x2 x3 x4 (V_t_spanLong x6.toNatClampNeg) (V_t 25) 0 _ _ _ (lv_sub hl [3, 4, 5, 6, 7, 2, 1, 0] rfl) hw hf
set_option maxHeartbeats 4000000 in
set_option maxRecDepth 100000 in
theorem tm_X8_give_71 (C : gx_C cX8_give 8 wsX8_give RX8 D cI cZ p s m args c) (h_t h_t_row h_t_tape h_t_codes h_t_widths h_t_begins h_t_spanAt h_t_spanLong h_t_spanOf h_t_out : Nat) {z : (Nat → Int32) × (Nat → Int32) × (Nat → Int32) × (Nat → Int32)} (hQ : gx_Qv cX8_give p l e (gx_rm 2) s m args below meth c D A Q (wd_X8_give cI cZ h_t h_t_row h_t_tape h_t_codes h_t_widths h_t_begins h_t_spanAt h_t_spanLong h_t_spanOf h_t_out z.1 z.2.1 z.2.2.1 z.2.2.2)) : ∀ (V_t V_t_spanAt V_t_spanLong V_t_out : Nat → Int32) (x1 x2 x3 x6 s0 : Int32) (ls : Array Slot) (H : Heap) (locs : List Loc), lv_has ls 8 [(0, .ref h_t), (1, .int x1), (2, .int x2), (3, .int x3), (6, .int x6)] → gx_W D A s (wd_X8_give cI cZ h_t h_t_row h_t_tape h_t_codes h_t_widths h_t_begins h_t_spanAt h_t_spanLong h_t_spanOf h_t_out V_t V_t_spanAt V_t_spanLong V_t_out) H locs → fn_X8_give_j71 V_t V_t_spanAt V_t_spanLong V_t_out x1 x2 x3 x6 s0 = some z → W p l e (gx_rm 2) s m args below meth c H locs 0 0 Q (F0 m 71 ls [.int s0]) := by
  have hx := C.1.1
  have hb := C.1.2.1
  intro V_t V_t_spanAt V_t_spanLong V_t_out x1 x2 x3 x6 s0 ls H locs hl hw hf
  rw [fn_X8_give_j71] at hf
  refine lv_istore (lv' := [(4, .int s0), (0, .ref h_t), (1, .int x1), (2, .int x2), (3, .int x3), (6, .int x6)]) hx hb dX8_give_71 hl (by decide) rfl (fun ls hl => ?_)
  refine lv_iload_n hx hb dX8_give_73 rfl (lv_at hl 2 rfl) ?_
  refine lv_iload_n hx hb dX8_give_74 rfl (lv_at hl 4 rfl) ?_
  refine lv_icmp_ne (tgt := 99) hx hb dX8_give_75 (by decide) (fun hc => ?_) (fun hc => ?_)
  · replace hf := gx_f hc hf
    exact tm_X8_give_99 C h_t h_t_row h_t_tape h_t_codes h_t_widths h_t_begins h_t_spanAt h_t_spanLong h_t_spanOf h_t_out hQ  V_t V_t_spanAt V_t_spanLong V_t_out x1 x2 x3 s0 x6 _ _ _ (lv_sub hl [1, 2, 3, 4, 0, 5] rfl) hw hf
  · replace hf := gx_t hc hf
    refine lv_iload_n hx hb dX8_give_78 rfl (lv_at hl 3 rfl) ?_
    refine lv_if_ne (tgt := 99) hx hb dX8_give_79 (by decide) (fun hc => ?_) (fun hc => ?_)
    · replace hf := gx_f hc hf
      exact tm_X8_give_99 C h_t h_t_row h_t_tape h_t_codes h_t_widths h_t_begins h_t_spanAt h_t_spanLong h_t_spanOf h_t_out hQ  V_t V_t_spanAt V_t_spanLong V_t_out x1 x2 x3 s0 x6 _ _ _ (lv_sub hl [1, 2, 3, 4, 0, 5] rfl) hw hf
    · replace hf := gx_t hc hf
      refine lv_iload_n hx hb dX8_give_82 rfl (lv_at hl 4 rfl) ?_
      refine lv_aload_n hx hb dX8_give_83 rfl (lv_at hl 1 rfl) ?_
      obtain ⟨y_84, hy_84, hf⟩ := gx_b hf
      refine gx_calli (As := []) (ws' := wd_X8_give cI cZ h_t h_t_row h_t_tape h_t_codes h_t_widths h_t_begins h_t_spanAt h_t_spanLong h_t_spanOf h_t_out V_t V_t_spanAt V_t_spanLong V_t_out) (isC := [0]) (isR := [1, 2, 3]) (isP := [3, 0, 1, 2]) C hw (ct_X8_lastNumber l D cI cZ h_t h_t_row h_t_tape h_t_codes h_t_widths h_t_begins h_t_spanAt h_t_spanLong h_t_spanOf h_t_out V_t hy_84) kl_X8_give_71 ⟨rfl, rfl⟩ ⟨rfl, rfl, by decide, by decide, by decide, by decide, rfl⟩ 0 rfl rfl rfl rfl hl.1 (Nat.le_of_ble_eq_true rfl) ⟨Nat.le_refl _, Nat.le_refl _⟩ dX8_give_84 (fun H locs hw => ?_)
      refine lv_icmp_ge (tgt := 99) hx hb dX8_give_87 (by decide) (fun hc => ?_) (fun hc => ?_)
      · replace hf := gx_t hc hf
        exact tm_X8_give_99 C h_t h_t_row h_t_tape h_t_codes h_t_widths h_t_begins h_t_spanAt h_t_spanLong h_t_spanOf h_t_out hQ  V_t V_t_spanAt V_t_spanLong V_t_out x1 x2 x3 s0 x6 _ _ _ (lv_sub hl [1, 2, 3, 4, 0, 5] rfl) hw hf
      · replace hf := gx_f hc hf
        refine lv_aload_n hx hb dX8_give_90 rfl (lv_at hl 1 rfl) ?_
        refine gx_get (v := .int (V_t 27)) C hw 0 rfl (gx_gj rfl rfl) ln_X8_give_135 dX8_give_91 ?_
        refine lv_iconst (v := 1) hx hb dX8_give_94 (by decide) ?_
        refine lv_iadd hx hb dX8_give_95 ?_
        refine lv_goto (tgt := 106) hx hb dX8_give_96 (by decide) ?_
        refine lv_istore (lv' := [(5, .int ((V_t 27) + 1)), (4, .int s0), (0, .ref h_t), (1, .int x1), (2, .int x2), (3, .int x3), (6, .int x6)]) hx hb dX8_give_106 hl (by decide) rfl (fun ls hl => ?_)
        refine lv_aload_n hx hb dX8_give_108 rfl (lv_at hl 2 rfl) ?_
        refine gx_get (v := .int (V_t 25)) C hw 0 rfl (gx_gj rfl rfl) ln_X8_give_138 dX8_give_109 ?_
        refine lv_istore (lv' := [(6, .int (V_t 25)), (5, .int ((V_t 27) + 1)), (4, .int s0), (0, .ref h_t), (1, .int x1), (2, .int x2), (3, .int x3)]) hx hb dX8_give_112 hl (by decide) rfl (fun ls hl => ?_)
        refine lv_iconst (v := 0) hx hb dX8_give_114 (by decide) ?_
        refine lv_istore (lv' := [(7, .int 0), (6, .int (V_t 25)), (5, .int ((V_t 27) + 1)), (4, .int s0), (0, .ref h_t), (1, .int x1), (2, .int x2), (3, .int x3)]) hx hb dX8_give_115 hl (by decide) rfl (fun ls hl => ?_)
        exact tm_X8_give_117 C h_t h_t_row h_t_tape h_t_codes h_t_widths h_t_begins h_t_spanAt h_t_spanLong h_t_spanOf h_t_out hQ  gx_fuel V_t V_t_spanAt V_t_spanLong V_t_out x1 x2 x3 s0 ((V_t 27) + 1) (V_t 25) 0 _ _ _ (lv_sub hl [4, 5, 6, 7, 3, 2, 1, 0] rfl) hw hf
set_option maxHeartbeats 4000000 in
set_option maxRecDepth 100000 in
theorem tm_X8_give_64 (C : gx_C cX8_give 8 wsX8_give RX8 D cI cZ p s m args c) (h_t h_t_row h_t_tape h_t_codes h_t_widths h_t_begins h_t_spanAt h_t_spanLong h_t_spanOf h_t_out : Nat) {z : (Nat → Int32) × (Nat → Int32) × (Nat → Int32) × (Nat → Int32)} (hQ : gx_Qv cX8_give p l e (gx_rm 2) s m args below meth c D A Q (wd_X8_give cI cZ h_t h_t_row h_t_tape h_t_codes h_t_widths h_t_begins h_t_spanAt h_t_spanLong h_t_spanOf h_t_out z.1 z.2.1 z.2.2.1 z.2.2.2)) : ∀ (V_t V_t_spanAt V_t_spanLong V_t_out : Nat → Int32) (x1 x2 x3 x6 : Int32) (ls : Array Slot) (H : Heap) (locs : List Loc), lv_has ls 8 [(0, .ref h_t), (1, .int x1), (2, .int x2), (3, .int x3), (6, .int x6)] → gx_W D A s (wd_X8_give cI cZ h_t h_t_row h_t_tape h_t_codes h_t_widths h_t_begins h_t_spanAt h_t_spanLong h_t_spanOf h_t_out V_t V_t_spanAt V_t_spanLong V_t_out) H locs → fn_X8_give_j64 V_t V_t_spanAt V_t_spanLong V_t_out x1 x2 x3 x6 = some z → W p l e (gx_rm 2) s m args below meth c H locs 0 0 Q (F0 m 64 ls []) := by
  have hx := C.1.1
  have hb := C.1.2.1
  intro V_t V_t_spanAt V_t_spanLong V_t_out x1 x2 x3 x6 ls H locs hl hw hf
  rw [fn_X8_give_j64] at hf
  refine lv_aload_n hx hb dX8_give_64 rfl (lv_at hl 0 rfl) ?_
  refine gx_get C hw 0 rfl (gx_gr rfl) ln_X8_give_39 dX8_give_65 ?_
  refine lv_iload hx hb dX8_give_68 (lv_at hl 4 rfl) ?_
  obtain ⟨hi_70, hf⟩ := gx_g hf
  refine gx_iald C hw 1 rfl hi_70 dX8_give_70 ?_
  exact tm_X8_give_71 C h_t h_t_row h_t_tape h_t_codes h_t_widths h_t_begins h_t_spanAt h_t_spanLong h_t_spanOf h_t_out hQ  V_t V_t_spanAt V_t_spanLong V_t_out x1 x2 x3 x6 (V_t_spanAt x6.toNatClampNeg) _ _ _ (lv_sub hl [0, 1, 2, 3, 4] rfl) hw hf
set_option maxHeartbeats 4000000 in
set_option maxRecDepth 100000 in
theorem tm_X8_give_12 (C : gx_C cX8_give 8 wsX8_give RX8 D cI cZ p s m args c) (h_t h_t_row h_t_tape h_t_codes h_t_widths h_t_begins h_t_spanAt h_t_spanLong h_t_spanOf h_t_out : Nat) {z : (Nat → Int32) × (Nat → Int32) × (Nat → Int32) × (Nat → Int32)} (hQ : gx_Qv cX8_give p l e (gx_rm 2) s m args below meth c D A Q (wd_X8_give cI cZ h_t h_t_row h_t_tape h_t_codes h_t_widths h_t_begins h_t_spanAt h_t_spanLong h_t_spanOf h_t_out z.1 z.2.1 z.2.2.1 z.2.2.2)) : ∀ (V_t V_t_spanAt V_t_spanLong V_t_out : Nat → Int32) (x1 s0 : Int32) (ls : Array Slot) (H : Heap) (locs : List Loc), lv_has ls 8 [(0, .ref h_t), (1, .int x1)] → gx_W D A s (wd_X8_give cI cZ h_t h_t_row h_t_tape h_t_codes h_t_widths h_t_begins h_t_spanAt h_t_spanLong h_t_spanOf h_t_out V_t V_t_spanAt V_t_spanLong V_t_out) H locs → fn_X8_give_j12 V_t V_t_spanAt V_t_spanLong V_t_out x1 s0 = some z → W p l e (gx_rm 2) s m args below meth c H locs 0 0 Q (F0 m 12 ls [.int s0]) := by
  have hx := C.1.1
  have hb := C.1.2.1
  intro V_t V_t_spanAt V_t_spanLong V_t_out x1 s0 ls H locs hl hw hf
  rw [fn_X8_give_j12] at hf
  refine lv_istore_n (lv' := [(2, .int s0), (0, .ref h_t), (1, .int x1)]) hx hb dX8_give_12 rfl hl (by decide) rfl (fun ls hl => ?_)
  refine lv_aload_n hx hb dX8_give_13 rfl (lv_at hl 1 rfl) ?_
  obtain ⟨y_14, hy_14, hf⟩ := gx_b hf
  refine gx_calli (As := []) (ws' := wd_X8_give cI cZ h_t h_t_row h_t_tape h_t_codes h_t_widths h_t_begins h_t_spanAt h_t_spanLong h_t_spanOf h_t_out V_t V_t_spanAt V_t_spanLong V_t_out) (isC := [0]) (isR := [1, 2, 3]) (isP := [3, 0, 1, 2]) C hw (ct_X8_countNow l D cI cZ h_t h_t_row h_t_tape h_t_codes h_t_widths h_t_begins h_t_spanAt h_t_spanLong h_t_spanOf h_t_out V_t hy_14) kl_X8_give_74 ⟨rfl, rfl⟩ ⟨rfl, rfl, by decide, by decide, by decide, by decide, rfl⟩ 0 rfl rfl rfl rfl hl.1 (Nat.le_of_ble_eq_true rfl) ⟨Nat.le_refl _, Nat.le_refl _⟩ dX8_give_14 (fun H locs hw => ?_)
  refine lv_istore_n (lv' := [(3, .int y_14), (2, .int s0), (0, .ref h_t), (1, .int x1)]) hx hb dX8_give_17 rfl hl (by decide) rfl (fun ls hl => ?_)
  refine lv_iconst (v := (-1)) hx hb dX8_give_18 (by decide) ?_
  refine lv_istore (lv' := [(4, .int (-1)), (3, .int y_14), (2, .int s0), (0, .ref h_t), (1, .int x1)]) hx hb dX8_give_19 hl (by decide) rfl (fun ls hl => ?_)
  refine lv_iconst (v := 1) hx hb dX8_give_21 (by decide) ?_
  refine lv_istore (lv' := [(5, .int 1), (4, .int (-1)), (3, .int y_14), (2, .int s0), (0, .ref h_t), (1, .int x1)]) hx hb dX8_give_22 hl (by decide) rfl (fun ls hl => ?_)
  refine lv_iload_n hx hb dX8_give_24 rfl (lv_at hl 5 rfl) ?_
  refine lv_aload_n hx hb dX8_give_25 rfl (lv_at hl 4 rfl) ?_
  obtain ⟨y_26, hy_26, hf⟩ := gx_b hf
  refine gx_calli (As := []) (ws' := wd_X8_give cI cZ h_t h_t_row h_t_tape h_t_codes h_t_widths h_t_begins h_t_spanAt h_t_spanLong h_t_spanOf h_t_out V_t V_t_spanAt V_t_spanLong V_t_out) (isC := [0]) (isR := [1, 2, 3]) (isP := [3, 0, 1, 2]) C hw (ct_X8_firstNumber l D cI cZ h_t h_t_row h_t_tape h_t_codes h_t_widths h_t_begins h_t_spanAt h_t_spanLong h_t_spanOf h_t_out V_t hy_26) kl_X8_give_64 ⟨rfl, rfl⟩ ⟨rfl, rfl, by decide, by decide, by decide, by decide, rfl⟩ 0 rfl rfl rfl rfl hl.1 (Nat.le_of_ble_eq_true rfl) ⟨Nat.le_refl _, Nat.le_refl _⟩ dX8_give_26 (fun H locs hw => ?_)
  refine lv_icmp_lt (tgt := 108) hx hb dX8_give_29 (by decide) (fun hc => ?_) (fun hc => ?_)
  · replace hf := gx_t hc hf
    refine lv_aload_n hx hb dX8_give_108 rfl (lv_at hl 4 rfl) ?_
    refine gx_get (v := .int (V_t 25)) C hw 0 rfl (gx_gj rfl rfl) ln_X8_give_138 dX8_give_109 ?_
    refine lv_istore (lv' := [(6, .int (V_t 25)), (5, .int 1), (4, .int (-1)), (3, .int y_14), (2, .int s0), (0, .ref h_t), (1, .int x1)]) hx hb dX8_give_112 hl (by decide) rfl (fun ls hl => ?_)
    refine lv_iconst (v := 0) hx hb dX8_give_114 (by decide) ?_
    refine lv_istore (lv' := [(7, .int 0), (6, .int (V_t 25)), (5, .int 1), (4, .int (-1)), (3, .int y_14), (2, .int s0), (0, .ref h_t), (1, .int x1)]) hx hb dX8_give_115 hl (by decide) rfl (fun ls hl => ?_)
    exact tm_X8_give_117 C h_t h_t_row h_t_tape h_t_codes h_t_widths h_t_begins h_t_spanAt h_t_spanLong h_t_spanOf h_t_out hQ  gx_fuel V_t V_t_spanAt V_t_spanLong V_t_out x1 s0 y_14 (-1) 1 (V_t 25) 0 _ _ _ (lv_sub hl [6, 7, 5, 4, 3, 2, 1, 0] rfl) hw hf
  · replace hf := gx_f hc hf
    refine lv_iload_n hx hb dX8_give_32 rfl (lv_at hl 5 rfl) ?_
    refine lv_aload_n hx hb dX8_give_33 rfl (lv_at hl 4 rfl) ?_
    obtain ⟨y_34, hy_34, hf⟩ := gx_b hf
    refine gx_calli (As := []) (ws' := wd_X8_give cI cZ h_t h_t_row h_t_tape h_t_codes h_t_widths h_t_begins h_t_spanAt h_t_spanLong h_t_spanOf h_t_out V_t V_t_spanAt V_t_spanLong V_t_out) (isC := [0]) (isR := [1, 2, 3]) (isP := [3, 0, 1, 2]) C hw (ct_X8_firstNumber l D cI cZ h_t h_t_row h_t_tape h_t_codes h_t_widths h_t_begins h_t_spanAt h_t_spanLong h_t_spanOf h_t_out V_t hy_34) kl_X8_give_64 ⟨rfl, rfl⟩ ⟨rfl, rfl, by decide, by decide, by decide, by decide, rfl⟩ 0 rfl rfl rfl rfl hl.1 (Nat.le_of_ble_eq_true rfl) ⟨Nat.le_refl _, Nat.le_refl _⟩ dX8_give_34 (fun H locs hw => ?_)
    refine lv_isub hx hb dX8_give_37 ?_
    refine lv_istore (lv' := [(6, .int (x1 - y_34)), (5, .int 1), (4, .int (-1)), (3, .int y_14), (2, .int s0), (0, .ref h_t), (1, .int x1)]) hx hb dX8_give_38 hl (by decide) rfl (fun ls hl => ?_)
    refine lv_iload_n hx hb dX8_give_40 rfl (lv_at hl 6 rfl) ?_
    refine lv_iload_n hx hb dX8_give_41 rfl (lv_at hl 3 rfl) ?_
    refine lv_icmp_ne (tgt := 64) hx hb dX8_give_42 (by decide) (fun hc => ?_) (fun hc => ?_)
    · replace hf := gx_f hc hf
      exact tm_X8_give_64 C h_t h_t_row h_t_tape h_t_codes h_t_widths h_t_begins h_t_spanAt h_t_spanLong h_t_spanOf h_t_out hQ  V_t V_t_spanAt V_t_spanLong V_t_out x1 s0 y_14 (x1 - y_34) _ _ _ (lv_sub hl [5, 6, 4, 3, 0] rfl) hw hf
    · replace hf := gx_t hc hf
      refine lv_iload_n hx hb dX8_give_45 rfl (lv_at hl 4 rfl) ?_
      refine lv_if_ne (tgt := 64) hx hb dX8_give_46 (by decide) (fun hc => ?_) (fun hc => ?_)
      · replace hf := gx_f hc hf
        exact tm_X8_give_64 C h_t h_t_row h_t_tape h_t_codes h_t_widths h_t_begins h_t_spanAt h_t_spanLong h_t_spanOf h_t_out hQ  V_t V_t_spanAt V_t_spanLong V_t_out x1 s0 y_14 (x1 - y_34) _ _ _ (lv_sub hl [5, 6, 4, 3, 0] rfl) hw hf
      · replace hf := gx_t hc hf
        refine lv_iload_n hx hb dX8_give_49 rfl (lv_at hl 3 rfl) ?_
        refine lv_aload_n hx hb dX8_give_50 rfl (lv_at hl 5 rfl) ?_
        obtain ⟨y_51, hy_51, hf⟩ := gx_b hf
        refine gx_calli (As := []) (ws' := wd_X8_give cI cZ h_t h_t_row h_t_tape h_t_codes h_t_widths h_t_begins h_t_spanAt h_t_spanLong h_t_spanOf h_t_out V_t V_t_spanAt V_t_spanLong V_t_out) (isC := [0]) (isR := [1, 2, 3]) (isP := [3, 0, 1, 2]) C hw (ct_X8_lastNumber l D cI cZ h_t h_t_row h_t_tape h_t_codes h_t_widths h_t_begins h_t_spanAt h_t_spanLong h_t_spanOf h_t_out V_t hy_51) kl_X8_give_71 ⟨rfl, rfl⟩ ⟨rfl, rfl, by decide, by decide, by decide, by decide, rfl⟩ 0 rfl rfl rfl rfl hl.1 (Nat.le_of_ble_eq_true rfl) ⟨Nat.le_refl _, Nat.le_refl _⟩ dX8_give_51 (fun H locs hw => ?_)
        refine lv_icmp_ge (tgt := 64) hx hb dX8_give_54 (by decide) (fun hc => ?_) (fun hc => ?_)
        · replace hf := gx_t hc hf
          exact tm_X8_give_64 C h_t h_t_row h_t_tape h_t_codes h_t_widths h_t_begins h_t_spanAt h_t_spanLong h_t_spanOf h_t_out hQ  V_t V_t_spanAt V_t_spanLong V_t_out x1 s0 y_14 (x1 - y_34) _ _ _ (lv_sub hl [5, 6, 4, 3, 0] rfl) hw hf
        · replace hf := gx_f hc hf
          refine lv_aload_n hx hb dX8_give_57 rfl (lv_at hl 5 rfl) ?_
          refine gx_get (v := .int (V_t 26)) C hw 0 rfl (gx_gj rfl rfl) ln_X8_give_132 dX8_give_58 ?_
          refine lv_goto (tgt := 71) hx hb dX8_give_61 (by decide) ?_
          exact tm_X8_give_71 C h_t h_t_row h_t_tape h_t_codes h_t_widths h_t_begins h_t_spanAt h_t_spanLong h_t_spanOf h_t_out hQ  V_t V_t_spanAt V_t_spanLong V_t_out x1 s0 y_14 (x1 - y_34) (V_t 26) _ _ _ (lv_sub hl [5, 6, 4, 3, 0] rfl) hw hf
set_option maxHeartbeats 4000000 in
set_option maxRecDepth 100000 in
theorem ct_X8_give (l : Launch) (D : va_G) (cI cZ : ClassId) (h_t h_t_row h_t_tape h_t_codes h_t_widths h_t_begins h_t_spanAt h_t_spanLong h_t_spanOf h_t_out : Nat) (V_t V_t_spanAt V_t_spanLong V_t_out : Nat → Int32) (a1 : Int32) {z : (Nat → Int32) × (Nat → Int32) × (Nat → Int32) × (Nat → Int32)} (hf : fn_X8_give V_t V_t_spanAt V_t_spanLong V_t_out a1 = some z) : gx_Mv l yX8_give wsX8_give (gx_rm 2) D cI cZ [.ref h_t, .int a1] (wd_X8_give cI cZ h_t h_t_row h_t_tape h_t_codes h_t_widths h_t_begins h_t_spanAt h_t_spanLong h_t_spanOf h_t_out V_t V_t_spanAt V_t_spanLong V_t_out) (wd_X8_give cI cZ h_t h_t_row h_t_tape h_t_codes h_t_widths h_t_begins h_t_spanAt h_t_spanLong h_t_spanOf h_t_out z.1 z.2.1 z.2.2.1 z.2.2.2) := by
  refine gx_ofv (cc := cX8_give) (own := RX8) (by decide) rfl rfl (Nat.le_of_ble_eq_true rfl) [(0, .ref h_t), (1, .int a1)] rfl ?_
  intro p e s m args below meth c A Q ls C hQ hl hw
  have hx := C.1.1
  have hb := C.1.2.1
  rw [fn_X8_give] at hf
  refine lv_aload_n hx hb dX8_give_0 rfl (lv_at hl 0 rfl) ?_
  refine gx_get (v := .int (V_t 9)) C hw 0 rfl (gx_gj rfl rfl) ln_X8_give_68 dX8_give_1 ?_
  refine lv_if_ne (tgt := 11) hx hb dX8_give_4 (by decide) (fun hc => ?_) (fun hc => ?_)
  · replace hf := gx_f hc hf
    refine lv_iconst (v := 0) hx hb dX8_give_11 (by decide) ?_
    exact tm_X8_give_12 C h_t h_t_row h_t_tape h_t_codes h_t_widths h_t_begins h_t_spanAt h_t_spanLong h_t_spanOf h_t_out hQ  V_t V_t_spanAt V_t_spanLong V_t_out a1 0 _ _ _ (lv_sub hl [0, 1] rfl) hw hf
  · replace hf := gx_t hc hf
    refine lv_iconst (v := 1) hx hb dX8_give_7 (by decide) ?_
    refine lv_goto (tgt := 12) hx hb dX8_give_8 (by decide) ?_
    exact tm_X8_give_12 C h_t h_t_row h_t_tape h_t_codes h_t_widths h_t_begins h_t_spanAt h_t_spanLong h_t_spanOf h_t_out hQ  V_t V_t_spanAt V_t_spanLong V_t_out a1 1 _ _ _ (lv_sub hl [0, 1] rfl) hw hf
-- LzwFormsModel.readCode: touched ['t', 't_spanAt', 't_spanLong', 't_out']; used ['t', 't_spanAt', 't_spanLong', 't_out']; mod ['t', 't_spanAt', 't_spanLong', 't_out']; height 3
theorem ln_X8_readCode_68 : gx_L wsX8_readCode RX8 68 8 9 := ⟨_, _, _, rfl, by decide +kernel, by decide, Or.inl (by decide +kernel)⟩
theorem ln_X8_readCode_123 : gx_L wsX8_readCode RX8 123 8 23 := ⟨_, _, _, rfl, by decide +kernel, by decide, Or.inl (by decide +kernel)⟩
theorem lp_X8_readCode_123 : gx_LP wsX8_readCode RX8 123 8 23 false .int := ⟨_, _, _, tyX8, rfl, by decide +kernel, by decide, by decide +kernel, tyX8_ok, nmX8, by decide +kernel, by decide +kernel, by decide +kernel⟩
theorem kl_X8_readCode_64 : gx_KV wsX8_readCode RX8 64 yX8_firstNumber cX8_firstNumber 1 (some .int) wsX8_firstNumber (gx_rm 0) (gx_rm 3) 0 := ⟨gX8_readCode_X8_firstNumber, ⟨_, rfl⟩, ⟨by decide, by decide, by decide +kernel⟩, ⟨by decide, by decide⟩⟩
theorem kl_X8_readCode_71 : gx_KV wsX8_readCode RX8 71 yX8_lastNumber cX8_lastNumber 1 (some .int) wsX8_lastNumber (gx_rm 0) (gx_rm 3) 0 := ⟨gX8_readCode_X8_lastNumber, ⟨_, rfl⟩, ⟨by decide, by decide, by decide +kernel⟩, ⟨by decide, by decide⟩⟩
theorem kl_X8_readCode_74 : gx_KV wsX8_readCode RX8 74 yX8_countNow cX8_countNow 2 (some .int) wsX8_countNow (gx_rm 1) (gx_rm 3) 0 := ⟨gX8_readCode_X8_countNow, ⟨_, rfl⟩, ⟨by decide, by decide, by decide +kernel⟩, ⟨by decide, by decide⟩⟩
theorem kl_X8_readCode_141 : gx_KV wsX8_readCode RX8 141 yX8_give cX8_give 8 none wsX8_give (gx_rm 2) (gx_rm 3) 1 := ⟨gX8_readCode_X8_give, ⟨_, rfl⟩, ⟨by decide, by decide, by decide +kernel⟩, ⟨by decide, by decide⟩⟩
def wd_X8_readCode (cI cZ : ClassId) (h_t h_t_row h_t_tape h_t_codes h_t_widths h_t_begins h_t_spanAt h_t_spanLong h_t_spanOf h_t_out : Nat) (V_t V_t_spanAt V_t_spanLong V_t_out : Nat → Int32) : va_W := [gx_o h_t 8 [none, none, none, none, some (some h_t_row), none, some (some h_t_tape), none, none, none, some (some h_t_codes), some (some h_t_widths), some (some h_t_begins), none, none, none, none, some (some h_t_spanAt), some (some h_t_spanLong), some (some h_t_spanOf), none, none, none, none, some (some h_t_out), none, none, none] V_t, gx_a h_t_spanAt cI 300 V_t_spanAt, gx_a h_t_spanLong cI 300 V_t_spanLong, gx_a h_t_out cI 300 V_t_out]
set_option maxHeartbeats 4000000 in
set_option maxRecDepth 100000 in
theorem tm_X8_readCode_79 (C : gx_C cX8_readCode 3 wsX8_readCode RX8 D cI cZ p s m args c) (h_t h_t_row h_t_tape h_t_codes h_t_widths h_t_begins h_t_spanAt h_t_spanLong h_t_spanOf h_t_out : Nat) {z : (Nat → Int32) × (Nat → Int32) × (Nat → Int32) × (Nat → Int32)} (hQ : gx_Qv cX8_readCode p l e (gx_rm 3) s m args below meth c D A Q (wd_X8_readCode cI cZ h_t h_t_row h_t_tape h_t_codes h_t_widths h_t_begins h_t_spanAt h_t_spanLong h_t_spanOf h_t_out z.1 z.2.1 z.2.2.1 z.2.2.2)) : ∀ (V_t V_t_spanAt V_t_spanLong V_t_out : Nat → Int32) (x1 : Int32) (ls : Array Slot) (H : Heap) (locs : List Loc), lv_has ls 3 [(0, .ref h_t), (1, .int x1)] → gx_W D A s (wd_X8_readCode cI cZ h_t h_t_row h_t_tape h_t_codes h_t_widths h_t_begins h_t_spanAt h_t_spanLong h_t_spanOf h_t_out V_t V_t_spanAt V_t_spanLong V_t_out) H locs → fn_X8_readCode_j79 V_t V_t_spanAt V_t_spanLong V_t_out x1 = some z → W p l e (gx_rm 3) s m args below meth c H locs 0 0 Q (F0 m 79 ls []) := by
  have hx := C.1.1
  have hb := C.1.2.1
  intro V_t V_t_spanAt V_t_spanLong V_t_out x1 ls H locs hl hw hf
  rw [fn_X8_readCode_j79] at hf
  refine lv_aload_n hx hb dX8_readCode_79 rfl (lv_at hl 0 rfl) ?_
  refine gx_get (v := .int (V_t 23)) C hw 0 rfl (gx_gj rfl rfl) ln_X8_readCode_123 dX8_readCode_80 ?_
  refine lv_if_ne (tgt := 91) hx hb dX8_readCode_83 (by decide) (fun hc => ?_) (fun hc => ?_)
  · replace hf := gx_f hc hf
    obtain rfl := Option.some.inj hf
    exact hQ _ _ _ _ dX8_readCode_91 hw
  · replace hf := gx_t hc hf
    refine lv_aload_n hx hb dX8_readCode_86 rfl (lv_at hl 0 rfl) ?_
    refine lv_iload_n hx hb dX8_readCode_87 rfl (lv_at hl 1 rfl) ?_
    obtain ⟨y_88, hy_88, hf⟩ := gx_b hf
    refine gx_callv (As := [.int x1]) (ws' := wd_X8_readCode cI cZ h_t h_t_row h_t_tape h_t_codes h_t_widths h_t_begins h_t_spanAt h_t_spanLong h_t_spanOf h_t_out y_88.1 y_88.2.1 y_88.2.2.1 y_88.2.2.2) (isC := [0, 1, 2, 3]) (isR := []) (isP := [0, 1, 2, 3]) C hw (ct_X8_give l D cI cZ h_t h_t_row h_t_tape h_t_codes h_t_widths h_t_begins h_t_spanAt h_t_spanLong h_t_spanOf h_t_out V_t V_t_spanAt V_t_spanLong V_t_out x1 hy_88) kl_X8_readCode_141 ⟨rfl, rfl⟩ ⟨rfl, rfl, by decide, by decide, by decide, by decide, rfl⟩ 0 rfl rfl rfl rfl hl.1 (Nat.le_of_ble_eq_true rfl) ⟨Nat.le_refl _, Nat.le_refl _⟩ dX8_readCode_88 (fun H locs hw => ?_)
    obtain rfl := Option.some.inj hf
    exact hQ _ _ _ _ dX8_readCode_91 hw
set_option maxHeartbeats 4000000 in
set_option maxRecDepth 100000 in
theorem tm_X8_readCode_76 (C : gx_C cX8_readCode 3 wsX8_readCode RX8 D cI cZ p s m args c) (h_t h_t_row h_t_tape h_t_codes h_t_widths h_t_begins h_t_spanAt h_t_spanLong h_t_spanOf h_t_out : Nat) {z : (Nat → Int32) × (Nat → Int32) × (Nat → Int32) × (Nat → Int32)} (hQ : gx_Qv cX8_readCode p l e (gx_rm 3) s m args below meth c D A Q (wd_X8_readCode cI cZ h_t h_t_row h_t_tape h_t_codes h_t_widths h_t_begins h_t_spanAt h_t_spanLong h_t_spanOf h_t_out z.1 z.2.1 z.2.2.1 z.2.2.2)) : ∀ (V_t V_t_spanAt V_t_spanLong V_t_out : Nat → Int32) (x1 s1 : Int32) (ls : Array Slot) (H : Heap) (locs : List Loc), lv_has ls 3 [(0, .ref h_t), (1, .int x1)] → gx_W D A s (wd_X8_readCode cI cZ h_t h_t_row h_t_tape h_t_codes h_t_widths h_t_begins h_t_spanAt h_t_spanLong h_t_spanOf h_t_out V_t V_t_spanAt V_t_spanLong V_t_out) H locs → fn_X8_readCode_j76 V_t V_t_spanAt V_t_spanLong V_t_out x1 s1 = some z → W p l e (gx_rm 3) s m args below meth c H locs 0 0 Q (F0 m 76 ls [.int s1, .ref h_t]) := by
  have hx := C.1.1
  have hb := C.1.2.1
  intro V_t V_t_spanAt V_t_spanLong V_t_out x1 s1 ls H locs hl hw hf
  rw [fn_X8_readCode_j76] at hf
  refine gx_put (ws' := wd_X8_readCode cI cZ h_t h_t_row h_t_tape h_t_codes h_t_widths h_t_begins h_t_spanAt h_t_spanLong h_t_spanOf h_t_out (upd V_t 23 s1) V_t_spanAt V_t_spanLong V_t_out) C hw 0 rfl rfl lp_X8_readCode_123 rfl rfl rfl dX8_readCode_76 (fun H locs hw => ?_)
  exact tm_X8_readCode_79 C h_t h_t_row h_t_tape h_t_codes h_t_widths h_t_begins h_t_spanAt h_t_spanLong h_t_spanOf h_t_out hQ  (upd V_t 23 s1) V_t_spanAt V_t_spanLong V_t_out x1 _ _ _ (lv_sub hl [0, 1] rfl) hw hf
set_option maxHeartbeats 4000000 in
set_option maxRecDepth 100000 in
theorem tm_X8_readCode_72 (C : gx_C cX8_readCode 3 wsX8_readCode RX8 D cI cZ p s m args c) (h_t h_t_row h_t_tape h_t_codes h_t_widths h_t_begins h_t_spanAt h_t_spanLong h_t_spanOf h_t_out : Nat) {z : (Nat → Int32) × (Nat → Int32) × (Nat → Int32) × (Nat → Int32)} (hQ : gx_Qv cX8_readCode p l e (gx_rm 3) s m args below meth c D A Q (wd_X8_readCode cI cZ h_t h_t_row h_t_tape h_t_codes h_t_widths h_t_begins h_t_spanAt h_t_spanLong h_t_spanOf h_t_out z.1 z.2.1 z.2.2.1 z.2.2.2)) : ∀ (V_t V_t_spanAt V_t_spanLong V_t_out : Nat → Int32) (x1 : Int32) (ls : Array Slot) (H : Heap) (locs : List Loc), lv_has ls 3 [(0, .ref h_t), (1, .int x1)] → gx_W D A s (wd_X8_readCode cI cZ h_t h_t_row h_t_tape h_t_codes h_t_widths h_t_begins h_t_spanAt h_t_spanLong h_t_spanOf h_t_out V_t V_t_spanAt V_t_spanLong V_t_out) H locs → fn_X8_readCode_j72 V_t V_t_spanAt V_t_spanLong V_t_out x1 = some z → W p l e (gx_rm 3) s m args below meth c H locs 0 0 Q (F0 m 72 ls [.ref h_t]) := by
  have hx := C.1.1
  have hb := C.1.2.1
  intro V_t V_t_spanAt V_t_spanLong V_t_out x1 ls H locs hl hw hf
  rw [fn_X8_readCode_j72] at hf
  refine lv_aload_n hx hb dX8_readCode_72 rfl (lv_at hl 0 rfl) ?_
  refine gx_get (v := .int (V_t 23)) C hw 0 rfl (gx_gj rfl rfl) ln_X8_readCode_123 dX8_readCode_73 ?_
  exact tm_X8_readCode_76 C h_t h_t_row h_t_tape h_t_codes h_t_widths h_t_begins h_t_spanAt h_t_spanLong h_t_spanOf h_t_out hQ  V_t V_t_spanAt V_t_spanLong V_t_out x1 (V_t 23) _ _ _ (lv_sub hl [0, 1] rfl) hw hf
set_option maxHeartbeats 4000000 in
set_option maxRecDepth 100000 in
theorem tm_X8_readCode_68 (C : gx_C cX8_readCode 3 wsX8_readCode RX8 D cI cZ p s m args c) (h_t h_t_row h_t_tape h_t_codes h_t_widths h_t_begins h_t_spanAt h_t_spanLong h_t_spanOf h_t_out : Nat) {z : (Nat → Int32) × (Nat → Int32) × (Nat → Int32) × (Nat → Int32)} (hQ : gx_Qv cX8_readCode p l e (gx_rm 3) s m args below meth c D A Q (wd_X8_readCode cI cZ h_t h_t_row h_t_tape h_t_codes h_t_widths h_t_begins h_t_spanAt h_t_spanLong h_t_spanOf h_t_out z.1 z.2.1 z.2.2.1 z.2.2.2)) : ∀ (V_t V_t_spanAt V_t_spanLong V_t_out : Nat → Int32) (x1 : Int32) (ls : Array Slot) (H : Heap) (locs : List Loc), lv_has ls 3 [(0, .ref h_t), (1, .int x1)] → gx_W D A s (wd_X8_readCode cI cZ h_t h_t_row h_t_tape h_t_codes h_t_widths h_t_begins h_t_spanAt h_t_spanLong h_t_spanOf h_t_out V_t V_t_spanAt V_t_spanLong V_t_out) H locs → fn_X8_readCode_j68 V_t V_t_spanAt V_t_spanLong V_t_out x1 = some z → W p l e (gx_rm 3) s m args below meth c H locs 0 0 Q (F0 m 68 ls [.ref h_t]) := by
  have hx := C.1.1
  have hb := C.1.2.1
  intro V_t V_t_spanAt V_t_spanLong V_t_out x1 ls H locs hl hw hf
  rw [fn_X8_readCode_j68] at hf
  refine lv_iconst (v := 4) hx hb dX8_readCode_68 (by decide) ?_
  refine lv_goto (tgt := 76) hx hb dX8_readCode_69 (by decide) ?_
  exact tm_X8_readCode_76 C h_t h_t_row h_t_tape h_t_codes h_t_widths h_t_begins h_t_spanAt h_t_spanLong h_t_spanOf h_t_out hQ  V_t V_t_spanAt V_t_spanLong V_t_out x1 4 _ _ _ (lv_sub hl [0, 1] rfl) hw hf
set_option maxHeartbeats 4000000 in
set_option maxRecDepth 100000 in
theorem tm_X8_readCode_36 (C : gx_C cX8_readCode 3 wsX8_readCode RX8 D cI cZ p s m args c) (h_t h_t_row h_t_tape h_t_codes h_t_widths h_t_begins h_t_spanAt h_t_spanLong h_t_spanOf h_t_out : Nat) {z : (Nat → Int32) × (Nat → Int32) × (Nat → Int32) × (Nat → Int32)} (hQ : gx_Qv cX8_readCode p l e (gx_rm 3) s m args below meth c D A Q (wd_X8_readCode cI cZ h_t h_t_row h_t_tape h_t_codes h_t_widths h_t_begins h_t_spanAt h_t_spanLong h_t_spanOf h_t_out z.1 z.2.1 z.2.2.1 z.2.2.2)) : ∀ (V_t V_t_spanAt V_t_spanLong V_t_out : Nat → Int32) (x1 s1 : Int32) (ls : Array Slot) (H : Heap) (locs : List Loc), lv_has ls 3 [(0, .ref h_t), (1, .int x1)] → gx_W D A s (wd_X8_readCode cI cZ h_t h_t_row h_t_tape h_t_codes h_t_widths h_t_begins h_t_spanAt h_t_spanLong h_t_spanOf h_t_out V_t V_t_spanAt V_t_spanLong V_t_out) H locs → fn_X8_readCode_j36 V_t V_t_spanAt V_t_spanLong V_t_out x1 s1 = some z → W p l e (gx_rm 3) s m args below meth c H locs 0 0 Q (F0 m 36 ls [.int s1, .ref h_t]) := by
  have hx := C.1.1
  have hb := C.1.2.1
  intro V_t V_t_spanAt V_t_spanLong V_t_out x1 s1 ls H locs hl hw hf
  rw [fn_X8_readCode_j36] at hf
  refine gx_put (ws' := wd_X8_readCode cI cZ h_t h_t_row h_t_tape h_t_codes h_t_widths h_t_begins h_t_spanAt h_t_spanLong h_t_spanOf h_t_out (upd V_t 23 s1) V_t_spanAt V_t_spanLong V_t_out) C hw 0 rfl rfl lp_X8_readCode_123 rfl rfl rfl dX8_readCode_36 (fun H locs hw => ?_)
  refine lv_goto (tgt := 79) hx hb dX8_readCode_39 (by decide) ?_
  exact tm_X8_readCode_79 C h_t h_t_row h_t_tape h_t_codes h_t_widths h_t_begins h_t_spanAt h_t_spanLong h_t_spanOf h_t_out hQ  (upd V_t 23 s1) V_t_spanAt V_t_spanLong V_t_out x1 _ _ _ (lv_sub hl [0, 1] rfl) hw hf
set_option maxHeartbeats 4000000 in
set_option maxRecDepth 100000 in
theorem tm_X8_readCode_32 (C : gx_C cX8_readCode 3 wsX8_readCode RX8 D cI cZ p s m args c) (h_t h_t_row h_t_tape h_t_codes h_t_widths h_t_begins h_t_spanAt h_t_spanLong h_t_spanOf h_t_out : Nat) {z : (Nat → Int32) × (Nat → Int32) × (Nat → Int32) × (Nat → Int32)} (hQ : gx_Qv cX8_readCode p l e (gx_rm 3) s m args below meth c D A Q (wd_X8_readCode cI cZ h_t h_t_row h_t_tape h_t_codes h_t_widths h_t_begins h_t_spanAt h_t_spanLong h_t_spanOf h_t_out z.1 z.2.1 z.2.2.1 z.2.2.2)) : ∀ (V_t V_t_spanAt V_t_spanLong V_t_out : Nat → Int32) (x1 : Int32) (ls : Array Slot) (H : Heap) (locs : List Loc), lv_has ls 3 [(0, .ref h_t), (1, .int x1)] → gx_W D A s (wd_X8_readCode cI cZ h_t h_t_row h_t_tape h_t_codes h_t_widths h_t_begins h_t_spanAt h_t_spanLong h_t_spanOf h_t_out V_t V_t_spanAt V_t_spanLong V_t_out) H locs → fn_X8_readCode_j32 V_t V_t_spanAt V_t_spanLong V_t_out x1 = some z → W p l e (gx_rm 3) s m args below meth c H locs 0 0 Q (F0 m 32 ls [.ref h_t]) := by
  have hx := C.1.1
  have hb := C.1.2.1
  intro V_t V_t_spanAt V_t_spanLong V_t_out x1 ls H locs hl hw hf
  rw [fn_X8_readCode_j32] at hf
  refine lv_aload_n hx hb dX8_readCode_32 rfl (lv_at hl 0 rfl) ?_
  refine gx_get (v := .int (V_t 23)) C hw 0 rfl (gx_gj rfl rfl) ln_X8_readCode_123 dX8_readCode_33 ?_
  exact tm_X8_readCode_36 C h_t h_t_row h_t_tape h_t_codes h_t_widths h_t_begins h_t_spanAt h_t_spanLong h_t_spanOf h_t_out hQ  V_t V_t_spanAt V_t_spanLong V_t_out x1 (V_t 23) _ _ _ (lv_sub hl [0, 1] rfl) hw hf
set_option maxHeartbeats 4000000 in
set_option maxRecDepth 100000 in
theorem ct_X8_readCode (l : Launch) (D : va_G) (cI cZ : ClassId) (h_t h_t_row h_t_tape h_t_codes h_t_widths h_t_begins h_t_spanAt h_t_spanLong h_t_spanOf h_t_out : Nat) (V_t V_t_spanAt V_t_spanLong V_t_out : Nat → Int32) (a1 : Int32) {z : (Nat → Int32) × (Nat → Int32) × (Nat → Int32) × (Nat → Int32)} (hf : fn_X8_readCode V_t V_t_spanAt V_t_spanLong V_t_out a1 = some z) : gx_Mv l yX8_readCode wsX8_readCode (gx_rm 3) D cI cZ [.ref h_t, .int a1] (wd_X8_readCode cI cZ h_t h_t_row h_t_tape h_t_codes h_t_widths h_t_begins h_t_spanAt h_t_spanLong h_t_spanOf h_t_out V_t V_t_spanAt V_t_spanLong V_t_out) (wd_X8_readCode cI cZ h_t h_t_row h_t_tape h_t_codes h_t_widths h_t_begins h_t_spanAt h_t_spanLong h_t_spanOf h_t_out z.1 z.2.1 z.2.2.1 z.2.2.2) := by
  refine gx_ofv (cc := cX8_readCode) (own := RX8) (by decide) rfl rfl (Nat.le_of_ble_eq_true rfl) [(0, .ref h_t), (1, .int a1)] rfl ?_
  intro p e s m args below meth c A Q ls C hQ hl hw
  have hx := C.1.1
  have hb := C.1.2.1
  rw [fn_X8_readCode] at hf
  refine lv_aload_n hx hb dX8_readCode_0 rfl (lv_at hl 0 rfl) ?_
  obtain ⟨y_1, hy_1, hf⟩ := gx_b hf
  refine gx_calli (As := []) (ws' := wd_X8_readCode cI cZ h_t h_t_row h_t_tape h_t_codes h_t_widths h_t_begins h_t_spanAt h_t_spanLong h_t_spanOf h_t_out V_t V_t_spanAt V_t_spanLong V_t_out) (isC := [0]) (isR := [1, 2, 3]) (isP := [3, 0, 1, 2]) C hw (ct_X8_countNow l D cI cZ h_t h_t_row h_t_tape h_t_codes h_t_widths h_t_begins h_t_spanAt h_t_spanLong h_t_spanOf h_t_out V_t hy_1) kl_X8_readCode_74 ⟨rfl, rfl⟩ ⟨rfl, rfl, by decide, by decide, by decide, by decide, rfl⟩ 0 rfl rfl rfl rfl hl.1 (Nat.le_of_ble_eq_true rfl) ⟨Nat.le_refl _, Nat.le_refl _⟩ dX8_readCode_1 (fun H locs hw => ?_)
  refine lv_istore_n (lv' := [(2, .int y_1), (0, .ref h_t), (1, .int a1)]) hx hb dX8_readCode_4 rfl hl (by decide) rfl (fun ls hl => ?_)
  refine lv_aload_n hx hb dX8_readCode_5 rfl (lv_at hl 1 rfl) ?_
  refine gx_get (v := .int (V_t 9)) C hw 0 rfl (gx_gj rfl rfl) ln_X8_readCode_68 dX8_readCode_6 ?_
  refine lv_if_ne (tgt := 42) hx hb dX8_readCode_9 (by decide) (fun hc => ?_) (fun hc => ?_)
  · replace hf := gx_f hc hf
    refine lv_aload_n hx hb dX8_readCode_42 rfl (lv_at hl 1 rfl) ?_
    refine lv_aload_n hx hb dX8_readCode_43 rfl (lv_at hl 1 rfl) ?_
    refine gx_get (v := .int (V_t 23)) C hw 0 rfl (gx_gj rfl rfl) ln_X8_readCode_123 dX8_readCode_44 ?_
    refine lv_if_ne (tgt := 72) hx hb dX8_readCode_47 (by decide) (fun hc => ?_) (fun hc => ?_)
    · replace hf := gx_f hc hf
      exact tm_X8_readCode_72 C h_t h_t_row h_t_tape h_t_codes h_t_widths h_t_begins h_t_spanAt h_t_spanLong h_t_spanOf h_t_out hQ  V_t V_t_spanAt V_t_spanLong V_t_out a1 _ _ _ (lv_sub hl [1, 2] rfl) hw hf
    · replace hf := gx_t hc hf
      refine lv_iload_n hx hb dX8_readCode_50 rfl (lv_at hl 2 rfl) ?_
      refine lv_iload_n hx hb dX8_readCode_51 rfl (lv_at hl 0 rfl) ?_
      refine lv_icmp_gt (tgt := 68) hx hb dX8_readCode_52 (by decide) (fun hc => ?_) (fun hc => ?_)
      · replace hf := gx_t hc hf
        exact tm_X8_readCode_68 C h_t h_t_row h_t_tape h_t_codes h_t_widths h_t_begins h_t_spanAt h_t_spanLong h_t_spanOf h_t_out hQ  V_t V_t_spanAt V_t_spanLong V_t_out a1 _ _ _ (lv_sub hl [1, 2] rfl) hw hf
      · replace hf := gx_f hc hf
        refine lv_iload_n hx hb dX8_readCode_55 rfl (lv_at hl 0 rfl) ?_
        refine lv_aload_n hx hb dX8_readCode_56 rfl (lv_at hl 1 rfl) ?_
        obtain ⟨y_57, hy_57, hf⟩ := gx_b hf
        refine gx_calli (As := []) (ws' := wd_X8_readCode cI cZ h_t h_t_row h_t_tape h_t_codes h_t_widths h_t_begins h_t_spanAt h_t_spanLong h_t_spanOf h_t_out V_t V_t_spanAt V_t_spanLong V_t_out) (isC := [0]) (isR := [1, 2, 3]) (isP := [3, 0, 1, 2]) C hw (ct_X8_lastNumber l D cI cZ h_t h_t_row h_t_tape h_t_codes h_t_widths h_t_begins h_t_spanAt h_t_spanLong h_t_spanOf h_t_out V_t hy_57) kl_X8_readCode_71 ⟨rfl, rfl⟩ ⟨rfl, rfl, by decide, by decide, by decide, by decide, rfl⟩ 0 rfl rfl rfl rfl hl.1 (Nat.le_of_ble_eq_true rfl) ⟨Nat.le_refl _, Nat.le_refl _⟩ dX8_readCode_57 (fun H locs hw => ?_)
        refine lv_icmp_ne (tgt := 72) hx hb dX8_readCode_60 (by decide) (fun hc => ?_) (fun hc => ?_)
        · replace hf := gx_f hc hf
          exact tm_X8_readCode_72 C h_t h_t_row h_t_tape h_t_codes h_t_widths h_t_begins h_t_spanAt h_t_spanLong h_t_spanOf h_t_out hQ  V_t V_t_spanAt V_t_spanLong V_t_out a1 _ _ _ (lv_sub hl [1, 2] rfl) hw hf
        · replace hf := gx_t hc hf
          refine lv_iload_n hx hb dX8_readCode_63 rfl (lv_at hl 2 rfl) ?_
          refine lv_iload_n hx hb dX8_readCode_64 rfl (lv_at hl 0 rfl) ?_
          refine lv_icmp_lt (tgt := 72) hx hb dX8_readCode_65 (by decide) (fun hc => ?_) (fun hc => ?_)
          · replace hf := gx_t hc hf
            exact tm_X8_readCode_72 C h_t h_t_row h_t_tape h_t_codes h_t_widths h_t_begins h_t_spanAt h_t_spanLong h_t_spanOf h_t_out hQ  V_t V_t_spanAt V_t_spanLong V_t_out a1 _ _ _ (lv_sub hl [1, 2] rfl) hw hf
          · replace hf := gx_f hc hf
            exact tm_X8_readCode_68 C h_t h_t_row h_t_tape h_t_codes h_t_widths h_t_begins h_t_spanAt h_t_spanLong h_t_spanOf h_t_out hQ  V_t V_t_spanAt V_t_spanLong V_t_out a1 _ _ _ (lv_sub hl [1, 2] rfl) hw hf
  · replace hf := gx_t hc hf
    refine lv_aload_n hx hb dX8_readCode_12 rfl (lv_at hl 1 rfl) ?_
    refine lv_aload_n hx hb dX8_readCode_13 rfl (lv_at hl 1 rfl) ?_
    refine gx_get (v := .int (V_t 23)) C hw 0 rfl (gx_gj rfl rfl) ln_X8_readCode_123 dX8_readCode_14 ?_
    refine lv_if_ne (tgt := 32) hx hb dX8_readCode_17 (by decide) (fun hc => ?_) (fun hc => ?_)
    · replace hf := gx_f hc hf
      exact tm_X8_readCode_32 C h_t h_t_row h_t_tape h_t_codes h_t_widths h_t_begins h_t_spanAt h_t_spanLong h_t_spanOf h_t_out hQ  V_t V_t_spanAt V_t_spanLong V_t_out a1 _ _ _ (lv_sub hl [1, 2] rfl) hw hf
    · replace hf := gx_t hc hf
      refine lv_iload_n hx hb dX8_readCode_20 rfl (lv_at hl 2 rfl) ?_
      refine lv_aload_n hx hb dX8_readCode_21 rfl (lv_at hl 1 rfl) ?_
      obtain ⟨y_22, hy_22, hf⟩ := gx_b hf
      refine gx_calli (As := []) (ws' := wd_X8_readCode cI cZ h_t h_t_row h_t_tape h_t_codes h_t_widths h_t_begins h_t_spanAt h_t_spanLong h_t_spanOf h_t_out V_t V_t_spanAt V_t_spanLong V_t_out) (isC := [0]) (isR := [1, 2, 3]) (isP := [3, 0, 1, 2]) C hw (ct_X8_firstNumber l D cI cZ h_t h_t_row h_t_tape h_t_codes h_t_widths h_t_begins h_t_spanAt h_t_spanLong h_t_spanOf h_t_out V_t hy_22) kl_X8_readCode_64 ⟨rfl, rfl⟩ ⟨rfl, rfl, by decide, by decide, by decide, by decide, rfl⟩ 0 rfl rfl rfl rfl hl.1 (Nat.le_of_ble_eq_true rfl) ⟨Nat.le_refl _, Nat.le_refl _⟩ dX8_readCode_22 (fun H locs hw => ?_)
      refine lv_icmp_lt (tgt := 32) hx hb dX8_readCode_25 (by decide) (fun hc => ?_) (fun hc => ?_)
      · replace hf := gx_t hc hf
        exact tm_X8_readCode_32 C h_t h_t_row h_t_tape h_t_codes h_t_widths h_t_begins h_t_spanAt h_t_spanLong h_t_spanOf h_t_out hQ  V_t V_t_spanAt V_t_spanLong V_t_out a1 _ _ _ (lv_sub hl [1, 2] rfl) hw hf
      · replace hf := gx_f hc hf
        refine lv_iconst (v := 3) hx hb dX8_readCode_28 (by decide) ?_
        refine lv_goto (tgt := 36) hx hb dX8_readCode_29 (by decide) ?_
        exact tm_X8_readCode_36 C h_t h_t_row h_t_tape h_t_codes h_t_widths h_t_begins h_t_spanAt h_t_spanLong h_t_spanOf h_t_out hQ  V_t V_t_spanAt V_t_spanLong V_t_out a1 3 _ _ _ (lv_sub hl [1, 2] rfl) hw hf
-- LzwFormsModel.readClosed: touched ['t', 't_tape', 't_spanAt', 't_spanLong', 't_out']; used ['t', 't_tape', 't_spanAt', 't_spanLong', 't_out']; mod ['t', 't_spanAt', 't_spanLong', 't_out']; height 4
theorem ln_X8_readClosed_7 : gx_L wsX8_readClosed RX8 7 8 1 := ⟨_, _, _, rfl, by decide +kernel, by decide, Or.inl (by decide +kernel)⟩
theorem lp_X8_readClosed_68 : gx_LP wsX8_readClosed RX8 68 8 9 false .int := ⟨_, _, _, tyX8, rfl, by decide +kernel, by decide, by decide +kernel, tyX8_ok, nmX8, by decide +kernel, by decide +kernel, by decide +kernel⟩
theorem ln_X8_readClosed_113 : gx_L wsX8_readClosed RX8 113 8 7 := ⟨_, _, _, rfl, by decide +kernel, by decide, Or.inl (by decide +kernel)⟩
theorem ln_X8_readClosed_123 : gx_L wsX8_readClosed RX8 123 8 23 := ⟨_, _, _, rfl, by decide +kernel, by decide, Or.inl (by decide +kernel)⟩
theorem lp_X8_readClosed_123 : gx_LP wsX8_readClosed RX8 123 8 23 false .int := ⟨_, _, _, tyX8, rfl, by decide +kernel, by decide, by decide +kernel, tyX8_ok, nmX8, by decide +kernel, by decide +kernel, by decide +kernel⟩
theorem ln_X8_readClosed_126 : gx_L wsX8_readClosed RX8 126 8 22 := ⟨_, _, _, rfl, by decide +kernel, by decide, Or.inl (by decide +kernel)⟩
theorem kl_X8_readClosed_81 : gx_KV wsX8_readClosed RX8 81 yX8_widthNow cX8_widthNow 3 (some .int) wsX8_widthNow (gx_rm 2) (gx_rm 4) 0 := ⟨gX8_readClosed_X8_widthNow, ⟨_, rfl⟩, ⟨by decide, by decide, by decide +kernel⟩, ⟨by decide, by decide⟩⟩
theorem kl_X8_readClosed_144 : gx_KV wsX8_readClosed RX8 144 yX8_number cX8_number 5 (some .int) wsX8_number (gx_rm 1) (gx_rm 4) 1 := ⟨gX8_readClosed_X8_number, ⟨_, rfl⟩, ⟨by decide, by decide, by decide +kernel⟩, ⟨by decide, by decide⟩⟩
theorem kl_X8_readClosed_147 : gx_KV wsX8_readClosed RX8 147 yX8_readCode cX8_readCode 3 none wsX8_readCode (gx_rm 3) (gx_rm 4) 1 := ⟨gX8_readClosed_X8_readCode, ⟨_, rfl⟩, ⟨by decide, by decide, by decide +kernel⟩, ⟨by decide, by decide⟩⟩
theorem kl_X8_readClosed_150 : gx_KV wsX8_readClosed RX8 150 yX8_zeros cX8_zeros 3 none wsX8_zeros (gx_rm 1) (gx_rm 4) 1 := ⟨gX8_readClosed_X8_zeros, ⟨_, rfl⟩, ⟨by decide, by decide, by decide +kernel⟩, ⟨by decide, by decide⟩⟩
def wd_X8_readClosed (cI cZ : ClassId) (h_t h_t_row h_t_tape h_t_codes h_t_widths h_t_begins h_t_spanAt h_t_spanLong h_t_spanOf h_t_out : Nat) (V_t V_t_tape V_t_spanAt V_t_spanLong V_t_out : Nat → Int32) : va_W := [gx_o h_t 8 [none, none, none, none, some (some h_t_row), none, some (some h_t_tape), none, none, none, some (some h_t_codes), some (some h_t_widths), some (some h_t_begins), none, none, none, none, some (some h_t_spanAt), some (some h_t_spanLong), some (some h_t_spanOf), none, none, none, none, some (some h_t_out), none, none, none] V_t, gx_a h_t_tape cZ 3200 V_t_tape, gx_a h_t_spanAt cI 300 V_t_spanAt, gx_a h_t_spanLong cI 300 V_t_spanLong, gx_a h_t_out cI 300 V_t_out]
set_option maxHeartbeats 4000000 in
set_option maxRecDepth 100000 in
theorem tm_X8_readClosed_116 (C : gx_C cX8_readClosed 4 wsX8_readClosed RX8 D cI cZ p s m args c) (h_t h_t_row h_t_tape h_t_codes h_t_widths h_t_begins h_t_spanAt h_t_spanLong h_t_spanOf h_t_out : Nat) (V_t_tape : Nat → Int32) {z : (Nat → Int32) × (Nat → Int32) × (Nat → Int32) × (Nat → Int32)} (hQ : gx_Qv cX8_readClosed p l e (gx_rm 4) s m args below meth c D A Q (wd_X8_readClosed cI cZ h_t h_t_row h_t_tape h_t_codes h_t_widths h_t_begins h_t_spanAt h_t_spanLong h_t_spanOf h_t_out z.1 V_t_tape z.2.1 z.2.2.1 z.2.2.2)) : ∀ (V_t V_t_spanAt V_t_spanLong V_t_out : Nat → Int32) (ls : Array Slot) (H : Heap) (locs : List Loc), lv_has ls 4 [(0, .ref h_t)] → gx_W D A s (wd_X8_readClosed cI cZ h_t h_t_row h_t_tape h_t_codes h_t_widths h_t_begins h_t_spanAt h_t_spanLong h_t_spanOf h_t_out V_t V_t_tape V_t_spanAt V_t_spanLong V_t_out) H locs → fn_X8_readClosed_j116 V_t_tape V_t V_t_spanAt V_t_spanLong V_t_out = some z → W p l e (gx_rm 4) s m args below meth c H locs 0 0 Q (F0 m 116 ls []) := by
  have hx := C.1.1
  have hb := C.1.2.1
  intro V_t V_t_spanAt V_t_spanLong V_t_out ls H locs hl hw hf
  rw [fn_X8_readClosed_j116] at hf
  refine lv_aload_n hx hb dX8_readClosed_116 rfl (lv_at hl 0 rfl) ?_
  refine lv_bipush (v := 8) hx hb dX8_readClosed_117 (by decide) ?_
  refine lv_aload_n hx hb dX8_readClosed_119 rfl (lv_at hl 0 rfl) ?_
  refine gx_get (v := .int (V_t 22)) C hw 0 rfl (gx_gj rfl rfl) ln_X8_readClosed_126 dX8_readClosed_120 ?_
  refine lv_bipush (v := 8) hx hb dX8_readClosed_123 (by decide) ?_
  refine lv_irem hx hb dX8_readClosed_125 (by decide) ?_
  refine lv_isub hx hb dX8_readClosed_126 ?_
  refine lv_bipush (v := 8) hx hb dX8_readClosed_127 (by decide) ?_
  refine lv_irem hx hb dX8_readClosed_129 (by decide) ?_
  obtain ⟨y_130, hy_130, hf⟩ := gx_b hf
  refine gx_callv (As := [.int ((8 - ((V_t 22) - (V_t 22) / 8 * 8)) - (8 - ((V_t 22) - (V_t 22) / 8 * 8)) / 8 * 8)]) (ws' := wd_X8_readClosed cI cZ h_t h_t_row h_t_tape h_t_codes h_t_widths h_t_begins h_t_spanAt h_t_spanLong h_t_spanOf h_t_out y_130 V_t_tape V_t_spanAt V_t_spanLong V_t_out) (isC := [0, 1]) (isR := [2, 3, 4]) (isP := [3, 4, 0, 1, 2]) C hw (ct_X8_zeros l D cI cZ h_t h_t_row h_t_tape h_t_codes h_t_widths h_t_begins h_t_spanAt h_t_spanLong h_t_spanOf h_t_out V_t V_t_tape ((8 - ((V_t 22) - (V_t 22) / 8 * 8)) - (8 - ((V_t 22) - (V_t 22) / 8 * 8)) / 8 * 8) hy_130) kl_X8_readClosed_150 ⟨rfl, rfl⟩ ⟨rfl, rfl, by decide, by decide, by decide, by decide, rfl⟩ 0 rfl rfl rfl rfl hl.1 (Nat.le_of_ble_eq_true rfl) ⟨Nat.le_refl _, Nat.le_refl _⟩ dX8_readClosed_130 (fun H locs hw => ?_)
  refine lv_aload_n hx hb dX8_readClosed_133 rfl (lv_at hl 0 rfl) ?_
  refine gx_get (v := .int (y_130 23)) C hw 0 rfl (gx_gj rfl rfl) ln_X8_readClosed_123 dX8_readClosed_134 ?_
  refine lv_if_ne (tgt := 160) hx hb dX8_readClosed_137 (by decide) (fun hc => ?_) (fun hc => ?_)
  · replace hf := gx_f hc hf
    obtain rfl := Option.some.inj hf
    exact hQ _ _ _ _ dX8_readClosed_160 hw
  · replace hf := gx_t hc hf
    refine lv_aload_n hx hb dX8_readClosed_140 rfl (lv_at hl 0 rfl) ?_
    refine gx_get (v := .int (y_130 22)) C hw 0 rfl (gx_gj rfl rfl) ln_X8_readClosed_126 dX8_readClosed_141 ?_
    refine lv_bipush (v := 8) hx hb dX8_readClosed_144 (by decide) ?_
    refine lv_aload_n hx hb dX8_readClosed_146 rfl (lv_at hl 0 rfl) ?_
    refine gx_get (v := .int (y_130 7)) C hw 0 rfl (gx_gj rfl rfl) ln_X8_readClosed_113 dX8_readClosed_147 ?_
    refine lv_imul hx hb dX8_readClosed_150 ?_
    refine lv_icmp_ge (tgt := 160) hx hb dX8_readClosed_151 (by decide) (fun hc => ?_) (fun hc => ?_)
    · replace hf := gx_t hc hf
      obtain rfl := Option.some.inj hf
      exact hQ _ _ _ _ dX8_readClosed_160 hw
    · replace hf := gx_f hc hf
      refine lv_aload_n hx hb dX8_readClosed_154 rfl (lv_at hl 0 rfl) ?_
      refine lv_bipush (v := 6) hx hb dX8_readClosed_155 (by decide) ?_
      refine gx_put (ws' := wd_X8_readClosed cI cZ h_t h_t_row h_t_tape h_t_codes h_t_widths h_t_begins h_t_spanAt h_t_spanLong h_t_spanOf h_t_out (upd y_130 23 6) V_t_tape V_t_spanAt V_t_spanLong V_t_out) C hw 0 rfl rfl lp_X8_readClosed_123 rfl rfl rfl dX8_readClosed_157 (fun H locs hw => ?_)
      obtain rfl := Option.some.inj hf
      exact hQ _ _ _ _ dX8_readClosed_160 hw
set_option maxHeartbeats 4000000 in
set_option maxRecDepth 100000 in
theorem tm_X8_readClosed_101 (C : gx_C cX8_readClosed 4 wsX8_readClosed RX8 D cI cZ p s m args c) (h_t h_t_row h_t_tape h_t_codes h_t_widths h_t_begins h_t_spanAt h_t_spanLong h_t_spanOf h_t_out : Nat) (V_t_tape : Nat → Int32) {z : (Nat → Int32) × (Nat → Int32) × (Nat → Int32) × (Nat → Int32)} (hQ : gx_Qv cX8_readClosed p l e (gx_rm 4) s m args below meth c D A Q (wd_X8_readClosed cI cZ h_t h_t_row h_t_tape h_t_codes h_t_widths h_t_begins h_t_spanAt h_t_spanLong h_t_spanOf h_t_out z.1 V_t_tape z.2.1 z.2.2.1 z.2.2.2)) (K4 : (Nat → Int32) → (Nat → Int32) → (Nat → Int32) → (Nat → Int32) → Int32 → Int32 → Option ((Nat → Int32) × (Nat → Int32) × (Nat → Int32) × (Nat → Int32))) (hK4 : ∀ (V_t V_t_spanAt V_t_spanLong V_t_out : Nat → Int32) (x1 x2 : Int32) (ls : Array Slot) (H : Heap) (locs : List Loc), lv_has ls 4 [(0, .ref h_t), (1, .int x1), (2, .int x2)] → gx_W D A s (wd_X8_readClosed cI cZ h_t h_t_row h_t_tape h_t_codes h_t_widths h_t_begins h_t_spanAt h_t_spanLong h_t_spanOf h_t_out V_t V_t_tape V_t_spanAt V_t_spanLong V_t_out) H locs → K4 V_t V_t_spanAt V_t_spanLong V_t_out x1 x2 = some z → W p l e (gx_rm 4) s m args below meth c H locs 0 0 Q (F0 m 4 ls [])) : ∀ (V_t V_t_spanAt V_t_spanLong V_t_out : Nat → Int32) (x1 x2 x3 : Int32) (ls : Array Slot) (H : Heap) (locs : List Loc), lv_has ls 4 [(0, .ref h_t), (1, .int x1), (2, .int x2), (3, .int x3)] → gx_W D A s (wd_X8_readClosed cI cZ h_t h_t_row h_t_tape h_t_codes h_t_widths h_t_begins h_t_spanAt h_t_spanLong h_t_spanOf h_t_out V_t V_t_tape V_t_spanAt V_t_spanLong V_t_out) H locs → fn_X8_readClosed_j101 V_t_tape K4 V_t V_t_spanAt V_t_spanLong V_t_out x1 x2 x3 = some z → W p l e (gx_rm 4) s m args below meth c H locs 0 0 Q (F0 m 101 ls []) := by
  have hx := C.1.1
  have hb := C.1.2.1
  intro V_t V_t_spanAt V_t_spanLong V_t_out x1 x2 x3 ls H locs hl hw hf
  rw [fn_X8_readClosed_j101] at hf
  refine lv_aload_n hx hb dX8_readClosed_101 rfl (lv_at hl 0 rfl) ?_
  refine gx_get (v := .int (V_t 23)) C hw 0 rfl (gx_gj rfl rfl) ln_X8_readClosed_123 dX8_readClosed_102 ?_
  refine lv_if_ne (tgt := 113) hx hb dX8_readClosed_105 (by decide) (fun hc => ?_) (fun hc => ?_)
  · replace hf := gx_f hc hf
    refine lv_goto (tgt := 4) hx hb dX8_readClosed_113 (by decide) ?_
    exact hK4 V_t V_t_spanAt V_t_spanLong V_t_out x1 x2 _ _ _ (lv_sub hl [0, 1, 2] rfl) hw hf
  · replace hf := gx_t hc hf
    refine lv_aload_n hx hb dX8_readClosed_108 rfl (lv_at hl 0 rfl) ?_
    refine lv_iload_n hx hb dX8_readClosed_109 rfl (lv_at hl 3 rfl) ?_
    obtain ⟨y_110, hy_110, hf⟩ := gx_b hf
    refine gx_callv (As := [.int x3]) (ws' := wd_X8_readClosed cI cZ h_t h_t_row h_t_tape h_t_codes h_t_widths h_t_begins h_t_spanAt h_t_spanLong h_t_spanOf h_t_out y_110.1 V_t_tape y_110.2.1 y_110.2.2.1 y_110.2.2.2) (isC := [0, 2, 3, 4]) (isR := [1]) (isP := [1, 0, 2, 3, 4]) C hw (ct_X8_readCode l D cI cZ h_t h_t_row h_t_tape h_t_codes h_t_widths h_t_begins h_t_spanAt h_t_spanLong h_t_spanOf h_t_out V_t V_t_spanAt V_t_spanLong V_t_out x3 hy_110) kl_X8_readClosed_147 ⟨rfl, rfl⟩ ⟨rfl, rfl, by decide, by decide, by decide, by decide, rfl⟩ 0 rfl rfl rfl rfl hl.1 (Nat.le_of_ble_eq_true rfl) ⟨Nat.le_refl _, Nat.le_refl _⟩ dX8_readClosed_110 (fun H locs hw => ?_)
    refine lv_goto (tgt := 4) hx hb dX8_readClosed_113 (by decide) ?_
    exact hK4 y_110.1 y_110.2.1 y_110.2.2.1 y_110.2.2.2 x1 x2 _ _ _ (lv_sub hl [0, 1, 2] rfl) hw hf
set_option maxHeartbeats 4000000 in
set_option maxRecDepth 100000 in
theorem tm_X8_readClosed_77 (C : gx_C cX8_readClosed 4 wsX8_readClosed RX8 D cI cZ p s m args c) (h_t h_t_row h_t_tape h_t_codes h_t_widths h_t_begins h_t_spanAt h_t_spanLong h_t_spanOf h_t_out : Nat) (V_t_tape : Nat → Int32) {z : (Nat → Int32) × (Nat → Int32) × (Nat → Int32) × (Nat → Int32)} (hQ : gx_Qv cX8_readClosed p l e (gx_rm 4) s m args below meth c D A Q (wd_X8_readClosed cI cZ h_t h_t_row h_t_tape h_t_codes h_t_widths h_t_begins h_t_spanAt h_t_spanLong h_t_spanOf h_t_out z.1 V_t_tape z.2.1 z.2.2.1 z.2.2.2)) (K4 : (Nat → Int32) → (Nat → Int32) → (Nat → Int32) → (Nat → Int32) → Int32 → Int32 → Option ((Nat → Int32) × (Nat → Int32) × (Nat → Int32) × (Nat → Int32))) (hK4 : ∀ (V_t V_t_spanAt V_t_spanLong V_t_out : Nat → Int32) (x1 x2 : Int32) (ls : Array Slot) (H : Heap) (locs : List Loc), lv_has ls 4 [(0, .ref h_t), (1, .int x1), (2, .int x2)] → gx_W D A s (wd_X8_readClosed cI cZ h_t h_t_row h_t_tape h_t_codes h_t_widths h_t_begins h_t_spanAt h_t_spanLong h_t_spanOf h_t_out V_t V_t_tape V_t_spanAt V_t_spanLong V_t_out) H locs → K4 V_t V_t_spanAt V_t_spanLong V_t_out x1 x2 = some z → W p l e (gx_rm 4) s m args below meth c H locs 0 0 Q (F0 m 4 ls [])) : ∀ (V_t V_t_spanAt V_t_spanLong V_t_out : Nat → Int32) (x1 x2 x3 : Int32) (ls : Array Slot) (H : Heap) (locs : List Loc), lv_has ls 4 [(0, .ref h_t), (1, .int x1), (2, .int x2), (3, .int x3)] → gx_W D A s (wd_X8_readClosed cI cZ h_t h_t_row h_t_tape h_t_codes h_t_widths h_t_begins h_t_spanAt h_t_spanLong h_t_spanOf h_t_out V_t V_t_tape V_t_spanAt V_t_spanLong V_t_out) H locs → fn_X8_readClosed_j77 V_t_tape K4 V_t V_t_spanAt V_t_spanLong V_t_out x1 x2 x3 = some z → W p l e (gx_rm 4) s m args below meth c H locs 0 0 Q (F0 m 77 ls []) := by
  have hx := C.1.1
  have hb := C.1.2.1
  intro V_t V_t_spanAt V_t_spanLong V_t_out x1 x2 x3 ls H locs hl hw hf
  rw [fn_X8_readClosed_j77] at hf
  refine lv_aload_n hx hb dX8_readClosed_77 rfl (lv_at hl 0 rfl) ?_
  refine gx_get (v := .int (V_t 23)) C hw 0 rfl (gx_gj rfl rfl) ln_X8_readClosed_123 dX8_readClosed_78 ?_
  refine lv_if_ne (tgt := 101) hx hb dX8_readClosed_81 (by decide) (fun hc => ?_) (fun hc => ?_)
  · replace hf := gx_f hc hf
    exact tm_X8_readClosed_101 C h_t h_t_row h_t_tape h_t_codes h_t_widths h_t_begins h_t_spanAt h_t_spanLong h_t_spanOf h_t_out V_t_tape hQ K4 hK4 V_t V_t_spanAt V_t_spanLong V_t_out x1 x2 x3 _ _ _ (lv_sub hl [0, 1, 2, 3] rfl) hw hf
  · replace hf := gx_t hc hf
    refine lv_iload_n hx hb dX8_readClosed_84 rfl (lv_at hl 3 rfl) ?_
    refine lv_iconst (v := 1) hx hb dX8_readClosed_85 (by decide) ?_
    refine lv_aload_n hx hb dX8_readClosed_86 rfl (lv_at hl 0 rfl) ?_
    refine gx_get (v := .int (V_t 1)) C hw 0 rfl (gx_gj rfl rfl) ln_X8_readClosed_7 dX8_readClosed_87 ?_
    refine lv_ishl hx hb dX8_readClosed_90 ?_
    refine lv_iconst (v := 1) hx hb dX8_readClosed_91 (by decide) ?_
    refine lv_iadd hx hb dX8_readClosed_92 ?_
    refine lv_icmp_ne (tgt := 101) hx hb dX8_readClosed_93 (by decide) (fun hc => ?_) (fun hc => ?_)
    · replace hf := gx_f hc hf
      exact tm_X8_readClosed_101 C h_t h_t_row h_t_tape h_t_codes h_t_widths h_t_begins h_t_spanAt h_t_spanLong h_t_spanOf h_t_out V_t_tape hQ K4 hK4 V_t V_t_spanAt V_t_spanLong V_t_out x1 x2 x3 _ _ _ (lv_sub hl [0, 1, 2, 3] rfl) hw hf
    · replace hf := gx_t hc hf
      refine lv_iconst (v := 1) hx hb dX8_readClosed_96 (by decide) ?_
      refine lv_istore_n (lv' := [(1, .int 1), (0, .ref h_t), (2, .int x2), (3, .int x3)]) hx hb dX8_readClosed_97 rfl hl (by decide) rfl (fun ls hl => ?_)
      refine lv_goto (tgt := 113) hx hb dX8_readClosed_98 (by decide) ?_
      refine lv_goto (tgt := 4) hx hb dX8_readClosed_113 (by decide) ?_
      exact hK4 V_t V_t_spanAt V_t_spanLong V_t_out 1 x2 _ _ _ (lv_sub hl [1, 0, 2] rfl) hw hf
set_option maxHeartbeats 4000000 in
set_option maxRecDepth 100000 in
theorem tm_X8_readClosed_50 (C : gx_C cX8_readClosed 4 wsX8_readClosed RX8 D cI cZ p s m args c) (h_t h_t_row h_t_tape h_t_codes h_t_widths h_t_begins h_t_spanAt h_t_spanLong h_t_spanOf h_t_out : Nat) (V_t_tape : Nat → Int32) {z : (Nat → Int32) × (Nat → Int32) × (Nat → Int32) × (Nat → Int32)} (hQ : gx_Qv cX8_readClosed p l e (gx_rm 4) s m args below meth c D A Q (wd_X8_readClosed cI cZ h_t h_t_row h_t_tape h_t_codes h_t_widths h_t_begins h_t_spanAt h_t_spanLong h_t_spanOf h_t_out z.1 V_t_tape z.2.1 z.2.2.1 z.2.2.2)) (K4 : (Nat → Int32) → (Nat → Int32) → (Nat → Int32) → (Nat → Int32) → Int32 → Int32 → Option ((Nat → Int32) × (Nat → Int32) × (Nat → Int32) × (Nat → Int32))) (hK4 : ∀ (V_t V_t_spanAt V_t_spanLong V_t_out : Nat → Int32) (x1 x2 : Int32) (ls : Array Slot) (H : Heap) (locs : List Loc), lv_has ls 4 [(0, .ref h_t), (1, .int x1), (2, .int x2)] → gx_W D A s (wd_X8_readClosed cI cZ h_t h_t_row h_t_tape h_t_codes h_t_widths h_t_begins h_t_spanAt h_t_spanLong h_t_spanOf h_t_out V_t V_t_tape V_t_spanAt V_t_spanLong V_t_out) H locs → K4 V_t V_t_spanAt V_t_spanLong V_t_out x1 x2 = some z → W p l e (gx_rm 4) s m args below meth c H locs 0 0 Q (F0 m 4 ls [])) : ∀ (V_t V_t_spanAt V_t_spanLong V_t_out : Nat → Int32) (x1 x3 : Int32) (ls : Array Slot) (H : Heap) (locs : List Loc), lv_has ls 4 [(0, .ref h_t), (1, .int x1), (3, .int x3)] → gx_W D A s (wd_X8_readClosed cI cZ h_t h_t_row h_t_tape h_t_codes h_t_widths h_t_begins h_t_spanAt h_t_spanLong h_t_spanOf h_t_out V_t V_t_tape V_t_spanAt V_t_spanLong V_t_out) H locs → fn_X8_readClosed_j50 V_t_tape K4 V_t V_t_spanAt V_t_spanLong V_t_out x1 x3 = some z → W p l e (gx_rm 4) s m args below meth c H locs 0 0 Q (F0 m 50 ls []) := by
  have hx := C.1.1
  have hb := C.1.2.1
  intro V_t V_t_spanAt V_t_spanLong V_t_out x1 x3 ls H locs hl hw hf
  rw [fn_X8_readClosed_j50] at hf
  refine lv_iconst (v := 0) hx hb dX8_readClosed_50 (by decide) ?_
  refine lv_istore_n (lv' := [(2, .int 0), (0, .ref h_t), (1, .int x1), (3, .int x3)]) hx hb dX8_readClosed_51 rfl hl (by decide) rfl (fun ls hl => ?_)
  refine lv_aload_n hx hb dX8_readClosed_52 rfl (lv_at hl 1 rfl) ?_
  refine gx_get (v := .int (V_t 23)) C hw 0 rfl (gx_gj rfl rfl) ln_X8_readClosed_123 dX8_readClosed_53 ?_
  refine lv_if_ne (tgt := 77) hx hb dX8_readClosed_56 (by decide) (fun hc => ?_) (fun hc => ?_)
  · replace hf := gx_f hc hf
    exact tm_X8_readClosed_77 C h_t h_t_row h_t_tape h_t_codes h_t_widths h_t_begins h_t_spanAt h_t_spanLong h_t_spanOf h_t_out V_t_tape hQ K4 hK4 V_t V_t_spanAt V_t_spanLong V_t_out x1 0 x3 _ _ _ (lv_sub hl [1, 2, 0, 3] rfl) hw hf
  · replace hf := gx_t hc hf
    refine lv_iload_n hx hb dX8_readClosed_59 rfl (lv_at hl 3 rfl) ?_
    refine lv_iconst (v := 1) hx hb dX8_readClosed_60 (by decide) ?_
    refine lv_aload_n hx hb dX8_readClosed_61 rfl (lv_at hl 1 rfl) ?_
    refine gx_get (v := .int (V_t 1)) C hw 0 rfl (gx_gj rfl rfl) ln_X8_readClosed_7 dX8_readClosed_62 ?_
    refine lv_ishl hx hb dX8_readClosed_65 ?_
    refine lv_icmp_ne (tgt := 77) hx hb dX8_readClosed_66 (by decide) (fun hc => ?_) (fun hc => ?_)
    · replace hf := gx_f hc hf
      exact tm_X8_readClosed_77 C h_t h_t_row h_t_tape h_t_codes h_t_widths h_t_begins h_t_spanAt h_t_spanLong h_t_spanOf h_t_out V_t_tape hQ K4 hK4 V_t V_t_spanAt V_t_spanLong V_t_out x1 0 x3 _ _ _ (lv_sub hl [1, 2, 0, 3] rfl) hw hf
    · replace hf := gx_t hc hf
      refine lv_aload_n hx hb dX8_readClosed_69 rfl (lv_at hl 1 rfl) ?_
      refine lv_iconst (v := 0) hx hb dX8_readClosed_70 (by decide) ?_
      refine gx_put (ws' := wd_X8_readClosed cI cZ h_t h_t_row h_t_tape h_t_codes h_t_widths h_t_begins h_t_spanAt h_t_spanLong h_t_spanOf h_t_out (upd V_t 9 0) V_t_tape V_t_spanAt V_t_spanLong V_t_out) C hw 0 rfl rfl lp_X8_readClosed_68 rfl rfl rfl dX8_readClosed_71 (fun H locs hw => ?_)
      refine lv_goto (tgt := 113) hx hb dX8_readClosed_74 (by decide) ?_
      refine lv_goto (tgt := 4) hx hb dX8_readClosed_113 (by decide) ?_
      exact hK4 (upd V_t 9 0) V_t_spanAt V_t_spanLong V_t_out x1 0 _ _ _ (lv_sub hl [1, 2, 0] rfl) hw hf
set_option maxHeartbeats 4000000 in
set_option maxRecDepth 100000 in
theorem tm_X8_readClosed_4 (C : gx_C cX8_readClosed 4 wsX8_readClosed RX8 D cI cZ p s m args c) (h_t h_t_row h_t_tape h_t_codes h_t_widths h_t_begins h_t_spanAt h_t_spanLong h_t_spanOf h_t_out : Nat) (V_t_tape : Nat → Int32) {z : (Nat → Int32) × (Nat → Int32) × (Nat → Int32) × (Nat → Int32)} (hQ : gx_Qv cX8_readClosed p l e (gx_rm 4) s m args below meth c D A Q (wd_X8_readClosed cI cZ h_t h_t_row h_t_tape h_t_codes h_t_widths h_t_begins h_t_spanAt h_t_spanLong h_t_spanOf h_t_out z.1 V_t_tape z.2.1 z.2.2.1 z.2.2.2)) : ∀ (n : Nat), (∀ (V_t V_t_spanAt V_t_spanLong V_t_out : Nat → Int32) (x1 x2 : Int32) (ls : Array Slot) (H : Heap) (locs : List Loc), lv_has ls 4 [(0, .ref h_t), (1, .int x1), (2, .int x2)] → gx_W D A s (wd_X8_readClosed cI cZ h_t h_t_row h_t_tape h_t_codes h_t_widths h_t_begins h_t_spanAt h_t_spanLong h_t_spanOf h_t_out V_t V_t_tape V_t_spanAt V_t_spanLong V_t_out) H locs → fn_X8_readClosed_l4 V_t_tape n V_t V_t_spanAt V_t_spanLong V_t_out x1 x2 = some z → W p l e (gx_rm 4) s m args below meth c H locs 0 0 Q (F0 m 4 ls [])) := by
  have hx := C.1.1
  have hb := C.1.2.1
  intro n
  induction n with
  | zero => intro V_t V_t_spanAt V_t_spanLong V_t_out x1 x2 ls H locs hl hw hf; rw [fn_X8_readClosed_l4] at hf; cases hf
  | succ n ih =>
    intro V_t V_t_spanAt V_t_spanLong V_t_out x1 x2 ls H locs hl hw hf
    rw [fn_X8_readClosed_l4] at hf
    refine lv_iload_n hx hb dX8_readClosed_4 rfl (lv_at hl 1 rfl) ?_
    refine lv_if_ne (tgt := 116) hx hb dX8_readClosed_5 (by decide) (fun hc => ?_) (fun hc => ?_)
    · replace hf := gx_f hc hf
      exact tm_X8_readClosed_116 C h_t h_t_row h_t_tape h_t_codes h_t_widths h_t_begins h_t_spanAt h_t_spanLong h_t_spanOf h_t_out V_t_tape hQ  V_t V_t_spanAt V_t_spanLong V_t_out _ _ _ (lv_sub hl [0] rfl) hw hf
    · replace hf := gx_t hc hf
      refine lv_aload_n hx hb dX8_readClosed_8 rfl (lv_at hl 0 rfl) ?_
      refine gx_get (v := .int (V_t 23)) C hw 0 rfl (gx_gj rfl rfl) ln_X8_readClosed_123 dX8_readClosed_9 ?_
      refine lv_if_ne (tgt := 116) hx hb dX8_readClosed_12 (by decide) (fun hc => ?_) (fun hc => ?_)
      · replace hf := gx_f hc hf
        exact tm_X8_readClosed_116 C h_t h_t_row h_t_tape h_t_codes h_t_widths h_t_begins h_t_spanAt h_t_spanLong h_t_spanOf h_t_out V_t_tape hQ  V_t V_t_spanAt V_t_spanLong V_t_out _ _ _ (lv_sub hl [0] rfl) hw hf
      · replace hf := gx_t hc hf
        refine lv_aload_n hx hb dX8_readClosed_15 rfl (lv_at hl 0 rfl) ?_
        refine lv_aload_n hx hb dX8_readClosed_16 rfl (lv_at hl 0 rfl) ?_
        obtain ⟨y_17, hy_17, hf⟩ := gx_b hf
        refine gx_calli (As := []) (ws' := wd_X8_readClosed cI cZ h_t h_t_row h_t_tape h_t_codes h_t_widths h_t_begins h_t_spanAt h_t_spanLong h_t_spanOf h_t_out V_t V_t_tape V_t_spanAt V_t_spanLong V_t_out) (isC := [0]) (isR := [1, 2, 3, 4]) (isP := [4, 0, 1, 2, 3]) C hw (ct_X8_widthNow l D cI cZ h_t h_t_row h_t_tape h_t_codes h_t_widths h_t_begins h_t_spanAt h_t_spanLong h_t_spanOf h_t_out V_t hy_17) kl_X8_readClosed_81 ⟨rfl, rfl⟩ ⟨rfl, rfl, by decide, by decide, by decide, by decide, rfl⟩ 0 rfl rfl rfl rfl hl.1 (Nat.le_of_ble_eq_true rfl) ⟨Nat.le_refl _, Nat.le_refl _⟩ dX8_readClosed_17 (fun H locs hw => ?_)
        obtain ⟨y_20, hy_20, hf⟩ := gx_b hf
        refine gx_calli (As := [.int y_17]) (ws' := wd_X8_readClosed cI cZ h_t h_t_row h_t_tape h_t_codes h_t_widths h_t_begins h_t_spanAt h_t_spanLong h_t_spanOf h_t_out y_20.2 V_t_tape V_t_spanAt V_t_spanLong V_t_out) (isC := [0, 1]) (isR := [2, 3, 4]) (isP := [3, 4, 0, 1, 2]) C hw (ct_X8_number l D cI cZ h_t h_t_row h_t_tape h_t_codes h_t_widths h_t_begins h_t_spanAt h_t_spanLong h_t_spanOf h_t_out V_t V_t_tape y_17 hy_20) kl_X8_readClosed_144 ⟨rfl, rfl⟩ ⟨rfl, rfl, by decide, by decide, by decide, by decide, rfl⟩ 0 rfl rfl rfl rfl hl.1 (Nat.le_of_ble_eq_true rfl) ⟨Nat.le_refl _, Nat.le_refl _⟩ dX8_readClosed_20 (fun H locs hw => ?_)
        refine lv_istore_n (lv' := [(3, .int y_20.1), (0, .ref h_t), (1, .int x1), (2, .int x2)]) hx hb dX8_readClosed_23 rfl hl (by decide) rfl (fun ls hl => ?_)
        refine lv_aload_n hx hb dX8_readClosed_24 rfl (lv_at hl 1 rfl) ?_
        refine gx_get (v := .int (y_20.2 23)) C hw 0 rfl (gx_gj rfl rfl) ln_X8_readClosed_123 dX8_readClosed_25 ?_
        refine lv_if_ne (tgt := 50) hx hb dX8_readClosed_28 (by decide) (fun hc => ?_) (fun hc => ?_)
        · replace hf := gx_f hc hf
          exact tm_X8_readClosed_50 C h_t h_t_row h_t_tape h_t_codes h_t_widths h_t_begins h_t_spanAt h_t_spanLong h_t_spanOf h_t_out V_t_tape hQ (fn_X8_readClosed_l4 V_t_tape n) ih y_20.2 V_t_spanAt V_t_spanLong V_t_out x1 y_20.1 _ _ _ (lv_sub hl [1, 2, 0] rfl) hw hf
        · replace hf := gx_t hc hf
          refine lv_iload_n hx hb dX8_readClosed_31 rfl (lv_at hl 3 rfl) ?_
          refine lv_if_eq (tgt := 50) hx hb dX8_readClosed_32 (by decide) (fun hc => ?_) (fun hc => ?_)
          · replace hf := gx_t hc hf
            exact tm_X8_readClosed_50 C h_t h_t_row h_t_tape h_t_codes h_t_widths h_t_begins h_t_spanAt h_t_spanLong h_t_spanOf h_t_out V_t_tape hQ (fn_X8_readClosed_l4 V_t_tape n) ih y_20.2 V_t_spanAt V_t_spanLong V_t_out x1 y_20.1 _ _ _ (lv_sub hl [1, 2, 0] rfl) hw hf
          · replace hf := gx_f hc hf
            refine lv_iload_n hx hb dX8_readClosed_35 rfl (lv_at hl 0 rfl) ?_
            refine lv_iconst (v := 1) hx hb dX8_readClosed_36 (by decide) ?_
            refine lv_aload_n hx hb dX8_readClosed_37 rfl (lv_at hl 1 rfl) ?_
            refine gx_get (v := .int (y_20.2 1)) C hw 0 rfl (gx_gj rfl rfl) ln_X8_readClosed_7 dX8_readClosed_38 ?_
            refine lv_ishl hx hb dX8_readClosed_41 ?_
            refine lv_icmp_eq (tgt := 50) hx hb dX8_readClosed_42 (by decide) (fun hc => ?_) (fun hc => ?_)
            · replace hf := gx_t hc hf
              exact tm_X8_readClosed_50 C h_t h_t_row h_t_tape h_t_codes h_t_widths h_t_begins h_t_spanAt h_t_spanLong h_t_spanOf h_t_out V_t_tape hQ (fn_X8_readClosed_l4 V_t_tape n) ih y_20.2 V_t_spanAt V_t_spanLong V_t_out x1 y_20.1 _ _ _ (lv_sub hl [1, 2, 0] rfl) hw hf
            · replace hf := gx_f hc hf
              refine lv_aload_n hx hb dX8_readClosed_45 rfl (lv_at hl 1 rfl) ?_
              refine lv_iconst (v := 2) hx hb dX8_readClosed_46 (by decide) ?_
              refine gx_put (ws' := wd_X8_readClosed cI cZ h_t h_t_row h_t_tape h_t_codes h_t_widths h_t_begins h_t_spanAt h_t_spanLong h_t_spanOf h_t_out (upd y_20.2 23 2) V_t_tape V_t_spanAt V_t_spanLong V_t_out) C hw 0 rfl rfl lp_X8_readClosed_123 rfl rfl rfl dX8_readClosed_47 (fun H locs hw => ?_)
              exact tm_X8_readClosed_50 C h_t h_t_row h_t_tape h_t_codes h_t_widths h_t_begins h_t_spanAt h_t_spanLong h_t_spanOf h_t_out V_t_tape hQ (fn_X8_readClosed_l4 V_t_tape n) ih (upd y_20.2 23 2) V_t_spanAt V_t_spanLong V_t_out x1 y_20.1 _ _ _ (lv_sub hl [1, 2, 0] rfl) hw hf
set_option maxHeartbeats 4000000 in
set_option maxRecDepth 100000 in
theorem ct_X8_readClosed (l : Launch) (D : va_G) (cI cZ : ClassId) (h_t h_t_row h_t_tape h_t_codes h_t_widths h_t_begins h_t_spanAt h_t_spanLong h_t_spanOf h_t_out : Nat) (V_t V_t_tape V_t_spanAt V_t_spanLong V_t_out : Nat → Int32) {z : (Nat → Int32) × (Nat → Int32) × (Nat → Int32) × (Nat → Int32)} (hf : fn_X8_readClosed V_t V_t_tape V_t_spanAt V_t_spanLong V_t_out = some z) : gx_Mv l yX8_readClosed wsX8_readClosed (gx_rm 4) D cI cZ [.ref h_t] (wd_X8_readClosed cI cZ h_t h_t_row h_t_tape h_t_codes h_t_widths h_t_begins h_t_spanAt h_t_spanLong h_t_spanOf h_t_out V_t V_t_tape V_t_spanAt V_t_spanLong V_t_out) (wd_X8_readClosed cI cZ h_t h_t_row h_t_tape h_t_codes h_t_widths h_t_begins h_t_spanAt h_t_spanLong h_t_spanOf h_t_out z.1 V_t_tape z.2.1 z.2.2.1 z.2.2.2) := by
  refine gx_ofv (cc := cX8_readClosed) (own := RX8) (by decide) rfl rfl (Nat.le_of_ble_eq_true rfl) [(0, .ref h_t)] rfl ?_
  intro p e s m args below meth c A Q ls C hQ hl hw
  have hx := C.1.1
  have hb := C.1.2.1
  rw [fn_X8_readClosed] at hf
  refine lv_iconst (v := 0) hx hb dX8_readClosed_0 (by decide) ?_
  refine lv_istore_n (lv' := [(1, .int 0), (0, .ref h_t)]) hx hb dX8_readClosed_1 rfl hl (by decide) rfl (fun ls hl => ?_)
  refine lv_iconst (v := 1) hx hb dX8_readClosed_2 (by decide) ?_
  refine lv_istore_n (lv' := [(2, .int 1), (1, .int 0), (0, .ref h_t)]) hx hb dX8_readClosed_3 rfl hl (by decide) rfl (fun ls hl => ?_)
  exact tm_X8_readClosed_4 C h_t h_t_row h_t_tape h_t_codes h_t_widths h_t_begins h_t_spanAt h_t_spanLong h_t_spanOf h_t_out V_t_tape hQ  gx_fuel V_t V_t_spanAt V_t_spanLong V_t_out 0 1 _ _ _ (lv_sub hl [2, 1, 0] rfl) hw hf
-- LzwFormsModel.readOpen: touched ['t', 't_tape', 't_spanAt', 't_spanLong', 't_out']; used ['t', 't_tape', 't_spanAt', 't_spanLong', 't_out']; mod ['t', 't_spanAt', 't_spanLong', 't_out']; height 4
theorem ln_X8_readOpen_7 : gx_L wsX8_readOpen RX8 7 8 1 := ⟨_, _, _, rfl, by decide +kernel, by decide, Or.inl (by decide +kernel)⟩
theorem lp_X8_readOpen_68 : gx_LP wsX8_readOpen RX8 68 8 9 false .int := ⟨_, _, _, tyX8, rfl, by decide +kernel, by decide, by decide +kernel, tyX8_ok, nmX8, by decide +kernel, by decide +kernel, by decide +kernel⟩
theorem ln_X8_readOpen_113 : gx_L wsX8_readOpen RX8 113 8 7 := ⟨_, _, _, rfl, by decide +kernel, by decide, Or.inl (by decide +kernel)⟩
theorem ln_X8_readOpen_123 : gx_L wsX8_readOpen RX8 123 8 23 := ⟨_, _, _, rfl, by decide +kernel, by decide, Or.inl (by decide +kernel)⟩
theorem ln_X8_readOpen_126 : gx_L wsX8_readOpen RX8 126 8 22 := ⟨_, _, _, rfl, by decide +kernel, by decide, Or.inl (by decide +kernel)⟩
theorem kl_X8_readOpen_81 : gx_KV wsX8_readOpen RX8 81 yX8_widthNow cX8_widthNow 3 (some .int) wsX8_widthNow (gx_rm 2) (gx_rm 4) 0 := ⟨gX8_readOpen_X8_widthNow, ⟨_, rfl⟩, ⟨by decide, by decide, by decide +kernel⟩, ⟨by decide, by decide⟩⟩
theorem kl_X8_readOpen_144 : gx_KV wsX8_readOpen RX8 144 yX8_number cX8_number 5 (some .int) wsX8_number (gx_rm 1) (gx_rm 4) 1 := ⟨gX8_readOpen_X8_number, ⟨_, rfl⟩, ⟨by decide, by decide, by decide +kernel⟩, ⟨by decide, by decide⟩⟩
theorem kl_X8_readOpen_147 : gx_KV wsX8_readOpen RX8 147 yX8_readCode cX8_readCode 3 none wsX8_readCode (gx_rm 3) (gx_rm 4) 1 := ⟨gX8_readOpen_X8_readCode, ⟨_, rfl⟩, ⟨by decide, by decide, by decide +kernel⟩, ⟨by decide, by decide⟩⟩
theorem kl_X8_readOpen_150 : gx_KV wsX8_readOpen RX8 150 yX8_zeros cX8_zeros 3 none wsX8_zeros (gx_rm 1) (gx_rm 4) 1 := ⟨gX8_readOpen_X8_zeros, ⟨_, rfl⟩, ⟨by decide, by decide, by decide +kernel⟩, ⟨by decide, by decide⟩⟩
def wd_X8_readOpen (cI cZ : ClassId) (h_t h_t_row h_t_tape h_t_codes h_t_widths h_t_begins h_t_spanAt h_t_spanLong h_t_spanOf h_t_out : Nat) (V_t V_t_tape V_t_spanAt V_t_spanLong V_t_out : Nat → Int32) : va_W := [gx_o h_t 8 [none, none, none, none, some (some h_t_row), none, some (some h_t_tape), none, none, none, some (some h_t_codes), some (some h_t_widths), some (some h_t_begins), none, none, none, none, some (some h_t_spanAt), some (some h_t_spanLong), some (some h_t_spanOf), none, none, none, none, some (some h_t_out), none, none, none] V_t, gx_a h_t_tape cZ 3200 V_t_tape, gx_a h_t_spanAt cI 300 V_t_spanAt, gx_a h_t_spanLong cI 300 V_t_spanLong, gx_a h_t_out cI 300 V_t_out]
set_option maxHeartbeats 4000000 in
set_option maxRecDepth 100000 in
theorem tm_X8_readOpen_186 (C : gx_C cX8_readOpen 9 wsX8_readOpen RX8 D cI cZ p s m args c) (h_t h_t_row h_t_tape h_t_codes h_t_widths h_t_begins h_t_spanAt h_t_spanLong h_t_spanOf h_t_out : Nat) (V_t_tape : Nat → Int32) {z : (Nat → Int32) × (Nat → Int32) × (Nat → Int32) × (Nat → Int32)} (hQ : gx_Qv cX8_readOpen p l e (gx_rm 4) s m args below meth c D A Q (wd_X8_readOpen cI cZ h_t h_t_row h_t_tape h_t_codes h_t_widths h_t_begins h_t_spanAt h_t_spanLong h_t_spanOf h_t_out z.1 V_t_tape z.2.1 z.2.2.1 z.2.2.2)) : ∀ (V_t V_t_spanAt V_t_spanLong V_t_out : Nat → Int32) (ls : Array Slot) (H : Heap) (locs : List Loc), lv_has ls 9 [(0, .ref h_t)] → gx_W D A s (wd_X8_readOpen cI cZ h_t h_t_row h_t_tape h_t_codes h_t_widths h_t_begins h_t_spanAt h_t_spanLong h_t_spanOf h_t_out V_t V_t_tape V_t_spanAt V_t_spanLong V_t_out) H locs → fn_X8_readOpen_j186 V_t_tape V_t V_t_spanAt V_t_spanLong V_t_out = some z → W p l e (gx_rm 4) s m args below meth c H locs 0 0 Q (F0 m 186 ls []) := by
  have hx := C.1.1
  have hb := C.1.2.1
  intro V_t V_t_spanAt V_t_spanLong V_t_out ls H locs hl hw hf
  rw [fn_X8_readOpen_j186] at hf
  refine lv_aload_n hx hb dX8_readOpen_186 rfl (lv_at hl 0 rfl) ?_
  refine lv_bipush (v := 8) hx hb dX8_readOpen_187 (by decide) ?_
  refine lv_aload_n hx hb dX8_readOpen_189 rfl (lv_at hl 0 rfl) ?_
  refine gx_get (v := .int (V_t 7)) C hw 0 rfl (gx_gj rfl rfl) ln_X8_readOpen_113 dX8_readOpen_190 ?_
  refine lv_imul hx hb dX8_readOpen_193 ?_
  refine lv_aload_n hx hb dX8_readOpen_194 rfl (lv_at hl 0 rfl) ?_
  refine gx_get (v := .int (V_t 22)) C hw 0 rfl (gx_gj rfl rfl) ln_X8_readOpen_126 dX8_readOpen_195 ?_
  refine lv_isub hx hb dX8_readOpen_198 ?_
  obtain ⟨y_199, hy_199, hf⟩ := gx_b hf
  refine gx_callv (As := [.int ((8 * (V_t 7)) - (V_t 22))]) (ws' := wd_X8_readOpen cI cZ h_t h_t_row h_t_tape h_t_codes h_t_widths h_t_begins h_t_spanAt h_t_spanLong h_t_spanOf h_t_out y_199 V_t_tape V_t_spanAt V_t_spanLong V_t_out) (isC := [0, 1]) (isR := [2, 3, 4]) (isP := [3, 4, 0, 1, 2]) C hw (ct_X8_zeros l D cI cZ h_t h_t_row h_t_tape h_t_codes h_t_widths h_t_begins h_t_spanAt h_t_spanLong h_t_spanOf h_t_out V_t V_t_tape ((8 * (V_t 7)) - (V_t 22)) hy_199) kl_X8_readOpen_150 ⟨rfl, rfl⟩ ⟨rfl, rfl, by decide, by decide, by decide, by decide, rfl⟩ 0 rfl rfl rfl rfl hl.1 (Nat.le_of_ble_eq_true rfl) ⟨Nat.le_refl _, Nat.le_refl _⟩ dX8_readOpen_199 (fun H locs hw => ?_)
  obtain rfl := Option.some.inj hf
  exact hQ _ _ _ _ dX8_readOpen_202 hw
set_option maxHeartbeats 4000000 in
set_option maxRecDepth 100000 in
theorem tm_X8_readOpen_170 (C : gx_C cX8_readOpen 9 wsX8_readOpen RX8 D cI cZ p s m args c) (h_t h_t_row h_t_tape h_t_codes h_t_widths h_t_begins h_t_spanAt h_t_spanLong h_t_spanOf h_t_out : Nat) (V_t_tape : Nat → Int32) {z : (Nat → Int32) × (Nat → Int32) × (Nat → Int32) × (Nat → Int32)} (hQ : gx_Qv cX8_readOpen p l e (gx_rm 4) s m args below meth c D A Q (wd_X8_readOpen cI cZ h_t h_t_row h_t_tape h_t_codes h_t_widths h_t_begins h_t_spanAt h_t_spanLong h_t_spanOf h_t_out z.1 V_t_tape z.2.1 z.2.2.1 z.2.2.2)) (K9 : (Nat → Int32) → (Nat → Int32) → (Nat → Int32) → (Nat → Int32) → Int32 → Int32 → Int32 → Int32 → Option ((Nat → Int32) × (Nat → Int32) × (Nat → Int32) × (Nat → Int32))) (hK9 : ∀ (V_t V_t_spanAt V_t_spanLong V_t_out : Nat → Int32) (x1 x2 x3 x4 : Int32) (ls : Array Slot) (H : Heap) (locs : List Loc), lv_has ls 9 [(0, .ref h_t), (1, .int x1), (2, .int x2), (3, .int x3), (4, .int x4)] → gx_W D A s (wd_X8_readOpen cI cZ h_t h_t_row h_t_tape h_t_codes h_t_widths h_t_begins h_t_spanAt h_t_spanLong h_t_spanOf h_t_out V_t V_t_tape V_t_spanAt V_t_spanLong V_t_out) H locs → K9 V_t V_t_spanAt V_t_spanLong V_t_out x1 x2 x3 x4 = some z → W p l e (gx_rm 4) s m args below meth c H locs 0 0 Q (F0 m 9 ls [])) : ∀ (V_t V_t_spanAt V_t_spanLong V_t_out : Nat → Int32) (x1 x2 x3 x4 x8 : Int32) (ls : Array Slot) (H : Heap) (locs : List Loc), lv_has ls 9 [(0, .ref h_t), (1, .int x1), (2, .int x2), (3, .int x3), (4, .int x4), (8, .int x8)] → gx_W D A s (wd_X8_readOpen cI cZ h_t h_t_row h_t_tape h_t_codes h_t_widths h_t_begins h_t_spanAt h_t_spanLong h_t_spanOf h_t_out V_t V_t_tape V_t_spanAt V_t_spanLong V_t_out) H locs → fn_X8_readOpen_j170 V_t_tape K9 V_t V_t_spanAt V_t_spanLong V_t_out x1 x2 x3 x4 x8 = some z → W p l e (gx_rm 4) s m args below meth c H locs 0 0 Q (F0 m 170 ls []) := by
  have hx := C.1.1
  have hb := C.1.2.1
  intro V_t V_t_spanAt V_t_spanLong V_t_out x1 x2 x3 x4 x8 ls H locs hl hw hf
  rw [fn_X8_readOpen_j170] at hf
  refine lv_aload_n hx hb dX8_readOpen_170 rfl (lv_at hl 0 rfl) ?_
  refine gx_get (v := .int (V_t 23)) C hw 0 rfl (gx_gj rfl rfl) ln_X8_readOpen_123 dX8_readOpen_171 ?_
  refine lv_if_ne (tgt := 183) hx hb dX8_readOpen_174 (by decide) (fun hc => ?_) (fun hc => ?_)
  · replace hf := gx_f hc hf
    refine lv_goto (tgt := 9) hx hb dX8_readOpen_183 (by decide) ?_
    exact hK9 V_t V_t_spanAt V_t_spanLong V_t_out x1 x2 x3 x4 _ _ _ (lv_sub hl [0, 1, 2, 3, 4] rfl) hw hf
  · replace hf := gx_t hc hf
    refine lv_aload_n hx hb dX8_readOpen_177 rfl (lv_at hl 0 rfl) ?_
    refine lv_iload hx hb dX8_readOpen_178 (lv_at hl 5 rfl) ?_
    obtain ⟨y_180, hy_180, hf⟩ := gx_b hf
    refine gx_callv (As := [.int x8]) (ws' := wd_X8_readOpen cI cZ h_t h_t_row h_t_tape h_t_codes h_t_widths h_t_begins h_t_spanAt h_t_spanLong h_t_spanOf h_t_out y_180.1 V_t_tape y_180.2.1 y_180.2.2.1 y_180.2.2.2) (isC := [0, 2, 3, 4]) (isR := [1]) (isP := [1, 0, 2, 3, 4]) C hw (ct_X8_readCode l D cI cZ h_t h_t_row h_t_tape h_t_codes h_t_widths h_t_begins h_t_spanAt h_t_spanLong h_t_spanOf h_t_out V_t V_t_spanAt V_t_spanLong V_t_out x8 hy_180) kl_X8_readOpen_147 ⟨rfl, rfl⟩ ⟨rfl, rfl, by decide, by decide, by decide, by decide, rfl⟩ 0 rfl rfl rfl rfl hl.1 (Nat.le_of_ble_eq_true rfl) ⟨Nat.le_refl _, Nat.le_refl _⟩ dX8_readOpen_180 (fun H locs hw => ?_)
    refine lv_goto (tgt := 9) hx hb dX8_readOpen_183 (by decide) ?_
    exact hK9 y_180.1 y_180.2.1 y_180.2.2.1 y_180.2.2.2 x1 x2 x3 x4 _ _ _ (lv_sub hl [0, 1, 2, 3, 4] rfl) hw hf
set_option maxHeartbeats 4000000 in
set_option maxRecDepth 100000 in
theorem tm_X8_readOpen_150 (C : gx_C cX8_readOpen 9 wsX8_readOpen RX8 D cI cZ p s m args c) (h_t h_t_row h_t_tape h_t_codes h_t_widths h_t_begins h_t_spanAt h_t_spanLong h_t_spanOf h_t_out : Nat) (V_t_tape : Nat → Int32) {z : (Nat → Int32) × (Nat → Int32) × (Nat → Int32) × (Nat → Int32)} (hQ : gx_Qv cX8_readOpen p l e (gx_rm 4) s m args below meth c D A Q (wd_X8_readOpen cI cZ h_t h_t_row h_t_tape h_t_codes h_t_widths h_t_begins h_t_spanAt h_t_spanLong h_t_spanOf h_t_out z.1 V_t_tape z.2.1 z.2.2.1 z.2.2.2)) (K9 : (Nat → Int32) → (Nat → Int32) → (Nat → Int32) → (Nat → Int32) → Int32 → Int32 → Int32 → Int32 → Option ((Nat → Int32) × (Nat → Int32) × (Nat → Int32) × (Nat → Int32))) (hK9 : ∀ (V_t V_t_spanAt V_t_spanLong V_t_out : Nat → Int32) (x1 x2 x3 x4 : Int32) (ls : Array Slot) (H : Heap) (locs : List Loc), lv_has ls 9 [(0, .ref h_t), (1, .int x1), (2, .int x2), (3, .int x3), (4, .int x4)] → gx_W D A s (wd_X8_readOpen cI cZ h_t h_t_row h_t_tape h_t_codes h_t_widths h_t_begins h_t_spanAt h_t_spanLong h_t_spanOf h_t_out V_t V_t_tape V_t_spanAt V_t_spanLong V_t_out) H locs → K9 V_t V_t_spanAt V_t_spanLong V_t_out x1 x2 x3 x4 = some z → W p l e (gx_rm 4) s m args below meth c H locs 0 0 Q (F0 m 9 ls [])) : ∀ (V_t V_t_spanAt V_t_spanLong V_t_out : Nat → Int32) (x1 x2 x4 x8 s0 : Int32) (ls : Array Slot) (H : Heap) (locs : List Loc), lv_has ls 9 [(0, .ref h_t), (1, .int x1), (2, .int x2), (4, .int x4), (8, .int x8)] → gx_W D A s (wd_X8_readOpen cI cZ h_t h_t_row h_t_tape h_t_codes h_t_widths h_t_begins h_t_spanAt h_t_spanLong h_t_spanOf h_t_out V_t V_t_tape V_t_spanAt V_t_spanLong V_t_out) H locs → fn_X8_readOpen_j150 V_t_tape K9 V_t V_t_spanAt V_t_spanLong V_t_out x1 x2 x4 x8 s0 = some z → W p l e (gx_rm 4) s m args below meth c H locs 0 0 Q (F0 m 150 ls [.int s0]) := by
  have hx := C.1.1
  have hb := C.1.2.1
  intro V_t V_t_spanAt V_t_spanLong V_t_out x1 x2 x4 x8 s0 ls H locs hl hw hf
  rw [fn_X8_readOpen_j150] at hf
  refine lv_istore_n (lv' := [(3, .int s0), (0, .ref h_t), (1, .int x1), (2, .int x2), (4, .int x4), (8, .int x8)]) hx hb dX8_readOpen_150 rfl hl (by decide) rfl (fun ls hl => ?_)
  refine lv_aload_n hx hb dX8_readOpen_151 rfl (lv_at hl 1 rfl) ?_
  refine gx_get (v := .int (V_t 23)) C hw 0 rfl (gx_gj rfl rfl) ln_X8_readOpen_123 dX8_readOpen_152 ?_
  refine lv_if_ne (tgt := 170) hx hb dX8_readOpen_155 (by decide) (fun hc => ?_) (fun hc => ?_)
  · replace hf := gx_f hc hf
    exact tm_X8_readOpen_170 C h_t h_t_row h_t_tape h_t_codes h_t_widths h_t_begins h_t_spanAt h_t_spanLong h_t_spanOf h_t_out V_t_tape hQ K9 hK9 V_t V_t_spanAt V_t_spanLong V_t_out x1 x2 s0 x4 x8 _ _ _ (lv_sub hl [1, 2, 3, 0, 4, 5] rfl) hw hf
  · replace hf := gx_t hc hf
    refine lv_iload_n hx hb dX8_readOpen_158 rfl (lv_at hl 0 rfl) ?_
    refine lv_if_eq (tgt := 170) hx hb dX8_readOpen_159 (by decide) (fun hc => ?_) (fun hc => ?_)
    · replace hf := gx_t hc hf
      exact tm_X8_readOpen_170 C h_t h_t_row h_t_tape h_t_codes h_t_widths h_t_begins h_t_spanAt h_t_spanLong h_t_spanOf h_t_out V_t_tape hQ K9 hK9 V_t V_t_spanAt V_t_spanLong V_t_out x1 x2 s0 x4 x8 _ _ _ (lv_sub hl [1, 2, 3, 0, 4, 5] rfl) hw hf
    · replace hf := gx_f hc hf
      refine lv_aload_n hx hb dX8_readOpen_162 rfl (lv_at hl 1 rfl) ?_
      refine lv_iconst (v := 0) hx hb dX8_readOpen_163 (by decide) ?_
      refine gx_put (ws' := wd_X8_readOpen cI cZ h_t h_t_row h_t_tape h_t_codes h_t_widths h_t_begins h_t_spanAt h_t_spanLong h_t_spanOf h_t_out (upd V_t 9 0) V_t_tape V_t_spanAt V_t_spanLong V_t_out) C hw 0 rfl rfl lp_X8_readOpen_68 rfl rfl rfl dX8_readOpen_164 (fun H locs hw => ?_)
      refine lv_goto (tgt := 183) hx hb dX8_readOpen_167 (by decide) ?_
      refine lv_goto (tgt := 9) hx hb dX8_readOpen_183 (by decide) ?_
      exact hK9 (upd V_t 9 0) V_t_spanAt V_t_spanLong V_t_out x1 x2 s0 x4 _ _ _ (lv_sub hl [1, 2, 3, 0, 4] rfl) hw hf
set_option maxHeartbeats 4000000 in
set_option maxRecDepth 100000 in
theorem tm_X8_readOpen_130 (C : gx_C cX8_readOpen 9 wsX8_readOpen RX8 D cI cZ p s m args c) (h_t h_t_row h_t_tape h_t_codes h_t_widths h_t_begins h_t_spanAt h_t_spanLong h_t_spanOf h_t_out : Nat) (V_t_tape : Nat → Int32) {z : (Nat → Int32) × (Nat → Int32) × (Nat → Int32) × (Nat → Int32)} (hQ : gx_Qv cX8_readOpen p l e (gx_rm 4) s m args below meth c D A Q (wd_X8_readOpen cI cZ h_t h_t_row h_t_tape h_t_codes h_t_widths h_t_begins h_t_spanAt h_t_spanLong h_t_spanOf h_t_out z.1 V_t_tape z.2.1 z.2.2.1 z.2.2.2)) (K9 : (Nat → Int32) → (Nat → Int32) → (Nat → Int32) → (Nat → Int32) → Int32 → Int32 → Int32 → Int32 → Option ((Nat → Int32) × (Nat → Int32) × (Nat → Int32) × (Nat → Int32))) (hK9 : ∀ (V_t V_t_spanAt V_t_spanLong V_t_out : Nat → Int32) (x1 x2 x3 x4 : Int32) (ls : Array Slot) (H : Heap) (locs : List Loc), lv_has ls 9 [(0, .ref h_t), (1, .int x1), (2, .int x2), (3, .int x3), (4, .int x4)] → gx_W D A s (wd_X8_readOpen cI cZ h_t h_t_row h_t_tape h_t_codes h_t_widths h_t_begins h_t_spanAt h_t_spanLong h_t_spanOf h_t_out V_t V_t_tape V_t_spanAt V_t_spanLong V_t_out) H locs → K9 V_t V_t_spanAt V_t_spanLong V_t_out x1 x2 x3 x4 = some z → W p l e (gx_rm 4) s m args below meth c H locs 0 0 Q (F0 m 9 ls [])) : ∀ (V_t V_t_spanAt V_t_spanLong V_t_out : Nat → Int32) (x4 x5 x8 s0 : Int32) (ls : Array Slot) (H : Heap) (locs : List Loc), lv_has ls 9 [(0, .ref h_t), (4, .int x4), (5, .int x5), (8, .int x8)] → gx_W D A s (wd_X8_readOpen cI cZ h_t h_t_row h_t_tape h_t_codes h_t_widths h_t_begins h_t_spanAt h_t_spanLong h_t_spanOf h_t_out V_t V_t_tape V_t_spanAt V_t_spanLong V_t_out) H locs → fn_X8_readOpen_j130 V_t_tape K9 V_t V_t_spanAt V_t_spanLong V_t_out x4 x5 x8 s0 = some z → W p l e (gx_rm 4) s m args below meth c H locs 0 0 Q (F0 m 130 ls [.int s0]) := by
  have hx := C.1.1
  have hb := C.1.2.1
  intro V_t V_t_spanAt V_t_spanLong V_t_out x4 x5 x8 s0 ls H locs hl hw hf
  rw [fn_X8_readOpen_j130] at hf
  refine lv_istore_n (lv' := [(1, .int s0), (0, .ref h_t), (4, .int x4), (5, .int x5), (8, .int x8)]) hx hb dX8_readOpen_130 rfl hl (by decide) rfl (fun ls hl => ?_)
  refine lv_iload hx hb dX8_readOpen_131 (lv_at hl 3 rfl) ?_
  refine lv_istore_n (lv' := [(2, .int x5), (1, .int s0), (0, .ref h_t), (4, .int x4), (5, .int x5), (8, .int x8)]) hx hb dX8_readOpen_133 rfl hl (by decide) rfl (fun ls hl => ?_)
  refine lv_iload hx hb dX8_readOpen_134 (lv_at hl 5 rfl) ?_
  refine lv_iconst (v := 1) hx hb dX8_readOpen_136 (by decide) ?_
  refine lv_aload_n hx hb dX8_readOpen_137 rfl (lv_at hl 2 rfl) ?_
  refine gx_get (v := .int (V_t 1)) C hw 0 rfl (gx_gj rfl rfl) ln_X8_readOpen_7 dX8_readOpen_138 ?_
  refine lv_ishl hx hb dX8_readOpen_141 ?_
  refine lv_icmp_ne (tgt := 149) hx hb dX8_readOpen_142 (by decide) (fun hc => ?_) (fun hc => ?_)
  · replace hf := gx_f hc hf
    refine lv_iconst (v := 0) hx hb dX8_readOpen_149 (by decide) ?_
    exact tm_X8_readOpen_150 C h_t h_t_row h_t_tape h_t_codes h_t_widths h_t_begins h_t_spanAt h_t_spanLong h_t_spanOf h_t_out V_t_tape hQ K9 hK9 V_t V_t_spanAt V_t_spanLong V_t_out s0 x5 x4 x8 0 _ _ _ (lv_sub hl [2, 1, 0, 3, 5] rfl) hw hf
  · replace hf := gx_t hc hf
    refine lv_iconst (v := 1) hx hb dX8_readOpen_145 (by decide) ?_
    refine lv_goto (tgt := 150) hx hb dX8_readOpen_146 (by decide) ?_
    exact tm_X8_readOpen_150 C h_t h_t_row h_t_tape h_t_codes h_t_widths h_t_begins h_t_spanAt h_t_spanLong h_t_spanOf h_t_out V_t_tape hQ K9 hK9 V_t V_t_spanAt V_t_spanLong V_t_out s0 x5 x4 x8 1 _ _ _ (lv_sub hl [2, 1, 0, 3, 5] rfl) hw hf
set_option maxHeartbeats 4000000 in
set_option maxRecDepth 100000 in
theorem tm_X8_readOpen_94 (C : gx_C cX8_readOpen 9 wsX8_readOpen RX8 D cI cZ p s m args c) (h_t h_t_row h_t_tape h_t_codes h_t_widths h_t_begins h_t_spanAt h_t_spanLong h_t_spanOf h_t_out : Nat) (V_t_tape : Nat → Int32) {z : (Nat → Int32) × (Nat → Int32) × (Nat → Int32) × (Nat → Int32)} (hQ : gx_Qv cX8_readOpen p l e (gx_rm 4) s m args below meth c D A Q (wd_X8_readOpen cI cZ h_t h_t_row h_t_tape h_t_codes h_t_widths h_t_begins h_t_spanAt h_t_spanLong h_t_spanOf h_t_out z.1 V_t_tape z.2.1 z.2.2.1 z.2.2.2)) (K9 : (Nat → Int32) → (Nat → Int32) → (Nat → Int32) → (Nat → Int32) → Int32 → Int32 → Int32 → Int32 → Option ((Nat → Int32) × (Nat → Int32) × (Nat → Int32) × (Nat → Int32))) (hK9 : ∀ (V_t V_t_spanAt V_t_spanLong V_t_out : Nat → Int32) (x1 x2 x3 x4 : Int32) (ls : Array Slot) (H : Heap) (locs : List Loc), lv_has ls 9 [(0, .ref h_t), (1, .int x1), (2, .int x2), (3, .int x3), (4, .int x4)] → gx_W D A s (wd_X8_readOpen cI cZ h_t h_t_row h_t_tape h_t_codes h_t_widths h_t_begins h_t_spanAt h_t_spanLong h_t_spanOf h_t_out V_t V_t_tape V_t_spanAt V_t_spanLong V_t_out) H locs → K9 V_t V_t_spanAt V_t_spanLong V_t_out x1 x2 x3 x4 = some z → W p l e (gx_rm 4) s m args below meth c H locs 0 0 Q (F0 m 9 ls [])) : ∀ (V_t V_t_spanAt V_t_spanLong V_t_out : Nat → Int32) (x1 x2 x3 x5 x6 x7 s0 : Int32) (ls : Array Slot) (H : Heap) (locs : List Loc), lv_has ls 9 [(0, .ref h_t), (1, .int x1), (2, .int x2), (3, .int x3), (5, .int x5), (6, .int x6), (7, .int x7)] → gx_W D A s (wd_X8_readOpen cI cZ h_t h_t_row h_t_tape h_t_codes h_t_widths h_t_begins h_t_spanAt h_t_spanLong h_t_spanOf h_t_out V_t V_t_tape V_t_spanAt V_t_spanLong V_t_out) H locs → fn_X8_readOpen_j94 V_t_tape K9 V_t V_t_spanAt V_t_spanLong V_t_out x1 x2 x3 x5 x6 x7 s0 = some z → W p l e (gx_rm 4) s m args below meth c H locs 0 0 Q (F0 m 94 ls [.int s0]) := by
  have hx := C.1.1
  have hb := C.1.2.1
  intro V_t V_t_spanAt V_t_spanLong V_t_out x1 x2 x3 x5 x6 x7 s0 ls H locs hl hw hf
  rw [fn_X8_readOpen_j94] at hf
  refine lv_istore (lv' := [(4, .int s0), (0, .ref h_t), (1, .int x1), (2, .int x2), (3, .int x3), (5, .int x5), (6, .int x6), (7, .int x7)]) hx hb dX8_readOpen_94 hl (by decide) rfl (fun ls hl => ?_)
  refine lv_iload hx hb dX8_readOpen_96 (lv_at hl 0 rfl) ?_
  refine lv_if_eq (tgt := 183) hx hb dX8_readOpen_98 (by decide) (fun hc => ?_) (fun hc => ?_)
  · replace hf := gx_t hc hf
    refine lv_goto (tgt := 9) hx hb dX8_readOpen_183 (by decide) ?_
    exact hK9 V_t V_t_spanAt V_t_spanLong V_t_out x1 x2 x3 s0 _ _ _ (lv_sub hl [1, 2, 3, 4, 0] rfl) hw hf
  · replace hf := gx_f hc hf
    refine lv_aload_n hx hb dX8_readOpen_101 rfl (lv_at hl 1 rfl) ?_
    refine lv_iload hx hb dX8_readOpen_102 (lv_at hl 7 rfl) ?_
    obtain ⟨y_104, hy_104, hf⟩ := gx_b hf
    refine gx_callv (As := [.int x7]) (ws' := wd_X8_readOpen cI cZ h_t h_t_row h_t_tape h_t_codes h_t_widths h_t_begins h_t_spanAt h_t_spanLong h_t_spanOf h_t_out y_104 V_t_tape V_t_spanAt V_t_spanLong V_t_out) (isC := [0, 1]) (isR := [2, 3, 4]) (isP := [3, 4, 0, 1, 2]) C hw (ct_X8_zeros l D cI cZ h_t h_t_row h_t_tape h_t_codes h_t_widths h_t_begins h_t_spanAt h_t_spanLong h_t_spanOf h_t_out V_t V_t_tape x7 hy_104) kl_X8_readOpen_150 ⟨rfl, rfl⟩ ⟨rfl, rfl, by decide, by decide, by decide, by decide, rfl⟩ 0 rfl rfl rfl rfl hl.1 (Nat.le_of_ble_eq_true rfl) ⟨Nat.le_refl _, Nat.le_refl _⟩ dX8_readOpen_104 (fun H locs hw => ?_)
    refine lv_aload_n hx hb dX8_readOpen_107 rfl (lv_at hl 1 rfl) ?_
    refine lv_iload hx hb dX8_readOpen_108 (lv_at hl 5 rfl) ?_
    obtain ⟨y_110, hy_110, hf⟩ := gx_b hf
    refine gx_calli (As := [.int x5]) (ws' := wd_X8_readOpen cI cZ h_t h_t_row h_t_tape h_t_codes h_t_widths h_t_begins h_t_spanAt h_t_spanLong h_t_spanOf h_t_out y_110.2 V_t_tape V_t_spanAt V_t_spanLong V_t_out) (isC := [0, 1]) (isR := [2, 3, 4]) (isP := [3, 4, 0, 1, 2]) C hw (ct_X8_number l D cI cZ h_t h_t_row h_t_tape h_t_codes h_t_widths h_t_begins h_t_spanAt h_t_spanLong h_t_spanOf h_t_out y_104 V_t_tape x5 hy_110) kl_X8_readOpen_144 ⟨rfl, rfl⟩ ⟨rfl, rfl, by decide, by decide, by decide, by decide, rfl⟩ 0 rfl rfl rfl rfl hl.1 (Nat.le_of_ble_eq_true rfl) ⟨Nat.le_refl _, Nat.le_refl _⟩ dX8_readOpen_110 (fun H locs hw => ?_)
    refine lv_istore (lv' := [(8, .int y_110.1), (4, .int s0), (0, .ref h_t), (1, .int x1), (2, .int x2), (3, .int x3), (5, .int x5), (6, .int x6), (7, .int x7)]) hx hb dX8_readOpen_113 hl (by decide) rfl (fun ls hl => ?_)
    refine lv_iload hx hb dX8_readOpen_115 (lv_at hl 7 rfl) ?_
    refine lv_if_eq (tgt := 124) hx hb dX8_readOpen_117 (by decide) (fun hc => ?_) (fun hc => ?_)
    · replace hf := gx_t hc hf
      refine lv_iload_n hx hb dX8_readOpen_124 rfl (lv_at hl 3 rfl) ?_
      refine lv_bipush (v := 8) hx hb dX8_readOpen_125 (by decide) ?_
      refine lv_irem hx hb dX8_readOpen_127 (by decide) ?_
      refine lv_iconst (v := 1) hx hb dX8_readOpen_128 (by decide) ?_
      refine lv_iadd hx hb dX8_readOpen_129 ?_
      exact tm_X8_readOpen_130 C h_t h_t_row h_t_tape h_t_codes h_t_widths h_t_begins h_t_spanAt h_t_spanLong h_t_spanOf h_t_out V_t_tape hQ K9 hK9 y_110.2 V_t_spanAt V_t_spanLong V_t_out s0 x5 y_110.1 ((x1 - x1 / 8 * 8) + 1) _ _ _ (lv_sub hl [2, 1, 6, 0] rfl) hw hf
    · replace hf := gx_f hc hf
      refine lv_iconst (v := 1) hx hb dX8_readOpen_120 (by decide) ?_
      refine lv_goto (tgt := 130) hx hb dX8_readOpen_121 (by decide) ?_
      exact tm_X8_readOpen_130 C h_t h_t_row h_t_tape h_t_codes h_t_widths h_t_begins h_t_spanAt h_t_spanLong h_t_spanOf h_t_out V_t_tape hQ K9 hK9 y_110.2 V_t_spanAt V_t_spanLong V_t_out s0 x5 y_110.1 1 _ _ _ (lv_sub hl [2, 1, 6, 0] rfl) hw hf
set_option maxHeartbeats 4000000 in
set_option maxRecDepth 100000 in
theorem tm_X8_readOpen_67 (C : gx_C cX8_readOpen 9 wsX8_readOpen RX8 D cI cZ p s m args c) (h_t h_t_row h_t_tape h_t_codes h_t_widths h_t_begins h_t_spanAt h_t_spanLong h_t_spanOf h_t_out : Nat) (V_t_tape : Nat → Int32) {z : (Nat → Int32) × (Nat → Int32) × (Nat → Int32) × (Nat → Int32)} (hQ : gx_Qv cX8_readOpen p l e (gx_rm 4) s m args below meth c D A Q (wd_X8_readOpen cI cZ h_t h_t_row h_t_tape h_t_codes h_t_widths h_t_begins h_t_spanAt h_t_spanLong h_t_spanOf h_t_out z.1 V_t_tape z.2.1 z.2.2.1 z.2.2.2)) (K9 : (Nat → Int32) → (Nat → Int32) → (Nat → Int32) → (Nat → Int32) → Int32 → Int32 → Int32 → Int32 → Option ((Nat → Int32) × (Nat → Int32) × (Nat → Int32) × (Nat → Int32))) (hK9 : ∀ (V_t V_t_spanAt V_t_spanLong V_t_out : Nat → Int32) (x1 x2 x3 x4 : Int32) (ls : Array Slot) (H : Heap) (locs : List Loc), lv_has ls 9 [(0, .ref h_t), (1, .int x1), (2, .int x2), (3, .int x3), (4, .int x4)] → gx_W D A s (wd_X8_readOpen cI cZ h_t h_t_row h_t_tape h_t_codes h_t_widths h_t_begins h_t_spanAt h_t_spanLong h_t_spanOf h_t_out V_t V_t_tape V_t_spanAt V_t_spanLong V_t_out) H locs → K9 V_t V_t_spanAt V_t_spanLong V_t_out x1 x2 x3 x4 = some z → W p l e (gx_rm 4) s m args below meth c H locs 0 0 Q (F0 m 9 ls [])) : ∀ (V_t V_t_spanAt V_t_spanLong V_t_out : Nat → Int32) (x1 x2 x3 x5 x6 s0 : Int32) (ls : Array Slot) (H : Heap) (locs : List Loc), lv_has ls 9 [(0, .ref h_t), (1, .int x1), (2, .int x2), (3, .int x3), (5, .int x5), (6, .int x6)] → gx_W D A s (wd_X8_readOpen cI cZ h_t h_t_row h_t_tape h_t_codes h_t_widths h_t_begins h_t_spanAt h_t_spanLong h_t_spanOf h_t_out V_t V_t_tape V_t_spanAt V_t_spanLong V_t_out) H locs → fn_X8_readOpen_j67 V_t_tape K9 V_t V_t_spanAt V_t_spanLong V_t_out x1 x2 x3 x5 x6 s0 = some z → W p l e (gx_rm 4) s m args below meth c H locs 0 0 Q (F0 m 67 ls [.int s0]) := by
  have hx := C.1.1
  have hb := C.1.2.1
  intro V_t V_t_spanAt V_t_spanLong V_t_out x1 x2 x3 x5 x6 s0 ls H locs hl hw hf
  rw [fn_X8_readOpen_j67] at hf
  refine lv_istore (lv' := [(7, .int s0), (0, .ref h_t), (1, .int x1), (2, .int x2), (3, .int x3), (5, .int x5), (6, .int x6)]) hx hb dX8_readOpen_67 hl (by decide) rfl (fun ls hl => ?_)
  refine lv_bipush (v := 8) hx hb dX8_readOpen_69 (by decide) ?_
  refine lv_aload_n hx hb dX8_readOpen_71 rfl (lv_at hl 1 rfl) ?_
  refine gx_get (v := .int (V_t 7)) C hw 0 rfl (gx_gj rfl rfl) ln_X8_readOpen_113 dX8_readOpen_72 ?_
  refine lv_imul hx hb dX8_readOpen_75 ?_
  refine lv_aload_n hx hb dX8_readOpen_76 rfl (lv_at hl 1 rfl) ?_
  refine gx_get (v := .int (V_t 22)) C hw 0 rfl (gx_gj rfl rfl) ln_X8_readOpen_126 dX8_readOpen_77 ?_
  refine lv_isub hx hb dX8_readOpen_80 ?_
  refine lv_iload hx hb dX8_readOpen_81 (lv_at hl 0 rfl) ?_
  refine lv_iload hx hb dX8_readOpen_83 (lv_at hl 5 rfl) ?_
  refine lv_iadd hx hb dX8_readOpen_85 ?_
  refine lv_icmp_lt (tgt := 93) hx hb dX8_readOpen_86 (by decide) (fun hc => ?_) (fun hc => ?_)
  · replace hf := gx_t hc hf
    refine lv_iconst (v := 0) hx hb dX8_readOpen_93 (by decide) ?_
    exact tm_X8_readOpen_94 C h_t h_t_row h_t_tape h_t_codes h_t_widths h_t_begins h_t_spanAt h_t_spanLong h_t_spanOf h_t_out V_t_tape hQ K9 hK9 V_t V_t_spanAt V_t_spanLong V_t_out x1 x2 x3 x5 x6 s0 0 _ _ _ (lv_sub hl [1, 2, 3, 4, 5, 6, 0] rfl) hw hf
  · replace hf := gx_f hc hf
    refine lv_iconst (v := 1) hx hb dX8_readOpen_89 (by decide) ?_
    refine lv_goto (tgt := 94) hx hb dX8_readOpen_90 (by decide) ?_
    exact tm_X8_readOpen_94 C h_t h_t_row h_t_tape h_t_codes h_t_widths h_t_begins h_t_spanAt h_t_spanLong h_t_spanOf h_t_out V_t_tape hQ K9 hK9 V_t V_t_spanAt V_t_spanLong V_t_out x1 x2 x3 x5 x6 s0 1 _ _ _ (lv_sub hl [1, 2, 3, 4, 5, 6, 0] rfl) hw hf
set_option maxHeartbeats 4000000 in
set_option maxRecDepth 100000 in
theorem tm_X8_readOpen_47 (C : gx_C cX8_readOpen 9 wsX8_readOpen RX8 D cI cZ p s m args c) (h_t h_t_row h_t_tape h_t_codes h_t_widths h_t_begins h_t_spanAt h_t_spanLong h_t_spanOf h_t_out : Nat) (V_t_tape : Nat → Int32) {z : (Nat → Int32) × (Nat → Int32) × (Nat → Int32) × (Nat → Int32)} (hQ : gx_Qv cX8_readOpen p l e (gx_rm 4) s m args below meth c D A Q (wd_X8_readOpen cI cZ h_t h_t_row h_t_tape h_t_codes h_t_widths h_t_begins h_t_spanAt h_t_spanLong h_t_spanOf h_t_out z.1 V_t_tape z.2.1 z.2.2.1 z.2.2.2)) (K9 : (Nat → Int32) → (Nat → Int32) → (Nat → Int32) → (Nat → Int32) → Int32 → Int32 → Int32 → Int32 → Option ((Nat → Int32) × (Nat → Int32) × (Nat → Int32) × (Nat → Int32))) (hK9 : ∀ (V_t V_t_spanAt V_t_spanLong V_t_out : Nat → Int32) (x1 x2 x3 x4 : Int32) (ls : Array Slot) (H : Heap) (locs : List Loc), lv_has ls 9 [(0, .ref h_t), (1, .int x1), (2, .int x2), (3, .int x3), (4, .int x4)] → gx_W D A s (wd_X8_readOpen cI cZ h_t h_t_row h_t_tape h_t_codes h_t_widths h_t_begins h_t_spanAt h_t_spanLong h_t_spanOf h_t_out V_t V_t_tape V_t_spanAt V_t_spanLong V_t_out) H locs → K9 V_t V_t_spanAt V_t_spanLong V_t_out x1 x2 x3 x4 = some z → W p l e (gx_rm 4) s m args below meth c H locs 0 0 Q (F0 m 9 ls [])) : ∀ (V_t V_t_spanAt V_t_spanLong V_t_out : Nat → Int32) (x1 x2 x3 x5 s0 : Int32) (ls : Array Slot) (H : Heap) (locs : List Loc), lv_has ls 9 [(0, .ref h_t), (1, .int x1), (2, .int x2), (3, .int x3), (5, .int x5)] → gx_W D A s (wd_X8_readOpen cI cZ h_t h_t_row h_t_tape h_t_codes h_t_widths h_t_begins h_t_spanAt h_t_spanLong h_t_spanOf h_t_out V_t V_t_tape V_t_spanAt V_t_spanLong V_t_out) H locs → fn_X8_readOpen_j47 V_t_tape K9 V_t V_t_spanAt V_t_spanLong V_t_out x1 x2 x3 x5 s0 = some z → W p l e (gx_rm 4) s m args below meth c H locs 0 0 Q (F0 m 47 ls [.int s0]) := by
  have hx := C.1.1
  have hb := C.1.2.1
  intro V_t V_t_spanAt V_t_spanLong V_t_out x1 x2 x3 x5 s0 ls H locs hl hw hf
  rw [fn_X8_readOpen_j47] at hf
  refine lv_istore (lv' := [(6, .int s0), (0, .ref h_t), (1, .int x1), (2, .int x2), (3, .int x3), (5, .int x5)]) hx hb dX8_readOpen_47 hl (by decide) rfl (fun ls hl => ?_)
  refine lv_iload hx hb dX8_readOpen_49 (lv_at hl 0 rfl) ?_
  refine lv_if_eq (tgt := 66) hx hb dX8_readOpen_51 (by decide) (fun hc => ?_) (fun hc => ?_)
  · replace hf := gx_t hc hf
    refine lv_iconst (v := 0) hx hb dX8_readOpen_66 (by decide) ?_
    exact tm_X8_readOpen_67 C h_t h_t_row h_t_tape h_t_codes h_t_widths h_t_begins h_t_spanAt h_t_spanLong h_t_spanOf h_t_out V_t_tape hQ K9 hK9 V_t V_t_spanAt V_t_spanLong V_t_out x1 x2 x3 x5 s0 0 _ _ _ (lv_sub hl [1, 2, 3, 4, 5, 0] rfl) hw hf
  · replace hf := gx_f hc hf
    refine lv_bipush (v := 8) hx hb dX8_readOpen_54 (by decide) ?_
    refine lv_iload_n hx hb dX8_readOpen_56 rfl (lv_at hl 2 rfl) ?_
    refine lv_isub hx hb dX8_readOpen_57 ?_
    refine lv_bipush (v := 8) hx hb dX8_readOpen_58 (by decide) ?_
    refine lv_irem hx hb dX8_readOpen_60 (by decide) ?_
    refine lv_iload_n hx hb dX8_readOpen_61 rfl (lv_at hl 3 rfl) ?_
    refine lv_imul hx hb dX8_readOpen_62 ?_
    refine lv_goto (tgt := 67) hx hb dX8_readOpen_63 (by decide) ?_
    exact tm_X8_readOpen_67 C h_t h_t_row h_t_tape h_t_codes h_t_widths h_t_begins h_t_spanAt h_t_spanLong h_t_spanOf h_t_out V_t_tape hQ K9 hK9 V_t V_t_spanAt V_t_spanLong V_t_out x1 x2 x3 x5 s0 (((8 - x1) - (8 - x1) / 8 * 8) * x2) _ _ _ (lv_sub hl [1, 2, 3, 4, 5, 0] rfl) hw hf
set_option maxHeartbeats 4000000 in
set_option maxRecDepth 100000 in
theorem tm_X8_readOpen_46 (C : gx_C cX8_readOpen 9 wsX8_readOpen RX8 D cI cZ p s m args c) (h_t h_t_row h_t_tape h_t_codes h_t_widths h_t_begins h_t_spanAt h_t_spanLong h_t_spanOf h_t_out : Nat) (V_t_tape : Nat → Int32) {z : (Nat → Int32) × (Nat → Int32) × (Nat → Int32) × (Nat → Int32)} (hQ : gx_Qv cX8_readOpen p l e (gx_rm 4) s m args below meth c D A Q (wd_X8_readOpen cI cZ h_t h_t_row h_t_tape h_t_codes h_t_widths h_t_begins h_t_spanAt h_t_spanLong h_t_spanOf h_t_out z.1 V_t_tape z.2.1 z.2.2.1 z.2.2.2)) (K9 : (Nat → Int32) → (Nat → Int32) → (Nat → Int32) → (Nat → Int32) → Int32 → Int32 → Int32 → Int32 → Option ((Nat → Int32) × (Nat → Int32) × (Nat → Int32) × (Nat → Int32))) (hK9 : ∀ (V_t V_t_spanAt V_t_spanLong V_t_out : Nat → Int32) (x1 x2 x3 x4 : Int32) (ls : Array Slot) (H : Heap) (locs : List Loc), lv_has ls 9 [(0, .ref h_t), (1, .int x1), (2, .int x2), (3, .int x3), (4, .int x4)] → gx_W D A s (wd_X8_readOpen cI cZ h_t h_t_row h_t_tape h_t_codes h_t_widths h_t_begins h_t_spanAt h_t_spanLong h_t_spanOf h_t_out V_t V_t_tape V_t_spanAt V_t_spanLong V_t_out) H locs → K9 V_t V_t_spanAt V_t_spanLong V_t_out x1 x2 x3 x4 = some z → W p l e (gx_rm 4) s m args below meth c H locs 0 0 Q (F0 m 9 ls [])) : ∀ (V_t V_t_spanAt V_t_spanLong V_t_out : Nat → Int32) (x1 x2 x3 x5 : Int32) (ls : Array Slot) (H : Heap) (locs : List Loc), lv_has ls 9 [(0, .ref h_t), (1, .int x1), (2, .int x2), (3, .int x3), (5, .int x5)] → gx_W D A s (wd_X8_readOpen cI cZ h_t h_t_row h_t_tape h_t_codes h_t_widths h_t_begins h_t_spanAt h_t_spanLong h_t_spanOf h_t_out V_t V_t_tape V_t_spanAt V_t_spanLong V_t_out) H locs → fn_X8_readOpen_j46 V_t_tape K9 V_t V_t_spanAt V_t_spanLong V_t_out x1 x2 x3 x5 = some z → W p l e (gx_rm 4) s m args below meth c H locs 0 0 Q (F0 m 46 ls []) := by
  have hx := C.1.1
  have hb := C.1.2.1
  intro V_t V_t_spanAt V_t_spanLong V_t_out x1 x2 x3 x5 ls H locs hl hw hf
  rw [fn_X8_readOpen_j46] at hf
  refine lv_iconst (v := 0) hx hb dX8_readOpen_46 (by decide) ?_
  exact tm_X8_readOpen_47 C h_t h_t_row h_t_tape h_t_codes h_t_widths h_t_begins h_t_spanAt h_t_spanLong h_t_spanOf h_t_out V_t_tape hQ K9 hK9 V_t V_t_spanAt V_t_spanLong V_t_out x1 x2 x3 x5 0 _ _ _ (lv_sub hl [0, 1, 2, 3, 4] rfl) hw hf
set_option maxHeartbeats 4000000 in
set_option maxRecDepth 100000 in
theorem tm_X8_readOpen_42 (C : gx_C cX8_readOpen 9 wsX8_readOpen RX8 D cI cZ p s m args c) (h_t h_t_row h_t_tape h_t_codes h_t_widths h_t_begins h_t_spanAt h_t_spanLong h_t_spanOf h_t_out : Nat) (V_t_tape : Nat → Int32) {z : (Nat → Int32) × (Nat → Int32) × (Nat → Int32) × (Nat → Int32)} (hQ : gx_Qv cX8_readOpen p l e (gx_rm 4) s m args below meth c D A Q (wd_X8_readOpen cI cZ h_t h_t_row h_t_tape h_t_codes h_t_widths h_t_begins h_t_spanAt h_t_spanLong h_t_spanOf h_t_out z.1 V_t_tape z.2.1 z.2.2.1 z.2.2.2)) (K9 : (Nat → Int32) → (Nat → Int32) → (Nat → Int32) → (Nat → Int32) → Int32 → Int32 → Int32 → Int32 → Option ((Nat → Int32) × (Nat → Int32) × (Nat → Int32) × (Nat → Int32))) (hK9 : ∀ (V_t V_t_spanAt V_t_spanLong V_t_out : Nat → Int32) (x1 x2 x3 x4 : Int32) (ls : Array Slot) (H : Heap) (locs : List Loc), lv_has ls 9 [(0, .ref h_t), (1, .int x1), (2, .int x2), (3, .int x3), (4, .int x4)] → gx_W D A s (wd_X8_readOpen cI cZ h_t h_t_row h_t_tape h_t_codes h_t_widths h_t_begins h_t_spanAt h_t_spanLong h_t_spanOf h_t_out V_t V_t_tape V_t_spanAt V_t_spanLong V_t_out) H locs → K9 V_t V_t_spanAt V_t_spanLong V_t_out x1 x2 x3 x4 = some z → W p l e (gx_rm 4) s m args below meth c H locs 0 0 Q (F0 m 9 ls [])) : ∀ (V_t V_t_spanAt V_t_spanLong V_t_out : Nat → Int32) (x1 x2 x3 x5 : Int32) (ls : Array Slot) (H : Heap) (locs : List Loc), lv_has ls 9 [(0, .ref h_t), (1, .int x1), (2, .int x2), (3, .int x3), (5, .int x5)] → gx_W D A s (wd_X8_readOpen cI cZ h_t h_t_row h_t_tape h_t_codes h_t_widths h_t_begins h_t_spanAt h_t_spanLong h_t_spanOf h_t_out V_t V_t_tape V_t_spanAt V_t_spanLong V_t_out) H locs → fn_X8_readOpen_j42 V_t_tape K9 V_t V_t_spanAt V_t_spanLong V_t_out x1 x2 x3 x5 = some z → W p l e (gx_rm 4) s m args below meth c H locs 0 0 Q (F0 m 42 ls []) := by
  have hx := C.1.1
  have hb := C.1.2.1
  intro V_t V_t_spanAt V_t_spanLong V_t_out x1 x2 x3 x5 ls H locs hl hw hf
  rw [fn_X8_readOpen_j42] at hf
  refine lv_iconst (v := 1) hx hb dX8_readOpen_42 (by decide) ?_
  refine lv_goto (tgt := 47) hx hb dX8_readOpen_43 (by decide) ?_
  exact tm_X8_readOpen_47 C h_t h_t_row h_t_tape h_t_codes h_t_widths h_t_begins h_t_spanAt h_t_spanLong h_t_spanOf h_t_out V_t_tape hQ K9 hK9 V_t V_t_spanAt V_t_spanLong V_t_out x1 x2 x3 x5 1 _ _ _ (lv_sub hl [0, 1, 2, 3, 4] rfl) hw hf
set_option maxHeartbeats 4000000 in
set_option maxRecDepth 100000 in
theorem tm_X8_readOpen_9 (C : gx_C cX8_readOpen 9 wsX8_readOpen RX8 D cI cZ p s m args c) (h_t h_t_row h_t_tape h_t_codes h_t_widths h_t_begins h_t_spanAt h_t_spanLong h_t_spanOf h_t_out : Nat) (V_t_tape : Nat → Int32) {z : (Nat → Int32) × (Nat → Int32) × (Nat → Int32) × (Nat → Int32)} (hQ : gx_Qv cX8_readOpen p l e (gx_rm 4) s m args below meth c D A Q (wd_X8_readOpen cI cZ h_t h_t_row h_t_tape h_t_codes h_t_widths h_t_begins h_t_spanAt h_t_spanLong h_t_spanOf h_t_out z.1 V_t_tape z.2.1 z.2.2.1 z.2.2.2)) : ∀ (n : Nat), (∀ (V_t V_t_spanAt V_t_spanLong V_t_out : Nat → Int32) (x1 x2 x3 x4 : Int32) (ls : Array Slot) (H : Heap) (locs : List Loc), lv_has ls 9 [(0, .ref h_t), (1, .int x1), (2, .int x2), (3, .int x3), (4, .int x4)] → gx_W D A s (wd_X8_readOpen cI cZ h_t h_t_row h_t_tape h_t_codes h_t_widths h_t_begins h_t_spanAt h_t_spanLong h_t_spanOf h_t_out V_t V_t_tape V_t_spanAt V_t_spanLong V_t_out) H locs → fn_X8_readOpen_l9 V_t_tape n V_t V_t_spanAt V_t_spanLong V_t_out x1 x2 x3 x4 = some z → W p l e (gx_rm 4) s m args below meth c H locs 0 0 Q (F0 m 9 ls [])) := by
  have hx := C.1.1
  have hb := C.1.2.1
  intro n
  induction n with
  | zero => intro V_t V_t_spanAt V_t_spanLong V_t_out x1 x2 x3 x4 ls H locs hl hw hf; rw [fn_X8_readOpen_l9] at hf; cases hf
  | succ n ih =>
    intro V_t V_t_spanAt V_t_spanLong V_t_out x1 x2 x3 x4 ls H locs hl hw hf
    rw [fn_X8_readOpen_l9] at hf
    refine lv_iload hx hb dX8_readOpen_9 (lv_at hl 4 rfl) ?_
    refine lv_if_eq (tgt := 186) hx hb dX8_readOpen_11 (by decide) (fun hc => ?_) (fun hc => ?_)
    · replace hf := gx_t hc hf
      exact tm_X8_readOpen_186 C h_t h_t_row h_t_tape h_t_codes h_t_widths h_t_begins h_t_spanAt h_t_spanLong h_t_spanOf h_t_out V_t_tape hQ  V_t V_t_spanAt V_t_spanLong V_t_out _ _ _ (lv_sub hl [0] rfl) hw hf
    · replace hf := gx_f hc hf
      refine lv_aload_n hx hb dX8_readOpen_14 rfl (lv_at hl 0 rfl) ?_
      refine gx_get (v := .int (V_t 23)) C hw 0 rfl (gx_gj rfl rfl) ln_X8_readOpen_123 dX8_readOpen_15 ?_
      refine lv_if_ne (tgt := 186) hx hb dX8_readOpen_18 (by decide) (fun hc => ?_) (fun hc => ?_)
      · replace hf := gx_f hc hf
        exact tm_X8_readOpen_186 C h_t h_t_row h_t_tape h_t_codes h_t_widths h_t_begins h_t_spanAt h_t_spanLong h_t_spanOf h_t_out V_t_tape hQ  V_t V_t_spanAt V_t_spanLong V_t_out _ _ _ (lv_sub hl [0] rfl) hw hf
      · replace hf := gx_t hc hf
        refine lv_aload_n hx hb dX8_readOpen_21 rfl (lv_at hl 0 rfl) ?_
        obtain ⟨y_22, hy_22, hf⟩ := gx_b hf
        refine gx_calli (As := []) (ws' := wd_X8_readOpen cI cZ h_t h_t_row h_t_tape h_t_codes h_t_widths h_t_begins h_t_spanAt h_t_spanLong h_t_spanOf h_t_out V_t V_t_tape V_t_spanAt V_t_spanLong V_t_out) (isC := [0]) (isR := [1, 2, 3, 4]) (isP := [4, 0, 1, 2, 3]) C hw (ct_X8_widthNow l D cI cZ h_t h_t_row h_t_tape h_t_codes h_t_widths h_t_begins h_t_spanAt h_t_spanLong h_t_spanOf h_t_out V_t hy_22) kl_X8_readOpen_81 ⟨rfl, rfl⟩ ⟨rfl, rfl, by decide, by decide, by decide, by decide, rfl⟩ 0 rfl rfl rfl rfl hl.1 (Nat.le_of_ble_eq_true rfl) ⟨Nat.le_refl _, Nat.le_refl _⟩ dX8_readOpen_22 (fun H locs hw => ?_)
        refine lv_istore (lv' := [(5, .int y_22), (0, .ref h_t), (1, .int x1), (2, .int x2), (3, .int x3), (4, .int x4)]) hx hb dX8_readOpen_25 hl (by decide) rfl (fun ls hl => ?_)
        refine lv_iload_n hx hb dX8_readOpen_27 rfl (lv_at hl 3 rfl) ?_
        refine lv_iconst (v := (-1)) hx hb dX8_readOpen_28 (by decide) ?_
        refine lv_icmp_eq (tgt := 46) hx hb dX8_readOpen_29 (by decide) (fun hc => ?_) (fun hc => ?_)
        · replace hf := gx_t hc hf
          exact tm_X8_readOpen_46 C h_t h_t_row h_t_tape h_t_codes h_t_widths h_t_begins h_t_spanAt h_t_spanLong h_t_spanOf h_t_out V_t_tape hQ (fn_X8_readOpen_l9 V_t_tape n) ih V_t V_t_spanAt V_t_spanLong V_t_out x1 x2 x3 y_22 _ _ _ (lv_sub hl [1, 2, 3, 4, 0] rfl) hw hf
        · replace hf := gx_f hc hf
          refine lv_iload_n hx hb dX8_readOpen_32 rfl (lv_at hl 4 rfl) ?_
          refine lv_if_ne (tgt := 42) hx hb dX8_readOpen_33 (by decide) (fun hc => ?_) (fun hc => ?_)
          · replace hf := gx_f hc hf
            exact tm_X8_readOpen_42 C h_t h_t_row h_t_tape h_t_codes h_t_widths h_t_begins h_t_spanAt h_t_spanLong h_t_spanOf h_t_out V_t_tape hQ (fn_X8_readOpen_l9 V_t_tape n) ih V_t V_t_spanAt V_t_spanLong V_t_out x1 x2 x3 y_22 _ _ _ (lv_sub hl [1, 2, 3, 4, 0] rfl) hw hf
          · replace hf := gx_t hc hf
            refine lv_iload_n hx hb dX8_readOpen_36 rfl (lv_at hl 3 rfl) ?_
            refine lv_iload hx hb dX8_readOpen_37 (lv_at hl 0 rfl) ?_
            refine lv_icmp_eq (tgt := 46) hx hb dX8_readOpen_39 (by decide) (fun hc => ?_) (fun hc => ?_)
            · replace hf := gx_t hc hf
              exact tm_X8_readOpen_46 C h_t h_t_row h_t_tape h_t_codes h_t_widths h_t_begins h_t_spanAt h_t_spanLong h_t_spanOf h_t_out V_t_tape hQ (fn_X8_readOpen_l9 V_t_tape n) ih V_t V_t_spanAt V_t_spanLong V_t_out x1 x2 x3 y_22 _ _ _ (lv_sub hl [1, 2, 3, 4, 0] rfl) hw hf
            · replace hf := gx_f hc hf
              exact tm_X8_readOpen_42 C h_t h_t_row h_t_tape h_t_codes h_t_widths h_t_begins h_t_spanAt h_t_spanLong h_t_spanOf h_t_out V_t_tape hQ (fn_X8_readOpen_l9 V_t_tape n) ih V_t V_t_spanAt V_t_spanLong V_t_out x1 x2 x3 y_22 _ _ _ (lv_sub hl [1, 2, 3, 4, 0] rfl) hw hf
set_option maxHeartbeats 4000000 in
set_option maxRecDepth 100000 in
theorem ct_X8_readOpen (l : Launch) (D : va_G) (cI cZ : ClassId) (h_t h_t_row h_t_tape h_t_codes h_t_widths h_t_begins h_t_spanAt h_t_spanLong h_t_spanOf h_t_out : Nat) (V_t V_t_tape V_t_spanAt V_t_spanLong V_t_out : Nat → Int32) {z : (Nat → Int32) × (Nat → Int32) × (Nat → Int32) × (Nat → Int32)} (hf : fn_X8_readOpen V_t V_t_tape V_t_spanAt V_t_spanLong V_t_out = some z) : gx_Mv l yX8_readOpen wsX8_readOpen (gx_rm 4) D cI cZ [.ref h_t] (wd_X8_readOpen cI cZ h_t h_t_row h_t_tape h_t_codes h_t_widths h_t_begins h_t_spanAt h_t_spanLong h_t_spanOf h_t_out V_t V_t_tape V_t_spanAt V_t_spanLong V_t_out) (wd_X8_readOpen cI cZ h_t h_t_row h_t_tape h_t_codes h_t_widths h_t_begins h_t_spanAt h_t_spanLong h_t_spanOf h_t_out z.1 V_t_tape z.2.1 z.2.2.1 z.2.2.2) := by
  refine gx_ofv (cc := cX8_readOpen) (own := RX8) (by decide) rfl rfl (Nat.le_of_ble_eq_true rfl) [(0, .ref h_t)] rfl ?_
  intro p e s m args below meth c A Q ls C hQ hl hw
  have hx := C.1.1
  have hb := C.1.2.1
  rw [fn_X8_readOpen] at hf
  refine lv_iconst (v := 0) hx hb dX8_readOpen_0 (by decide) ?_
  refine lv_istore_n (lv' := [(1, .int 0), (0, .ref h_t)]) hx hb dX8_readOpen_1 rfl hl (by decide) rfl (fun ls hl => ?_)
  refine lv_iconst (v := (-1)) hx hb dX8_readOpen_2 (by decide) ?_
  refine lv_istore_n (lv' := [(2, .int (-1)), (1, .int 0), (0, .ref h_t)]) hx hb dX8_readOpen_3 rfl hl (by decide) rfl (fun ls hl => ?_)
  refine lv_iconst (v := 0) hx hb dX8_readOpen_4 (by decide) ?_
  refine lv_istore_n (lv' := [(3, .int 0), (2, .int (-1)), (1, .int 0), (0, .ref h_t)]) hx hb dX8_readOpen_5 rfl hl (by decide) rfl (fun ls hl => ?_)
  refine lv_iconst (v := 1) hx hb dX8_readOpen_6 (by decide) ?_
  refine lv_istore (lv' := [(4, .int 1), (3, .int 0), (2, .int (-1)), (1, .int 0), (0, .ref h_t)]) hx hb dX8_readOpen_7 hl (by decide) rfl (fun ls hl => ?_)
  exact tm_X8_readOpen_9 C h_t h_t_row h_t_tape h_t_codes h_t_widths h_t_begins h_t_spanAt h_t_spanLong h_t_spanOf h_t_out V_t_tape hQ  gx_fuel V_t V_t_spanAt V_t_spanLong V_t_out 0 (-1) 0 1 _ _ _ (lv_sub hl [4, 3, 2, 1, 0] rfl) hw hf
-- LzwFormsModel.read: touched ['t', 't_row', 't_tape', 't_spanAt', 't_spanLong', 't_out']; used ['t', 't_row', 't_tape', 't_spanAt', 't_spanLong', 't_out']; mod ['t', 't_row', 't_spanAt', 't_spanLong', 't_out']; height 5
theorem ln_X8_read_19 : gx_L wsX8_read RX8 19 8 4 := ⟨_, _, _, rfl, by decide +kernel, by decide, Or.inl (by decide +kernel)⟩
theorem lp_X8_read_27 : gx_LP wsX8_read RX8 27 8 8 false .int := ⟨_, _, _, tyX8, rfl, by decide +kernel, by decide, by decide +kernel, tyX8_ok, nmX8, by decide +kernel, by decide +kernel, by decide +kernel⟩
theorem ln_X8_read_48 : gx_L wsX8_read RX8 48 8 24 := ⟨_, _, _, rfl, by decide +kernel, by decide, Or.inl (by decide +kernel)⟩
theorem ln_X8_read_54 : gx_L wsX8_read RX8 54 8 0 := ⟨_, _, _, rfl, by decide +kernel, by decide, Or.inl (by decide +kernel)⟩
theorem ln_X8_read_61 : gx_L wsX8_read RX8 61 8 5 := ⟨_, _, _, rfl, by decide +kernel, by decide, Or.inl (by decide +kernel)⟩
theorem lp_X8_read_61 : gx_LP wsX8_read RX8 61 8 5 false .int := ⟨_, _, _, tyX8, rfl, by decide +kernel, by decide, by decide +kernel, tyX8_ok, nmX8, by decide +kernel, by decide +kernel, by decide +kernel⟩
theorem lp_X8_read_68 : gx_LP wsX8_read RX8 68 8 9 false .int := ⟨_, _, _, tyX8, rfl, by decide +kernel, by decide, by decide +kernel, tyX8_ok, nmX8, by decide +kernel, by decide +kernel, by decide +kernel⟩
theorem lp_X8_read_77 : gx_LP wsX8_read RX8 77 8 21 false .boolean := ⟨_, _, _, tyX8, rfl, by decide +kernel, by decide, by decide +kernel, tyX8_ok, nmX8, by decide +kernel, by decide +kernel, by decide +kernel⟩
theorem ln_X8_read_123 : gx_L wsX8_read RX8 123 8 23 := ⟨_, _, _, rfl, by decide +kernel, by decide, Or.inl (by decide +kernel)⟩
theorem lp_X8_read_123 : gx_LP wsX8_read RX8 123 8 23 false .int := ⟨_, _, _, tyX8, rfl, by decide +kernel, by decide, by decide +kernel, tyX8_ok, nmX8, by decide +kernel, by decide +kernel, by decide +kernel⟩
theorem ln_X8_read_126 : gx_L wsX8_read RX8 126 8 22 := ⟨_, _, _, rfl, by decide +kernel, by decide, Or.inl (by decide +kernel)⟩
theorem lp_X8_read_126 : gx_LP wsX8_read RX8 126 8 22 false .int := ⟨_, _, _, tyX8, rfl, by decide +kernel, by decide, by decide +kernel, tyX8_ok, nmX8, by decide +kernel, by decide +kernel, by decide +kernel⟩
theorem ln_X8_read_138 : gx_L wsX8_read RX8 138 8 25 := ⟨_, _, _, rfl, by decide +kernel, by decide, Or.inl (by decide +kernel)⟩
theorem lp_X8_read_138 : gx_LP wsX8_read RX8 138 8 25 false .int := ⟨_, _, _, tyX8, rfl, by decide +kernel, by decide, by decide +kernel, tyX8_ok, nmX8, by decide +kernel, by decide +kernel, by decide +kernel⟩
theorem kl_X8_read_153 : gx_KV wsX8_read RX8 153 yX8_readOpen cX8_readOpen 9 none wsX8_readOpen (gx_rm 4) (gx_rm 5) 0 := ⟨gX8_read_X8_readOpen, ⟨_, rfl⟩, ⟨by decide, by decide, by decide +kernel⟩, ⟨by decide, by decide⟩⟩
theorem kl_X8_read_156 : gx_KV wsX8_read RX8 156 yX8_readClosed cX8_readClosed 4 none wsX8_readClosed (gx_rm 4) (gx_rm 5) 0 := ⟨gX8_read_X8_readClosed, ⟨_, rfl⟩, ⟨by decide, by decide, by decide +kernel⟩, ⟨by decide, by decide⟩⟩
def wd_X8_read (cI cZ : ClassId) (h_t h_t_row h_t_tape h_t_codes h_t_widths h_t_begins h_t_spanAt h_t_spanLong h_t_spanOf h_t_out : Nat) (V_t V_t_row V_t_tape V_t_spanAt V_t_spanLong V_t_out : Nat → Int32) : va_W := [gx_o h_t 8 [none, none, none, none, some (some h_t_row), none, some (some h_t_tape), none, none, none, some (some h_t_codes), some (some h_t_widths), some (some h_t_begins), none, none, none, none, some (some h_t_spanAt), some (some h_t_spanLong), some (some h_t_spanOf), none, none, none, none, some (some h_t_out), none, none, none] V_t, gx_a h_t_row cI 300 V_t_row, gx_a h_t_tape cZ 3200 V_t_tape, gx_a h_t_spanAt cI 300 V_t_spanAt, gx_a h_t_spanLong cI 300 V_t_spanLong, gx_a h_t_out cI 300 V_t_out]
set_option maxHeartbeats 4000000 in
set_option maxRecDepth 100000 in
theorem tm_X8_read_80 (C : gx_C cX8_read 2 wsX8_read RX8 D cI cZ p s m args c) (h_t h_t_row h_t_tape h_t_codes h_t_widths h_t_begins h_t_spanAt h_t_spanLong h_t_spanOf h_t_out : Nat) (V_t_tape : Nat → Int32) {z : Int32 × (Nat → Int32) × (Nat → Int32) × (Nat → Int32) × (Nat → Int32) × (Nat → Int32)} (hQ : gx_Qi cX8_read .int p l e (gx_rm 5) s m args below meth c D A Q (wd_X8_read cI cZ h_t h_t_row h_t_tape h_t_codes h_t_widths h_t_begins h_t_spanAt h_t_spanLong h_t_spanOf h_t_out z.2.1 z.2.2.1 V_t_tape z.2.2.2.1 z.2.2.2.2.1 z.2.2.2.2.2) z.1) : ∀ (n : Nat), (∀ (V_t V_t_row V_t_spanAt V_t_spanLong V_t_out : Nat → Int32) (x1 : Int32) (ls : Array Slot) (H : Heap) (locs : List Loc), lv_has ls 2 [(0, .ref h_t), (1, .int x1)] → gx_W D A s (wd_X8_read cI cZ h_t h_t_row h_t_tape h_t_codes h_t_widths h_t_begins h_t_spanAt h_t_spanLong h_t_spanOf h_t_out V_t V_t_row V_t_tape V_t_spanAt V_t_spanLong V_t_out) H locs → fn_X8_read_l80 V_t_tape n V_t V_t_row V_t_spanAt V_t_spanLong V_t_out x1 = some z → W p l e (gx_rm 5) s m args below meth c H locs 0 0 Q (F0 m 80 ls [])) := by
  have hx := C.1.1
  have hb := C.1.2.1
  intro n
  induction n with
  | zero => intro V_t V_t_row V_t_spanAt V_t_spanLong V_t_out x1 ls H locs hl hw hf; rw [fn_X8_read_l80] at hf; cases hf
  | succ n ih =>
    intro V_t V_t_row V_t_spanAt V_t_spanLong V_t_out x1 ls H locs hl hw hf
    rw [fn_X8_read_l80] at hf
    refine lv_iload_n hx hb dX8_read_80 rfl (lv_at hl 1 rfl) ?_
    refine lv_aload_n hx hb dX8_read_81 rfl (lv_at hl 0 rfl) ?_
    refine gx_get (v := .int (V_t 25)) C hw 0 rfl (gx_gj rfl rfl) ln_X8_read_138 dX8_read_82 ?_
    refine lv_icmp_ge (tgt := 106) hx hb dX8_read_85 (by decide) (fun hc => ?_) (fun hc => ?_)
    · replace hf := gx_t hc hf
      refine lv_aload_n hx hb dX8_read_106 rfl (lv_at hl 0 rfl) ?_
      refine lv_aload_n hx hb dX8_read_107 rfl (lv_at hl 0 rfl) ?_
      refine gx_get (v := .int (V_t 25)) C hw 0 rfl (gx_gj rfl rfl) ln_X8_read_138 dX8_read_108 ?_
      refine gx_put (ws' := wd_X8_read cI cZ h_t h_t_row h_t_tape h_t_codes h_t_widths h_t_begins h_t_spanAt h_t_spanLong h_t_spanOf h_t_out (upd V_t 5 (V_t 25)) V_t_row V_t_tape V_t_spanAt V_t_spanLong V_t_out) C hw 0 rfl rfl lp_X8_read_61 rfl rfl rfl dX8_read_111 (fun H locs hw => ?_)
      refine lv_aload_n hx hb dX8_read_114 rfl (lv_at hl 0 rfl) ?_
      refine gx_get (v := .int (V_t 25)) C hw 0 rfl (gx_gj rfl pk_us) ln_X8_read_61 dX8_read_115 ?_
      obtain rfl := Option.some.inj hf
      exact hQ _ _ _ _ dX8_read_118 rfl hw
    · replace hf := gx_f hc hf
      refine lv_aload_n hx hb dX8_read_88 rfl (lv_at hl 0 rfl) ?_
      refine gx_get C hw 0 rfl (gx_gr rfl) ln_X8_read_19 dX8_read_89 ?_
      refine lv_iload_n hx hb dX8_read_92 rfl (lv_at hl 1 rfl) ?_
      refine lv_aload_n hx hb dX8_read_93 rfl (lv_at hl 0 rfl) ?_
      refine gx_get C hw 0 rfl (gx_gr rfl) ln_X8_read_48 dX8_read_94 ?_
      refine lv_iload_n hx hb dX8_read_97 rfl (lv_at hl 1 rfl) ?_
      obtain ⟨hi_98, hf⟩ := gx_g hf
      refine gx_iald C hw 5 rfl hi_98 dX8_read_98 ?_
      obtain ⟨hi_99, hf⟩ := gx_g hf
      refine gx_iast (ws' := wd_X8_read cI cZ h_t h_t_row h_t_tape h_t_codes h_t_widths h_t_begins h_t_spanAt h_t_spanLong h_t_spanOf h_t_out V_t (upd V_t_row x1.toNatClampNeg (V_t_out x1.toNatClampNeg)) V_t_tape V_t_spanAt V_t_spanLong V_t_out) C hw 1 rfl hi_99 rfl dX8_read_99 (fun H locs hw => ?_)
      refine lv_iinc (v := (x1 + 1)) (lv' := [(1, .int (x1 + 1)), (0, .ref h_t)]) hx hb dX8_read_100 hl (k := 1) rfl rfl (by decide) rfl (fun ls hl => ?_)
      refine lv_goto (tgt := 80) hx hb dX8_read_103 (by decide) ?_
      exact ih V_t (upd V_t_row x1.toNatClampNeg (V_t_out x1.toNatClampNeg)) V_t_spanAt V_t_spanLong V_t_out (x1 + 1) _ _ _ (lv_sub hl [1, 0] rfl) hw hf
set_option maxHeartbeats 4000000 in
set_option maxRecDepth 100000 in
theorem tm_X8_read_60 (C : gx_C cX8_read 2 wsX8_read RX8 D cI cZ p s m args c) (h_t h_t_row h_t_tape h_t_codes h_t_widths h_t_begins h_t_spanAt h_t_spanLong h_t_spanOf h_t_out : Nat) (V_t_tape : Nat → Int32) {z : Int32 × (Nat → Int32) × (Nat → Int32) × (Nat → Int32) × (Nat → Int32) × (Nat → Int32)} (hQ : gx_Qi cX8_read .int p l e (gx_rm 5) s m args below meth c D A Q (wd_X8_read cI cZ h_t h_t_row h_t_tape h_t_codes h_t_widths h_t_begins h_t_spanAt h_t_spanLong h_t_spanOf h_t_out z.2.1 z.2.2.1 V_t_tape z.2.2.2.1 z.2.2.2.2.1 z.2.2.2.2.2) z.1) : ∀ (V_t V_t_row V_t_spanAt V_t_spanLong V_t_out : Nat → Int32) (s1 : Int32) (ls : Array Slot) (H : Heap) (locs : List Loc), lv_has ls 2 [(0, .ref h_t)] → gx_W D A s (wd_X8_read cI cZ h_t h_t_row h_t_tape h_t_codes h_t_widths h_t_begins h_t_spanAt h_t_spanLong h_t_spanOf h_t_out V_t V_t_row V_t_tape V_t_spanAt V_t_spanLong V_t_out) H locs → fn_X8_read_j60 V_t_tape V_t V_t_row V_t_spanAt V_t_spanLong V_t_out s1 = some z → W p l e (gx_rm 5) s m args below meth c H locs 0 0 Q (F0 m 60 ls [.int s1, .ref h_t]) := by
  have hx := C.1.1
  have hb := C.1.2.1
  intro V_t V_t_row V_t_spanAt V_t_spanLong V_t_out s1 ls H locs hl hw hf
  rw [fn_X8_read_j60] at hf
  refine gx_put (ws' := wd_X8_read cI cZ h_t h_t_row h_t_tape h_t_codes h_t_widths h_t_begins h_t_spanAt h_t_spanLong h_t_spanOf h_t_out (upd V_t 8 s1) V_t_row V_t_tape V_t_spanAt V_t_spanLong V_t_out) C hw 0 rfl rfl lp_X8_read_27 rfl rfl rfl dX8_read_60 (fun H locs hw => ?_)
  refine lv_aload_n hx hb dX8_read_63 rfl (lv_at hl 0 rfl) ?_
  refine gx_get (v := .int (V_t 23)) C hw 0 rfl (gx_gj rfl ((pk_un (by decide)).trans rfl)) ln_X8_read_123 dX8_read_64 ?_
  refine lv_if_eq (tgt := 78) hx hb dX8_read_67 (by decide) (fun hc => ?_) (fun hc => ?_)
  · replace hf := gx_t hc hf
    refine lv_iconst (v := 0) hx hb dX8_read_78 (by decide) ?_
    refine lv_istore_n (lv' := [(1, .int 0), (0, .ref h_t)]) hx hb dX8_read_79 rfl hl (by decide) rfl (fun ls hl => ?_)
    exact tm_X8_read_80 C h_t h_t_row h_t_tape h_t_codes h_t_widths h_t_begins h_t_spanAt h_t_spanLong h_t_spanOf h_t_out V_t_tape hQ  gx_fuel (upd V_t 8 s1) V_t_row V_t_spanAt V_t_spanLong V_t_out 0 _ _ _ (lv_sub hl [1, 0] rfl) hw hf
  · replace hf := gx_f hc hf
    refine lv_bipush (v := (-10)) hx hb dX8_read_70 (by decide) ?_
    refine lv_aload_n hx hb dX8_read_72 rfl (lv_at hl 0 rfl) ?_
    refine gx_get (v := .int (V_t 23)) C hw 0 rfl (gx_gj rfl ((pk_un (by decide)).trans rfl)) ln_X8_read_123 dX8_read_73 ?_
    refine lv_isub hx hb dX8_read_76 ?_
    obtain rfl := Option.some.inj hf
    exact hQ _ _ _ _ dX8_read_77 rfl hw
set_option maxHeartbeats 4000000 in
set_option maxRecDepth 100000 in
theorem tm_X8_read_44 (C : gx_C cX8_read 2 wsX8_read RX8 D cI cZ p s m args c) (h_t h_t_row h_t_tape h_t_codes h_t_widths h_t_begins h_t_spanAt h_t_spanLong h_t_spanOf h_t_out : Nat) (V_t_tape : Nat → Int32) {z : Int32 × (Nat → Int32) × (Nat → Int32) × (Nat → Int32) × (Nat → Int32) × (Nat → Int32)} (hQ : gx_Qi cX8_read .int p l e (gx_rm 5) s m args below meth c D A Q (wd_X8_read cI cZ h_t h_t_row h_t_tape h_t_codes h_t_widths h_t_begins h_t_spanAt h_t_spanLong h_t_spanOf h_t_out z.2.1 z.2.2.1 V_t_tape z.2.2.2.1 z.2.2.2.2.1 z.2.2.2.2.2) z.1) : ∀ (V_t V_t_row V_t_spanAt V_t_spanLong V_t_out : Nat → Int32) (ls : Array Slot) (H : Heap) (locs : List Loc), lv_has ls 2 [(0, .ref h_t)] → gx_W D A s (wd_X8_read cI cZ h_t h_t_row h_t_tape h_t_codes h_t_widths h_t_begins h_t_spanAt h_t_spanLong h_t_spanOf h_t_out V_t V_t_row V_t_tape V_t_spanAt V_t_spanLong V_t_out) H locs → fn_X8_read_j44 V_t_tape V_t V_t_row V_t_spanAt V_t_spanLong V_t_out = some z → W p l e (gx_rm 5) s m args below meth c H locs 0 0 Q (F0 m 44 ls []) := by
  have hx := C.1.1
  have hb := C.1.2.1
  intro V_t V_t_row V_t_spanAt V_t_spanLong V_t_out ls H locs hl hw hf
  rw [fn_X8_read_j44] at hf
  refine lv_aload_n hx hb dX8_read_44 rfl (lv_at hl 0 rfl) ?_
  refine lv_aload_n hx hb dX8_read_45 rfl (lv_at hl 0 rfl) ?_
  refine gx_get (v := .int (V_t 23)) C hw 0 rfl (gx_gj rfl rfl) ln_X8_read_123 dX8_read_46 ?_
  refine lv_if_ne (tgt := 56) hx hb dX8_read_49 (by decide) (fun hc => ?_) (fun hc => ?_)
  · replace hf := gx_f hc hf
    refine lv_aload_n hx hb dX8_read_56 rfl (lv_at hl 0 rfl) ?_
    refine gx_get (v := .int (V_t 22)) C hw 0 rfl (gx_gj rfl rfl) ln_X8_read_126 dX8_read_57 ?_
    exact tm_X8_read_60 C h_t h_t_row h_t_tape h_t_codes h_t_widths h_t_begins h_t_spanAt h_t_spanLong h_t_spanOf h_t_out V_t_tape hQ  V_t V_t_row V_t_spanAt V_t_spanLong V_t_out (V_t 22) _ _ _ (lv_sub hl [0] rfl) hw hf
  · replace hf := gx_t hc hf
    refine lv_iconst (v := (-1)) hx hb dX8_read_52 (by decide) ?_
    refine lv_goto (tgt := 60) hx hb dX8_read_53 (by decide) ?_
    exact tm_X8_read_60 C h_t h_t_row h_t_tape h_t_codes h_t_widths h_t_begins h_t_spanAt h_t_spanLong h_t_spanOf h_t_out V_t_tape hQ  V_t V_t_row V_t_spanAt V_t_spanLong V_t_out (-1) _ _ _ (lv_sub hl [0] rfl) hw hf
set_option maxHeartbeats 4000000 in
set_option maxRecDepth 100000 in
theorem ct_X8_read (l : Launch) (D : va_G) (cI cZ : ClassId) (h_t h_t_row h_t_tape h_t_codes h_t_widths h_t_begins h_t_spanAt h_t_spanLong h_t_spanOf h_t_out : Nat) (V_t V_t_row V_t_tape V_t_spanAt V_t_spanLong V_t_out : Nat → Int32) {z : Int32 × (Nat → Int32) × (Nat → Int32) × (Nat → Int32) × (Nat → Int32) × (Nat → Int32)} (hf : fn_X8_read V_t V_t_row V_t_tape V_t_spanAt V_t_spanLong V_t_out = some z) : gx_Mi l yX8_read wsX8_read (gx_rm 5) D cI cZ [.ref h_t] (wd_X8_read cI cZ h_t h_t_row h_t_tape h_t_codes h_t_widths h_t_begins h_t_spanAt h_t_spanLong h_t_spanOf h_t_out V_t V_t_row V_t_tape V_t_spanAt V_t_spanLong V_t_out) (wd_X8_read cI cZ h_t h_t_row h_t_tape h_t_codes h_t_widths h_t_begins h_t_spanAt h_t_spanLong h_t_spanOf h_t_out z.2.1 z.2.2.1 V_t_tape z.2.2.2.1 z.2.2.2.2.1 z.2.2.2.2.2) z.1 := by
  refine gx_ofi (cc := cX8_read) (own := RX8) (by decide) rfl rfl (Nat.le_of_ble_eq_true rfl) [(0, .ref h_t)] rfl ?_
  intro p e s m args below meth c A Q ls C hQ hl hw
  have hx := C.1.1
  have hb := C.1.2.1
  rw [fn_X8_read] at hf
  refine lv_aload_n hx hb dX8_read_0 rfl (lv_at hl 0 rfl) ?_
  refine lv_iconst (v := 0) hx hb dX8_read_1 (by decide) ?_
  refine gx_put (ws' := wd_X8_read cI cZ h_t h_t_row h_t_tape h_t_codes h_t_widths h_t_begins h_t_spanAt h_t_spanLong h_t_spanOf h_t_out (upd V_t 22 0) V_t_row V_t_tape V_t_spanAt V_t_spanLong V_t_out) C hw 0 rfl rfl lp_X8_read_126 rfl rfl rfl dX8_read_2 (fun H locs hw => ?_)
  refine lv_aload_n hx hb dX8_read_5 rfl (lv_at hl 0 rfl) ?_
  refine lv_iconst (v := 0) hx hb dX8_read_6 (by decide) ?_
  refine gx_put (ws' := wd_X8_read cI cZ h_t h_t_row h_t_tape h_t_codes h_t_widths h_t_begins h_t_spanAt h_t_spanLong h_t_spanOf h_t_out (upd (upd V_t 22 0) 23 0) V_t_row V_t_tape V_t_spanAt V_t_spanLong V_t_out) C hw 0 rfl rfl lp_X8_read_123 rfl rfl rfl dX8_read_7 (fun H locs hw => ?_)
  refine lv_aload_n hx hb dX8_read_10 rfl (lv_at hl 0 rfl) ?_
  refine lv_iconst (v := 0) hx hb dX8_read_11 (by decide) ?_
  refine gx_put (ws' := wd_X8_read cI cZ h_t h_t_row h_t_tape h_t_codes h_t_widths h_t_begins h_t_spanAt h_t_spanLong h_t_spanOf h_t_out (upd (upd (upd V_t 22 0) 23 0) 25 0) V_t_row V_t_tape V_t_spanAt V_t_spanLong V_t_out) C hw 0 rfl rfl lp_X8_read_138 rfl rfl rfl dX8_read_12 (fun H locs hw => ?_)
  refine lv_aload_n hx hb dX8_read_15 rfl (lv_at hl 0 rfl) ?_
  refine lv_iconst (v := 0) hx hb dX8_read_16 (by decide) ?_
  refine gx_put (ws' := wd_X8_read cI cZ h_t h_t_row h_t_tape h_t_codes h_t_widths h_t_begins h_t_spanAt h_t_spanLong h_t_spanOf h_t_out (upd (upd (upd (upd V_t 22 0) 23 0) 25 0) 9 0) V_t_row V_t_tape V_t_spanAt V_t_spanLong V_t_out) C hw 0 rfl rfl lp_X8_read_68 rfl rfl rfl dX8_read_17 (fun H locs hw => ?_)
  refine lv_aload_n hx hb dX8_read_20 rfl (lv_at hl 0 rfl) ?_
  refine lv_iconst (v := 0) hx hb dX8_read_21 (by decide) ?_
  refine gx_put (ws' := wd_X8_read cI cZ h_t h_t_row h_t_tape h_t_codes h_t_widths h_t_begins h_t_spanAt h_t_spanLong h_t_spanOf h_t_out (upd (upd (upd (upd (upd V_t 22 0) 23 0) 25 0) 9 0) 21 0) V_t_row V_t_tape V_t_spanAt V_t_spanLong V_t_out) C hw 0 rfl rfl lp_X8_read_77 (gx_nb (Or.inl rfl)) (gx_fb (Or.inl rfl)) rfl dX8_read_22 (fun H locs hw => ?_)
  refine lv_aload_n hx hb dX8_read_25 rfl (lv_at hl 0 rfl) ?_
  refine gx_get (v := .int (V_t 0)) C hw 0 rfl (gx_gj rfl ((pk_un (by decide)).trans ((pk_un (by decide)).trans ((pk_un (by decide)).trans ((pk_un (by decide)).trans ((pk_un (by decide)).trans rfl)))))) ln_X8_read_54 dX8_read_26 ?_
  refine lv_iconst (v := 2) hx hb dX8_read_29 (by decide) ?_
  refine lv_icmp_ne (tgt := 40) hx hb dX8_read_30 (by decide) (fun hc => ?_) (fun hc => ?_)
  · replace hf := gx_f hc hf
    refine lv_aload_n hx hb dX8_read_40 rfl (lv_at hl 0 rfl) ?_
    obtain ⟨y_41, hy_41, hf⟩ := gx_b hf
    refine gx_callv (As := []) (ws' := wd_X8_read cI cZ h_t h_t_row h_t_tape h_t_codes h_t_widths h_t_begins h_t_spanAt h_t_spanLong h_t_spanOf h_t_out y_41.1 V_t_row V_t_tape y_41.2.1 y_41.2.2.1 y_41.2.2.2) (isC := [0, 2, 3, 4, 5]) (isR := [1]) (isP := [1, 0, 2, 3, 4, 5]) C hw (ct_X8_readClosed l D cI cZ h_t h_t_row h_t_tape h_t_codes h_t_widths h_t_begins h_t_spanAt h_t_spanLong h_t_spanOf h_t_out (upd (upd (upd (upd (upd V_t 22 0) 23 0) 25 0) 9 0) 21 0) V_t_tape V_t_spanAt V_t_spanLong V_t_out hy_41) kl_X8_read_156 ⟨rfl, rfl⟩ ⟨rfl, rfl, by decide, by decide, by decide, by decide, rfl⟩ 0 rfl rfl rfl rfl hl.1 (Nat.le_of_ble_eq_true rfl) ⟨Nat.le_refl _, Nat.le_refl _⟩ dX8_read_41 (fun H locs hw => ?_)
    exact tm_X8_read_44 C h_t h_t_row h_t_tape h_t_codes h_t_widths h_t_begins h_t_spanAt h_t_spanLong h_t_spanOf h_t_out V_t_tape hQ  y_41.1 V_t_row y_41.2.1 y_41.2.2.1 y_41.2.2.2 _ _ _ (lv_sub hl [0] rfl) hw hf
  · replace hf := gx_t hc hf
    refine lv_aload_n hx hb dX8_read_33 rfl (lv_at hl 0 rfl) ?_
    obtain ⟨y_34, hy_34, hf⟩ := gx_b hf
    refine gx_callv (As := []) (ws' := wd_X8_read cI cZ h_t h_t_row h_t_tape h_t_codes h_t_widths h_t_begins h_t_spanAt h_t_spanLong h_t_spanOf h_t_out y_34.1 V_t_row V_t_tape y_34.2.1 y_34.2.2.1 y_34.2.2.2) (isC := [0, 2, 3, 4, 5]) (isR := [1]) (isP := [1, 0, 2, 3, 4, 5]) C hw (ct_X8_readOpen l D cI cZ h_t h_t_row h_t_tape h_t_codes h_t_widths h_t_begins h_t_spanAt h_t_spanLong h_t_spanOf h_t_out (upd (upd (upd (upd (upd V_t 22 0) 23 0) 25 0) 9 0) 21 0) V_t_tape V_t_spanAt V_t_spanLong V_t_out hy_34) kl_X8_read_153 ⟨rfl, rfl⟩ ⟨rfl, rfl, by decide, by decide, by decide, by decide, rfl⟩ 0 rfl rfl rfl rfl hl.1 (Nat.le_of_ble_eq_true rfl) ⟨Nat.le_refl _, Nat.le_refl _⟩ dX8_read_34 (fun H locs hw => ?_)
    refine lv_goto (tgt := 44) hx hb dX8_read_37 (by decide) ?_
    exact tm_X8_read_44 C h_t h_t_row h_t_tape h_t_codes h_t_widths h_t_begins h_t_spanAt h_t_spanLong h_t_spanOf h_t_out V_t_tape hQ  y_34.1 V_t_row y_34.2.1 y_34.2.2.1 y_34.2.2.2 _ _ _ (lv_sub hl [0] rfl) hw hf
-- LzwFormsModel.fault: touched ['t']; used ['t']; mod []; height 0
theorem ln_X8_fault_27 : gx_L wsX8_fault RX8 27 8 8 := ⟨_, _, _, rfl, by decide +kernel, by decide, Or.inl (by decide +kernel)⟩
def wd_X8_fault (cI cZ : ClassId) (h_t h_t_row h_t_tape h_t_codes h_t_widths h_t_begins h_t_spanAt h_t_spanLong h_t_spanOf h_t_out : Nat) (V_t : Nat → Int32) : va_W := [gx_o h_t 8 [none, none, none, none, some (some h_t_row), none, some (some h_t_tape), none, none, none, some (some h_t_codes), some (some h_t_widths), some (some h_t_begins), none, none, none, none, some (some h_t_spanAt), some (some h_t_spanLong), some (some h_t_spanOf), none, none, none, none, some (some h_t_out), none, none, none] V_t]
set_option maxHeartbeats 4000000 in
set_option maxRecDepth 100000 in
theorem ct_X8_fault (l : Launch) (D : va_G) (cI cZ : ClassId) (h_t h_t_row h_t_tape h_t_codes h_t_widths h_t_begins h_t_spanAt h_t_spanLong h_t_spanOf h_t_out : Nat) (V_t : Nat → Int32) {z : Int32} (hf : fn_X8_fault V_t = some z) : gx_Mi l yX8_fault wsX8_fault (gx_rm 0) D cI cZ [.ref h_t] (wd_X8_fault cI cZ h_t h_t_row h_t_tape h_t_codes h_t_widths h_t_begins h_t_spanAt h_t_spanLong h_t_spanOf h_t_out V_t) (wd_X8_fault cI cZ h_t h_t_row h_t_tape h_t_codes h_t_widths h_t_begins h_t_spanAt h_t_spanLong h_t_spanOf h_t_out V_t) z := by
  refine gx_ofi (cc := cX8_fault) (own := RX8) (by decide) rfl rfl (Nat.le_of_ble_eq_true rfl) [(0, .ref h_t)] rfl ?_
  intro p e s m args below meth c A Q ls C hQ hl hw
  have hx := C.1.1
  have hb := C.1.2.1
  rw [fn_X8_fault] at hf
  refine lv_aload_n hx hb dX8_fault_0 rfl (lv_at hl 0 rfl) ?_
  refine gx_get (v := .int (V_t 8)) C hw 0 rfl (gx_gj rfl rfl) ln_X8_fault_27 dX8_fault_1 ?_
  obtain rfl := Option.some.inj hf
  exact hQ _ _ _ _ dX8_fault_4 rfl hw
end
