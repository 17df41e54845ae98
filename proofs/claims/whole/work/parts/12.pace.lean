section
variable {p : Program} {l : Launch} {e : Env} {s : State} {m : MethodId} {args : Array Value} {below : List Frame} {meth : Method} {c : Code} {D : va_G} {cI cZ : ClassId} {A : Nat → Prop} {Q : State → Prop}
-- LzwForms$Pace.groupEnds: touched ['t']; used ['t']; mod []; height 0
theorem ln_X0_groupEnds_22 : gx_L wsX0_groupEnds RX0 22 0 2 := ⟨_, _, _, rfl, by decide +kernel, by decide, Or.inl (by decide +kernel)⟩
theorem ln_X0_groupEnds_25 : gx_L wsX0_groupEnds RX0 25 0 5 := ⟨_, _, _, rfl, by decide +kernel, by decide, Or.inl (by decide +kernel)⟩
theorem ln_X0_groupEnds_28 : gx_L wsX0_groupEnds RX0 28 0 6 := ⟨_, _, _, rfl, by decide +kernel, by decide, Or.inl (by decide +kernel)⟩
def wd_X0_groupEnds (cI cZ : ClassId) (h_t h_t_rules : Nat) (V_t : Nat → Int32) : va_W := [gx_o h_t 0 [some (some h_t_rules), none, none, none, none, none, none] V_t]
set_option maxHeartbeats 4000000 in
set_option maxRecDepth 100000 in
theorem ct_X0_groupEnds (l : Launch) (D : va_G) (cI cZ : ClassId) (h_t h_t_rules : Nat) (V_t : Nat → Int32) {z : Int32} (hf : fn_X0_groupEnds V_t = some z) : gx_Mi l yX0_groupEnds wsX0_groupEnds (gx_rm 0) D cI cZ [.ref h_t] (wd_X0_groupEnds cI cZ h_t h_t_rules V_t) (wd_X0_groupEnds cI cZ h_t h_t_rules V_t) z := by
  refine gx_ofi (cc := cX0_groupEnds) (own := RX0) (by decide) rfl rfl (Nat.le_of_ble_eq_true rfl) [(0, .ref h_t)] rfl ?_
  intro p e s m args below meth c A Q ls C hQ hl hw
  have hx := C.1.1
  have hb := C.1.2.1
  rw [fn_X0_groupEnds] at hf
  refine lv_aload_n hx hb dX0_groupEnds_0 rfl (lv_at hl 0 rfl) ?_
  refine gx_get (v := .int (V_t 6)) C hw 0 rfl (gx_gj rfl rfl) ln_X0_groupEnds_28 dX0_groupEnds_1 ?_
  refine lv_if_ne (tgt := 18) hx hb dX0_groupEnds_4 (by decide) (fun hc => ?_) (fun hc => ?_)
  · replace hf := gx_f hc hf
    refine lv_iconst (v := 1) hx hb dX0_groupEnds_18 (by decide) ?_
    refine lv_goto (tgt := 23) hx hb dX0_groupEnds_19 (by decide) ?_
    obtain rfl := Option.some.inj hf
    exact hQ _ _ _ _ dX0_groupEnds_23 (gx_nb (Or.inr rfl)) hw
  · replace hf := gx_t hc hf
    refine lv_aload_n hx hb dX0_groupEnds_7 rfl (lv_at hl 0 rfl) ?_
    refine gx_get (v := .int (V_t 5)) C hw 0 rfl (gx_gj rfl rfl) ln_X0_groupEnds_25 dX0_groupEnds_8 ?_
    refine lv_aload_n hx hb dX0_groupEnds_11 rfl (lv_at hl 0 rfl) ?_
    refine gx_get (v := .int (V_t 2)) C hw 0 rfl (gx_gj rfl rfl) ln_X0_groupEnds_22 dX0_groupEnds_12 ?_
    refine lv_icmp_eq (tgt := 22) hx hb dX0_groupEnds_15 (by decide) (fun hc => ?_) (fun hc => ?_)
    · replace hf := gx_t hc hf
      refine lv_iconst (v := 0) hx hb dX0_groupEnds_22 (by decide) ?_
      obtain rfl := Option.some.inj hf
      exact hQ _ _ _ _ dX0_groupEnds_23 (gx_nb (Or.inl rfl)) hw
    · replace hf := gx_f hc hf
      refine lv_iconst (v := 1) hx hb dX0_groupEnds_18 (by decide) ?_
      refine lv_goto (tgt := 23) hx hb dX0_groupEnds_19 (by decide) ?_
      obtain rfl := Option.some.inj hf
      exact hQ _ _ _ _ dX0_groupEnds_23 (gx_nb (Or.inr rfl)) hw
-- LzwForms$Pace.beginTable: touched ['t', 't_rules']; used ['t', 't_rules']; mod ['t']; height 0
theorem ln_X0_beginTable_9 : gx_L wsX0_beginTable RX0 9 0 0 := ⟨_, _, _, rfl, by decide +kernel, by decide, Or.inl (by decide +kernel)⟩
theorem lp_X0_beginTable_22 : gx_LP wsX0_beginTable RX0 22 0 2 false .int := ⟨_, _, _, tyX0, rfl, by decide +kernel, by decide, by decide +kernel, tyX0_ok, nmX0, by decide +kernel, by decide +kernel, by decide +kernel⟩
theorem ln_X0_beginTable_50 : gx_L wsX0_beginTable RX0 50 3 9 := ⟨_, _, _, rfl, by decide +kernel, by decide, Or.inr (by decide +kernel)⟩
theorem lp_X0_beginTable_53 : gx_LP wsX0_beginTable RX0 53 0 1 false .int := ⟨_, _, _, tyX0, rfl, by decide +kernel, by decide, by decide +kernel, tyX0_ok, nmX0, by decide +kernel, by decide +kernel, by decide +kernel⟩
theorem ln_X0_beginTable_56 : gx_L wsX0_beginTable RX0 56 3 1 := ⟨_, _, _, rfl, by decide +kernel, by decide, Or.inr (by decide +kernel)⟩
theorem lp_X0_beginTable_59 : gx_LP wsX0_beginTable RX0 59 0 3 false .boolean := ⟨_, _, _, tyX0, rfl, by decide +kernel, by decide, by decide +kernel, tyX0_ok, nmX0, by decide +kernel, by decide +kernel, by decide +kernel⟩
def wd_X0_beginTable (cI cZ : ClassId) (h_t h_t_rules : Nat) (V_t V_t_rules : Nat → Int32) : va_W := [gx_o h_t 0 [some (some h_t_rules), none, none, none, none, none, none] V_t, gx_o h_t_rules 3 [none, none, none, none, none, none, none, none, none, none, none, none] V_t_rules]
set_option maxHeartbeats 4000000 in
set_option maxRecDepth 100000 in
theorem ct_X0_beginTable (l : Launch) (D : va_G) (cI cZ : ClassId) (h_t h_t_rules : Nat) (V_t V_t_rules : Nat → Int32) {z : (Nat → Int32)} (hf : fn_X0_beginTable V_t V_t_rules = some z) : gx_Mv l yX0_beginTable wsX0_beginTable (gx_rm 0) D cI cZ [.ref h_t] (wd_X0_beginTable cI cZ h_t h_t_rules V_t V_t_rules) (wd_X0_beginTable cI cZ h_t h_t_rules z V_t_rules) := by
  refine gx_ofv (cc := cX0_beginTable) (own := RX0) (by decide) rfl rfl (Nat.le_of_ble_eq_true rfl) [(0, .ref h_t)] rfl ?_
  intro p e s m args below meth c A Q ls C hQ hl hw
  have hx := C.1.1
  have hb := C.1.2.1
  rw [fn_X0_beginTable] at hf
  refine lv_aload_n hx hb dX0_beginTable_0 rfl (lv_at hl 0 rfl) ?_
  refine lv_aload_n hx hb dX0_beginTable_1 rfl (lv_at hl 0 rfl) ?_
  refine gx_get C hw 0 rfl (gx_gr rfl) ln_X0_beginTable_9 dX0_beginTable_2 ?_
  refine gx_get (v := .int (V_t_rules 9)) C hw 1 rfl (gx_gj rfl rfl) ln_X0_beginTable_50 dX0_beginTable_5 ?_
  refine gx_put (ws' := wd_X0_beginTable cI cZ h_t h_t_rules (upd V_t 1 (V_t_rules 9)) V_t_rules) C hw 0 rfl rfl lp_X0_beginTable_53 rfl rfl rfl dX0_beginTable_8 (fun H locs hw => ?_)
  refine lv_aload_n hx hb dX0_beginTable_11 rfl (lv_at hl 0 rfl) ?_
  refine lv_aload_n hx hb dX0_beginTable_12 rfl (lv_at hl 0 rfl) ?_
  refine gx_get C hw 0 rfl (gx_gr rfl) ln_X0_beginTable_9 dX0_beginTable_13 ?_
  refine gx_get (v := .int (V_t_rules 1)) C hw 1 rfl (gx_gj rfl rfl) ln_X0_beginTable_56 dX0_beginTable_16 ?_
  refine lv_iconst (v := 1) hx hb dX0_beginTable_19 (by decide) ?_
  refine lv_iadd hx hb dX0_beginTable_20 ?_
  refine gx_put (ws' := wd_X0_beginTable cI cZ h_t h_t_rules (upd (upd V_t 1 (V_t_rules 9)) 2 ((V_t_rules 1) + 1)) V_t_rules) C hw 0 rfl rfl lp_X0_beginTable_22 rfl rfl rfl dX0_beginTable_21 (fun H locs hw => ?_)
  refine lv_aload_n hx hb dX0_beginTable_24 rfl (lv_at hl 0 rfl) ?_
  refine lv_iconst (v := 1) hx hb dX0_beginTable_25 (by decide) ?_
  refine gx_put (ws' := wd_X0_beginTable cI cZ h_t h_t_rules (upd (upd (upd V_t 1 (V_t_rules 9)) 2 ((V_t_rules 1) + 1)) 3 1) V_t_rules) C hw 0 rfl rfl lp_X0_beginTable_59 (gx_nb (Or.inr rfl)) (gx_fb (Or.inr rfl)) rfl dX0_beginTable_26 (fun H locs hw => ?_)
  obtain rfl := Option.some.inj hf
  exact hQ _ _ _ _ dX0_beginTable_29 hw
-- LzwForms$Pace.begin: touched ['t', 't_rules']; used ['t', 't_rules']; mod ['t']; height 1
theorem lp_X0_begin_18 : gx_LP wsX0_begin RX0 18 0 4 false .int := ⟨_, _, _, tyX0, rfl, by decide +kernel, by decide, by decide +kernel, tyX0_ok, nmX0, by decide +kernel, by decide +kernel, by decide +kernel⟩
theorem ln_X0_begin_22 : gx_L wsX0_begin RX0 22 0 2 := ⟨_, _, _, rfl, by decide +kernel, by decide, Or.inl (by decide +kernel)⟩
theorem lp_X0_begin_25 : gx_LP wsX0_begin RX0 25 0 5 false .int := ⟨_, _, _, tyX0, rfl, by decide +kernel, by decide, by decide +kernel, tyX0_ok, nmX0, by decide +kernel, by decide +kernel, by decide +kernel⟩
theorem lp_X0_begin_28 : gx_LP wsX0_begin RX0 28 0 6 false .boolean := ⟨_, _, _, tyX0, rfl, by decide +kernel, by decide, by decide +kernel, tyX0_ok, nmX0, by decide +kernel, by decide +kernel, by decide +kernel⟩
theorem kl_X0_begin_15 : gx_KV wsX0_begin RX0 15 yX0_beginTable cX0_beginTable 1 none wsX0_beginTable (gx_rm 0) (gx_rm 1) 0 := ⟨gX0_begin_X0_beginTable, ⟨_, rfl⟩, ⟨by decide, by decide, by decide +kernel⟩, ⟨by decide, by decide⟩⟩
def wd_X0_begin (cI cZ : ClassId) (h_t h_t_rules : Nat) (V_t V_t_rules : Nat → Int32) : va_W := [gx_o h_t 0 [some (some h_t_rules), none, none, none, none, none, none] V_t, gx_o h_t_rules 3 [none, none, none, none, none, none, none, none, none, none, none, none] V_t_rules]
set_option maxHeartbeats 4000000 in
set_option maxRecDepth 100000 in
theorem ct_X0_begin (l : Launch) (D : va_G) (cI cZ : ClassId) (h_t h_t_rules : Nat) (V_t V_t_rules : Nat → Int32) {z : (Nat → Int32)} (hf : fn_X0_begin V_t V_t_rules = some z) : gx_Mv l yX0_begin wsX0_begin (gx_rm 1) D cI cZ [.ref h_t] (wd_X0_begin cI cZ h_t h_t_rules V_t V_t_rules) (wd_X0_begin cI cZ h_t h_t_rules z V_t_rules) := by
  refine gx_ofv (cc := cX0_begin) (own := RX0) (by decide) rfl rfl (Nat.le_of_ble_eq_true rfl) [(0, .ref h_t)] rfl ?_
  intro p e s m args below meth c A Q ls C hQ hl hw
  have hx := C.1.1
  have hb := C.1.2.1
  rw [fn_X0_begin] at hf
  refine lv_aload_n hx hb dX0_begin_0 rfl (lv_at hl 0 rfl) ?_
  obtain ⟨y_1, hy_1, hf⟩ := gx_b hf
  refine gx_callv (As := []) (ws' := wd_X0_begin cI cZ h_t h_t_rules y_1 V_t_rules) (isC := [0, 1]) (isR := []) (isP := [0, 1]) C hw (ct_X0_beginTable l D cI cZ h_t h_t_rules V_t V_t_rules hy_1) kl_X0_begin_15 ⟨rfl, rfl⟩ ⟨rfl, rfl, by decide, by decide, by decide, by decide, rfl⟩ 0 rfl rfl rfl rfl hl.1 (Nat.le_of_ble_eq_true rfl) ⟨Nat.le_refl _, Nat.le_refl _⟩ dX0_begin_1 (fun H locs hw => ?_)
  refine lv_aload_n hx hb dX0_begin_4 rfl (lv_at hl 0 rfl) ?_
  refine lv_iconst (v := 0) hx hb dX0_begin_5 (by decide) ?_
  refine gx_put (ws' := wd_X0_begin cI cZ h_t h_t_rules (upd y_1 4 0) V_t_rules) C hw 0 rfl rfl lp_X0_begin_18 rfl rfl rfl dX0_begin_6 (fun H locs hw => ?_)
  refine lv_aload_n hx hb dX0_begin_9 rfl (lv_at hl 0 rfl) ?_
  refine lv_aload_n hx hb dX0_begin_10 rfl (lv_at hl 0 rfl) ?_
  refine gx_get (v := .int (y_1 2)) C hw 0 rfl (gx_gj rfl ((pk_un (by decide)).trans rfl)) ln_X0_begin_22 dX0_begin_11 ?_
  refine gx_put (ws' := wd_X0_begin cI cZ h_t h_t_rules (upd (upd y_1 4 0) 5 (y_1 2)) V_t_rules) C hw 0 rfl rfl lp_X0_begin_25 rfl rfl rfl dX0_begin_14 (fun H locs hw => ?_)
  refine lv_aload_n hx hb dX0_begin_17 rfl (lv_at hl 0 rfl) ?_
  refine lv_iconst (v := 0) hx hb dX0_begin_18 (by decide) ?_
  refine gx_put (ws' := wd_X0_begin cI cZ h_t h_t_rules (upd (upd (upd y_1 4 0) 5 (y_1 2)) 6 0) V_t_rules) C hw 0 rfl rfl lp_X0_begin_28 (gx_nb (Or.inl rfl)) (gx_fb (Or.inl rfl)) rfl dX0_begin_19 (fun H locs hw => ?_)
  obtain rfl := Option.some.inj hf
  exact hQ _ _ _ _ dX0_begin_22 hw
-- LzwForms$Pace.bitsThatFill: touched ['t', 't_rules']; used ['t', 't_rules']; mod []; height 1
theorem ln_X0_bitsThatFill_9 : gx_L wsX0_bitsThatFill RX0 9 0 0 := ⟨_, _, _, rfl, by decide +kernel, by decide, Or.inl (by decide +kernel)⟩
theorem ln_X0_bitsThatFill_18 : gx_L wsX0_bitsThatFill RX0 18 0 4 := ⟨_, _, _, rfl, by decide +kernel, by decide, Or.inl (by decide +kernel)⟩
theorem ln_X0_bitsThatFill_25 : gx_L wsX0_bitsThatFill RX0 25 0 5 := ⟨_, _, _, rfl, by decide +kernel, by decide, Or.inl (by decide +kernel)⟩
theorem ln_X0_bitsThatFill_32 : gx_L wsX0_bitsThatFill RX0 32 3 5 := ⟨_, _, _, rfl, by decide +kernel, by decide, Or.inr (by decide +kernel)⟩
theorem kl_X0_bitsThatFill_37 : gx_KV wsX0_bitsThatFill RX0 37 yX0_groupEnds cX0_groupEnds 1 (some .boolean) wsX0_groupEnds (gx_rm 0) (gx_rm 1) 0 := ⟨gX0_bitsThatFill_X0_groupEnds, ⟨_, rfl⟩, ⟨by decide, by decide, by decide +kernel⟩, ⟨by decide, by decide⟩⟩
def wd_X0_bitsThatFill (cI cZ : ClassId) (h_t h_t_rules : Nat) (V_t V_t_rules : Nat → Int32) : va_W := [gx_o h_t 0 [some (some h_t_rules), none, none, none, none, none, none] V_t, gx_o h_t_rules 3 [none, none, none, none, none, none, none, none, none, none, none, none] V_t_rules]
set_option maxHeartbeats 4000000 in
set_option maxRecDepth 100000 in
theorem ct_X0_bitsThatFill (l : Launch) (D : va_G) (cI cZ : ClassId) (h_t h_t_rules : Nat) (V_t V_t_rules : Nat → Int32) {z : Int32} (hf : fn_X0_bitsThatFill V_t V_t_rules = some z) : gx_Mi l yX0_bitsThatFill wsX0_bitsThatFill (gx_rm 1) D cI cZ [.ref h_t] (wd_X0_bitsThatFill cI cZ h_t h_t_rules V_t V_t_rules) (wd_X0_bitsThatFill cI cZ h_t h_t_rules V_t V_t_rules) z := by
  refine gx_ofi (cc := cX0_bitsThatFill) (own := RX0) (by decide) rfl rfl (Nat.le_of_ble_eq_true rfl) [(0, .ref h_t)] rfl ?_
  intro p e s m args below meth c A Q ls C hQ hl hw
  have hx := C.1.1
  have hb := C.1.2.1
  rw [fn_X0_bitsThatFill] at hf
  refine lv_aload_n hx hb dX0_bitsThatFill_0 rfl (lv_at hl 0 rfl) ?_
  refine gx_get C hw 0 rfl (gx_gr rfl) ln_X0_bitsThatFill_9 dX0_bitsThatFill_1 ?_
  refine gx_get (v := .int (V_t_rules 5)) C hw 1 rfl (gx_gj rfl rfl) ln_X0_bitsThatFill_32 dX0_bitsThatFill_4 ?_
  refine lv_if_eq (tgt := 24) hx hb dX0_bitsThatFill_7 (by decide) (fun hc => ?_) (fun hc => ?_)
  · replace hf := gx_t hc hf
    refine lv_iconst (v := 0) hx hb dX0_bitsThatFill_24 (by decide) ?_
    obtain rfl := Option.some.inj hf
    exact hQ _ _ _ _ dX0_bitsThatFill_25 rfl hw
  · replace hf := gx_f hc hf
    refine lv_aload_n hx hb dX0_bitsThatFill_10 rfl (lv_at hl 0 rfl) ?_
    refine gx_get (v := .int (V_t 4)) C hw 0 rfl (gx_gj rfl rfl) ln_X0_bitsThatFill_18 dX0_bitsThatFill_11 ?_
    refine lv_if_eq (tgt := 24) hx hb dX0_bitsThatFill_14 (by decide) (fun hc => ?_) (fun hc => ?_)
    · replace hf := gx_t hc hf
      refine lv_iconst (v := 0) hx hb dX0_bitsThatFill_24 (by decide) ?_
      obtain rfl := Option.some.inj hf
      exact hQ _ _ _ _ dX0_bitsThatFill_25 rfl hw
    · replace hf := gx_f hc hf
      refine lv_aload_n hx hb dX0_bitsThatFill_17 rfl (lv_at hl 0 rfl) ?_
      obtain ⟨y_18, hy_18, hf⟩ := gx_b hf
      refine gx_calli (As := []) (ws' := wd_X0_bitsThatFill cI cZ h_t h_t_rules V_t V_t_rules) (isC := [0]) (isR := [1]) (isP := [1, 0]) C hw (ct_X0_groupEnds l D cI cZ h_t h_t_rules V_t hy_18) kl_X0_bitsThatFill_37 ⟨rfl, rfl⟩ ⟨rfl, rfl, by decide, by decide, by decide, by decide, rfl⟩ 0 rfl rfl rfl rfl hl.1 (Nat.le_of_ble_eq_true rfl) ⟨Nat.le_refl _, Nat.le_refl _⟩ dX0_bitsThatFill_18 (fun H locs hw => ?_)
      refine lv_if_ne (tgt := 26) hx hb dX0_bitsThatFill_21 (by decide) (fun hc => ?_) (fun hc => ?_)
      · replace hf := gx_f hc hf
        refine lv_bipush (v := 8) hx hb dX0_bitsThatFill_26 (by decide) ?_
        refine lv_aload_n hx hb dX0_bitsThatFill_28 rfl (lv_at hl 0 rfl) ?_
        refine gx_get (v := .int (V_t 4)) C hw 0 rfl (gx_gj rfl rfl) ln_X0_bitsThatFill_18 dX0_bitsThatFill_29 ?_
        refine lv_isub hx hb dX0_bitsThatFill_32 ?_
        refine lv_aload_n hx hb dX0_bitsThatFill_33 rfl (lv_at hl 0 rfl) ?_
        refine gx_get (v := .int (V_t 5)) C hw 0 rfl (gx_gj rfl rfl) ln_X0_bitsThatFill_25 dX0_bitsThatFill_34 ?_
        refine lv_imul hx hb dX0_bitsThatFill_37 ?_
        obtain rfl := Option.some.inj hf
        exact hQ _ _ _ _ dX0_bitsThatFill_38 rfl hw
      · replace hf := gx_t hc hf
        refine lv_iconst (v := 0) hx hb dX0_bitsThatFill_24 (by decide) ?_
        obtain rfl := Option.some.inj hf
        exact hQ _ _ _ _ dX0_bitsThatFill_25 rfl hw
-- LzwForms$Pace.passString: touched ['t', 't_rules']; used ['t', 't_rules']; mod ['t']; height 1
theorem ln_X0_passString_9 : gx_L wsX0_passString RX0 9 0 0 := ⟨_, _, _, rfl, by decide +kernel, by decide, Or.inl (by decide +kernel)⟩
theorem ln_X0_passString_22 : gx_L wsX0_passString RX0 22 0 2 := ⟨_, _, _, rfl, by decide +kernel, by decide, Or.inl (by decide +kernel)⟩
theorem lp_X0_passString_22 : gx_LP wsX0_passString RX0 22 0 2 false .int := ⟨_, _, _, tyX0, rfl, by decide +kernel, by decide, by decide +kernel, tyX0_ok, nmX0, by decide +kernel, by decide +kernel, by decide +kernel⟩
theorem ln_X0_passString_53 : gx_L wsX0_passString RX0 53 0 1 := ⟨_, _, _, rfl, by decide +kernel, by decide, Or.inl (by decide +kernel)⟩
theorem lp_X0_passString_53 : gx_LP wsX0_passString RX0 53 0 1 false .int := ⟨_, _, _, tyX0, rfl, by decide +kernel, by decide, by decide +kernel, tyX0_ok, nmX0, by decide +kernel, by decide +kernel, by decide +kernel⟩
theorem ln_X0_passString_59 : gx_L wsX0_passString RX0 59 0 3 := ⟨_, _, _, rfl, by decide +kernel, by decide, Or.inl (by decide +kernel)⟩
theorem lp_X0_passString_59 : gx_LP wsX0_passString RX0 59 0 3 false .boolean := ⟨_, _, _, tyX0, rfl, by decide +kernel, by decide, by decide +kernel, tyX0_ok, nmX0, by decide +kernel, by decide +kernel, by decide +kernel⟩
theorem ln_X0_passString_62 : gx_L wsX0_passString RX0 62 3 10 := ⟨_, _, _, rfl, by decide +kernel, by decide, Or.inr (by decide +kernel)⟩
theorem ln_X0_passString_75 : gx_L wsX0_passString RX0 75 3 2 := ⟨_, _, _, rfl, by decide +kernel, by decide, Or.inr (by decide +kernel)⟩
theorem kl_X0_passString_71 : gx_KV wsX0_passString RX0 71 yX3_countThatWidens cX3_countThatWidens 2 (some .int) wsX3_countThatWidens (gx_rm 0) (gx_rm 1) 1 := ⟨gX0_passString_X3_countThatWidens, ⟨_, rfl⟩, ⟨by decide, by decide, by decide +kernel⟩, ⟨by decide, by decide⟩⟩
def wd_X0_passString (cI cZ : ClassId) (h_t h_t_rules : Nat) (V_t V_t_rules : Nat → Int32) : va_W := [gx_o h_t 0 [some (some h_t_rules), none, none, none, none, none, none] V_t, gx_o h_t_rules 3 [none, none, none, none, none, none, none, none, none, none, none, none] V_t_rules]
set_option maxHeartbeats 4000000 in
set_option maxRecDepth 100000 in
theorem ct_X0_passString (l : Launch) (D : va_G) (cI cZ : ClassId) (h_t h_t_rules : Nat) (V_t V_t_rules : Nat → Int32) {z : (Nat → Int32)} (hf : fn_X0_passString V_t V_t_rules = some z) : gx_Mv l yX0_passString wsX0_passString (gx_rm 1) D cI cZ [.ref h_t] (wd_X0_passString cI cZ h_t h_t_rules V_t V_t_rules) (wd_X0_passString cI cZ h_t h_t_rules z V_t_rules) := by
  refine gx_ofv (cc := cX0_passString) (own := RX0) (by decide) rfl rfl (Nat.le_of_ble_eq_true rfl) [(0, .ref h_t)] rfl ?_
  intro p e s m args below meth c A Q ls C hQ hl hw
  have hx := C.1.1
  have hb := C.1.2.1
  rw [fn_X0_passString] at hf
  refine lv_aload_n hx hb dX0_passString_0 rfl (lv_at hl 0 rfl) ?_
  refine gx_get (v := .int (V_t 3)) C hw 0 rfl (gx_gj rfl rfl) ln_X0_passString_59 dX0_passString_1 ?_
  refine lv_if_eq (tgt := 13) hx hb dX0_passString_4 (by decide) (fun hc => ?_) (fun hc => ?_)
  · replace hf := gx_t hc hf
    refine lv_aload_n hx hb dX0_passString_13 rfl (lv_at hl 0 rfl) ?_
    refine lv_aload_n hx hb dX0_passString_14 rfl (lv_at hl 0 rfl) ?_
    refine gx_get (v := .int (V_t 1)) C hw 0 rfl (gx_gj rfl rfl) ln_X0_passString_53 dX0_passString_15 ?_
    refine lv_iconst (v := 1) hx hb dX0_passString_18 (by decide) ?_
    refine lv_iadd hx hb dX0_passString_19 ?_
    refine lv_aload_n hx hb dX0_passString_20 rfl (lv_at hl 0 rfl) ?_
    refine gx_get C hw 0 rfl (gx_gr rfl) ln_X0_passString_9 dX0_passString_21 ?_
    refine gx_get (v := .int (V_t_rules 10)) C hw 1 rfl (gx_gj rfl rfl) ln_X0_passString_62 dX0_passString_24 ?_
    refine va_mmin hx hb (C.1.2.2.1.trans hl.1.symm) C.1.2.2.2.1 (C.1.2.2.2.2 (.methodLink RX0 65 Lib.Math.min.name) (by decide +kernel)) (C.1.2.2.2.2 (.static Lib.Math.min.name) (by decide +kernel)) (C.1.2.2.2.2 (.initialized "java/lang/Math") (by decide +kernel)) (C.1.2.2.2.2 (.code Lib.Math.min.name Lib.Math.min.code 2 (some .int)) (by decide +kernel)) (by decide) (Nat.le_of_ble_eq_true rfl) (Nat.zero_le _) (Nat.zero_le _) dX0_passString_27 ?_
    refine gx_put (ws' := wd_X0_passString cI cZ h_t h_t_rules (upd V_t 1 (if (V_t_rules 10) < ((V_t 1) + 1) then (V_t_rules 10) else ((V_t 1) + 1))) V_t_rules) C hw 0 rfl rfl lp_X0_passString_53 rfl rfl rfl dX0_passString_30 (fun H locs hw => ?_)
    refine lv_aload_n hx hb dX0_passString_33 rfl (lv_at hl 0 rfl) ?_
    refine gx_get (v := .int (if (V_t_rules 10) < ((V_t 1) + 1) then (V_t_rules 10) else ((V_t 1) + 1))) C hw 0 rfl (gx_gj rfl pk_us) ln_X0_passString_53 dX0_passString_34 ?_
    refine lv_aload_n hx hb dX0_passString_37 rfl (lv_at hl 0 rfl) ?_
    refine gx_get C hw 0 rfl (gx_gr rfl) ln_X0_passString_9 dX0_passString_38 ?_
    refine lv_aload_n hx hb dX0_passString_41 rfl (lv_at hl 0 rfl) ?_
    refine gx_get (v := .int (V_t 2)) C hw 0 rfl (gx_gj rfl ((pk_un (by decide)).trans rfl)) ln_X0_passString_22 dX0_passString_42 ?_
    obtain ⟨y_45, hy_45, hf⟩ := gx_b hf
    refine gx_calli (As := [.int (V_t 2)]) (ws' := wd_X0_passString cI cZ h_t h_t_rules (upd V_t 1 (if (V_t_rules 10) < ((V_t 1) + 1) then (V_t_rules 10) else ((V_t 1) + 1))) V_t_rules) (isC := [1]) (isR := [0]) (isP := [0, 1]) C hw (ct_X3_countThatWidens l D cI cZ h_t_rules V_t_rules (V_t 2) hy_45) kl_X0_passString_71 ⟨rfl, rfl⟩ ⟨rfl, rfl, by decide, by decide, by decide, by decide, rfl⟩ 0 rfl rfl rfl rfl hl.1 (Nat.le_of_ble_eq_true rfl) ⟨Nat.le_refl _, Nat.le_refl _⟩ dX0_passString_45 (fun H locs hw => ?_)
    refine lv_icmp_lt (tgt := 71) hx hb dX0_passString_48 (by decide) (fun hc => ?_) (fun hc => ?_)
    · replace hf := gx_t hc hf
      obtain rfl := Option.some.inj hf
      exact hQ _ _ _ _ dX0_passString_71 hw
    · replace hf := gx_f hc hf
      refine lv_aload_n hx hb dX0_passString_51 rfl (lv_at hl 0 rfl) ?_
      refine lv_aload_n hx hb dX0_passString_52 rfl (lv_at hl 0 rfl) ?_
      refine gx_get (v := .int (V_t 2)) C hw 0 rfl (gx_gj rfl ((pk_un (by decide)).trans rfl)) ln_X0_passString_22 dX0_passString_53 ?_
      refine lv_iconst (v := 1) hx hb dX0_passString_56 (by decide) ?_
      refine lv_iadd hx hb dX0_passString_57 ?_
      refine lv_aload_n hx hb dX0_passString_58 rfl (lv_at hl 0 rfl) ?_
      refine gx_get C hw 0 rfl (gx_gr rfl) ln_X0_passString_9 dX0_passString_59 ?_
      refine gx_get (v := .int (V_t_rules 2)) C hw 1 rfl (gx_gj rfl rfl) ln_X0_passString_75 dX0_passString_62 ?_
      refine va_mmin hx hb (C.1.2.2.1.trans hl.1.symm) C.1.2.2.2.1 (C.1.2.2.2.2 (.methodLink RX0 65 Lib.Math.min.name) (by decide +kernel)) (C.1.2.2.2.2 (.static Lib.Math.min.name) (by decide +kernel)) (C.1.2.2.2.2 (.initialized "java/lang/Math") (by decide +kernel)) (C.1.2.2.2.2 (.code Lib.Math.min.name Lib.Math.min.code 2 (some .int)) (by decide +kernel)) (by decide) (Nat.le_of_ble_eq_true rfl) (Nat.zero_le _) (Nat.zero_le _) dX0_passString_65 ?_
      refine gx_put (ws' := wd_X0_passString cI cZ h_t h_t_rules (upd (upd V_t 1 (if (V_t_rules 10) < ((V_t 1) + 1) then (V_t_rules 10) else ((V_t 1) + 1))) 2 (if (V_t_rules 2) < ((V_t 2) + 1) then (V_t_rules 2) else ((V_t 2) + 1))) V_t_rules) C hw 0 rfl rfl lp_X0_passString_22 rfl rfl rfl dX0_passString_68 (fun H locs hw => ?_)
      obtain rfl := Option.some.inj hf
      exact hQ _ _ _ _ dX0_passString_71 hw
  · replace hf := gx_f hc hf
    refine lv_aload_n hx hb dX0_passString_7 rfl (lv_at hl 0 rfl) ?_
    refine lv_iconst (v := 0) hx hb dX0_passString_8 (by decide) ?_
    refine gx_put (ws' := wd_X0_passString cI cZ h_t h_t_rules (upd V_t 3 0) V_t_rules) C hw 0 rfl rfl lp_X0_passString_59 (gx_nb (Or.inl rfl)) (gx_fb (Or.inl rfl)) rfl dX0_passString_9 (fun H locs hw => ?_)
    obtain rfl := Option.some.inj hf
    exact hQ _ _ _ _ dX0_passString_12 hw
-- LzwForms$Pace.pass: touched ['t', 't_rules']; used ['t', 't_rules']; mod ['t']; height 2
theorem ln_X0_pass_9 : gx_L wsX0_pass RX0 9 0 0 := ⟨_, _, _, rfl, by decide +kernel, by decide, Or.inl (by decide +kernel)⟩
theorem ln_X0_pass_18 : gx_L wsX0_pass RX0 18 0 4 := ⟨_, _, _, rfl, by decide +kernel, by decide, Or.inl (by decide +kernel)⟩
theorem lp_X0_pass_18 : gx_LP wsX0_pass RX0 18 0 4 false .int := ⟨_, _, _, tyX0, rfl, by decide +kernel, by decide, by decide +kernel, tyX0_ok, nmX0, by decide +kernel, by decide +kernel, by decide +kernel⟩
theorem ln_X0_pass_22 : gx_L wsX0_pass RX0 22 0 2 := ⟨_, _, _, rfl, by decide +kernel, by decide, Or.inl (by decide +kernel)⟩
theorem lp_X0_pass_25 : gx_LP wsX0_pass RX0 25 0 5 false .int := ⟨_, _, _, tyX0, rfl, by decide +kernel, by decide, by decide +kernel, tyX0_ok, nmX0, by decide +kernel, by decide +kernel, by decide +kernel⟩
theorem ln_X0_pass_28 : gx_L wsX0_pass RX0 28 0 6 := ⟨_, _, _, rfl, by decide +kernel, by decide, Or.inl (by decide +kernel)⟩
theorem lp_X0_pass_28 : gx_LP wsX0_pass RX0 28 0 6 false .boolean := ⟨_, _, _, tyX0, rfl, by decide +kernel, by decide, by decide +kernel, tyX0_ok, nmX0, by decide +kernel, by decide +kernel, by decide +kernel⟩
theorem ln_X0_pass_41 : gx_L wsX0_pass RX0 41 3 7 := ⟨_, _, _, rfl, by decide +kernel, by decide, Or.inr (by decide +kernel)⟩
theorem ln_X0_pass_44 : gx_L wsX0_pass RX0 44 3 8 := ⟨_, _, _, rfl, by decide +kernel, by decide, Or.inr (by decide +kernel)⟩
theorem kl_X0_pass_15 : gx_KV wsX0_pass RX0 15 yX0_beginTable cX0_beginTable 1 none wsX0_beginTable (gx_rm 0) (gx_rm 2) 0 := ⟨gX0_pass_X0_beginTable, ⟨_, rfl⟩, ⟨by decide, by decide, by decide +kernel⟩, ⟨by decide, by decide⟩⟩
theorem kl_X0_pass_37 : gx_KV wsX0_pass RX0 37 yX0_groupEnds cX0_groupEnds 1 (some .boolean) wsX0_groupEnds (gx_rm 0) (gx_rm 2) 0 := ⟨gX0_pass_X0_groupEnds, ⟨_, rfl⟩, ⟨by decide, by decide, by decide +kernel⟩, ⟨by decide, by decide⟩⟩
theorem kl_X0_pass_47 : gx_KV wsX0_pass RX0 47 yX0_passString cX0_passString 1 none wsX0_passString (gx_rm 1) (gx_rm 2) 0 := ⟨gX0_pass_X0_passString, ⟨_, rfl⟩, ⟨by decide, by decide, by decide +kernel⟩, ⟨by decide, by decide⟩⟩
def wd_X0_pass (cI cZ : ClassId) (h_t h_t_rules : Nat) (V_t V_t_rules : Nat → Int32) : va_W := [gx_o h_t 0 [some (some h_t_rules), none, none, none, none, none, none] V_t, gx_o h_t_rules 3 [none, none, none, none, none, none, none, none, none, none, none, none] V_t_rules]
set_option maxHeartbeats 4000000 in
set_option maxRecDepth 100000 in
theorem tm_X0_pass_50 (C : gx_C cX0_pass 2 wsX0_pass RX0 D cI cZ p s m args c) (h_t h_t_rules : Nat) (V_t_rules : Nat → Int32) {z : (Nat → Int32)} (hQ : gx_Qv cX0_pass p l e (gx_rm 2) s m args below meth c D A Q (wd_X0_pass cI cZ h_t h_t_rules z V_t_rules)) : ∀ (V_t : Nat → Int32) (x1 s1 : Int32) (ls : Array Slot) (H : Heap) (locs : List Loc), lv_has ls 2 [(0, .ref h_t), (1, .int x1)] → gx_W D A s (wd_X0_pass cI cZ h_t h_t_rules V_t V_t_rules) H locs → fn_X0_pass_j50 V_t_rules V_t x1 s1 = some z → W p l e (gx_rm 2) s m args below meth c H locs 0 0 Q (F0 m 50 ls [.int s1, .ref h_t]) := by
  have hx := C.1.1
  have hb := C.1.2.1
  intro V_t x1 s1 ls H locs hl hw hf
  rw [fn_X0_pass_j50] at hf
  obtain ⟨hz_50, hf⟩ := gx_g hf
  refine gx_put (ws' := wd_X0_pass cI cZ h_t h_t_rules (upd V_t 6 s1) V_t_rules) C hw 0 rfl rfl lp_X0_pass_28 (gx_nb hz_50) (gx_fb hz_50) rfl dX0_pass_50 (fun H locs hw => ?_)
  refine lv_aload_n hx hb dX0_pass_53 rfl (lv_at hl 0 rfl) ?_
  refine gx_get (v := .int s1) C hw 0 rfl (gx_gj rfl pk_us) ln_X0_pass_28 dX0_pass_54 ?_
  refine lv_if_eq (tgt := 67) hx hb dX0_pass_57 (by decide) (fun hc => ?_) (fun hc => ?_)
  · replace hf := gx_t hc hf
    refine lv_iload_n hx hb dX0_pass_67 rfl (lv_at hl 1 rfl) ?_
    refine lv_aload_n hx hb dX0_pass_68 rfl (lv_at hl 0 rfl) ?_
    refine gx_get C hw 0 rfl (gx_gr rfl) ln_X0_pass_9 dX0_pass_69 ?_
    refine gx_get (v := .int (V_t_rules 8)) C hw 1 rfl (gx_gj rfl rfl) ln_X0_pass_44 dX0_pass_72 ?_
    refine lv_icmp_eq (tgt := 82) hx hb dX0_pass_75 (by decide) (fun hc => ?_) (fun hc => ?_)
    · replace hf := gx_t hc hf
      obtain rfl := Option.some.inj hf
      exact hQ _ _ _ _ dX0_pass_82 hw
    · replace hf := gx_f hc hf
      refine lv_aload_n hx hb dX0_pass_78 rfl (lv_at hl 0 rfl) ?_
      obtain ⟨y_79, hy_79, hf⟩ := gx_b hf
      refine gx_callv (As := []) (ws' := wd_X0_pass cI cZ h_t h_t_rules y_79 V_t_rules) (isC := [0, 1]) (isR := []) (isP := [0, 1]) C hw (ct_X0_passString l D cI cZ h_t h_t_rules (upd V_t 6 s1) V_t_rules hy_79) kl_X0_pass_47 ⟨rfl, rfl⟩ ⟨rfl, rfl, by decide, by decide, by decide, by decide, rfl⟩ 0 rfl rfl rfl rfl hl.1 (Nat.le_of_ble_eq_true rfl) ⟨Nat.le_refl _, Nat.le_refl _⟩ dX0_pass_79 (fun H locs hw => ?_)
      obtain rfl := Option.some.inj hf
      exact hQ _ _ _ _ dX0_pass_82 hw
  · replace hf := gx_f hc hf
    refine lv_aload_n hx hb dX0_pass_60 rfl (lv_at hl 0 rfl) ?_
    obtain ⟨y_61, hy_61, hf⟩ := gx_b hf
    refine gx_callv (As := []) (ws' := wd_X0_pass cI cZ h_t h_t_rules y_61 V_t_rules) (isC := [0, 1]) (isR := []) (isP := [0, 1]) C hw (ct_X0_beginTable l D cI cZ h_t h_t_rules (upd V_t 6 s1) V_t_rules hy_61) kl_X0_pass_15 ⟨rfl, rfl⟩ ⟨rfl, rfl, by decide, by decide, by decide, by decide, rfl⟩ 0 rfl rfl rfl rfl hl.1 (Nat.le_of_ble_eq_true rfl) ⟨Nat.le_refl _, Nat.le_refl _⟩ dX0_pass_61 (fun H locs hw => ?_)
    refine lv_goto (tgt := 82) hx hb dX0_pass_64 (by decide) ?_
    obtain rfl := Option.some.inj hf
    exact hQ _ _ _ _ dX0_pass_82 hw
set_option maxHeartbeats 4000000 in
set_option maxRecDepth 100000 in
theorem tm_X0_pass_12 (C : gx_C cX0_pass 2 wsX0_pass RX0 D cI cZ p s m args c) (h_t h_t_rules : Nat) (V_t_rules : Nat → Int32) {z : (Nat → Int32)} (hQ : gx_Qv cX0_pass p l e (gx_rm 2) s m args below meth c D A Q (wd_X0_pass cI cZ h_t h_t_rules z V_t_rules)) : ∀ (V_t : Nat → Int32) (x1 : Int32) (ls : Array Slot) (H : Heap) (locs : List Loc), lv_has ls 2 [(0, .ref h_t), (1, .int x1)] → gx_W D A s (wd_X0_pass cI cZ h_t h_t_rules V_t V_t_rules) H locs → fn_X0_pass_j12 V_t_rules V_t x1 = some z → W p l e (gx_rm 2) s m args below meth c H locs 0 0 Q (F0 m 12 ls []) := by
  have hx := C.1.1
  have hb := C.1.2.1
  intro V_t x1 ls H locs hl hw hf
  rw [fn_X0_pass_j12] at hf
  refine lv_aload_n hx hb dX0_pass_12 rfl (lv_at hl 0 rfl) ?_
  refine lv_aload_n hx hb dX0_pass_13 rfl (lv_at hl 0 rfl) ?_
  refine gx_get (v := .int (V_t 4)) C hw 0 rfl (gx_gj rfl rfl) ln_X0_pass_18 dX0_pass_14 ?_
  refine lv_iconst (v := 1) hx hb dX0_pass_17 (by decide) ?_
  refine lv_iadd hx hb dX0_pass_18 ?_
  refine lv_bipush (v := 8) hx hb dX0_pass_19 (by decide) ?_
  refine lv_irem hx hb dX0_pass_21 (by decide) ?_
  refine gx_put (ws' := wd_X0_pass cI cZ h_t h_t_rules (upd V_t 4 (((V_t 4) + 1) - ((V_t 4) + 1) / 8 * 8)) V_t_rules) C hw 0 rfl rfl lp_X0_pass_18 rfl rfl rfl dX0_pass_22 (fun H locs hw => ?_)
  refine lv_aload_n hx hb dX0_pass_25 rfl (lv_at hl 0 rfl) ?_
  refine lv_aload_n hx hb dX0_pass_26 rfl (lv_at hl 0 rfl) ?_
  refine gx_get (v := .int (V_t 2)) C hw 0 rfl (gx_gj rfl ((pk_un (by decide)).trans rfl)) ln_X0_pass_22 dX0_pass_27 ?_
  refine gx_put (ws' := wd_X0_pass cI cZ h_t h_t_rules (upd (upd V_t 4 (((V_t 4) + 1) - ((V_t 4) + 1) / 8 * 8)) 5 (V_t 2)) V_t_rules) C hw 0 rfl rfl lp_X0_pass_25 rfl rfl rfl dX0_pass_30 (fun H locs hw => ?_)
  refine lv_aload_n hx hb dX0_pass_33 rfl (lv_at hl 0 rfl) ?_
  refine lv_iload_n hx hb dX0_pass_34 rfl (lv_at hl 1 rfl) ?_
  refine lv_aload_n hx hb dX0_pass_35 rfl (lv_at hl 0 rfl) ?_
  refine gx_get C hw 0 rfl (gx_gr rfl) ln_X0_pass_9 dX0_pass_36 ?_
  refine gx_get (v := .int (V_t_rules 7)) C hw 1 rfl (gx_gj rfl rfl) ln_X0_pass_41 dX0_pass_39 ?_
  refine lv_icmp_ne (tgt := 49) hx hb dX0_pass_42 (by decide) (fun hc => ?_) (fun hc => ?_)
  · replace hf := gx_f hc hf
    refine lv_iconst (v := 0) hx hb dX0_pass_49 (by decide) ?_
    exact tm_X0_pass_50 C h_t h_t_rules V_t_rules hQ  (upd (upd V_t 4 (((V_t 4) + 1) - ((V_t 4) + 1) / 8 * 8)) 5 (V_t 2)) x1 0 _ _ _ (lv_sub hl [0, 1] rfl) hw hf
  · replace hf := gx_t hc hf
    refine lv_iconst (v := 1) hx hb dX0_pass_45 (by decide) ?_
    refine lv_goto (tgt := 50) hx hb dX0_pass_46 (by decide) ?_
    exact tm_X0_pass_50 C h_t h_t_rules V_t_rules hQ  (upd (upd V_t 4 (((V_t 4) + 1) - ((V_t 4) + 1) / 8 * 8)) 5 (V_t 2)) x1 1 _ _ _ (lv_sub hl [0, 1] rfl) hw hf
set_option maxHeartbeats 4000000 in
set_option maxRecDepth 100000 in
theorem ct_X0_pass (l : Launch) (D : va_G) (cI cZ : ClassId) (h_t h_t_rules : Nat) (V_t V_t_rules : Nat → Int32) (a1 : Int32) {z : (Nat → Int32)} (hf : fn_X0_pass V_t V_t_rules a1 = some z) : gx_Mv l yX0_pass wsX0_pass (gx_rm 2) D cI cZ [.ref h_t, .int a1] (wd_X0_pass cI cZ h_t h_t_rules V_t V_t_rules) (wd_X0_pass cI cZ h_t h_t_rules z V_t_rules) := by
  refine gx_ofv (cc := cX0_pass) (own := RX0) (by decide) rfl rfl (Nat.le_of_ble_eq_true rfl) [(0, .ref h_t), (1, .int a1)] rfl ?_
  intro p e s m args below meth c A Q ls C hQ hl hw
  have hx := C.1.1
  have hb := C.1.2.1
  rw [fn_X0_pass] at hf
  refine lv_aload_n hx hb dX0_pass_0 rfl (lv_at hl 0 rfl) ?_
  obtain ⟨y_1, hy_1, hf⟩ := gx_b hf
  refine gx_calli (As := []) (ws' := wd_X0_pass cI cZ h_t h_t_rules V_t V_t_rules) (isC := [0]) (isR := [1]) (isP := [1, 0]) C hw (ct_X0_groupEnds l D cI cZ h_t h_t_rules V_t hy_1) kl_X0_pass_37 ⟨rfl, rfl⟩ ⟨rfl, rfl, by decide, by decide, by decide, by decide, rfl⟩ 0 rfl rfl rfl rfl hl.1 (Nat.le_of_ble_eq_true rfl) ⟨Nat.le_refl _, Nat.le_refl _⟩ dX0_pass_1 (fun H locs hw => ?_)
  refine lv_if_eq (tgt := 12) hx hb dX0_pass_4 (by decide) (fun hc => ?_) (fun hc => ?_)
  · replace hf := gx_t hc hf
    exact tm_X0_pass_12 C h_t h_t_rules V_t_rules hQ  V_t a1 _ _ _ (lv_sub hl [0, 1] rfl) hw hf
  · replace hf := gx_f hc hf
    refine lv_aload_n hx hb dX0_pass_7 rfl (lv_at hl 0 rfl) ?_
    refine lv_iconst (v := 0) hx hb dX0_pass_8 (by decide) ?_
    refine gx_put (ws' := wd_X0_pass cI cZ h_t h_t_rules (upd V_t 4 0) V_t_rules) C hw 0 rfl rfl lp_X0_pass_18 rfl rfl rfl dX0_pass_9 (fun H locs hw => ?_)
    exact tm_X0_pass_12 C h_t h_t_rules V_t_rules hQ  (upd V_t 4 0) a1 _ _ _ (lv_sub hl [0, 1] rfl) hw hf
end
