section
variable {p : Program} {l : Launch} {e : Env} {s : State} {m : MethodId} {args : Array Value} {below : List Frame} {meth : Method} {c : Code} {D : va_G} {cI cZ : ClassId} {A : Nat → Prop} {Q : State → Prop}
-- LzwForms$Table.slotOf: touched ['t', 't_rules']; used ['t', 't_rules']; mod []; height 0
theorem ln_X4_slotOf_9 : gx_L wsX4_slotOf RX4 9 4 0 := ⟨_, _, _, rfl, by decide +kernel, by decide, Or.inl (by decide +kernel)⟩
theorem ln_X4_slotOf_31 : gx_L wsX4_slotOf RX4 31 4 6 := ⟨_, _, _, rfl, by decide +kernel, by decide, Or.inl (by decide +kernel)⟩
theorem ln_X4_slotOf_35 : gx_L wsX4_slotOf RX4 35 3 9 := ⟨_, _, _, rfl, by decide +kernel, by decide, Or.inr (by decide +kernel)⟩
def wd_X4_slotOf (cI cZ : ClassId) (h_t h_t_rules h_t_heads h_t_tails h_t_lengths h_t_nextInChain h_t_chainOf : Nat) (V_t V_t_rules : Nat → Int32) : va_W := [gx_o h_t 4 [some (some h_t_rules), some (some h_t_heads), some (some h_t_tails), some (some h_t_lengths), some (some h_t_nextInChain), some (some h_t_chainOf), none] V_t, gx_o h_t_rules 3 [none, none, none, none, none, none, none, none, none, none, none, none] V_t_rules]
set_option maxHeartbeats 4000000 in
set_option maxRecDepth 100000 in
theorem ct_X4_slotOf (l : Launch) (D : va_G) (cI cZ : ClassId) (h_t h_t_rules h_t_heads h_t_tails h_t_lengths h_t_nextInChain h_t_chainOf : Nat) (V_t V_t_rules : Nat → Int32) (a1 : Int32) {z : Int32} (hf : fn_X4_slotOf V_t V_t_rules a1 = some z) : gx_Mi l yX4_slotOf wsX4_slotOf (gx_rm 0) D cI cZ [.ref h_t, .int a1] (wd_X4_slotOf cI cZ h_t h_t_rules h_t_heads h_t_tails h_t_lengths h_t_nextInChain h_t_chainOf V_t V_t_rules) (wd_X4_slotOf cI cZ h_t h_t_rules h_t_heads h_t_tails h_t_lengths h_t_nextInChain h_t_chainOf V_t V_t_rules) z := by
  refine gx_ofi (cc := cX4_slotOf) (own := RX4) (by decide) rfl rfl (Nat.le_of_ble_eq_true rfl) [(0, .ref h_t), (1, .int a1)] rfl ?_
  intro p e s m args below meth c A Q ls C hQ hl hw
  have hx := C.1.1
  have hb := C.1.2.1
  rw [fn_X4_slotOf] at hf
  refine lv_aload_n hx hb dX4_slotOf_0 rfl (lv_at hl 0 rfl) ?_
  refine gx_get C hw 0 rfl (gx_gr rfl) ln_X4_slotOf_9 dX4_slotOf_1 ?_
  refine gx_get (v := .int (V_t_rules 9)) C hw 1 rfl (gx_gj rfl rfl) ln_X4_slotOf_35 dX4_slotOf_4 ?_
  refine lv_istore_n (lv' := [(2, .int (V_t_rules 9)), (0, .ref h_t), (1, .int a1)]) hx hb dX4_slotOf_7 rfl hl (by decide) rfl (fun ls hl => ?_)
  refine lv_iload_n hx hb dX4_slotOf_8 rfl (lv_at hl 2 rfl) ?_
  refine lv_iload_n hx hb dX4_slotOf_9 rfl (lv_at hl 0 rfl) ?_
  refine lv_icmp_lt (tgt := 29) hx hb dX4_slotOf_10 (by decide) (fun hc => ?_) (fun hc => ?_)
  · replace hf := gx_t hc hf
    refine lv_iconst (v := (-1)) hx hb dX4_slotOf_29 (by decide) ?_
    obtain rfl := Option.some.inj hf
    exact hQ _ _ _ _ dX4_slotOf_30 rfl hw
  · replace hf := gx_f hc hf
    refine lv_iload_n hx hb dX4_slotOf_13 rfl (lv_at hl 2 rfl) ?_
    refine lv_iload_n hx hb dX4_slotOf_14 rfl (lv_at hl 0 rfl) ?_
    refine lv_aload_n hx hb dX4_slotOf_15 rfl (lv_at hl 1 rfl) ?_
    refine gx_get (v := .int (V_t 6)) C hw 0 rfl (gx_gj rfl rfl) ln_X4_slotOf_31 dX4_slotOf_16 ?_
    refine lv_iadd hx hb dX4_slotOf_19 ?_
    refine lv_icmp_ge (tgt := 29) hx hb dX4_slotOf_20 (by decide) (fun hc => ?_) (fun hc => ?_)
    · replace hf := gx_t hc hf
      refine lv_iconst (v := (-1)) hx hb dX4_slotOf_29 (by decide) ?_
      obtain rfl := Option.some.inj hf
      exact hQ _ _ _ _ dX4_slotOf_30 rfl hw
    · replace hf := gx_f hc hf
      refine lv_iload_n hx hb dX4_slotOf_23 rfl (lv_at hl 2 rfl) ?_
      refine lv_iload_n hx hb dX4_slotOf_24 rfl (lv_at hl 0 rfl) ?_
      refine lv_isub hx hb dX4_slotOf_25 ?_
      refine lv_goto (tgt := 30) hx hb dX4_slotOf_26 (by decide) ?_
      obtain rfl := Option.some.inj hf
      exact hQ _ _ _ _ dX4_slotOf_30 rfl hw
-- LzwForms$Table.wipe: touched ['t', 't_heads', 't_chainOf']; used ['t', 't_heads', 't_chainOf']; mod ['t', 't_chainOf']; height 0
theorem ln_X4_wipe_15 : gx_L wsX4_wipe RX4 15 4 1 := ⟨_, _, _, rfl, by decide +kernel, by decide, Or.inl (by decide +kernel)⟩
theorem ln_X4_wipe_28 : gx_L wsX4_wipe RX4 28 4 5 := ⟨_, _, _, rfl, by decide +kernel, by decide, Or.inl (by decide +kernel)⟩
theorem ln_X4_wipe_31 : gx_L wsX4_wipe RX4 31 4 6 := ⟨_, _, _, rfl, by decide +kernel, by decide, Or.inl (by decide +kernel)⟩
theorem lp_X4_wipe_31 : gx_LP wsX4_wipe RX4 31 4 6 false .int := ⟨_, _, _, tyX4, rfl, by decide +kernel, by decide, by decide +kernel, tyX4_ok, nmX4, by decide +kernel, by decide +kernel, by decide +kernel⟩
def wd_X4_wipe (cI cZ : ClassId) (h_t h_t_rules h_t_heads h_t_tails h_t_lengths h_t_nextInChain h_t_chainOf : Nat) (V_t V_t_heads V_t_chainOf : Nat → Int32) : va_W := [gx_o h_t 4 [some (some h_t_rules), some (some h_t_heads), some (some h_t_tails), some (some h_t_lengths), some (some h_t_nextInChain), some (some h_t_chainOf), none] V_t, gx_a h_t_heads cI 300 V_t_heads, gx_a h_t_chainOf cI 558 V_t_chainOf]
set_option maxHeartbeats 4000000 in
set_option maxRecDepth 100000 in
theorem tm_X4_wipe_2 (C : gx_C cX4_wipe 3 wsX4_wipe RX4 D cI cZ p s m args c) (h_t h_t_rules h_t_heads h_t_tails h_t_lengths h_t_nextInChain h_t_chainOf : Nat) (V_t_heads : Nat → Int32) {z : (Nat → Int32) × (Nat → Int32)} (hQ : gx_Qv cX4_wipe p l e (gx_rm 0) s m args below meth c D A Q (wd_X4_wipe cI cZ h_t h_t_rules h_t_heads h_t_tails h_t_lengths h_t_nextInChain h_t_chainOf z.1 V_t_heads z.2)) : ∀ (n : Nat), (∀ (V_t V_t_chainOf : Nat → Int32) (x1 : Int32) (ls : Array Slot) (H : Heap) (locs : List Loc), lv_has ls 3 [(0, .ref h_t), (1, .int x1)] → gx_W D A s (wd_X4_wipe cI cZ h_t h_t_rules h_t_heads h_t_tails h_t_lengths h_t_nextInChain h_t_chainOf V_t V_t_heads V_t_chainOf) H locs → fn_X4_wipe_l2 V_t_heads n V_t V_t_chainOf x1 = some z → W p l e (gx_rm 0) s m args below meth c H locs 0 0 Q (F0 m 2 ls [])) := by
  have hx := C.1.1
  have hb := C.1.2.1
  intro n
  induction n with
  | zero => intro V_t V_t_chainOf x1 ls H locs hl hw hf; rw [fn_X4_wipe_l2] at hf; cases hf
  | succ n ih =>
    intro V_t V_t_chainOf x1 ls H locs hl hw hf
    rw [fn_X4_wipe_l2] at hf
    refine lv_iload_n hx hb dX4_wipe_2 rfl (lv_at hl 1 rfl) ?_
    refine lv_aload_n hx hb dX4_wipe_3 rfl (lv_at hl 0 rfl) ?_
    refine gx_get (v := .int (V_t 6)) C hw 0 rfl (gx_gj rfl rfl) ln_X4_wipe_31 dX4_wipe_4 ?_
    refine lv_icmp_ge (tgt := 52) hx hb dX4_wipe_7 (by decide) (fun hc => ?_) (fun hc => ?_)
    · replace hf := gx_t hc hf
      refine lv_aload_n hx hb dX4_wipe_52 rfl (lv_at hl 0 rfl) ?_
      refine lv_iconst (v := 0) hx hb dX4_wipe_53 (by decide) ?_
      refine gx_put (ws' := wd_X4_wipe cI cZ h_t h_t_rules h_t_heads h_t_tails h_t_lengths h_t_nextInChain h_t_chainOf (upd V_t 6 0) V_t_heads V_t_chainOf) C hw 0 rfl rfl lp_X4_wipe_31 rfl rfl rfl dX4_wipe_54 (fun H locs hw => ?_)
      obtain rfl := Option.some.inj hf
      exact hQ _ _ _ _ dX4_wipe_57 hw
    · replace hf := gx_f hc hf
      refine lv_iload_n hx hb dX4_wipe_10 rfl (lv_at hl 1 rfl) ?_
      refine lv_aload_n hx hb dX4_wipe_11 rfl (lv_at hl 0 rfl) ?_
      refine gx_get C hw 0 rfl (gx_gr rfl) ln_X4_wipe_15 dX4_wipe_12 ?_
      refine gx_alen C hw 1 rfl dX4_wipe_15 ?_
      refine lv_icmp_ge (tgt := 52) hx hb dX4_wipe_16 (by decide) (fun hc => ?_) (fun hc => ?_)
      · replace hf := gx_t hc hf
        refine lv_aload_n hx hb dX4_wipe_52 rfl (lv_at hl 0 rfl) ?_
        refine lv_iconst (v := 0) hx hb dX4_wipe_53 (by decide) ?_
        refine gx_put (ws' := wd_X4_wipe cI cZ h_t h_t_rules h_t_heads h_t_tails h_t_lengths h_t_nextInChain h_t_chainOf (upd V_t 6 0) V_t_heads V_t_chainOf) C hw 0 rfl rfl lp_X4_wipe_31 rfl rfl rfl dX4_wipe_54 (fun H locs hw => ?_)
        obtain rfl := Option.some.inj hf
        exact hQ _ _ _ _ dX4_wipe_57 hw
      · replace hf := gx_f hc hf
        refine lv_aload_n hx hb dX4_wipe_19 rfl (lv_at hl 0 rfl) ?_
        refine gx_get C hw 0 rfl (gx_gr rfl) ln_X4_wipe_15 dX4_wipe_20 ?_
        refine lv_iload_n hx hb dX4_wipe_23 rfl (lv_at hl 1 rfl) ?_
        obtain ⟨hi_24, hf⟩ := gx_g hf
        refine gx_iald C hw 1 rfl hi_24 dX4_wipe_24 ?_
        refine lv_istore_n (lv' := [(2, .int (V_t_heads x1.toNatClampNeg)), (0, .ref h_t), (1, .int x1)]) hx hb dX4_wipe_25 rfl hl (by decide) rfl (fun ls hl => ?_)
        refine lv_iload_n hx hb dX4_wipe_26 rfl (lv_at hl 0 rfl) ?_
        refine lv_if_lt (tgt := 46) hx hb dX4_wipe_27 (by decide) (fun hc => ?_) (fun hc => ?_)
        · replace hf := gx_t hc hf
          refine lv_iinc (v := (x1 + 1)) (lv' := [(1, .int (x1 + 1)), (2, .int (V_t_heads x1.toNatClampNeg)), (0, .ref h_t)]) hx hb dX4_wipe_46 hl (k := 2) rfl rfl (by decide) rfl (fun ls hl => ?_)
          refine lv_goto (tgt := 2) hx hb dX4_wipe_49 (by decide) ?_
          exact ih V_t V_t_chainOf (x1 + 1) _ _ _ (lv_sub hl [2, 0] rfl) hw hf
        · replace hf := gx_f hc hf
          refine lv_iload_n hx hb dX4_wipe_30 rfl (lv_at hl 0 rfl) ?_
          refine lv_aload_n hx hb dX4_wipe_31 rfl (lv_at hl 1 rfl) ?_
          refine gx_get C hw 0 rfl (gx_gr rfl) ln_X4_wipe_28 dX4_wipe_32 ?_
          refine gx_alen C hw 2 rfl dX4_wipe_35 ?_
          refine lv_icmp_ge (tgt := 46) hx hb dX4_wipe_36 (by decide) (fun hc => ?_) (fun hc => ?_)
          · replace hf := gx_t hc hf
            refine lv_iinc (v := (x1 + 1)) (lv' := [(1, .int (x1 + 1)), (2, .int (V_t_heads x1.toNatClampNeg)), (0, .ref h_t)]) hx hb dX4_wipe_46 hl (k := 2) rfl rfl (by decide) rfl (fun ls hl => ?_)
            refine lv_goto (tgt := 2) hx hb dX4_wipe_49 (by decide) ?_
            exact ih V_t V_t_chainOf (x1 + 1) _ _ _ (lv_sub hl [2, 0] rfl) hw hf
          · replace hf := gx_f hc hf
            refine lv_aload_n hx hb dX4_wipe_39 rfl (lv_at hl 1 rfl) ?_
            refine gx_get C hw 0 rfl (gx_gr rfl) ln_X4_wipe_28 dX4_wipe_40 ?_
            refine lv_iload_n hx hb dX4_wipe_43 rfl (lv_at hl 0 rfl) ?_
            refine lv_iconst (v := (-1)) hx hb dX4_wipe_44 (by decide) ?_
            obtain ⟨hi_45, hf⟩ := gx_g hf
            refine gx_iast (ws' := wd_X4_wipe cI cZ h_t h_t_rules h_t_heads h_t_tails h_t_lengths h_t_nextInChain h_t_chainOf V_t V_t_heads (upd V_t_chainOf (V_t_heads x1.toNatClampNeg).toNatClampNeg (-1))) C hw 2 rfl hi_45 rfl dX4_wipe_45 (fun H locs hw => ?_)
            refine lv_iinc (v := (x1 + 1)) (lv' := [(1, .int (x1 + 1)), (2, .int (V_t_heads x1.toNatClampNeg)), (0, .ref h_t)]) hx hb dX4_wipe_46 hl (k := 2) rfl rfl (by decide) rfl (fun ls hl => ?_)
            refine lv_goto (tgt := 2) hx hb dX4_wipe_49 (by decide) ?_
            exact ih V_t (upd V_t_chainOf (V_t_heads x1.toNatClampNeg).toNatClampNeg (-1)) (x1 + 1) _ _ _ (lv_sub hl [2, 0] rfl) hw hf
set_option maxHeartbeats 4000000 in
set_option maxRecDepth 100000 in
theorem ct_X4_wipe (l : Launch) (D : va_G) (cI cZ : ClassId) (h_t h_t_rules h_t_heads h_t_tails h_t_lengths h_t_nextInChain h_t_chainOf : Nat) (V_t V_t_heads V_t_chainOf : Nat → Int32) {z : (Nat → Int32) × (Nat → Int32)} (hf : fn_X4_wipe V_t V_t_heads V_t_chainOf = some z) : gx_Mv l yX4_wipe wsX4_wipe (gx_rm 0) D cI cZ [.ref h_t] (wd_X4_wipe cI cZ h_t h_t_rules h_t_heads h_t_tails h_t_lengths h_t_nextInChain h_t_chainOf V_t V_t_heads V_t_chainOf) (wd_X4_wipe cI cZ h_t h_t_rules h_t_heads h_t_tails h_t_lengths h_t_nextInChain h_t_chainOf z.1 V_t_heads z.2) := by
  refine gx_ofv (cc := cX4_wipe) (own := RX4) (by decide) rfl rfl (Nat.le_of_ble_eq_true rfl) [(0, .ref h_t)] rfl ?_
  intro p e s m args below meth c A Q ls C hQ hl hw
  have hx := C.1.1
  have hb := C.1.2.1
  rw [fn_X4_wipe] at hf
  refine lv_iconst (v := 0) hx hb dX4_wipe_0 (by decide) ?_
  refine lv_istore_n (lv' := [(1, .int 0), (0, .ref h_t)]) hx hb dX4_wipe_1 rfl hl (by decide) rfl (fun ls hl => ?_)
  exact tm_X4_wipe_2 C h_t h_t_rules h_t_heads h_t_tails h_t_lengths h_t_nextInChain h_t_chainOf V_t_heads hQ  gx_fuel V_t V_t_chainOf 0 _ _ _ (lv_sub hl [1, 0] rfl) hw hf
-- LzwForms$Table.isFull: touched ['t', 't_rules']; used ['t', 't_rules']; mod []; height 0
theorem ln_X4_isFull_9 : gx_L wsX4_isFull RX4 9 4 0 := ⟨_, _, _, rfl, by decide +kernel, by decide, Or.inl (by decide +kernel)⟩
theorem ln_X4_isFull_31 : gx_L wsX4_isFull RX4 31 4 6 := ⟨_, _, _, rfl, by decide +kernel, by decide, Or.inl (by decide +kernel)⟩
theorem ln_X4_isFull_35 : gx_L wsX4_isFull RX4 35 3 9 := ⟨_, _, _, rfl, by decide +kernel, by decide, Or.inr (by decide +kernel)⟩
theorem ln_X4_isFull_40 : gx_L wsX4_isFull RX4 40 3 10 := ⟨_, _, _, rfl, by decide +kernel, by decide, Or.inr (by decide +kernel)⟩
def wd_X4_isFull (cI cZ : ClassId) (h_t h_t_rules h_t_heads h_t_tails h_t_lengths h_t_nextInChain h_t_chainOf : Nat) (V_t V_t_rules : Nat → Int32) : va_W := [gx_o h_t 4 [some (some h_t_rules), some (some h_t_heads), some (some h_t_tails), some (some h_t_lengths), some (some h_t_nextInChain), some (some h_t_chainOf), none] V_t, gx_o h_t_rules 3 [none, none, none, none, none, none, none, none, none, none, none, none] V_t_rules]
set_option maxHeartbeats 4000000 in
set_option maxRecDepth 100000 in
theorem ct_X4_isFull (l : Launch) (D : va_G) (cI cZ : ClassId) (h_t h_t_rules h_t_heads h_t_tails h_t_lengths h_t_nextInChain h_t_chainOf : Nat) (V_t V_t_rules : Nat → Int32) {z : Int32} (hf : fn_X4_isFull V_t V_t_rules = some z) : gx_Mi l yX4_isFull wsX4_isFull (gx_rm 0) D cI cZ [.ref h_t] (wd_X4_isFull cI cZ h_t h_t_rules h_t_heads h_t_tails h_t_lengths h_t_nextInChain h_t_chainOf V_t V_t_rules) (wd_X4_isFull cI cZ h_t h_t_rules h_t_heads h_t_tails h_t_lengths h_t_nextInChain h_t_chainOf V_t V_t_rules) z := by
  refine gx_ofi (cc := cX4_isFull) (own := RX4) (by decide) rfl rfl (Nat.le_of_ble_eq_true rfl) [(0, .ref h_t)] rfl ?_
  intro p e s m args below meth c A Q ls C hQ hl hw
  have hx := C.1.1
  have hb := C.1.2.1
  rw [fn_X4_isFull] at hf
  refine lv_aload_n hx hb dX4_isFull_0 rfl (lv_at hl 0 rfl) ?_
  refine gx_get C hw 0 rfl (gx_gr rfl) ln_X4_isFull_9 dX4_isFull_1 ?_
  refine gx_get (v := .int (V_t_rules 9)) C hw 1 rfl (gx_gj rfl rfl) ln_X4_isFull_35 dX4_isFull_4 ?_
  refine lv_aload_n hx hb dX4_isFull_7 rfl (lv_at hl 0 rfl) ?_
  refine gx_get (v := .int (V_t 6)) C hw 0 rfl (gx_gj rfl rfl) ln_X4_isFull_31 dX4_isFull_8 ?_
  refine lv_iadd hx hb dX4_isFull_11 ?_
  refine lv_aload_n hx hb dX4_isFull_12 rfl (lv_at hl 0 rfl) ?_
  refine gx_get C hw 0 rfl (gx_gr rfl) ln_X4_isFull_9 dX4_isFull_13 ?_
  refine gx_get (v := .int (V_t_rules 10)) C hw 1 rfl (gx_gj rfl rfl) ln_X4_isFull_40 dX4_isFull_16 ?_
  refine lv_icmp_lt (tgt := 26) hx hb dX4_isFull_19 (by decide) (fun hc => ?_) (fun hc => ?_)
  · replace hf := gx_t hc hf
    refine lv_iconst (v := 0) hx hb dX4_isFull_26 (by decide) ?_
    obtain rfl := Option.some.inj hf
    exact hQ _ _ _ _ dX4_isFull_27 (gx_nb (Or.inl rfl)) hw
  · replace hf := gx_f hc hf
    refine lv_iconst (v := 1) hx hb dX4_isFull_22 (by decide) ?_
    refine lv_goto (tgt := 27) hx hb dX4_isFull_23 (by decide) ?_
    obtain rfl := Option.some.inj hf
    exact hQ _ _ _ _ dX4_isFull_27 (gx_nb (Or.inr rfl)) hw
-- LzwForms$Table.lengthOf: touched ['t', 't_rules', 't_lengths']; used ['t', 't_rules', 't_lengths']; mod []; height 1
theorem ln_X4_lengthOf_9 : gx_L wsX4_lengthOf RX4 9 4 0 := ⟨_, _, _, rfl, by decide +kernel, by decide, Or.inl (by decide +kernel)⟩
theorem ln_X4_lengthOf_22 : gx_L wsX4_lengthOf RX4 22 4 3 := ⟨_, _, _, rfl, by decide +kernel, by decide, Or.inl (by decide +kernel)⟩
theorem kl_X4_lengthOf_51 : gx_KV wsX4_lengthOf RX4 51 yX4_slotOf cX4_slotOf 3 (some .int) wsX4_slotOf (gx_rm 0) (gx_rm 1) 1 := ⟨gX4_lengthOf_X4_slotOf, ⟨_, rfl⟩, ⟨by decide, by decide, by decide +kernel⟩, ⟨by decide, by decide⟩⟩
theorem kl_X4_lengthOf_54 : gx_KV wsX4_lengthOf RX4 54 yX3_isSymbol cX3_isSymbol 2 (some .boolean) wsX3_isSymbol (gx_rm 0) (gx_rm 1) 1 := ⟨gX4_lengthOf_X3_isSymbol, ⟨_, rfl⟩, ⟨by decide, by decide, by decide +kernel⟩, ⟨by decide, by decide⟩⟩
def wd_X4_lengthOf (cI cZ : ClassId) (h_t h_t_rules h_t_heads h_t_tails h_t_lengths h_t_nextInChain h_t_chainOf : Nat) (V_t V_t_rules V_t_lengths : Nat → Int32) : va_W := [gx_o h_t 4 [some (some h_t_rules), some (some h_t_heads), some (some h_t_tails), some (some h_t_lengths), some (some h_t_nextInChain), some (some h_t_chainOf), none] V_t, gx_o h_t_rules 3 [none, none, none, none, none, none, none, none, none, none, none, none] V_t_rules, gx_a h_t_lengths cI 300 V_t_lengths]
set_option maxHeartbeats 4000000 in
set_option maxRecDepth 100000 in
theorem ct_X4_lengthOf (l : Launch) (D : va_G) (cI cZ : ClassId) (h_t h_t_rules h_t_heads h_t_tails h_t_lengths h_t_nextInChain h_t_chainOf : Nat) (V_t V_t_rules V_t_lengths : Nat → Int32) (a1 : Int32) {z : Int32} (hf : fn_X4_lengthOf V_t V_t_rules V_t_lengths a1 = some z) : gx_Mi l yX4_lengthOf wsX4_lengthOf (gx_rm 1) D cI cZ [.ref h_t, .int a1] (wd_X4_lengthOf cI cZ h_t h_t_rules h_t_heads h_t_tails h_t_lengths h_t_nextInChain h_t_chainOf V_t V_t_rules V_t_lengths) (wd_X4_lengthOf cI cZ h_t h_t_rules h_t_heads h_t_tails h_t_lengths h_t_nextInChain h_t_chainOf V_t V_t_rules V_t_lengths) z := by
  refine gx_ofi (cc := cX4_lengthOf) (own := RX4) (by decide) rfl rfl (Nat.le_of_ble_eq_true rfl) [(0, .ref h_t), (1, .int a1)] rfl ?_
  intro p e s m args below meth c A Q ls C hQ hl hw
  have hx := C.1.1
  have hb := C.1.2.1
  rw [fn_X4_lengthOf] at hf
  refine lv_aload_n hx hb dX4_lengthOf_0 rfl (lv_at hl 0 rfl) ?_
  refine gx_get C hw 0 rfl (gx_gr rfl) ln_X4_lengthOf_9 dX4_lengthOf_1 ?_
  refine lv_iload_n hx hb dX4_lengthOf_4 rfl (lv_at hl 1 rfl) ?_
  obtain ⟨y_5, hy_5, hf⟩ := gx_b hf
  refine gx_calli (As := [.int a1]) (ws' := wd_X4_lengthOf cI cZ h_t h_t_rules h_t_heads h_t_tails h_t_lengths h_t_nextInChain h_t_chainOf V_t V_t_rules V_t_lengths) (isC := [1]) (isR := [0, 2]) (isP := [0, 2, 1]) C hw (ct_X3_isSymbol l D cI cZ h_t_rules V_t_rules a1 hy_5) kl_X4_lengthOf_54 ⟨rfl, rfl⟩ ⟨rfl, rfl, by decide, by decide, by decide, by decide, rfl⟩ 0 rfl rfl rfl rfl hl.1 (Nat.le_of_ble_eq_true rfl) ⟨Nat.le_refl _, Nat.le_refl _⟩ dX4_lengthOf_5 (fun H locs hw => ?_)
  refine lv_if_eq (tgt := 13) hx hb dX4_lengthOf_8 (by decide) (fun hc => ?_) (fun hc => ?_)
  · replace hf := gx_t hc hf
    refine lv_aload_n hx hb dX4_lengthOf_13 rfl (lv_at hl 0 rfl) ?_
    refine lv_iload_n hx hb dX4_lengthOf_14 rfl (lv_at hl 1 rfl) ?_
    obtain ⟨y_15, hy_15, hf⟩ := gx_b hf
    refine gx_calli (As := [.int a1]) (ws' := wd_X4_lengthOf cI cZ h_t h_t_rules h_t_heads h_t_tails h_t_lengths h_t_nextInChain h_t_chainOf V_t V_t_rules V_t_lengths) (isC := [0, 1]) (isR := [2]) (isP := [1, 2, 0]) C hw (ct_X4_slotOf l D cI cZ h_t h_t_rules h_t_heads h_t_tails h_t_lengths h_t_nextInChain h_t_chainOf V_t V_t_rules a1 hy_15) kl_X4_lengthOf_51 ⟨rfl, rfl⟩ ⟨rfl, rfl, by decide, by decide, by decide, by decide, rfl⟩ 0 rfl rfl rfl rfl hl.1 (Nat.le_of_ble_eq_true rfl) ⟨Nat.le_refl _, Nat.le_refl _⟩ dX4_lengthOf_15 (fun H locs hw => ?_)
    refine lv_istore_n (lv' := [(2, .int y_15), (0, .ref h_t), (1, .int a1)]) hx hb dX4_lengthOf_18 rfl hl (by decide) rfl (fun ls hl => ?_)
    refine lv_iload_n hx hb dX4_lengthOf_19 rfl (lv_at hl 0 rfl) ?_
    refine lv_iconst (v := (-1)) hx hb dX4_lengthOf_20 (by decide) ?_
    refine lv_icmp_ne (tgt := 28) hx hb dX4_lengthOf_21 (by decide) (fun hc => ?_) (fun hc => ?_)
    · replace hf := gx_f hc hf
      refine lv_aload_n hx hb dX4_lengthOf_28 rfl (lv_at hl 1 rfl) ?_
      refine gx_get C hw 0 rfl (gx_gr rfl) ln_X4_lengthOf_22 dX4_lengthOf_29 ?_
      refine lv_iload_n hx hb dX4_lengthOf_32 rfl (lv_at hl 0 rfl) ?_
      obtain ⟨hi_33, hf⟩ := gx_g hf
      refine gx_iald C hw 2 rfl hi_33 dX4_lengthOf_33 ?_
      obtain rfl := Option.some.inj hf
      exact hQ _ _ _ _ dX4_lengthOf_34 rfl hw
    · replace hf := gx_t hc hf
      refine lv_iconst (v := (-1)) hx hb dX4_lengthOf_24 (by decide) ?_
      refine lv_goto (tgt := 34) hx hb dX4_lengthOf_25 (by decide) ?_
      obtain rfl := Option.some.inj hf
      exact hQ _ _ _ _ dX4_lengthOf_34 rfl hw
  · replace hf := gx_f hc hf
    refine lv_iconst (v := 1) hx hb dX4_lengthOf_11 (by decide) ?_
    obtain rfl := Option.some.inj hf
    exact hQ _ _ _ _ dX4_lengthOf_12 rfl hw
-- LzwForms$Table.tailOf: touched ['t', 't_rules', 't_tails']; used ['t', 't_rules', 't_tails']; mod []; height 1
theorem ln_X4_tailOf_9 : gx_L wsX4_tailOf RX4 9 4 0 := ⟨_, _, _, rfl, by decide +kernel, by decide, Or.inl (by decide +kernel)⟩
theorem ln_X4_tailOf_19 : gx_L wsX4_tailOf RX4 19 4 2 := ⟨_, _, _, rfl, by decide +kernel, by decide, Or.inl (by decide +kernel)⟩
theorem kl_X4_tailOf_51 : gx_KV wsX4_tailOf RX4 51 yX4_slotOf cX4_slotOf 3 (some .int) wsX4_slotOf (gx_rm 0) (gx_rm 1) 1 := ⟨gX4_tailOf_X4_slotOf, ⟨_, rfl⟩, ⟨by decide, by decide, by decide +kernel⟩, ⟨by decide, by decide⟩⟩
theorem kl_X4_tailOf_54 : gx_KV wsX4_tailOf RX4 54 yX3_isSymbol cX3_isSymbol 2 (some .boolean) wsX3_isSymbol (gx_rm 0) (gx_rm 1) 1 := ⟨gX4_tailOf_X3_isSymbol, ⟨_, rfl⟩, ⟨by decide, by decide, by decide +kernel⟩, ⟨by decide, by decide⟩⟩
def wd_X4_tailOf (cI cZ : ClassId) (h_t h_t_rules h_t_heads h_t_tails h_t_lengths h_t_nextInChain h_t_chainOf : Nat) (V_t V_t_rules V_t_tails : Nat → Int32) : va_W := [gx_o h_t 4 [some (some h_t_rules), some (some h_t_heads), some (some h_t_tails), some (some h_t_lengths), some (some h_t_nextInChain), some (some h_t_chainOf), none] V_t, gx_o h_t_rules 3 [none, none, none, none, none, none, none, none, none, none, none, none] V_t_rules, gx_a h_t_tails cI 300 V_t_tails]
set_option maxHeartbeats 4000000 in
set_option maxRecDepth 100000 in
theorem ct_X4_tailOf (l : Launch) (D : va_G) (cI cZ : ClassId) (h_t h_t_rules h_t_heads h_t_tails h_t_lengths h_t_nextInChain h_t_chainOf : Nat) (V_t V_t_rules V_t_tails : Nat → Int32) (a1 : Int32) {z : Int32} (hf : fn_X4_tailOf V_t V_t_rules V_t_tails a1 = some z) : gx_Mi l yX4_tailOf wsX4_tailOf (gx_rm 1) D cI cZ [.ref h_t, .int a1] (wd_X4_tailOf cI cZ h_t h_t_rules h_t_heads h_t_tails h_t_lengths h_t_nextInChain h_t_chainOf V_t V_t_rules V_t_tails) (wd_X4_tailOf cI cZ h_t h_t_rules h_t_heads h_t_tails h_t_lengths h_t_nextInChain h_t_chainOf V_t V_t_rules V_t_tails) z := by
  refine gx_ofi (cc := cX4_tailOf) (own := RX4) (by decide) rfl rfl (Nat.le_of_ble_eq_true rfl) [(0, .ref h_t), (1, .int a1)] rfl ?_
  intro p e s m args below meth c A Q ls C hQ hl hw
  have hx := C.1.1
  have hb := C.1.2.1
  rw [fn_X4_tailOf] at hf
  refine lv_aload_n hx hb dX4_tailOf_0 rfl (lv_at hl 0 rfl) ?_
  refine gx_get C hw 0 rfl (gx_gr rfl) ln_X4_tailOf_9 dX4_tailOf_1 ?_
  refine lv_iload_n hx hb dX4_tailOf_4 rfl (lv_at hl 1 rfl) ?_
  obtain ⟨y_5, hy_5, hf⟩ := gx_b hf
  refine gx_calli (As := [.int a1]) (ws' := wd_X4_tailOf cI cZ h_t h_t_rules h_t_heads h_t_tails h_t_lengths h_t_nextInChain h_t_chainOf V_t V_t_rules V_t_tails) (isC := [1]) (isR := [0, 2]) (isP := [0, 2, 1]) C hw (ct_X3_isSymbol l D cI cZ h_t_rules V_t_rules a1 hy_5) kl_X4_tailOf_54 ⟨rfl, rfl⟩ ⟨rfl, rfl, by decide, by decide, by decide, by decide, rfl⟩ 0 rfl rfl rfl rfl hl.1 (Nat.le_of_ble_eq_true rfl) ⟨Nat.le_refl _, Nat.le_refl _⟩ dX4_tailOf_5 (fun H locs hw => ?_)
  refine lv_if_eq (tgt := 13) hx hb dX4_tailOf_8 (by decide) (fun hc => ?_) (fun hc => ?_)
  · replace hf := gx_t hc hf
    refine lv_aload_n hx hb dX4_tailOf_13 rfl (lv_at hl 0 rfl) ?_
    refine lv_iload_n hx hb dX4_tailOf_14 rfl (lv_at hl 1 rfl) ?_
    obtain ⟨y_15, hy_15, hf⟩ := gx_b hf
    refine gx_calli (As := [.int a1]) (ws' := wd_X4_tailOf cI cZ h_t h_t_rules h_t_heads h_t_tails h_t_lengths h_t_nextInChain h_t_chainOf V_t V_t_rules V_t_tails) (isC := [0, 1]) (isR := [2]) (isP := [1, 2, 0]) C hw (ct_X4_slotOf l D cI cZ h_t h_t_rules h_t_heads h_t_tails h_t_lengths h_t_nextInChain h_t_chainOf V_t V_t_rules a1 hy_15) kl_X4_tailOf_51 ⟨rfl, rfl⟩ ⟨rfl, rfl, by decide, by decide, by decide, by decide, rfl⟩ 0 rfl rfl rfl rfl hl.1 (Nat.le_of_ble_eq_true rfl) ⟨Nat.le_refl _, Nat.le_refl _⟩ dX4_tailOf_15 (fun H locs hw => ?_)
    refine lv_istore_n (lv' := [(2, .int y_15), (0, .ref h_t), (1, .int a1)]) hx hb dX4_tailOf_18 rfl hl (by decide) rfl (fun ls hl => ?_)
    refine lv_iload_n hx hb dX4_tailOf_19 rfl (lv_at hl 0 rfl) ?_
    refine lv_iconst (v := (-1)) hx hb dX4_tailOf_20 (by decide) ?_
    refine lv_icmp_ne (tgt := 28) hx hb dX4_tailOf_21 (by decide) (fun hc => ?_) (fun hc => ?_)
    · replace hf := gx_f hc hf
      refine lv_aload_n hx hb dX4_tailOf_28 rfl (lv_at hl 1 rfl) ?_
      refine gx_get C hw 0 rfl (gx_gr rfl) ln_X4_tailOf_19 dX4_tailOf_29 ?_
      refine lv_iload_n hx hb dX4_tailOf_32 rfl (lv_at hl 0 rfl) ?_
      obtain ⟨hi_33, hf⟩ := gx_g hf
      refine gx_iald C hw 2 rfl hi_33 dX4_tailOf_33 ?_
      obtain rfl := Option.some.inj hf
      exact hQ _ _ _ _ dX4_tailOf_34 rfl hw
    · replace hf := gx_t hc hf
      refine lv_iconst (v := (-1)) hx hb dX4_tailOf_24 (by decide) ?_
      refine lv_goto (tgt := 34) hx hb dX4_tailOf_25 (by decide) ?_
      obtain rfl := Option.some.inj hf
      exact hQ _ _ _ _ dX4_tailOf_34 rfl hw
  · replace hf := gx_f hc hf
    refine lv_iload_n hx hb dX4_tailOf_11 rfl (lv_at hl 1 rfl) ?_
    obtain rfl := Option.some.inj hf
    exact hQ _ _ _ _ dX4_tailOf_12 rfl hw
-- LzwForms$Table.headOf: touched ['t', 't_rules', 't_heads']; used ['t', 't_rules', 't_heads']; mod []; height 1
theorem ln_X4_headOf_15 : gx_L wsX4_headOf RX4 15 4 1 := ⟨_, _, _, rfl, by decide +kernel, by decide, Or.inl (by decide +kernel)⟩
theorem kl_X4_headOf_51 : gx_KV wsX4_headOf RX4 51 yX4_slotOf cX4_slotOf 3 (some .int) wsX4_slotOf (gx_rm 0) (gx_rm 1) 1 := ⟨gX4_headOf_X4_slotOf, ⟨_, rfl⟩, ⟨by decide, by decide, by decide +kernel⟩, ⟨by decide, by decide⟩⟩
def wd_X4_headOf (cI cZ : ClassId) (h_t h_t_rules h_t_heads h_t_tails h_t_lengths h_t_nextInChain h_t_chainOf : Nat) (V_t V_t_rules V_t_heads : Nat → Int32) : va_W := [gx_o h_t 4 [some (some h_t_rules), some (some h_t_heads), some (some h_t_tails), some (some h_t_lengths), some (some h_t_nextInChain), some (some h_t_chainOf), none] V_t, gx_o h_t_rules 3 [none, none, none, none, none, none, none, none, none, none, none, none] V_t_rules, gx_a h_t_heads cI 300 V_t_heads]
set_option maxHeartbeats 4000000 in
set_option maxRecDepth 100000 in
theorem ct_X4_headOf (l : Launch) (D : va_G) (cI cZ : ClassId) (h_t h_t_rules h_t_heads h_t_tails h_t_lengths h_t_nextInChain h_t_chainOf : Nat) (V_t V_t_rules V_t_heads : Nat → Int32) (a1 : Int32) {z : Int32} (hf : fn_X4_headOf V_t V_t_rules V_t_heads a1 = some z) : gx_Mi l yX4_headOf wsX4_headOf (gx_rm 1) D cI cZ [.ref h_t, .int a1] (wd_X4_headOf cI cZ h_t h_t_rules h_t_heads h_t_tails h_t_lengths h_t_nextInChain h_t_chainOf V_t V_t_rules V_t_heads) (wd_X4_headOf cI cZ h_t h_t_rules h_t_heads h_t_tails h_t_lengths h_t_nextInChain h_t_chainOf V_t V_t_rules V_t_heads) z := by
  refine gx_ofi (cc := cX4_headOf) (own := RX4) (by decide) rfl rfl (Nat.le_of_ble_eq_true rfl) [(0, .ref h_t), (1, .int a1)] rfl ?_
  intro p e s m args below meth c A Q ls C hQ hl hw
  have hx := C.1.1
  have hb := C.1.2.1
  rw [fn_X4_headOf] at hf
  refine lv_aload_n hx hb dX4_headOf_0 rfl (lv_at hl 0 rfl) ?_
  refine lv_iload_n hx hb dX4_headOf_1 rfl (lv_at hl 1 rfl) ?_
  obtain ⟨y_2, hy_2, hf⟩ := gx_b hf
  refine gx_calli (As := [.int a1]) (ws' := wd_X4_headOf cI cZ h_t h_t_rules h_t_heads h_t_tails h_t_lengths h_t_nextInChain h_t_chainOf V_t V_t_rules V_t_heads) (isC := [0, 1]) (isR := [2]) (isP := [1, 2, 0]) C hw (ct_X4_slotOf l D cI cZ h_t h_t_rules h_t_heads h_t_tails h_t_lengths h_t_nextInChain h_t_chainOf V_t V_t_rules a1 hy_2) kl_X4_headOf_51 ⟨rfl, rfl⟩ ⟨rfl, rfl, by decide, by decide, by decide, by decide, rfl⟩ 0 rfl rfl rfl rfl hl.1 (Nat.le_of_ble_eq_true rfl) ⟨Nat.le_refl _, Nat.le_refl _⟩ dX4_headOf_2 (fun H locs hw => ?_)
  refine lv_istore_n (lv' := [(2, .int y_2), (0, .ref h_t), (1, .int a1)]) hx hb dX4_headOf_5 rfl hl (by decide) rfl (fun ls hl => ?_)
  refine lv_iload_n hx hb dX4_headOf_6 rfl (lv_at hl 0 rfl) ?_
  refine lv_iconst (v := (-1)) hx hb dX4_headOf_7 (by decide) ?_
  refine lv_icmp_ne (tgt := 15) hx hb dX4_headOf_8 (by decide) (fun hc => ?_) (fun hc => ?_)
  · replace hf := gx_f hc hf
    refine lv_aload_n hx hb dX4_headOf_15 rfl (lv_at hl 1 rfl) ?_
    refine gx_get C hw 0 rfl (gx_gr rfl) ln_X4_headOf_15 dX4_headOf_16 ?_
    refine lv_iload_n hx hb dX4_headOf_19 rfl (lv_at hl 0 rfl) ?_
    obtain ⟨hi_20, hf⟩ := gx_g hf
    refine gx_iald C hw 2 rfl hi_20 dX4_headOf_20 ?_
    obtain rfl := Option.some.inj hf
    exact hQ _ _ _ _ dX4_headOf_21 rfl hw
  · replace hf := gx_t hc hf
    refine lv_iconst (v := (-1)) hx hb dX4_headOf_11 (by decide) ?_
    refine lv_goto (tgt := 21) hx hb dX4_headOf_12 (by decide) ?_
    obtain rfl := Option.some.inj hf
    exact hQ _ _ _ _ dX4_headOf_21 rfl hw
-- LzwForms$Table.longer: touched ['t', 't_rules', 't_tails', 't_nextInChain', 't_chainOf']; used ['t', 't_rules', 't_tails', 't_nextInChain', 't_chainOf']; mod []; height 0
theorem ln_X4_longer_9 : gx_L wsX4_longer RX4 9 4 0 := ⟨_, _, _, rfl, by decide +kernel, by decide, Or.inl (by decide +kernel)⟩
theorem ln_X4_longer_19 : gx_L wsX4_longer RX4 19 4 2 := ⟨_, _, _, rfl, by decide +kernel, by decide, Or.inl (by decide +kernel)⟩
theorem ln_X4_longer_25 : gx_L wsX4_longer RX4 25 4 4 := ⟨_, _, _, rfl, by decide +kernel, by decide, Or.inl (by decide +kernel)⟩
theorem ln_X4_longer_28 : gx_L wsX4_longer RX4 28 4 5 := ⟨_, _, _, rfl, by decide +kernel, by decide, Or.inl (by decide +kernel)⟩
theorem ln_X4_longer_31 : gx_L wsX4_longer RX4 31 4 6 := ⟨_, _, _, rfl, by decide +kernel, by decide, Or.inl (by decide +kernel)⟩
theorem ln_X4_longer_35 : gx_L wsX4_longer RX4 35 3 9 := ⟨_, _, _, rfl, by decide +kernel, by decide, Or.inr (by decide +kernel)⟩
def wd_X4_longer (cI cZ : ClassId) (h_t h_t_rules h_t_heads h_t_tails h_t_lengths h_t_nextInChain h_t_chainOf : Nat) (V_t V_t_rules V_t_tails V_t_nextInChain V_t_chainOf : Nat → Int32) : va_W := [gx_o h_t 4 [some (some h_t_rules), some (some h_t_heads), some (some h_t_tails), some (some h_t_lengths), some (some h_t_nextInChain), some (some h_t_chainOf), none] V_t, gx_o h_t_rules 3 [none, none, none, none, none, none, none, none, none, none, none, none] V_t_rules, gx_a h_t_tails cI 300 V_t_tails, gx_a h_t_nextInChain cI 300 V_t_nextInChain, gx_a h_t_chainOf cI 558 V_t_chainOf]
set_option maxHeartbeats 4000000 in
set_option maxRecDepth 100000 in
theorem tm_X4_longer_25 (C : gx_C cX4_longer 5 wsX4_longer RX4 D cI cZ p s m args c) (h_t h_t_rules h_t_heads h_t_tails h_t_lengths h_t_nextInChain h_t_chainOf : Nat) (V_t V_t_rules V_t_tails V_t_nextInChain V_t_chainOf : Nat → Int32) {z : Int32} (hQ : gx_Qi cX4_longer .int p l e (gx_rm 0) s m args below meth c D A Q (wd_X4_longer cI cZ h_t h_t_rules h_t_heads h_t_tails h_t_lengths h_t_nextInChain h_t_chainOf V_t V_t_rules V_t_tails V_t_nextInChain V_t_chainOf) z) : ∀ (n : Nat), (∀ (x2 x3 x4 : Int32) (ls : Array Slot) (H : Heap) (locs : List Loc), lv_has ls 5 [(0, .ref h_t), (2, .int x2), (3, .int x3), (4, .int x4)] → gx_W D A s (wd_X4_longer cI cZ h_t h_t_rules h_t_heads h_t_tails h_t_lengths h_t_nextInChain h_t_chainOf V_t V_t_rules V_t_tails V_t_nextInChain V_t_chainOf) H locs → fn_X4_longer_l25 V_t V_t_rules V_t_tails V_t_nextInChain V_t_chainOf n x2 x3 x4 = some z → W p l e (gx_rm 0) s m args below meth c H locs 0 0 Q (F0 m 25 ls [])) := by
  have hx := C.1.1
  have hb := C.1.2.1
  intro n
  induction n with
  | zero => intro x2 x3 x4 ls H locs hl hw hf; rw [fn_X4_longer_l25] at hf; cases hf
  | succ n ih =>
    intro x2 x3 x4 ls H locs hl hw hf
    rw [fn_X4_longer_l25] at hf
    refine lv_iload hx hb dX4_longer_25 (lv_at hl 3 rfl) ?_
    refine lv_aload_n hx hb dX4_longer_27 rfl (lv_at hl 0 rfl) ?_
    refine gx_get (v := .int (V_t 6)) C hw 0 rfl (gx_gj rfl rfl) ln_X4_longer_31 dX4_longer_28 ?_
    refine lv_icmp_ge (tgt := 80) hx hb dX4_longer_31 (by decide) (fun hc => ?_) (fun hc => ?_)
    · replace hf := gx_t hc hf
      refine lv_iconst (v := (-1)) hx hb dX4_longer_80 (by decide) ?_
      obtain rfl := Option.some.inj hf
      exact hQ _ _ _ _ dX4_longer_81 rfl hw
    · replace hf := gx_f hc hf
      refine lv_iload_n hx hb dX4_longer_34 rfl (lv_at hl 2 rfl) ?_
      refine lv_if_lt (tgt := 80) hx hb dX4_longer_35 (by decide) (fun hc => ?_) (fun hc => ?_)
      · replace hf := gx_t hc hf
        refine lv_iconst (v := (-1)) hx hb dX4_longer_80 (by decide) ?_
        obtain rfl := Option.some.inj hf
        exact hQ _ _ _ _ dX4_longer_81 rfl hw
      · replace hf := gx_f hc hf
        refine lv_iload_n hx hb dX4_longer_38 rfl (lv_at hl 2 rfl) ?_
        refine lv_aload_n hx hb dX4_longer_39 rfl (lv_at hl 0 rfl) ?_
        refine gx_get C hw 0 rfl (gx_gr rfl) ln_X4_longer_19 dX4_longer_40 ?_
        refine gx_alen C hw 2 rfl dX4_longer_43 ?_
        refine lv_icmp_ge (tgt := 80) hx hb dX4_longer_44 (by decide) (fun hc => ?_) (fun hc => ?_)
        · replace hf := gx_t hc hf
          refine lv_iconst (v := (-1)) hx hb dX4_longer_80 (by decide) ?_
          obtain rfl := Option.some.inj hf
          exact hQ _ _ _ _ dX4_longer_81 rfl hw
        · replace hf := gx_f hc hf
          refine lv_aload_n hx hb dX4_longer_47 rfl (lv_at hl 0 rfl) ?_
          refine gx_get C hw 0 rfl (gx_gr rfl) ln_X4_longer_19 dX4_longer_48 ?_
          refine lv_iload_n hx hb dX4_longer_51 rfl (lv_at hl 2 rfl) ?_
          obtain ⟨hi_52, hf⟩ := gx_g hf
          refine gx_iald C hw 2 rfl hi_52 dX4_longer_52 ?_
          refine lv_iload_n hx hb dX4_longer_53 rfl (lv_at hl 1 rfl) ?_
          refine lv_icmp_ne (tgt := 67) hx hb dX4_longer_54 (by decide) (fun hc => ?_) (fun hc => ?_)
          · replace hf := gx_f hc hf
            refine lv_aload_n hx hb dX4_longer_67 rfl (lv_at hl 0 rfl) ?_
            refine gx_get C hw 0 rfl (gx_gr rfl) ln_X4_longer_25 dX4_longer_68 ?_
            refine lv_iload_n hx hb dX4_longer_71 rfl (lv_at hl 2 rfl) ?_
            obtain ⟨hi_72, hf⟩ := gx_g hf
            refine gx_iald C hw 3 rfl hi_72 dX4_longer_72 ?_
            refine lv_istore_n (lv' := [(3, .int (V_t_nextInChain x3.toNatClampNeg)), (0, .ref h_t), (2, .int x2), (4, .int x4)]) hx hb dX4_longer_73 rfl hl (by decide) rfl (fun ls hl => ?_)
            refine lv_iinc (v := (x4 + 1)) (lv' := [(4, .int (x4 + 1)), (3, .int (V_t_nextInChain x3.toNatClampNeg)), (0, .ref h_t), (2, .int x2)]) hx hb dX4_longer_74 hl (k := 3) rfl rfl (by decide) rfl (fun ls hl => ?_)
            refine lv_goto (tgt := 25) hx hb dX4_longer_77 (by decide) ?_
            exact ih x2 (V_t_nextInChain x3.toNatClampNeg) (x4 + 1) _ _ _ (lv_sub hl [2, 3, 1, 0] rfl) hw hf
          · replace hf := gx_t hc hf
            refine lv_aload_n hx hb dX4_longer_57 rfl (lv_at hl 0 rfl) ?_
            refine gx_get C hw 0 rfl (gx_gr rfl) ln_X4_longer_9 dX4_longer_58 ?_
            refine gx_get (v := .int (V_t_rules 9)) C hw 1 rfl (gx_gj rfl rfl) ln_X4_longer_35 dX4_longer_61 ?_
            refine lv_iload_n hx hb dX4_longer_64 rfl (lv_at hl 2 rfl) ?_
            refine lv_iadd hx hb dX4_longer_65 ?_
            obtain rfl := Option.some.inj hf
            exact hQ _ _ _ _ dX4_longer_66 rfl hw
set_option maxHeartbeats 4000000 in
set_option maxRecDepth 100000 in
theorem ct_X4_longer (l : Launch) (D : va_G) (cI cZ : ClassId) (h_t h_t_rules h_t_heads h_t_tails h_t_lengths h_t_nextInChain h_t_chainOf : Nat) (V_t V_t_rules V_t_tails V_t_nextInChain V_t_chainOf : Nat → Int32) (a1 a2 : Int32) {z : Int32} (hf : fn_X4_longer V_t V_t_rules V_t_tails V_t_nextInChain V_t_chainOf a1 a2 = some z) : gx_Mi l yX4_longer wsX4_longer (gx_rm 0) D cI cZ [.ref h_t, .int a1, .int a2] (wd_X4_longer cI cZ h_t h_t_rules h_t_heads h_t_tails h_t_lengths h_t_nextInChain h_t_chainOf V_t V_t_rules V_t_tails V_t_nextInChain V_t_chainOf) (wd_X4_longer cI cZ h_t h_t_rules h_t_heads h_t_tails h_t_lengths h_t_nextInChain h_t_chainOf V_t V_t_rules V_t_tails V_t_nextInChain V_t_chainOf) z := by
  refine gx_ofi (cc := cX4_longer) (own := RX4) (by decide) rfl rfl (Nat.le_of_ble_eq_true rfl) [(0, .ref h_t), (1, .int a1), (2, .int a2)] rfl ?_
  intro p e s m args below meth c A Q ls C hQ hl hw
  have hx := C.1.1
  have hb := C.1.2.1
  rw [fn_X4_longer] at hf
  refine lv_iload_n hx hb dX4_longer_0 rfl (lv_at hl 1 rfl) ?_
  refine lv_if_lt (tgt := 13) hx hb dX4_longer_1 (by decide) (fun hc => ?_) (fun hc => ?_)
  · replace hf := gx_t hc hf
    refine lv_iconst (v := (-1)) hx hb dX4_longer_13 (by decide) ?_
    obtain rfl := Option.some.inj hf
    exact hQ _ _ _ _ dX4_longer_14 rfl hw
  · replace hf := gx_f hc hf
    refine lv_iload_n hx hb dX4_longer_4 rfl (lv_at hl 1 rfl) ?_
    refine lv_aload_n hx hb dX4_longer_5 rfl (lv_at hl 0 rfl) ?_
    refine gx_get C hw 0 rfl (gx_gr rfl) ln_X4_longer_28 dX4_longer_6 ?_
    refine gx_alen C hw 4 rfl dX4_longer_9 ?_
    refine lv_icmp_lt (tgt := 15) hx hb dX4_longer_10 (by decide) (fun hc => ?_) (fun hc => ?_)
    · replace hf := gx_t hc hf
      refine lv_aload_n hx hb dX4_longer_15 rfl (lv_at hl 0 rfl) ?_
      refine gx_get C hw 0 rfl (gx_gr rfl) ln_X4_longer_28 dX4_longer_16 ?_
      refine lv_iload_n hx hb dX4_longer_19 rfl (lv_at hl 1 rfl) ?_
      obtain ⟨hi_20, hf⟩ := gx_g hf
      refine gx_iald C hw 4 rfl hi_20 dX4_longer_20 ?_
      refine lv_istore_n (lv' := [(3, .int (V_t_chainOf a1.toNatClampNeg)), (0, .ref h_t), (1, .int a1), (2, .int a2)]) hx hb dX4_longer_21 rfl hl (by decide) rfl (fun ls hl => ?_)
      refine lv_iconst (v := 0) hx hb dX4_longer_22 (by decide) ?_
      refine lv_istore (lv' := [(4, .int 0), (3, .int (V_t_chainOf a1.toNatClampNeg)), (0, .ref h_t), (1, .int a1), (2, .int a2)]) hx hb dX4_longer_23 hl (by decide) rfl (fun ls hl => ?_)
      exact tm_X4_longer_25 C h_t h_t_rules h_t_heads h_t_tails h_t_lengths h_t_nextInChain h_t_chainOf V_t V_t_rules V_t_tails V_t_nextInChain V_t_chainOf hQ  gx_fuel a2 (V_t_chainOf a1.toNatClampNeg) 0 _ _ _ (lv_sub hl [2, 4, 1, 0] rfl) hw hf
    · replace hf := gx_f hc hf
      refine lv_iconst (v := (-1)) hx hb dX4_longer_13 (by decide) ?_
      obtain rfl := Option.some.inj hf
      exact hQ _ _ _ _ dX4_longer_14 rfl hw
-- LzwForms$Table.addLonger: touched ['t', 't_rules', 't_heads', 't_tails', 't_lengths', 't_nextInChain', 't_chainOf']; used ['t', 't_rules', 't_heads', 't_tails', 't_lengths', 't_nextInChain', 't_chainOf']; mod ['t', 't_heads', 't_tails', 't_lengths', 't_nextInChain', 't_chainOf']; height 2
theorem ln_X4_addLonger_15 : gx_L wsX4_addLonger RX4 15 4 1 := ⟨_, _, _, rfl, by decide +kernel, by decide, Or.inl (by decide +kernel)⟩
theorem ln_X4_addLonger_19 : gx_L wsX4_addLonger RX4 19 4 2 := ⟨_, _, _, rfl, by decide +kernel, by decide, Or.inl (by decide +kernel)⟩
theorem ln_X4_addLonger_22 : gx_L wsX4_addLonger RX4 22 4 3 := ⟨_, _, _, rfl, by decide +kernel, by decide, Or.inl (by decide +kernel)⟩
theorem ln_X4_addLonger_25 : gx_L wsX4_addLonger RX4 25 4 4 := ⟨_, _, _, rfl, by decide +kernel, by decide, Or.inl (by decide +kernel)⟩
theorem ln_X4_addLonger_28 : gx_L wsX4_addLonger RX4 28 4 5 := ⟨_, _, _, rfl, by decide +kernel, by decide, Or.inl (by decide +kernel)⟩
theorem ln_X4_addLonger_31 : gx_L wsX4_addLonger RX4 31 4 6 := ⟨_, _, _, rfl, by decide +kernel, by decide, Or.inl (by decide +kernel)⟩
theorem lp_X4_addLonger_31 : gx_LP wsX4_addLonger RX4 31 4 6 false .int := ⟨_, _, _, tyX4, rfl, by decide +kernel, by decide, by decide +kernel, tyX4_ok, nmX4, by decide +kernel, by decide +kernel, by decide +kernel⟩
theorem kl_X4_addLonger_43 : gx_KV wsX4_addLonger RX4 43 yX4_lengthOf cX4_lengthOf 3 (some .int) wsX4_lengthOf (gx_rm 1) (gx_rm 2) 1 := ⟨gX4_addLonger_X4_lengthOf, ⟨_, rfl⟩, ⟨by decide, by decide, by decide +kernel⟩, ⟨by decide, by decide⟩⟩
theorem kl_X4_addLonger_47 : gx_KV wsX4_addLonger RX4 47 yX4_isFull cX4_isFull 1 (some .boolean) wsX4_isFull (gx_rm 0) (gx_rm 2) 0 := ⟨gX4_addLonger_X4_isFull, ⟨_, rfl⟩, ⟨by decide, by decide, by decide +kernel⟩, ⟨by decide, by decide⟩⟩
def wd_X4_addLonger (cI cZ : ClassId) (h_t h_t_rules h_t_heads h_t_tails h_t_lengths h_t_nextInChain h_t_chainOf : Nat) (V_t V_t_rules V_t_heads V_t_tails V_t_lengths V_t_nextInChain V_t_chainOf : Nat → Int32) : va_W := [gx_o h_t 4 [some (some h_t_rules), some (some h_t_heads), some (some h_t_tails), some (some h_t_lengths), some (some h_t_nextInChain), some (some h_t_chainOf), none] V_t, gx_o h_t_rules 3 [none, none, none, none, none, none, none, none, none, none, none, none] V_t_rules, gx_a h_t_heads cI 300 V_t_heads, gx_a h_t_tails cI 300 V_t_tails, gx_a h_t_lengths cI 300 V_t_lengths, gx_a h_t_nextInChain cI 300 V_t_nextInChain, gx_a h_t_chainOf cI 558 V_t_chainOf]
set_option maxHeartbeats 4000000 in
set_option maxRecDepth 100000 in
theorem ct_X4_addLonger (l : Launch) (D : va_G) (cI cZ : ClassId) (h_t h_t_rules h_t_heads h_t_tails h_t_lengths h_t_nextInChain h_t_chainOf : Nat) (V_t V_t_rules V_t_heads V_t_tails V_t_lengths V_t_nextInChain V_t_chainOf : Nat → Int32) (a1 a2 : Int32) {z : (Nat → Int32) × (Nat → Int32) × (Nat → Int32) × (Nat → Int32) × (Nat → Int32) × (Nat → Int32)} (hf : fn_X4_addLonger V_t V_t_rules V_t_heads V_t_tails V_t_lengths V_t_nextInChain V_t_chainOf a1 a2 = some z) : gx_Mv l yX4_addLonger wsX4_addLonger (gx_rm 2) D cI cZ [.ref h_t, .int a1, .int a2] (wd_X4_addLonger cI cZ h_t h_t_rules h_t_heads h_t_tails h_t_lengths h_t_nextInChain h_t_chainOf V_t V_t_rules V_t_heads V_t_tails V_t_lengths V_t_nextInChain V_t_chainOf) (wd_X4_addLonger cI cZ h_t h_t_rules h_t_heads h_t_tails h_t_lengths h_t_nextInChain h_t_chainOf z.1 V_t_rules z.2.1 z.2.2.1 z.2.2.2.1 z.2.2.2.2.1 z.2.2.2.2.2) := by
  refine gx_ofv (cc := cX4_addLonger) (own := RX4) (by decide) rfl rfl (Nat.le_of_ble_eq_true rfl) [(0, .ref h_t), (1, .int a1), (2, .int a2)] rfl ?_
  intro p e s m args below meth c A Q ls C hQ hl hw
  have hx := C.1.1
  have hb := C.1.2.1
  rw [fn_X4_addLonger] at hf
  refine lv_aload_n hx hb dX4_addLonger_0 rfl (lv_at hl 0 rfl) ?_
  refine lv_iload_n hx hb dX4_addLonger_1 rfl (lv_at hl 1 rfl) ?_
  obtain ⟨y_2, hy_2, hf⟩ := gx_b hf
  refine gx_calli (As := [.int a1]) (ws' := wd_X4_addLonger cI cZ h_t h_t_rules h_t_heads h_t_tails h_t_lengths h_t_nextInChain h_t_chainOf V_t V_t_rules V_t_heads V_t_tails V_t_lengths V_t_nextInChain V_t_chainOf) (isC := [0, 1, 4]) (isR := [2, 3, 5, 6]) (isP := [4, 5, 0, 1, 6, 2, 3]) C hw (ct_X4_lengthOf l D cI cZ h_t h_t_rules h_t_heads h_t_tails h_t_lengths h_t_nextInChain h_t_chainOf V_t V_t_rules V_t_lengths a1 hy_2) kl_X4_addLonger_43 ⟨rfl, rfl⟩ ⟨rfl, rfl, by decide, by decide, by decide, by decide, rfl⟩ 0 rfl rfl rfl rfl hl.1 (Nat.le_of_ble_eq_true rfl) ⟨Nat.le_refl _, Nat.le_refl _⟩ dX4_addLonger_2 (fun H locs hw => ?_)
  refine lv_istore_n (lv' := [(3, .int y_2), (0, .ref h_t), (1, .int a1), (2, .int a2)]) hx hb dX4_addLonger_5 rfl hl (by decide) rfl (fun ls hl => ?_)
  refine lv_aload_n hx hb dX4_addLonger_6 rfl (lv_at hl 1 rfl) ?_
  obtain ⟨y_7, hy_7, hf⟩ := gx_b hf
  refine gx_calli (As := []) (ws' := wd_X4_addLonger cI cZ h_t h_t_rules h_t_heads h_t_tails h_t_lengths h_t_nextInChain h_t_chainOf V_t V_t_rules V_t_heads V_t_tails V_t_lengths V_t_nextInChain V_t_chainOf) (isC := [0, 1]) (isR := [2, 3, 4, 5, 6]) (isP := [5, 6, 0, 1, 2, 3, 4]) C hw (ct_X4_isFull l D cI cZ h_t h_t_rules h_t_heads h_t_tails h_t_lengths h_t_nextInChain h_t_chainOf V_t V_t_rules hy_7) kl_X4_addLonger_47 ⟨rfl, rfl⟩ ⟨rfl, rfl, by decide, by decide, by decide, by decide, rfl⟩ 0 rfl rfl rfl rfl hl.1 (Nat.le_of_ble_eq_true rfl) ⟨Nat.le_refl _, Nat.le_refl _⟩ dX4_addLonger_7 (fun H locs hw => ?_)
  refine lv_if_ne (tgt := 30) hx hb dX4_addLonger_10 (by decide) (fun hc => ?_) (fun hc => ?_)
  · replace hf := gx_f hc hf
    obtain rfl := Option.some.inj hf
    exact hQ _ _ _ _ dX4_addLonger_30 hw
  · replace hf := gx_t hc hf
    refine lv_aload_n hx hb dX4_addLonger_13 rfl (lv_at hl 1 rfl) ?_
    refine gx_get (v := .int (V_t 6)) C hw 0 rfl (gx_gj rfl rfl) ln_X4_addLonger_31 dX4_addLonger_14 ?_
    refine lv_aload_n hx hb dX4_addLonger_17 rfl (lv_at hl 1 rfl) ?_
    refine gx_get C hw 0 rfl (gx_gr rfl) ln_X4_addLonger_15 dX4_addLonger_18 ?_
    refine gx_alen C hw 2 rfl dX4_addLonger_21 ?_
    refine lv_icmp_ge (tgt := 30) hx hb dX4_addLonger_22 (by decide) (fun hc => ?_) (fun hc => ?_)
    · replace hf := gx_t hc hf
      obtain rfl := Option.some.inj hf
      exact hQ _ _ _ _ dX4_addLonger_30 hw
    · replace hf := gx_f hc hf
      refine lv_iload_n hx hb dX4_addLonger_25 rfl (lv_at hl 0 rfl) ?_
      refine lv_iconst (v := (-1)) hx hb dX4_addLonger_26 (by decide) ?_
      refine lv_icmp_ne (tgt := 31) hx hb dX4_addLonger_27 (by decide) (fun hc => ?_) (fun hc => ?_)
      · replace hf := gx_f hc hf
        refine lv_iload_n hx hb dX4_addLonger_31 rfl (lv_at hl 2 rfl) ?_
        refine lv_if_lt (tgt := 44) hx hb dX4_addLonger_32 (by decide) (fun hc => ?_) (fun hc => ?_)
        · replace hf := gx_t hc hf
          obtain rfl := Option.some.inj hf
          exact hQ _ _ _ _ dX4_addLonger_44 hw
        · replace hf := gx_f hc hf
          refine lv_iload_n hx hb dX4_addLonger_35 rfl (lv_at hl 2 rfl) ?_
          refine lv_aload_n hx hb dX4_addLonger_36 rfl (lv_at hl 1 rfl) ?_
          refine gx_get C hw 0 rfl (gx_gr rfl) ln_X4_addLonger_28 dX4_addLonger_37 ?_
          refine gx_alen C hw 6 rfl dX4_addLonger_40 ?_
          refine lv_icmp_lt (tgt := 45) hx hb dX4_addLonger_41 (by decide) (fun hc => ?_) (fun hc => ?_)
          · replace hf := gx_t hc hf
            refine lv_aload_n hx hb dX4_addLonger_45 rfl (lv_at hl 1 rfl) ?_
            refine gx_get C hw 0 rfl (gx_gr rfl) ln_X4_addLonger_15 dX4_addLonger_46 ?_
            refine lv_aload_n hx hb dX4_addLonger_49 rfl (lv_at hl 1 rfl) ?_
            refine gx_get (v := .int (V_t 6)) C hw 0 rfl (gx_gj rfl rfl) ln_X4_addLonger_31 dX4_addLonger_50 ?_
            refine lv_iload_n hx hb dX4_addLonger_53 rfl (lv_at hl 2 rfl) ?_
            obtain ⟨hi_54, hf⟩ := gx_g hf
            refine gx_iast (ws' := wd_X4_addLonger cI cZ h_t h_t_rules h_t_heads h_t_tails h_t_lengths h_t_nextInChain h_t_chainOf V_t V_t_rules (upd V_t_heads (V_t 6).toNatClampNeg a1) V_t_tails V_t_lengths V_t_nextInChain V_t_chainOf) C hw 2 rfl hi_54 rfl dX4_addLonger_54 (fun H locs hw => ?_)
            refine lv_aload_n hx hb dX4_addLonger_55 rfl (lv_at hl 1 rfl) ?_
            refine gx_get C hw 0 rfl (gx_gr rfl) ln_X4_addLonger_19 dX4_addLonger_56 ?_
            refine lv_aload_n hx hb dX4_addLonger_59 rfl (lv_at hl 1 rfl) ?_
            refine gx_get (v := .int (V_t 6)) C hw 0 rfl (gx_gj rfl rfl) ln_X4_addLonger_31 dX4_addLonger_60 ?_
            refine lv_iload_n hx hb dX4_addLonger_63 rfl (lv_at hl 3 rfl) ?_
            obtain ⟨hi_64, hf⟩ := gx_g hf
            refine gx_iast (ws' := wd_X4_addLonger cI cZ h_t h_t_rules h_t_heads h_t_tails h_t_lengths h_t_nextInChain h_t_chainOf V_t V_t_rules (upd V_t_heads (V_t 6).toNatClampNeg a1) (upd V_t_tails (V_t 6).toNatClampNeg a2) V_t_lengths V_t_nextInChain V_t_chainOf) C hw 3 rfl hi_64 rfl dX4_addLonger_64 (fun H locs hw => ?_)
            refine lv_aload_n hx hb dX4_addLonger_65 rfl (lv_at hl 1 rfl) ?_
            refine gx_get C hw 0 rfl (gx_gr rfl) ln_X4_addLonger_22 dX4_addLonger_66 ?_
            refine lv_aload_n hx hb dX4_addLonger_69 rfl (lv_at hl 1 rfl) ?_
            refine gx_get (v := .int (V_t 6)) C hw 0 rfl (gx_gj rfl rfl) ln_X4_addLonger_31 dX4_addLonger_70 ?_
            refine lv_iload_n hx hb dX4_addLonger_73 rfl (lv_at hl 0 rfl) ?_
            refine lv_iconst (v := 1) hx hb dX4_addLonger_74 (by decide) ?_
            refine lv_iadd hx hb dX4_addLonger_75 ?_
            obtain ⟨hi_76, hf⟩ := gx_g hf
            refine gx_iast (ws' := wd_X4_addLonger cI cZ h_t h_t_rules h_t_heads h_t_tails h_t_lengths h_t_nextInChain h_t_chainOf V_t V_t_rules (upd V_t_heads (V_t 6).toNatClampNeg a1) (upd V_t_tails (V_t 6).toNatClampNeg a2) (upd V_t_lengths (V_t 6).toNatClampNeg (y_2 + 1)) V_t_nextInChain V_t_chainOf) C hw 4 rfl hi_76 rfl dX4_addLonger_76 (fun H locs hw => ?_)
            refine lv_aload_n hx hb dX4_addLonger_77 rfl (lv_at hl 1 rfl) ?_
            refine gx_get C hw 0 rfl (gx_gr rfl) ln_X4_addLonger_25 dX4_addLonger_78 ?_
            refine lv_aload_n hx hb dX4_addLonger_81 rfl (lv_at hl 1 rfl) ?_
            refine gx_get (v := .int (V_t 6)) C hw 0 rfl (gx_gj rfl rfl) ln_X4_addLonger_31 dX4_addLonger_82 ?_
            refine lv_aload_n hx hb dX4_addLonger_85 rfl (lv_at hl 1 rfl) ?_
            refine gx_get C hw 0 rfl (gx_gr rfl) ln_X4_addLonger_28 dX4_addLonger_86 ?_
            refine lv_iload_n hx hb dX4_addLonger_89 rfl (lv_at hl 2 rfl) ?_
            obtain ⟨hi_90, hf⟩ := gx_g hf
            refine gx_iald C hw 6 rfl hi_90 dX4_addLonger_90 ?_
            obtain ⟨hi_91, hf⟩ := gx_g hf
            refine gx_iast (ws' := wd_X4_addLonger cI cZ h_t h_t_rules h_t_heads h_t_tails h_t_lengths h_t_nextInChain h_t_chainOf V_t V_t_rules (upd V_t_heads (V_t 6).toNatClampNeg a1) (upd V_t_tails (V_t 6).toNatClampNeg a2) (upd V_t_lengths (V_t 6).toNatClampNeg (y_2 + 1)) (upd V_t_nextInChain (V_t 6).toNatClampNeg (V_t_chainOf a1.toNatClampNeg)) V_t_chainOf) C hw 5 rfl hi_91 rfl dX4_addLonger_91 (fun H locs hw => ?_)
            refine lv_aload_n hx hb dX4_addLonger_92 rfl (lv_at hl 1 rfl) ?_
            refine gx_get C hw 0 rfl (gx_gr rfl) ln_X4_addLonger_28 dX4_addLonger_93 ?_
            refine lv_iload_n hx hb dX4_addLonger_96 rfl (lv_at hl 2 rfl) ?_
            refine lv_aload_n hx hb dX4_addLonger_97 rfl (lv_at hl 1 rfl) ?_
            refine gx_get (v := .int (V_t 6)) C hw 0 rfl (gx_gj rfl rfl) ln_X4_addLonger_31 dX4_addLonger_98 ?_
            obtain ⟨hi_101, hf⟩ := gx_g hf
            refine gx_iast (ws' := wd_X4_addLonger cI cZ h_t h_t_rules h_t_heads h_t_tails h_t_lengths h_t_nextInChain h_t_chainOf V_t V_t_rules (upd V_t_heads (V_t 6).toNatClampNeg a1) (upd V_t_tails (V_t 6).toNatClampNeg a2) (upd V_t_lengths (V_t 6).toNatClampNeg (y_2 + 1)) (upd V_t_nextInChain (V_t 6).toNatClampNeg (V_t_chainOf a1.toNatClampNeg)) (upd V_t_chainOf a1.toNatClampNeg (V_t 6))) C hw 6 rfl hi_101 rfl dX4_addLonger_101 (fun H locs hw => ?_)
            refine lv_aload_n hx hb dX4_addLonger_102 rfl (lv_at hl 1 rfl) ?_
            refine lv_dup hx hb dX4_addLonger_103 rfl ?_
            refine gx_get (v := .int (V_t 6)) C hw 0 rfl (gx_gj rfl rfl) ln_X4_addLonger_31 dX4_addLonger_104 ?_
            refine lv_iconst (v := 1) hx hb dX4_addLonger_107 (by decide) ?_
            refine lv_iadd hx hb dX4_addLonger_108 ?_
            refine gx_put (ws' := wd_X4_addLonger cI cZ h_t h_t_rules h_t_heads h_t_tails h_t_lengths h_t_nextInChain h_t_chainOf (upd V_t 6 ((V_t 6) + 1)) V_t_rules (upd V_t_heads (V_t 6).toNatClampNeg a1) (upd V_t_tails (V_t 6).toNatClampNeg a2) (upd V_t_lengths (V_t 6).toNatClampNeg (y_2 + 1)) (upd V_t_nextInChain (V_t 6).toNatClampNeg (V_t_chainOf a1.toNatClampNeg)) (upd V_t_chainOf a1.toNatClampNeg (V_t 6))) C hw 0 rfl rfl lp_X4_addLonger_31 rfl rfl rfl dX4_addLonger_109 (fun H locs hw => ?_)
            obtain rfl := Option.some.inj hf
            exact hQ _ _ _ _ dX4_addLonger_112 hw
          · replace hf := gx_f hc hf
            obtain rfl := Option.some.inj hf
            exact hQ _ _ _ _ dX4_addLonger_44 hw
      · replace hf := gx_t hc hf
        obtain rfl := Option.some.inj hf
        exact hQ _ _ _ _ dX4_addLonger_30 hw
end
