section
variable {p : Program} {l : Launch} {e : Env} {s : State} {m : MethodId} {args : Array Value} {below : List Frame} {meth : Method} {c : Code} {D : va_G} {cI cZ : ClassId} {A : Nat → Prop} {Q : State → Prop}
-- LzwForms$Tape.bits: touched ['t', 't_bytes']; used ['t_bytes']; mod []; height 1
theorem ln_X5_bits_20 : gx_L wsX5_bits RX5 20 5 1 := ⟨_, _, _, rfl, by decide +kernel, by decide, Or.inl (by decide +kernel)⟩
theorem kl_X5_bits_24 : gx_KV wsX5_bits RX5 24 yX2_size cX2_size 1 (some .int) wsX2_size (gx_rm 0) (gx_rm 1) 0 := ⟨gX5_bits_X2_size, ⟨_, rfl⟩, ⟨by decide, by decide, by decide +kernel⟩, ⟨by decide, by decide⟩⟩
def wd_X5_bits (cI cZ : ClassId) (h_t h_t_rules h_t_bytes h_t_bytes_cells : Nat) (V_t V_t_bytes : Nat → Int32) : va_W := [gx_o h_t 5 [some (some h_t_rules), some (some h_t_bytes)] V_t, gx_o h_t_bytes 2 [some (some h_t_bytes_cells), none] V_t_bytes]
set_option maxHeartbeats 4000000 in
set_option maxRecDepth 100000 in
theorem ct_X5_bits (l : Launch) (D : va_G) (cI cZ : ClassId) (h_t h_t_rules h_t_bytes h_t_bytes_cells : Nat) (V_t V_t_bytes : Nat → Int32) {z : Int32} (hf : fn_X5_bits V_t_bytes = some z) : gx_Mi l yX5_bits wsX5_bits (gx_rm 1) D cI cZ [.ref h_t] (wd_X5_bits cI cZ h_t h_t_rules h_t_bytes h_t_bytes_cells V_t V_t_bytes) (wd_X5_bits cI cZ h_t h_t_rules h_t_bytes h_t_bytes_cells V_t V_t_bytes) z := by
  refine gx_ofi (cc := cX5_bits) (own := RX5) (by decide) rfl rfl (Nat.le_of_ble_eq_true rfl) [(0, .ref h_t)] rfl ?_
  intro p e s m args below meth c A Q ls C hQ hl hw
  have hx := C.1.1
  have hb := C.1.2.1
  rw [fn_X5_bits] at hf
  refine lv_bipush (v := 8) hx hb dX5_bits_0 (by decide) ?_
  refine lv_aload_n hx hb dX5_bits_2 rfl (lv_at hl 0 rfl) ?_
  refine gx_get C hw 0 rfl (gx_gr rfl) ln_X5_bits_20 dX5_bits_3 ?_
  obtain ⟨y_6, hy_6, hf⟩ := gx_b hf
  refine gx_calli (As := []) (ws' := wd_X5_bits cI cZ h_t h_t_rules h_t_bytes h_t_bytes_cells V_t V_t_bytes) (isC := [1]) (isR := [0]) (isP := [0, 1]) C hw (ct_X2_size l D cI cZ h_t_bytes h_t_bytes_cells V_t_bytes hy_6) kl_X5_bits_24 ⟨rfl, rfl⟩ ⟨rfl, rfl, by decide, by decide, by decide, by decide, rfl⟩ 0 rfl rfl rfl rfl hl.1 (Nat.le_of_ble_eq_true rfl) ⟨Nat.le_refl _, Nat.le_refl _⟩ dX5_bits_6 (fun H locs hw => ?_)
  refine lv_imul hx hb dX5_bits_9 ?_
  obtain rfl := Option.some.inj hf
  exact hQ _ _ _ _ dX5_bits_10 rfl hw
-- LzwForms$Tape.blank: touched ['t', 't_bytes', 't_bytes_cells']; used ['t_bytes', 't_bytes_cells']; mod ['t_bytes', 't_bytes_cells']; height 1
theorem ln_X5_blank_20 : gx_L wsX5_blank RX5 20 5 1 := ⟨_, _, _, rfl, by decide +kernel, by decide, Or.inl (by decide +kernel)⟩
theorem kl_X5_blank_28 : gx_KV wsX5_blank RX5 28 yX2_shrinkTo cX2_shrinkTo 2 none wsX2_shrinkTo (gx_rm 0) (gx_rm 1) 1 := ⟨gX5_blank_X2_shrinkTo, ⟨_, rfl⟩, ⟨by decide, by decide, by decide +kernel⟩, ⟨by decide, by decide⟩⟩
theorem kl_X5_blank_31 : gx_KV wsX5_blank RX5 31 yX2_add cX2_add 2 (some .boolean) wsX2_add (gx_rm 0) (gx_rm 1) 1 := ⟨gX5_blank_X2_add, ⟨_, rfl⟩, ⟨by decide, by decide, by decide +kernel⟩, ⟨by decide, by decide⟩⟩
def wd_X5_blank (cI cZ : ClassId) (h_t h_t_rules h_t_bytes h_t_bytes_cells : Nat) (V_t V_t_bytes V_t_bytes_cells : Nat → Int32) : va_W := [gx_o h_t 5 [some (some h_t_rules), some (some h_t_bytes)] V_t, gx_o h_t_bytes 2 [some (some h_t_bytes_cells), none] V_t_bytes, gx_a h_t_bytes_cells cI 400 V_t_bytes_cells]
set_option maxHeartbeats 4000000 in
set_option maxRecDepth 100000 in
theorem tm_X5_blank_10 (C : gx_C cX5_blank 3 wsX5_blank RX5 D cI cZ p s m args c) (h_t h_t_rules h_t_bytes h_t_bytes_cells : Nat) (V_t : Nat → Int32) {z : (Nat → Int32) × (Nat → Int32)} (hQ : gx_Qv cX5_blank p l e (gx_rm 1) s m args below meth c D A Q (wd_X5_blank cI cZ h_t h_t_rules h_t_bytes h_t_bytes_cells V_t z.1 z.2)) : ∀ (n : Nat), (∀ (V_t_bytes V_t_bytes_cells : Nat → Int32) (x1 x2 : Int32) (ls : Array Slot) (H : Heap) (locs : List Loc), lv_has ls 3 [(0, .ref h_t), (1, .int x1), (2, .int x2)] → gx_W D A s (wd_X5_blank cI cZ h_t h_t_rules h_t_bytes h_t_bytes_cells V_t V_t_bytes V_t_bytes_cells) H locs → fn_X5_blank_l10 n V_t_bytes V_t_bytes_cells x1 x2 = some z → W p l e (gx_rm 1) s m args below meth c H locs 0 0 Q (F0 m 10 ls [])) := by
  have hx := C.1.1
  have hb := C.1.2.1
  intro n
  induction n with
  | zero => intro V_t_bytes V_t_bytes_cells x1 x2 ls H locs hl hw hf; rw [fn_X5_blank_l10] at hf; cases hf
  | succ n ih =>
    intro V_t_bytes V_t_bytes_cells x1 x2 ls H locs hl hw hf
    rw [fn_X5_blank_l10] at hf
    refine lv_iload_n hx hb dX5_blank_10 rfl (lv_at hl 2 rfl) ?_
    refine lv_iload_n hx hb dX5_blank_11 rfl (lv_at hl 1 rfl) ?_
    refine lv_icmp_ge (tgt := 30) hx hb dX5_blank_12 (by decide) (fun hc => ?_) (fun hc => ?_)
    · replace hf := gx_t hc hf
      obtain rfl := Option.some.inj hf
      exact hQ _ _ _ _ dX5_blank_30 hw
    · replace hf := gx_f hc hf
      refine lv_aload_n hx hb dX5_blank_15 rfl (lv_at hl 0 rfl) ?_
      refine gx_get C hw 0 rfl (gx_gr rfl) ln_X5_blank_20 dX5_blank_16 ?_
      refine lv_iconst (v := 0) hx hb dX5_blank_19 (by decide) ?_
      obtain ⟨y_20, hy_20, hf⟩ := gx_b hf
      refine gx_calli (As := [.int 0]) (ws' := wd_X5_blank cI cZ h_t h_t_rules h_t_bytes h_t_bytes_cells V_t y_20.2.1 y_20.2.2) (isC := [1, 2]) (isR := [0]) (isP := [0, 1, 2]) C hw (ct_X2_add l D cI cZ h_t_bytes h_t_bytes_cells 400 V_t_bytes V_t_bytes_cells 0 hy_20) kl_X5_blank_31 ⟨rfl, rfl⟩ ⟨rfl, rfl, by decide, by decide, by decide, by decide, rfl⟩ 0 rfl rfl rfl rfl hl.1 (Nat.le_of_ble_eq_true rfl) ⟨Nat.le_refl _, Nat.le_refl _⟩ dX5_blank_20 (fun H locs hw => ?_)
      refine lv_pop hx hb dX5_blank_23 rfl ?_
      refine lv_iinc (v := (x2 + 1)) (lv' := [(2, .int (x2 + 1)), (0, .ref h_t), (1, .int x1)]) hx hb dX5_blank_24 hl (k := 2) rfl rfl (by decide) rfl (fun ls hl => ?_)
      refine lv_goto (tgt := 10) hx hb dX5_blank_27 (by decide) ?_
      exact ih y_20.2.1 y_20.2.2 x1 (x2 + 1) _ _ _ (lv_sub hl [1, 2, 0] rfl) hw hf
set_option maxHeartbeats 4000000 in
set_option maxRecDepth 100000 in
theorem ct_X5_blank (l : Launch) (D : va_G) (cI cZ : ClassId) (h_t h_t_rules h_t_bytes h_t_bytes_cells : Nat) (V_t V_t_bytes V_t_bytes_cells : Nat → Int32) (a1 : Int32) {z : (Nat → Int32) × (Nat → Int32)} (hf : fn_X5_blank V_t_bytes V_t_bytes_cells a1 = some z) : gx_Mv l yX5_blank wsX5_blank (gx_rm 1) D cI cZ [.ref h_t, .int a1] (wd_X5_blank cI cZ h_t h_t_rules h_t_bytes h_t_bytes_cells V_t V_t_bytes V_t_bytes_cells) (wd_X5_blank cI cZ h_t h_t_rules h_t_bytes h_t_bytes_cells V_t z.1 z.2) := by
  refine gx_ofv (cc := cX5_blank) (own := RX5) (by decide) rfl rfl (Nat.le_of_ble_eq_true rfl) [(0, .ref h_t), (1, .int a1)] rfl ?_
  intro p e s m args below meth c A Q ls C hQ hl hw
  have hx := C.1.1
  have hb := C.1.2.1
  rw [fn_X5_blank] at hf
  refine lv_aload_n hx hb dX5_blank_0 rfl (lv_at hl 0 rfl) ?_
  refine gx_get C hw 0 rfl (gx_gr rfl) ln_X5_blank_20 dX5_blank_1 ?_
  refine lv_iconst (v := 0) hx hb dX5_blank_4 (by decide) ?_
  obtain ⟨y_5, hy_5, hf⟩ := gx_b hf
  refine gx_callv (As := [.int 0]) (ws' := wd_X5_blank cI cZ h_t h_t_rules h_t_bytes h_t_bytes_cells V_t y_5 V_t_bytes_cells) (isC := [1]) (isR := [0, 2]) (isP := [0, 2, 1]) C hw (ct_X2_shrinkTo l D cI cZ h_t_bytes h_t_bytes_cells V_t_bytes 0 hy_5) kl_X5_blank_28 ⟨rfl, rfl⟩ ⟨rfl, rfl, by decide, by decide, by decide, by decide, rfl⟩ 0 rfl rfl rfl rfl hl.1 (Nat.le_of_ble_eq_true rfl) ⟨Nat.le_refl _, Nat.le_refl _⟩ dX5_blank_5 (fun H locs hw => ?_)
  refine lv_iconst (v := 0) hx hb dX5_blank_8 (by decide) ?_
  refine lv_istore_n (lv' := [(2, .int 0), (0, .ref h_t), (1, .int a1)]) hx hb dX5_blank_9 rfl hl (by decide) rfl (fun ls hl => ?_)
  exact tm_X5_blank_10 C h_t h_t_rules h_t_bytes h_t_bytes_cells V_t hQ  gx_fuel y_5 V_t_bytes_cells a1 0 _ _ _ (lv_sub hl [1, 2, 0] rfl) hw hf
-- LzwForms$Tape.placeInCode: touched ['t', 't_rules']; used ['t_rules']; mod []; height 0
theorem ln_X5_placeInCode_9 : gx_L wsX5_placeInCode RX5 9 5 0 := ⟨_, _, _, rfl, by decide +kernel, by decide, Or.inl (by decide +kernel)⟩
theorem ln_X5_placeInCode_50 : gx_L wsX5_placeInCode RX5 50 3 6 := ⟨_, _, _, rfl, by decide +kernel, by decide, Or.inr (by decide +kernel)⟩
def wd_X5_placeInCode (cI cZ : ClassId) (h_t h_t_rules h_t_bytes : Nat) (V_t V_t_rules : Nat → Int32) : va_W := [gx_o h_t 5 [some (some h_t_rules), some (some h_t_bytes)] V_t, gx_o h_t_rules 3 [none, none, none, none, none, none, none, none, none, none, none, none] V_t_rules]
set_option maxHeartbeats 4000000 in
set_option maxRecDepth 100000 in
theorem ct_X5_placeInCode (l : Launch) (D : va_G) (cI cZ : ClassId) (h_t h_t_rules h_t_bytes : Nat) (V_t V_t_rules : Nat → Int32) (a1 a2 : Int32) {z : Int32} (hf : fn_X5_placeInCode V_t_rules a1 a2 = some z) : gx_Mi l yX5_placeInCode wsX5_placeInCode (gx_rm 0) D cI cZ [.ref h_t, .int a1, .int a2] (wd_X5_placeInCode cI cZ h_t h_t_rules h_t_bytes V_t V_t_rules) (wd_X5_placeInCode cI cZ h_t h_t_rules h_t_bytes V_t V_t_rules) z := by
  refine gx_ofi (cc := cX5_placeInCode) (own := RX5) (by decide) rfl rfl (Nat.le_of_ble_eq_true rfl) [(0, .ref h_t), (1, .int a1), (2, .int a2)] rfl ?_
  intro p e s m args below meth c A Q ls C hQ hl hw
  have hx := C.1.1
  have hb := C.1.2.1
  rw [fn_X5_placeInCode] at hf
  refine lv_aload_n hx hb dX5_placeInCode_0 rfl (lv_at hl 0 rfl) ?_
  refine gx_get C hw 0 rfl (gx_gr rfl) ln_X5_placeInCode_9 dX5_placeInCode_1 ?_
  refine gx_get (v := .int (V_t_rules 6)) C hw 1 rfl (gx_gj rfl rfl) ln_X5_placeInCode_50 dX5_placeInCode_4 ?_
  refine lv_if_eq (tgt := 18) hx hb dX5_placeInCode_7 (by decide) (fun hc => ?_) (fun hc => ?_)
  · replace hf := gx_t hc hf
    refine lv_iload_n hx hb dX5_placeInCode_18 rfl (lv_at hl 1 rfl) ?_
    obtain rfl := Option.some.inj hf
    exact hQ _ _ _ _ dX5_placeInCode_19 rfl hw
  · replace hf := gx_f hc hf
    refine lv_iload_n hx hb dX5_placeInCode_10 rfl (lv_at hl 2 rfl) ?_
    refine lv_iconst (v := 1) hx hb dX5_placeInCode_11 (by decide) ?_
    refine lv_isub hx hb dX5_placeInCode_12 ?_
    refine lv_iload_n hx hb dX5_placeInCode_13 rfl (lv_at hl 1 rfl) ?_
    refine lv_isub hx hb dX5_placeInCode_14 ?_
    refine lv_goto (tgt := 19) hx hb dX5_placeInCode_15 (by decide) ?_
    obtain rfl := Option.some.inj hf
    exact hQ _ _ _ _ dX5_placeInCode_19 rfl hw
-- LzwForms$Tape.placeInByte: touched ['t', 't_rules']; used ['t_rules']; mod []; height 0
theorem ln_X5_placeInByte_9 : gx_L wsX5_placeInByte RX5 9 5 0 := ⟨_, _, _, rfl, by decide +kernel, by decide, Or.inl (by decide +kernel)⟩
theorem ln_X5_placeInByte_50 : gx_L wsX5_placeInByte RX5 50 3 6 := ⟨_, _, _, rfl, by decide +kernel, by decide, Or.inr (by decide +kernel)⟩
def wd_X5_placeInByte (cI cZ : ClassId) (h_t h_t_rules h_t_bytes : Nat) (V_t V_t_rules : Nat → Int32) : va_W := [gx_o h_t 5 [some (some h_t_rules), some (some h_t_bytes)] V_t, gx_o h_t_rules 3 [none, none, none, none, none, none, none, none, none, none, none, none] V_t_rules]
set_option maxHeartbeats 4000000 in
set_option maxRecDepth 100000 in
theorem ct_X5_placeInByte (l : Launch) (D : va_G) (cI cZ : ClassId) (h_t h_t_rules h_t_bytes : Nat) (V_t V_t_rules : Nat → Int32) (a1 : Int32) {z : Int32} (hf : fn_X5_placeInByte V_t_rules a1 = some z) : gx_Mi l yX5_placeInByte wsX5_placeInByte (gx_rm 0) D cI cZ [.ref h_t, .int a1] (wd_X5_placeInByte cI cZ h_t h_t_rules h_t_bytes V_t V_t_rules) (wd_X5_placeInByte cI cZ h_t h_t_rules h_t_bytes V_t V_t_rules) z := by
  refine gx_ofi (cc := cX5_placeInByte) (own := RX5) (by decide) rfl rfl (Nat.le_of_ble_eq_true rfl) [(0, .ref h_t), (1, .int a1)] rfl ?_
  intro p e s m args below meth c A Q ls C hQ hl hw
  have hx := C.1.1
  have hb := C.1.2.1
  rw [fn_X5_placeInByte] at hf
  refine lv_aload_n hx hb dX5_placeInByte_0 rfl (lv_at hl 0 rfl) ?_
  refine gx_get C hw 0 rfl (gx_gr rfl) ln_X5_placeInByte_9 dX5_placeInByte_1 ?_
  refine gx_get (v := .int (V_t_rules 6)) C hw 1 rfl (gx_gj rfl rfl) ln_X5_placeInByte_50 dX5_placeInByte_4 ?_
  refine lv_if_eq (tgt := 20) hx hb dX5_placeInByte_7 (by decide) (fun hc => ?_) (fun hc => ?_)
  · replace hf := gx_t hc hf
    refine lv_iload_n hx hb dX5_placeInByte_20 rfl (lv_at hl 1 rfl) ?_
    refine lv_bipush (v := 7) hx hb dX5_placeInByte_21 (by decide) ?_
    refine lv_iand hx hb dX5_placeInByte_23 ?_
    obtain rfl := Option.some.inj hf
    exact hQ _ _ _ _ dX5_placeInByte_24 rfl hw
  · replace hf := gx_f hc hf
    refine lv_bipush (v := 7) hx hb dX5_placeInByte_10 (by decide) ?_
    refine lv_iload_n hx hb dX5_placeInByte_12 rfl (lv_at hl 1 rfl) ?_
    refine lv_bipush (v := 7) hx hb dX5_placeInByte_13 (by decide) ?_
    refine lv_iand hx hb dX5_placeInByte_15 ?_
    refine lv_isub hx hb dX5_placeInByte_16 ?_
    refine lv_goto (tgt := 24) hx hb dX5_placeInByte_17 (by decide) ?_
    obtain rfl := Option.some.inj hf
    exact hQ _ _ _ _ dX5_placeInByte_24 rfl hw
-- LzwForms$Tape.bit: touched ['t', 't_rules', 't_bytes', 't_bytes_cells']; used ['t_rules', 't_bytes', 't_bytes_cells']; mod []; height 1
theorem ln_X5_bit_20 : gx_L wsX5_bit RX5 20 5 1 := ⟨_, _, _, rfl, by decide +kernel, by decide, Or.inl (by decide +kernel)⟩
theorem kl_X5_bit_35 : gx_KV wsX5_bit RX5 35 yX2_get cX2_get 2 (some .int) wsX2_get (gx_rm 0) (gx_rm 1) 1 := ⟨gX5_bit_X2_get, ⟨_, rfl⟩, ⟨by decide, by decide, by decide +kernel⟩, ⟨by decide, by decide⟩⟩
theorem kl_X5_bit_39 : gx_KV wsX5_bit RX5 39 yX5_placeInByte cX5_placeInByte 2 (some .int) wsX5_placeInByte (gx_rm 0) (gx_rm 1) 1 := ⟨gX5_bit_X5_placeInByte, ⟨_, rfl⟩, ⟨by decide, by decide, by decide +kernel⟩, ⟨by decide, by decide⟩⟩
def wd_X5_bit (cI cZ : ClassId) (h_t h_t_rules h_t_bytes h_t_bytes_cells : Nat) (V_t V_t_rules V_t_bytes V_t_bytes_cells : Nat → Int32) : va_W := [gx_o h_t 5 [some (some h_t_rules), some (some h_t_bytes)] V_t, gx_o h_t_rules 3 [none, none, none, none, none, none, none, none, none, none, none, none] V_t_rules, gx_o h_t_bytes 2 [some (some h_t_bytes_cells), none] V_t_bytes, gx_a h_t_bytes_cells cI 400 V_t_bytes_cells]
set_option maxHeartbeats 4000000 in
set_option maxRecDepth 100000 in
theorem ct_X5_bit (l : Launch) (D : va_G) (cI cZ : ClassId) (h_t h_t_rules h_t_bytes h_t_bytes_cells : Nat) (V_t V_t_rules V_t_bytes V_t_bytes_cells : Nat → Int32) (a1 : Int32) {z : Int32} (hf : fn_X5_bit V_t_rules V_t_bytes V_t_bytes_cells a1 = some z) : gx_Mi l yX5_bit wsX5_bit (gx_rm 1) D cI cZ [.ref h_t, .int a1] (wd_X5_bit cI cZ h_t h_t_rules h_t_bytes h_t_bytes_cells V_t V_t_rules V_t_bytes V_t_bytes_cells) (wd_X5_bit cI cZ h_t h_t_rules h_t_bytes h_t_bytes_cells V_t V_t_rules V_t_bytes V_t_bytes_cells) z := by
  refine gx_ofi (cc := cX5_bit) (own := RX5) (by decide) rfl rfl (Nat.le_of_ble_eq_true rfl) [(0, .ref h_t), (1, .int a1)] rfl ?_
  intro p e s m args below meth c A Q ls C hQ hl hw
  have hx := C.1.1
  have hb := C.1.2.1
  rw [fn_X5_bit] at hf
  refine lv_aload_n hx hb dX5_bit_0 rfl (lv_at hl 0 rfl) ?_
  refine gx_get C hw 0 rfl (gx_gr rfl) ln_X5_bit_20 dX5_bit_1 ?_
  refine lv_iload_n hx hb dX5_bit_4 rfl (lv_at hl 1 rfl) ?_
  refine lv_iconst (v := 3) hx hb dX5_bit_5 (by decide) ?_
  refine lv_ishr hx hb dX5_bit_6 ?_
  obtain ⟨y_7, hy_7, hf⟩ := gx_b hf
  refine gx_calli (As := [.int (a1 >>> (3 &&& 31))]) (ws' := wd_X5_bit cI cZ h_t h_t_rules h_t_bytes h_t_bytes_cells V_t V_t_rules V_t_bytes V_t_bytes_cells) (isC := [2, 3]) (isR := [0, 1]) (isP := [0, 1, 2, 3]) C hw (ct_X2_get l D cI cZ h_t_bytes h_t_bytes_cells 400 V_t_bytes V_t_bytes_cells (a1 >>> (3 &&& 31)) hy_7) kl_X5_bit_35 ⟨rfl, rfl⟩ ⟨rfl, rfl, by decide, by decide, by decide, by decide, rfl⟩ 0 rfl rfl rfl rfl hl.1 (Nat.le_of_ble_eq_true rfl) ⟨Nat.le_refl _, Nat.le_refl _⟩ dX5_bit_7 (fun H locs hw => ?_)
  refine lv_aload_n hx hb dX5_bit_10 rfl (lv_at hl 0 rfl) ?_
  refine lv_iload_n hx hb dX5_bit_11 rfl (lv_at hl 1 rfl) ?_
  obtain ⟨y_12, hy_12, hf⟩ := gx_b hf
  refine gx_calli (As := [.int a1]) (ws' := wd_X5_bit cI cZ h_t h_t_rules h_t_bytes h_t_bytes_cells V_t V_t_rules V_t_bytes V_t_bytes_cells) (isC := [0, 1]) (isR := [2, 3]) (isP := [2, 3, 0, 1]) C hw (ct_X5_placeInByte l D cI cZ h_t h_t_rules h_t_bytes V_t V_t_rules a1 hy_12) kl_X5_bit_39 ⟨rfl, rfl⟩ ⟨rfl, rfl, by decide, by decide, by decide, by decide, rfl⟩ 0 rfl rfl rfl rfl hl.1 (Nat.le_of_ble_eq_true rfl) ⟨Nat.le_refl _, Nat.le_refl _⟩ dX5_bit_12 (fun H locs hw => ?_)
  refine lv_ishr hx hb dX5_bit_15 ?_
  refine lv_iconst (v := 1) hx hb dX5_bit_16 (by decide) ?_
  refine lv_iand hx hb dX5_bit_17 ?_
  obtain rfl := Option.some.inj hf
  exact hQ _ _ _ _ dX5_bit_18 rfl hw
-- LzwForms$Tape.putCode: touched ['t', 't_rules', 't_bytes', 't_bytes_cells']; used ['t_rules', 't_bytes', 't_bytes_cells']; mod ['t_bytes_cells']; height 1
theorem ln_X5_putCode_20 : gx_L wsX5_putCode RX5 20 5 1 := ⟨_, _, _, rfl, by decide +kernel, by decide, Or.inl (by decide +kernel)⟩
theorem kl_X5_putCode_35 : gx_KV wsX5_putCode RX5 35 yX2_get cX2_get 2 (some .int) wsX2_get (gx_rm 0) (gx_rm 1) 1 := ⟨gX5_putCode_X2_get, ⟨_, rfl⟩, ⟨by decide, by decide, by decide +kernel⟩, ⟨by decide, by decide⟩⟩
theorem kl_X5_putCode_39 : gx_KV wsX5_putCode RX5 39 yX5_placeInByte cX5_placeInByte 2 (some .int) wsX5_placeInByte (gx_rm 0) (gx_rm 1) 1 := ⟨gX5_putCode_X5_placeInByte, ⟨_, rfl⟩, ⟨by decide, by decide, by decide +kernel⟩, ⟨by decide, by decide⟩⟩
theorem kl_X5_putCode_42 : gx_KV wsX5_putCode RX5 42 yX5_placeInCode cX5_placeInCode 3 (some .int) wsX5_placeInCode (gx_rm 0) (gx_rm 1) 2 := ⟨gX5_putCode_X5_placeInCode, ⟨_, rfl⟩, ⟨by decide, by decide, by decide +kernel⟩, ⟨by decide, by decide⟩⟩
theorem kl_X5_putCode_46 : gx_KV wsX5_putCode RX5 46 yX2_set cX2_set 3 none wsX2_set (gx_rm 0) (gx_rm 1) 2 := ⟨gX5_putCode_X2_set, ⟨_, rfl⟩, ⟨by decide, by decide, by decide +kernel⟩, ⟨by decide, by decide⟩⟩
def wd_X5_putCode (cI cZ : ClassId) (h_t h_t_rules h_t_bytes h_t_bytes_cells : Nat) (V_t V_t_rules V_t_bytes V_t_bytes_cells : Nat → Int32) : va_W := [gx_o h_t 5 [some (some h_t_rules), some (some h_t_bytes)] V_t, gx_o h_t_rules 3 [none, none, none, none, none, none, none, none, none, none, none, none] V_t_rules, gx_o h_t_bytes 2 [some (some h_t_bytes_cells), none] V_t_bytes, gx_a h_t_bytes_cells cI 400 V_t_bytes_cells]
set_option maxHeartbeats 4000000 in
set_option maxRecDepth 100000 in
theorem tm_X5_putCode_3 (C : gx_C cX5_putCode 8 wsX5_putCode RX5 D cI cZ p s m args c) (h_t h_t_rules h_t_bytes h_t_bytes_cells : Nat) (V_t V_t_rules V_t_bytes : Nat → Int32) {z : (Nat → Int32)} (hQ : gx_Qv cX5_putCode p l e (gx_rm 1) s m args below meth c D A Q (wd_X5_putCode cI cZ h_t h_t_rules h_t_bytes h_t_bytes_cells V_t V_t_rules V_t_bytes z)) : ∀ (n : Nat), (∀ (V_t_bytes_cells : Nat → Int32) (x1 x2 x3 x4 : Int32) (ls : Array Slot) (H : Heap) (locs : List Loc), lv_has ls 8 [(0, .ref h_t), (1, .int x1), (2, .int x2), (3, .int x3), (4, .int x4)] → gx_W D A s (wd_X5_putCode cI cZ h_t h_t_rules h_t_bytes h_t_bytes_cells V_t V_t_rules V_t_bytes V_t_bytes_cells) H locs → fn_X5_putCode_l3 V_t_rules V_t_bytes n V_t_bytes_cells x1 x2 x3 x4 = some z → W p l e (gx_rm 1) s m args below meth c H locs 0 0 Q (F0 m 3 ls [])) := by
  have hx := C.1.1
  have hb := C.1.2.1
  intro n
  induction n with
  | zero => intro V_t_bytes_cells x1 x2 x3 x4 ls H locs hl hw hf; rw [fn_X5_putCode_l3] at hf; cases hf
  | succ n ih =>
    intro V_t_bytes_cells x1 x2 x3 x4 ls H locs hl hw hf
    rw [fn_X5_putCode_l3] at hf
    refine lv_iload hx hb dX5_putCode_3 (lv_at hl 4 rfl) ?_
    refine lv_iload_n hx hb dX5_putCode_5 rfl (lv_at hl 2 rfl) ?_
    refine lv_icmp_ge (tgt := 70) hx hb dX5_putCode_6 (by decide) (fun hc => ?_) (fun hc => ?_)
    · replace hf := gx_t hc hf
      obtain rfl := Option.some.inj hf
      exact hQ _ _ _ _ dX5_putCode_70 hw
    · replace hf := gx_f hc hf
      refine lv_iload_n hx hb dX5_putCode_9 rfl (lv_at hl 3 rfl) ?_
      refine lv_iload hx hb dX5_putCode_10 (lv_at hl 4 rfl) ?_
      refine lv_iadd hx hb dX5_putCode_12 ?_
      refine lv_istore (lv' := [(5, .int (x3 + x4)), (0, .ref h_t), (1, .int x1), (2, .int x2), (3, .int x3), (4, .int x4)]) hx hb dX5_putCode_13 hl (by decide) rfl (fun ls hl => ?_)
      refine lv_iload_n hx hb dX5_putCode_15 rfl (lv_at hl 2 rfl) ?_
      refine lv_aload_n hx hb dX5_putCode_16 rfl (lv_at hl 1 rfl) ?_
      refine lv_iload hx hb dX5_putCode_17 (lv_at hl 5 rfl) ?_
      refine lv_iload_n hx hb dX5_putCode_19 rfl (lv_at hl 3 rfl) ?_
      obtain ⟨y_20, hy_20, hf⟩ := gx_b hf
      refine gx_calli (As := [.int x4, .int x2]) (ws' := wd_X5_putCode cI cZ h_t h_t_rules h_t_bytes h_t_bytes_cells V_t V_t_rules V_t_bytes V_t_bytes_cells) (isC := [0, 1]) (isR := [2, 3]) (isP := [2, 3, 0, 1]) C hw (ct_X5_placeInCode l D cI cZ h_t h_t_rules h_t_bytes V_t V_t_rules x4 x2 hy_20) kl_X5_putCode_42 ⟨rfl, rfl⟩ ⟨rfl, rfl, by decide, by decide, by decide, by decide, rfl⟩ 0 rfl rfl rfl rfl hl.1 (Nat.le_of_ble_eq_true rfl) ⟨Nat.le_refl _, Nat.le_refl _⟩ dX5_putCode_20 (fun H locs hw => ?_)
      refine lv_ishr hx hb dX5_putCode_23 ?_
      refine lv_iconst (v := 1) hx hb dX5_putCode_24 (by decide) ?_
      refine lv_iand hx hb dX5_putCode_25 ?_
      refine lv_istore (lv' := [(6, .int ((x1 >>> (y_20 &&& 31)) &&& 1)), (5, .int (x3 + x4)), (0, .ref h_t), (1, .int x1), (2, .int x2), (3, .int x3), (4, .int x4)]) hx hb dX5_putCode_26 hl (by decide) rfl (fun ls hl => ?_)
      refine lv_aload_n hx hb dX5_putCode_28 rfl (lv_at hl 2 rfl) ?_
      refine gx_get C hw 0 rfl (gx_gr rfl) ln_X5_putCode_20 dX5_putCode_29 ?_
      refine lv_iload hx hb dX5_putCode_32 (lv_at hl 1 rfl) ?_
      refine lv_iconst (v := 3) hx hb dX5_putCode_34 (by decide) ?_
      refine lv_ishr hx hb dX5_putCode_35 ?_
      obtain ⟨y_36, hy_36, hf⟩ := gx_b hf
      refine gx_calli (As := [.int ((x3 + x4) >>> (3 &&& 31))]) (ws' := wd_X5_putCode cI cZ h_t h_t_rules h_t_bytes h_t_bytes_cells V_t V_t_rules V_t_bytes V_t_bytes_cells) (isC := [2, 3]) (isR := [0, 1]) (isP := [0, 1, 2, 3]) C hw (ct_X2_get l D cI cZ h_t_bytes h_t_bytes_cells 400 V_t_bytes V_t_bytes_cells ((x3 + x4) >>> (3 &&& 31)) hy_36) kl_X5_putCode_35 ⟨rfl, rfl⟩ ⟨rfl, rfl, by decide, by decide, by decide, by decide, rfl⟩ 0 rfl rfl rfl rfl hl.1 (Nat.le_of_ble_eq_true rfl) ⟨Nat.le_refl _, Nat.le_refl _⟩ dX5_putCode_36 (fun H locs hw => ?_)
      refine lv_istore (lv' := [(7, .int y_36), (6, .int ((x1 >>> (y_20 &&& 31)) &&& 1)), (5, .int (x3 + x4)), (0, .ref h_t), (1, .int x1), (2, .int x2), (3, .int x3), (4, .int x4)]) hx hb dX5_putCode_39 hl (by decide) rfl (fun ls hl => ?_)
      refine lv_aload_n hx hb dX5_putCode_41 rfl (lv_at hl 3 rfl) ?_
      refine gx_get C hw 0 rfl (gx_gr rfl) ln_X5_putCode_20 dX5_putCode_42 ?_
      refine lv_iload hx hb dX5_putCode_45 (lv_at hl 2 rfl) ?_
      refine lv_iconst (v := 3) hx hb dX5_putCode_47 (by decide) ?_
      refine lv_ishr hx hb dX5_putCode_48 ?_
      refine lv_iload hx hb dX5_putCode_49 (lv_at hl 0 rfl) ?_
      refine lv_iload hx hb dX5_putCode_51 (lv_at hl 1 rfl) ?_
      refine lv_aload_n hx hb dX5_putCode_53 rfl (lv_at hl 3 rfl) ?_
      refine lv_iload hx hb dX5_putCode_54 (lv_at hl 2 rfl) ?_
      obtain ⟨y_56, hy_56, hf⟩ := gx_b hf
      refine gx_calli (As := [.int (x3 + x4)]) (ws' := wd_X5_putCode cI cZ h_t h_t_rules h_t_bytes h_t_bytes_cells V_t V_t_rules V_t_bytes V_t_bytes_cells) (isC := [0, 1]) (isR := [2, 3]) (isP := [2, 3, 0, 1]) C hw (ct_X5_placeInByte l D cI cZ h_t h_t_rules h_t_bytes V_t V_t_rules (x3 + x4) hy_56) kl_X5_putCode_39 ⟨rfl, rfl⟩ ⟨rfl, rfl, by decide, by decide, by decide, by decide, rfl⟩ 0 rfl rfl rfl rfl hl.1 (Nat.le_of_ble_eq_true rfl) ⟨Nat.le_refl _, Nat.le_refl _⟩ dX5_putCode_56 (fun H locs hw => ?_)
      refine lv_ishl hx hb dX5_putCode_59 ?_
      refine lv_ior hx hb dX5_putCode_60 ?_
      obtain ⟨y_61, hy_61, hf⟩ := gx_b hf
      refine gx_callv (As := [.int ((x3 + x4) >>> (3 &&& 31)), .int (y_36 ||| (((x1 >>> (y_20 &&& 31)) &&& 1) <<< (y_56 &&& 31)))]) (ws' := wd_X5_putCode cI cZ h_t h_t_rules h_t_bytes h_t_bytes_cells V_t V_t_rules V_t_bytes y_61) (isC := [2, 3]) (isR := [0, 1]) (isP := [0, 1, 2, 3]) C hw (ct_X2_set l D cI cZ h_t_bytes h_t_bytes_cells 400 V_t_bytes V_t_bytes_cells ((x3 + x4) >>> (3 &&& 31)) (y_36 ||| (((x1 >>> (y_20 &&& 31)) &&& 1) <<< (y_56 &&& 31))) hy_61) kl_X5_putCode_46 ⟨rfl, rfl⟩ ⟨rfl, rfl, by decide, by decide, by decide, by decide, rfl⟩ 0 rfl rfl rfl rfl hl.1 (Nat.le_of_ble_eq_true rfl) ⟨Nat.le_refl _, Nat.le_refl _⟩ dX5_putCode_61 (fun H locs hw => ?_)
      refine lv_iinc (v := (x4 + 1)) (lv' := [(4, .int (x4 + 1)), (7, .int y_36), (6, .int ((x1 >>> (y_20 &&& 31)) &&& 1)), (5, .int (x3 + x4)), (0, .ref h_t), (1, .int x1), (2, .int x2), (3, .int x3)]) hx hb dX5_putCode_64 hl (k := 7) rfl rfl (by decide) rfl (fun ls hl => ?_)
      refine lv_goto (tgt := 3) hx hb dX5_putCode_67 (by decide) ?_
      exact ih y_61 x1 x2 x3 (x4 + 1) _ _ _ (lv_sub hl [4, 5, 6, 7, 0] rfl) hw hf
set_option maxHeartbeats 4000000 in
set_option maxRecDepth 100000 in
theorem ct_X5_putCode (l : Launch) (D : va_G) (cI cZ : ClassId) (h_t h_t_rules h_t_bytes h_t_bytes_cells : Nat) (V_t V_t_rules V_t_bytes V_t_bytes_cells : Nat → Int32) (a1 a2 a3 : Int32) {z : (Nat → Int32)} (hf : fn_X5_putCode V_t_rules V_t_bytes V_t_bytes_cells a1 a2 a3 = some z) : gx_Mv l yX5_putCode wsX5_putCode (gx_rm 1) D cI cZ [.ref h_t, .int a1, .int a2, .int a3] (wd_X5_putCode cI cZ h_t h_t_rules h_t_bytes h_t_bytes_cells V_t V_t_rules V_t_bytes V_t_bytes_cells) (wd_X5_putCode cI cZ h_t h_t_rules h_t_bytes h_t_bytes_cells V_t V_t_rules V_t_bytes z) := by
  refine gx_ofv (cc := cX5_putCode) (own := RX5) (by decide) rfl rfl (Nat.le_of_ble_eq_true rfl) [(0, .ref h_t), (1, .int a1), (2, .int a2), (3, .int a3)] rfl ?_
  intro p e s m args below meth c A Q ls C hQ hl hw
  have hx := C.1.1
  have hb := C.1.2.1
  rw [fn_X5_putCode] at hf
  refine lv_iconst (v := 0) hx hb dX5_putCode_0 (by decide) ?_
  refine lv_istore (lv' := [(4, .int 0), (0, .ref h_t), (1, .int a1), (2, .int a2), (3, .int a3)]) hx hb dX5_putCode_1 hl (by decide) rfl (fun ls hl => ?_)
  exact tm_X5_putCode_3 C h_t h_t_rules h_t_bytes h_t_bytes_cells V_t V_t_rules V_t_bytes hQ  gx_fuel V_t_bytes_cells a1 a2 a3 0 _ _ _ (lv_sub hl [1, 2, 3, 4, 0] rfl) hw hf
end
