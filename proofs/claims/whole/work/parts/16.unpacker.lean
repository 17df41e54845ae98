section
variable {p : Program} {l : Launch} {e : Env} {s : State} {m : MethodId} {args : Array Value} {below : List Frame} {meth : Method} {c : Code} {D : va_G} {cI cZ : ClassId} {A : Nat → Prop} {Q : State → Prop}
-- LzwForms$Unpacker.begin: touched ['t', 't_rules', 't_pace', 't_symbols']; used ['t', 't_rules', 't_pace', 't_symbols']; mod ['t', 't_pace', 't_symbols']; height 2
theorem ln_X6_begin_24 : gx_L wsX6_begin RX6 24 6 2 := ⟨_, _, _, rfl, by decide +kernel, by decide, Or.inl (by decide +kernel)⟩
theorem ln_X6_begin_33 : gx_L wsX6_begin RX6 33 6 3 := ⟨_, _, _, rfl, by decide +kernel, by decide, Or.inl (by decide +kernel)⟩
theorem lp_X6_begin_73 : gx_LP wsX6_begin RX6 73 6 8 false .int := ⟨_, _, _, tyX6, rfl, by decide +kernel, by decide, by decide +kernel, tyX6_ok, nmX6, by decide +kernel, by decide +kernel, by decide +kernel⟩
theorem lp_X6_begin_92 : gx_LP wsX6_begin RX6 92 6 6 false .int := ⟨_, _, _, tyX6, rfl, by decide +kernel, by decide, by decide +kernel, tyX6_ok, nmX6, by decide +kernel, by decide +kernel, by decide +kernel⟩
theorem lp_X6_begin_95 : gx_LP wsX6_begin RX6 95 6 7 false .int := ⟨_, _, _, tyX6, rfl, by decide +kernel, by decide, by decide +kernel, tyX6_ok, nmX6, by decide +kernel, by decide +kernel, by decide +kernel⟩
theorem lp_X6_begin_98 : gx_LP wsX6_begin RX6 98 6 9 false .int := ⟨_, _, _, tyX6, rfl, by decide +kernel, by decide, by decide +kernel, tyX6_ok, nmX6, by decide +kernel, by decide +kernel, by decide +kernel⟩
theorem kl_X6_begin_88 : gx_KV wsX6_begin RX6 88 yX0_begin cX0_begin 1 none wsX0_begin (gx_rm 1) (gx_rm 2) 0 := ⟨gX6_begin_X0_begin, ⟨_, rfl⟩, ⟨by decide, by decide, by decide +kernel⟩, ⟨by decide, by decide⟩⟩
theorem kl_X6_begin_89 : gx_KV wsX6_begin RX6 89 yX2_shrinkTo cX2_shrinkTo 2 none wsX2_shrinkTo (gx_rm 0) (gx_rm 2) 1 := ⟨gX6_begin_X2_shrinkTo, ⟨_, rfl⟩, ⟨by decide, by decide, by decide +kernel⟩, ⟨by decide, by decide⟩⟩
def wd_X6_begin (cI cZ : ClassId) (h_t h_t_rules h_t_tape h_t_pace h_t_symbols h_t_symbols_cells h_t_starts h_t_lengths : Nat) (V_t V_t_rules V_t_pace V_t_symbols : Nat → Int32) : va_W := [gx_o h_t 6 [some (some h_t_rules), some (some h_t_tape), some (some h_t_pace), some (some h_t_symbols), some (some h_t_starts), some (some h_t_lengths), none, none, none, none] V_t, gx_o h_t_rules 3 [none, none, none, none, none, none, none, none, none, none, none, none] V_t_rules, gx_o h_t_pace 0 [some (some h_t_rules), none, none, none, none, none, none] V_t_pace, gx_o h_t_symbols 2 [some (some h_t_symbols_cells), none] V_t_symbols]
set_option maxHeartbeats 4000000 in
set_option maxRecDepth 100000 in
theorem ct_X6_begin (l : Launch) (D : va_G) (cI cZ : ClassId) (h_t h_t_rules h_t_tape h_t_pace h_t_symbols h_t_symbols_cells h_t_starts h_t_lengths : Nat) (V_t V_t_rules V_t_pace V_t_symbols : Nat → Int32) {z : (Nat → Int32) × (Nat → Int32) × (Nat → Int32)} (hf : fn_X6_begin V_t V_t_rules V_t_pace V_t_symbols = some z) : gx_Mv l yX6_begin wsX6_begin (gx_rm 2) D cI cZ [.ref h_t] (wd_X6_begin cI cZ h_t h_t_rules h_t_tape h_t_pace h_t_symbols h_t_symbols_cells h_t_starts h_t_lengths V_t V_t_rules V_t_pace V_t_symbols) (wd_X6_begin cI cZ h_t h_t_rules h_t_tape h_t_pace h_t_symbols h_t_symbols_cells h_t_starts h_t_lengths z.1 V_t_rules z.2.1 z.2.2) := by
  refine gx_ofv (cc := cX6_begin) (own := RX6) (by decide) rfl rfl (Nat.le_of_ble_eq_true rfl) [(0, .ref h_t)] rfl ?_
  intro p e s m args below meth c A Q ls C hQ hl hw
  have hx := C.1.1
  have hb := C.1.2.1
  rw [fn_X6_begin] at hf
  refine lv_aload_n hx hb dX6_begin_0 rfl (lv_at hl 0 rfl) ?_
  refine gx_get C hw 0 rfl (gx_gr rfl) ln_X6_begin_24 dX6_begin_1 ?_
  obtain ⟨y_4, hy_4, hf⟩ := gx_b hf
  refine gx_callv (As := []) (ws' := wd_X6_begin cI cZ h_t h_t_rules h_t_tape h_t_pace h_t_symbols h_t_symbols_cells h_t_starts h_t_lengths V_t V_t_rules y_4 V_t_symbols) (isC := [2, 1]) (isR := [0, 3]) (isP := [0, 3, 2, 1]) C hw (ct_X0_begin l D cI cZ h_t_pace h_t_rules V_t_pace V_t_rules hy_4) kl_X6_begin_88 ⟨rfl, rfl⟩ ⟨rfl, rfl, by decide, by decide, by decide, by decide, rfl⟩ 0 rfl rfl rfl rfl hl.1 (Nat.le_of_ble_eq_true rfl) ⟨Nat.le_refl _, Nat.le_refl _⟩ dX6_begin_4 (fun H locs hw => ?_)
  refine lv_aload_n hx hb dX6_begin_7 rfl (lv_at hl 0 rfl) ?_
  refine gx_get C hw 0 rfl (gx_gr rfl) ln_X6_begin_33 dX6_begin_8 ?_
  refine lv_iconst (v := 0) hx hb dX6_begin_11 (by decide) ?_
  obtain ⟨y_12, hy_12, hf⟩ := gx_b hf
  refine gx_callv (As := [.int 0]) (ws' := wd_X6_begin cI cZ h_t h_t_rules h_t_tape h_t_pace h_t_symbols h_t_symbols_cells h_t_starts h_t_lengths V_t V_t_rules y_4 y_12) (isC := [3]) (isR := [0, 1, 2]) (isP := [0, 1, 2, 3]) C hw (ct_X2_shrinkTo l D cI cZ h_t_symbols h_t_symbols_cells V_t_symbols 0 hy_12) kl_X6_begin_89 ⟨rfl, rfl⟩ ⟨rfl, rfl, by decide, by decide, by decide, by decide, rfl⟩ 0 rfl rfl rfl rfl hl.1 (Nat.le_of_ble_eq_true rfl) ⟨Nat.le_refl _, Nat.le_refl _⟩ dX6_begin_12 (fun H locs hw => ?_)
  refine lv_aload_n hx hb dX6_begin_15 rfl (lv_at hl 0 rfl) ?_
  refine lv_iconst (v := 0) hx hb dX6_begin_16 (by decide) ?_
  refine gx_put (ws' := wd_X6_begin cI cZ h_t h_t_rules h_t_tape h_t_pace h_t_symbols h_t_symbols_cells h_t_starts h_t_lengths (upd V_t 6 0) V_t_rules y_4 y_12) C hw 0 rfl rfl lp_X6_begin_92 rfl rfl rfl dX6_begin_17 (fun H locs hw => ?_)
  refine lv_aload_n hx hb dX6_begin_20 rfl (lv_at hl 0 rfl) ?_
  refine lv_iconst (v := 0) hx hb dX6_begin_21 (by decide) ?_
  refine gx_put (ws' := wd_X6_begin cI cZ h_t h_t_rules h_t_tape h_t_pace h_t_symbols h_t_symbols_cells h_t_starts h_t_lengths (upd (upd V_t 6 0) 7 0) V_t_rules y_4 y_12) C hw 0 rfl rfl lp_X6_begin_95 rfl rfl rfl dX6_begin_22 (fun H locs hw => ?_)
  refine lv_aload_n hx hb dX6_begin_25 rfl (lv_at hl 0 rfl) ?_
  refine lv_iconst (v := 0) hx hb dX6_begin_26 (by decide) ?_
  refine gx_put (ws' := wd_X6_begin cI cZ h_t h_t_rules h_t_tape h_t_pace h_t_symbols h_t_symbols_cells h_t_starts h_t_lengths (upd (upd (upd V_t 6 0) 7 0) 8 0) V_t_rules y_4 y_12) C hw 0 rfl rfl lp_X6_begin_73 rfl rfl rfl dX6_begin_27 (fun H locs hw => ?_)
  refine lv_aload_n hx hb dX6_begin_30 rfl (lv_at hl 0 rfl) ?_
  refine lv_iconst (v := 0) hx hb dX6_begin_31 (by decide) ?_
  refine gx_put (ws' := wd_X6_begin cI cZ h_t h_t_rules h_t_tape h_t_pace h_t_symbols h_t_symbols_cells h_t_starts h_t_lengths (upd (upd (upd (upd V_t 6 0) 7 0) 8 0) 9 0) V_t_rules y_4 y_12) C hw 0 rfl rfl lp_X6_begin_98 rfl rfl rfl dX6_begin_32 (fun H locs hw => ?_)
  obtain rfl := Option.some.inj hf
  exact hQ _ _ _ _ dX6_begin_35 hw
-- LzwForms$Unpacker.bitsLeft: touched ['t', 't_tape', 't_tape_bytes']; used ['t', 't_tape_bytes']; mod []; height 2
theorem ln_X6_bitsLeft_15 : gx_L wsX6_bitsLeft RX6 15 6 1 := ⟨_, _, _, rfl, by decide +kernel, by decide, Or.inl (by decide +kernel)⟩
theorem ln_X6_bitsLeft_73 : gx_L wsX6_bitsLeft RX6 73 6 8 := ⟨_, _, _, rfl, by decide +kernel, by decide, Or.inl (by decide +kernel)⟩
theorem kl_X6_bitsLeft_64 : gx_KV wsX6_bitsLeft RX6 64 yX5_bits cX5_bits 1 (some .int) wsX5_bits (gx_rm 1) (gx_rm 2) 0 := ⟨gX6_bitsLeft_X5_bits, ⟨_, rfl⟩, ⟨by decide, by decide, by decide +kernel⟩, ⟨by decide, by decide⟩⟩
def wd_X6_bitsLeft (cI cZ : ClassId) (h_t h_t_rules h_t_tape h_t_tape_bytes h_t_tape_bytes_cells h_t_pace h_t_symbols h_t_starts h_t_lengths : Nat) (V_t V_t_tape V_t_tape_bytes : Nat → Int32) : va_W := [gx_o h_t 6 [some (some h_t_rules), some (some h_t_tape), some (some h_t_pace), some (some h_t_symbols), some (some h_t_starts), some (some h_t_lengths), none, none, none, none] V_t, gx_o h_t_tape 5 [some (some h_t_rules), some (some h_t_tape_bytes)] V_t_tape, gx_o h_t_tape_bytes 2 [some (some h_t_tape_bytes_cells), none] V_t_tape_bytes]
set_option maxHeartbeats 4000000 in
set_option maxRecDepth 100000 in
theorem ct_X6_bitsLeft (l : Launch) (D : va_G) (cI cZ : ClassId) (h_t h_t_rules h_t_tape h_t_tape_bytes h_t_tape_bytes_cells h_t_pace h_t_symbols h_t_starts h_t_lengths : Nat) (V_t V_t_tape V_t_tape_bytes : Nat → Int32) {z : Int32} (hf : fn_X6_bitsLeft V_t V_t_tape_bytes = some z) : gx_Mi l yX6_bitsLeft wsX6_bitsLeft (gx_rm 2) D cI cZ [.ref h_t] (wd_X6_bitsLeft cI cZ h_t h_t_rules h_t_tape h_t_tape_bytes h_t_tape_bytes_cells h_t_pace h_t_symbols h_t_starts h_t_lengths V_t V_t_tape V_t_tape_bytes) (wd_X6_bitsLeft cI cZ h_t h_t_rules h_t_tape h_t_tape_bytes h_t_tape_bytes_cells h_t_pace h_t_symbols h_t_starts h_t_lengths V_t V_t_tape V_t_tape_bytes) z := by
  refine gx_ofi (cc := cX6_bitsLeft) (own := RX6) (by decide) rfl rfl (Nat.le_of_ble_eq_true rfl) [(0, .ref h_t)] rfl ?_
  intro p e s m args below meth c A Q ls C hQ hl hw
  have hx := C.1.1
  have hb := C.1.2.1
  rw [fn_X6_bitsLeft] at hf
  refine lv_aload_n hx hb dX6_bitsLeft_0 rfl (lv_at hl 0 rfl) ?_
  refine gx_get C hw 0 rfl (gx_gr rfl) ln_X6_bitsLeft_15 dX6_bitsLeft_1 ?_
  obtain ⟨y_4, hy_4, hf⟩ := gx_b hf
  refine gx_calli (As := []) (ws' := wd_X6_bitsLeft cI cZ h_t h_t_rules h_t_tape h_t_tape_bytes h_t_tape_bytes_cells h_t_pace h_t_symbols h_t_starts h_t_lengths V_t V_t_tape V_t_tape_bytes) (isC := [1, 2]) (isR := [0]) (isP := [0, 1, 2]) C hw (ct_X5_bits l D cI cZ h_t_tape h_t_rules h_t_tape_bytes h_t_tape_bytes_cells V_t_tape V_t_tape_bytes hy_4) kl_X6_bitsLeft_64 ⟨rfl, rfl⟩ ⟨rfl, rfl, by decide, by decide, by decide, by decide, rfl⟩ 0 rfl rfl rfl rfl hl.1 (Nat.le_of_ble_eq_true rfl) ⟨Nat.le_refl _, Nat.le_refl _⟩ dX6_bitsLeft_4 (fun H locs hw => ?_)
  refine lv_aload_n hx hb dX6_bitsLeft_7 rfl (lv_at hl 0 rfl) ?_
  refine gx_get (v := .int (V_t 8)) C hw 0 rfl (gx_gj rfl rfl) ln_X6_bitsLeft_73 dX6_bitsLeft_8 ?_
  refine lv_isub hx hb dX6_bitsLeft_11 ?_
  obtain rfl := Option.some.inj hf
  exact hQ _ _ _ _ dX6_bitsLeft_12 rfl hw
-- LzwForms$Unpacker.nextBit: touched ['t', 't_rules', 't_tape', 't_tape_bytes', 't_tape_bytes_cells']; used ['t', 't_rules', 't_tape_bytes', 't_tape_bytes_cells']; mod ['t']; height 2
theorem ln_X6_nextBit_15 : gx_L wsX6_nextBit RX6 15 6 1 := ⟨_, _, _, rfl, by decide +kernel, by decide, Or.inl (by decide +kernel)⟩
theorem ln_X6_nextBit_73 : gx_L wsX6_nextBit RX6 73 6 8 := ⟨_, _, _, rfl, by decide +kernel, by decide, Or.inl (by decide +kernel)⟩
theorem lp_X6_nextBit_73 : gx_LP wsX6_nextBit RX6 73 6 8 false .int := ⟨_, _, _, tyX6, rfl, by decide +kernel, by decide, by decide +kernel, tyX6_ok, nmX6, by decide +kernel, by decide +kernel, by decide +kernel⟩
theorem kl_X6_nextBit_101 : gx_KV wsX6_nextBit RX6 101 yX5_bit cX5_bit 2 (some .int) wsX5_bit (gx_rm 1) (gx_rm 2) 1 := ⟨gX6_nextBit_X5_bit, ⟨_, rfl⟩, ⟨by decide, by decide, by decide +kernel⟩, ⟨by decide, by decide⟩⟩
def wd_X6_nextBit (cI cZ : ClassId) (h_t h_t_rules h_t_tape h_t_tape_bytes h_t_tape_bytes_cells h_t_pace h_t_symbols h_t_starts h_t_lengths : Nat) (V_t V_t_rules V_t_tape V_t_tape_bytes V_t_tape_bytes_cells : Nat → Int32) : va_W := [gx_o h_t 6 [some (some h_t_rules), some (some h_t_tape), some (some h_t_pace), some (some h_t_symbols), some (some h_t_starts), some (some h_t_lengths), none, none, none, none] V_t, gx_o h_t_rules 3 [none, none, none, none, none, none, none, none, none, none, none, none] V_t_rules, gx_o h_t_tape 5 [some (some h_t_rules), some (some h_t_tape_bytes)] V_t_tape, gx_o h_t_tape_bytes 2 [some (some h_t_tape_bytes_cells), none] V_t_tape_bytes, gx_a h_t_tape_bytes_cells cI 400 V_t_tape_bytes_cells]
set_option maxHeartbeats 4000000 in
set_option maxRecDepth 100000 in
theorem ct_X6_nextBit (l : Launch) (D : va_G) (cI cZ : ClassId) (h_t h_t_rules h_t_tape h_t_tape_bytes h_t_tape_bytes_cells h_t_pace h_t_symbols h_t_starts h_t_lengths : Nat) (V_t V_t_rules V_t_tape V_t_tape_bytes V_t_tape_bytes_cells : Nat → Int32) {z : Int32 × (Nat → Int32)} (hf : fn_X6_nextBit V_t V_t_rules V_t_tape_bytes V_t_tape_bytes_cells = some z) : gx_Mi l yX6_nextBit wsX6_nextBit (gx_rm 2) D cI cZ [.ref h_t] (wd_X6_nextBit cI cZ h_t h_t_rules h_t_tape h_t_tape_bytes h_t_tape_bytes_cells h_t_pace h_t_symbols h_t_starts h_t_lengths V_t V_t_rules V_t_tape V_t_tape_bytes V_t_tape_bytes_cells) (wd_X6_nextBit cI cZ h_t h_t_rules h_t_tape h_t_tape_bytes h_t_tape_bytes_cells h_t_pace h_t_symbols h_t_starts h_t_lengths z.2 V_t_rules V_t_tape V_t_tape_bytes V_t_tape_bytes_cells) z.1 := by
  refine gx_ofi (cc := cX6_nextBit) (own := RX6) (by decide) rfl rfl (Nat.le_of_ble_eq_true rfl) [(0, .ref h_t)] rfl ?_
  intro p e s m args below meth c A Q ls C hQ hl hw
  have hx := C.1.1
  have hb := C.1.2.1
  rw [fn_X6_nextBit] at hf
  refine lv_aload_n hx hb dX6_nextBit_0 rfl (lv_at hl 0 rfl) ?_
  refine gx_get C hw 0 rfl (gx_gr rfl) ln_X6_nextBit_15 dX6_nextBit_1 ?_
  refine lv_aload_n hx hb dX6_nextBit_4 rfl (lv_at hl 0 rfl) ?_
  refine gx_get (v := .int (V_t 8)) C hw 0 rfl (gx_gj rfl rfl) ln_X6_nextBit_73 dX6_nextBit_5 ?_
  obtain ⟨y_8, hy_8, hf⟩ := gx_b hf
  refine gx_calli (As := [.int (V_t 8)]) (ws' := wd_X6_nextBit cI cZ h_t h_t_rules h_t_tape h_t_tape_bytes h_t_tape_bytes_cells h_t_pace h_t_symbols h_t_starts h_t_lengths V_t V_t_rules V_t_tape V_t_tape_bytes V_t_tape_bytes_cells) (isC := [2, 1, 3, 4]) (isR := [0]) (isP := [0, 2, 1, 3, 4]) C hw (ct_X5_bit l D cI cZ h_t_tape h_t_rules h_t_tape_bytes h_t_tape_bytes_cells V_t_tape V_t_rules V_t_tape_bytes V_t_tape_bytes_cells (V_t 8) hy_8) kl_X6_nextBit_101 ⟨rfl, rfl⟩ ⟨rfl, rfl, by decide, by decide, by decide, by decide, rfl⟩ 0 rfl rfl rfl rfl hl.1 (Nat.le_of_ble_eq_true rfl) ⟨Nat.le_refl _, Nat.le_refl _⟩ dX6_nextBit_8 (fun H locs hw => ?_)
  refine lv_istore_n (lv' := [(1, .int y_8), (0, .ref h_t)]) hx hb dX6_nextBit_11 rfl hl (by decide) rfl (fun ls hl => ?_)
  refine lv_aload_n hx hb dX6_nextBit_12 rfl (lv_at hl 1 rfl) ?_
  refine lv_dup hx hb dX6_nextBit_13 rfl ?_
  refine gx_get (v := .int (V_t 8)) C hw 0 rfl (gx_gj rfl rfl) ln_X6_nextBit_73 dX6_nextBit_14 ?_
  refine lv_iconst (v := 1) hx hb dX6_nextBit_17 (by decide) ?_
  refine lv_iadd hx hb dX6_nextBit_18 ?_
  refine gx_put (ws' := wd_X6_nextBit cI cZ h_t h_t_rules h_t_tape h_t_tape_bytes h_t_tape_bytes_cells h_t_pace h_t_symbols h_t_starts h_t_lengths (upd V_t 8 ((V_t 8) + 1)) V_t_rules V_t_tape V_t_tape_bytes V_t_tape_bytes_cells) C hw 0 rfl rfl lp_X6_nextBit_73 rfl rfl rfl dX6_nextBit_19 (fun H locs hw => ?_)
  refine lv_iload_n hx hb dX6_nextBit_22 rfl (lv_at hl 0 rfl) ?_
  obtain rfl := Option.some.inj hf
  exact hQ _ _ _ _ dX6_nextBit_23 rfl hw
-- LzwForms$Unpacker.zerosUpTo: touched ['t', 't_rules', 't_tape', 't_tape_bytes', 't_tape_bytes_cells']; used ['t', 't_rules', 't_tape_bytes', 't_tape_bytes_cells']; mod ['t']; height 3
theorem ln_X6_zerosUpTo_73 : gx_L wsX6_zerosUpTo RX6 73 6 8 := ⟨_, _, _, rfl, by decide +kernel, by decide, Or.inl (by decide +kernel)⟩
theorem kl_X6_zerosUpTo_104 : gx_KV wsX6_zerosUpTo RX6 104 yX6_nextBit cX6_nextBit 2 (some .int) wsX6_nextBit (gx_rm 2) (gx_rm 3) 0 := ⟨gX6_zerosUpTo_X6_nextBit, ⟨_, rfl⟩, ⟨by decide, by decide, by decide +kernel⟩, ⟨by decide, by decide⟩⟩
def wd_X6_zerosUpTo (cI cZ : ClassId) (h_t h_t_rules h_t_tape h_t_tape_bytes h_t_tape_bytes_cells h_t_pace h_t_symbols h_t_starts h_t_lengths : Nat) (V_t V_t_rules V_t_tape V_t_tape_bytes V_t_tape_bytes_cells : Nat → Int32) : va_W := [gx_o h_t 6 [some (some h_t_rules), some (some h_t_tape), some (some h_t_pace), some (some h_t_symbols), some (some h_t_starts), some (some h_t_lengths), none, none, none, none] V_t, gx_o h_t_rules 3 [none, none, none, none, none, none, none, none, none, none, none, none] V_t_rules, gx_o h_t_tape 5 [some (some h_t_rules), some (some h_t_tape_bytes)] V_t_tape, gx_o h_t_tape_bytes 2 [some (some h_t_tape_bytes_cells), none] V_t_tape_bytes, gx_a h_t_tape_bytes_cells cI 400 V_t_tape_bytes_cells]
set_option maxHeartbeats 4000000 in
set_option maxRecDepth 100000 in
theorem tm_X6_zerosUpTo_5 (C : gx_C cX6_zerosUpTo 3 wsX6_zerosUpTo RX6 D cI cZ p s m args c) (h_t h_t_rules h_t_tape h_t_tape_bytes h_t_tape_bytes_cells h_t_pace h_t_symbols h_t_starts h_t_lengths : Nat) (V_t_rules V_t_tape V_t_tape_bytes V_t_tape_bytes_cells : Nat → Int32) {z : Int32 × (Nat → Int32)} (hQ : gx_Qi cX6_zerosUpTo .int p l e (gx_rm 3) s m args below meth c D A Q (wd_X6_zerosUpTo cI cZ h_t h_t_rules h_t_tape h_t_tape_bytes h_t_tape_bytes_cells h_t_pace h_t_symbols h_t_starts h_t_lengths z.2 V_t_rules V_t_tape V_t_tape_bytes V_t_tape_bytes_cells) z.1) : ∀ (n : Nat), (∀ (V_t : Nat → Int32) (x1 x2 : Int32) (ls : Array Slot) (H : Heap) (locs : List Loc), lv_has ls 3 [(0, .ref h_t), (1, .int x1), (2, .int x2)] → gx_W D A s (wd_X6_zerosUpTo cI cZ h_t h_t_rules h_t_tape h_t_tape_bytes h_t_tape_bytes_cells h_t_pace h_t_symbols h_t_starts h_t_lengths V_t V_t_rules V_t_tape V_t_tape_bytes V_t_tape_bytes_cells) H locs → fn_X6_zerosUpTo_l5 V_t_rules V_t_tape_bytes V_t_tape_bytes_cells n V_t x1 x2 = some z → W p l e (gx_rm 3) s m args below meth c H locs 0 0 Q (F0 m 5 ls [])) := by
  have hx := C.1.1
  have hb := C.1.2.1
  intro n
  induction n with
  | zero => intro V_t x1 x2 ls H locs hl hw hf; rw [fn_X6_zerosUpTo_l5] at hf; cases hf
  | succ n ih =>
    intro V_t x1 x2 ls H locs hl hw hf
    rw [fn_X6_zerosUpTo_l5] at hf
    refine lv_iload_n hx hb dX6_zerosUpTo_5 rfl (lv_at hl 2 rfl) ?_
    refine lv_iload_n hx hb dX6_zerosUpTo_6 rfl (lv_at hl 1 rfl) ?_
    refine lv_icmp_ge (tgt := 26) hx hb dX6_zerosUpTo_7 (by decide) (fun hc => ?_) (fun hc => ?_)
    · replace hf := gx_t hc hf
      refine lv_iconst (v := 0) hx hb dX6_zerosUpTo_26 (by decide) ?_
      obtain rfl := Option.some.inj hf
      exact hQ _ _ _ _ dX6_zerosUpTo_27 rfl hw
    · replace hf := gx_f hc hf
      refine lv_aload_n hx hb dX6_zerosUpTo_10 rfl (lv_at hl 0 rfl) ?_
      obtain ⟨y_11, hy_11, hf⟩ := gx_b hf
      refine gx_calli (As := []) (ws' := wd_X6_zerosUpTo cI cZ h_t h_t_rules h_t_tape h_t_tape_bytes h_t_tape_bytes_cells h_t_pace h_t_symbols h_t_starts h_t_lengths y_11.2 V_t_rules V_t_tape V_t_tape_bytes V_t_tape_bytes_cells) (isC := [0, 1, 2, 3, 4]) (isR := []) (isP := [0, 1, 2, 3, 4]) C hw (ct_X6_nextBit l D cI cZ h_t h_t_rules h_t_tape h_t_tape_bytes h_t_tape_bytes_cells h_t_pace h_t_symbols h_t_starts h_t_lengths V_t V_t_rules V_t_tape V_t_tape_bytes V_t_tape_bytes_cells hy_11) kl_X6_zerosUpTo_104 ⟨rfl, rfl⟩ ⟨rfl, rfl, by decide, by decide, by decide, by decide, rfl⟩ 0 rfl rfl rfl rfl hl.1 (Nat.le_of_ble_eq_true rfl) ⟨Nat.le_refl _, Nat.le_refl _⟩ dX6_zerosUpTo_11 (fun H locs hw => ?_)
      refine lv_if_eq (tgt := 20) hx hb dX6_zerosUpTo_14 (by decide) (fun hc => ?_) (fun hc => ?_)
      · replace hf := gx_t hc hf
        refine lv_iinc (v := (x2 + 1)) (lv' := [(2, .int (x2 + 1)), (0, .ref h_t), (1, .int x1)]) hx hb dX6_zerosUpTo_20 hl (k := 2) rfl rfl (by decide) rfl (fun ls hl => ?_)
        refine lv_goto (tgt := 5) hx hb dX6_zerosUpTo_23 (by decide) ?_
        exact ih y_11.2 x1 (x2 + 1) _ _ _ (lv_sub hl [1, 2, 0] rfl) hw hf
      · replace hf := gx_f hc hf
        refine lv_bipush (v := 6) hx hb dX6_zerosUpTo_17 (by decide) ?_
        obtain rfl := Option.some.inj hf
        exact hQ _ _ _ _ dX6_zerosUpTo_19 rfl hw
set_option maxHeartbeats 4000000 in
set_option maxRecDepth 100000 in
theorem ct_X6_zerosUpTo (l : Launch) (D : va_G) (cI cZ : ClassId) (h_t h_t_rules h_t_tape h_t_tape_bytes h_t_tape_bytes_cells h_t_pace h_t_symbols h_t_starts h_t_lengths : Nat) (V_t V_t_rules V_t_tape V_t_tape_bytes V_t_tape_bytes_cells : Nat → Int32) (a1 : Int32) {z : Int32 × (Nat → Int32)} (hf : fn_X6_zerosUpTo V_t V_t_rules V_t_tape_bytes V_t_tape_bytes_cells a1 = some z) : gx_Mi l yX6_zerosUpTo wsX6_zerosUpTo (gx_rm 3) D cI cZ [.ref h_t, .int a1] (wd_X6_zerosUpTo cI cZ h_t h_t_rules h_t_tape h_t_tape_bytes h_t_tape_bytes_cells h_t_pace h_t_symbols h_t_starts h_t_lengths V_t V_t_rules V_t_tape V_t_tape_bytes V_t_tape_bytes_cells) (wd_X6_zerosUpTo cI cZ h_t h_t_rules h_t_tape h_t_tape_bytes h_t_tape_bytes_cells h_t_pace h_t_symbols h_t_starts h_t_lengths z.2 V_t_rules V_t_tape V_t_tape_bytes V_t_tape_bytes_cells) z.1 := by
  refine gx_ofi (cc := cX6_zerosUpTo) (own := RX6) (by decide) rfl rfl (Nat.le_of_ble_eq_true rfl) [(0, .ref h_t), (1, .int a1)] rfl ?_
  intro p e s m args below meth c A Q ls C hQ hl hw
  have hx := C.1.1
  have hb := C.1.2.1
  rw [fn_X6_zerosUpTo] at hf
  refine lv_aload_n hx hb dX6_zerosUpTo_0 rfl (lv_at hl 0 rfl) ?_
  refine gx_get (v := .int (V_t 8)) C hw 0 rfl (gx_gj rfl rfl) ln_X6_zerosUpTo_73 dX6_zerosUpTo_1 ?_
  refine lv_istore_n (lv' := [(2, .int (V_t 8)), (0, .ref h_t), (1, .int a1)]) hx hb dX6_zerosUpTo_4 rfl hl (by decide) rfl (fun ls hl => ?_)
  exact tm_X6_zerosUpTo_5 C h_t h_t_rules h_t_tape h_t_tape_bytes h_t_tape_bytes_cells h_t_pace h_t_symbols h_t_starts h_t_lengths V_t_rules V_t_tape V_t_tape_bytes V_t_tape_bytes_cells hQ  gx_fuel V_t a1 (V_t 8) _ _ _ (lv_sub hl [1, 2, 0] rfl) hw hf
-- LzwForms$Unpacker.closeLastByte: touched ['t', 't_rules', 't_tape', 't_tape_bytes', 't_tape_bytes_cells']; used ['t', 't_rules', 't_tape_bytes', 't_tape_bytes_cells']; mod ['t']; height 4
theorem ln_X6_closeLastByte_73 : gx_L wsX6_closeLastByte RX6 73 6 8 := ⟨_, _, _, rfl, by decide +kernel, by decide, Or.inl (by decide +kernel)⟩
theorem kl_X6_closeLastByte_57 : gx_KV wsX6_closeLastByte RX6 57 yX6_bitsLeft cX6_bitsLeft 1 (some .int) wsX6_bitsLeft (gx_rm 2) (gx_rm 4) 0 := ⟨gX6_closeLastByte_X6_bitsLeft, ⟨_, rfl⟩, ⟨by decide, by decide, by decide +kernel⟩, ⟨by decide, by decide⟩⟩
theorem kl_X6_closeLastByte_69 : gx_KV wsX6_closeLastByte RX6 69 yX6_zerosUpTo cX6_zerosUpTo 3 (some .int) wsX6_zerosUpTo (gx_rm 3) (gx_rm 4) 1 := ⟨gX6_closeLastByte_X6_zerosUpTo, ⟨_, rfl⟩, ⟨by decide, by decide, by decide +kernel⟩, ⟨by decide, by decide⟩⟩
def wd_X6_closeLastByte (cI cZ : ClassId) (h_t h_t_rules h_t_tape h_t_tape_bytes h_t_tape_bytes_cells h_t_pace h_t_symbols h_t_starts h_t_lengths : Nat) (V_t V_t_rules V_t_tape V_t_tape_bytes V_t_tape_bytes_cells : Nat → Int32) : va_W := [gx_o h_t 6 [some (some h_t_rules), some (some h_t_tape), some (some h_t_pace), some (some h_t_symbols), some (some h_t_starts), some (some h_t_lengths), none, none, none, none] V_t, gx_o h_t_rules 3 [none, none, none, none, none, none, none, none, none, none, none, none] V_t_rules, gx_o h_t_tape 5 [some (some h_t_rules), some (some h_t_tape_bytes)] V_t_tape, gx_o h_t_tape_bytes 2 [some (some h_t_tape_bytes_cells), none] V_t_tape_bytes, gx_a h_t_tape_bytes_cells cI 400 V_t_tape_bytes_cells]
set_option maxHeartbeats 4000000 in
set_option maxRecDepth 100000 in
theorem ct_X6_closeLastByte (l : Launch) (D : va_G) (cI cZ : ClassId) (h_t h_t_rules h_t_tape h_t_tape_bytes h_t_tape_bytes_cells h_t_pace h_t_symbols h_t_starts h_t_lengths : Nat) (V_t V_t_rules V_t_tape V_t_tape_bytes V_t_tape_bytes_cells : Nat → Int32) {z : Int32 × (Nat → Int32)} (hf : fn_X6_closeLastByte V_t V_t_rules V_t_tape_bytes V_t_tape_bytes_cells = some z) : gx_Mi l yX6_closeLastByte wsX6_closeLastByte (gx_rm 4) D cI cZ [.ref h_t] (wd_X6_closeLastByte cI cZ h_t h_t_rules h_t_tape h_t_tape_bytes h_t_tape_bytes_cells h_t_pace h_t_symbols h_t_starts h_t_lengths V_t V_t_rules V_t_tape V_t_tape_bytes V_t_tape_bytes_cells) (wd_X6_closeLastByte cI cZ h_t h_t_rules h_t_tape h_t_tape_bytes h_t_tape_bytes_cells h_t_pace h_t_symbols h_t_starts h_t_lengths z.2 V_t_rules V_t_tape V_t_tape_bytes V_t_tape_bytes_cells) z.1 := by
  refine gx_ofi (cc := cX6_closeLastByte) (own := RX6) (by decide) rfl rfl (Nat.le_of_ble_eq_true rfl) [(0, .ref h_t)] rfl ?_
  intro p e s m args below meth c A Q ls C hQ hl hw
  have hx := C.1.1
  have hb := C.1.2.1
  rw [fn_X6_closeLastByte] at hf
  refine lv_aload_n hx hb dX6_closeLastByte_0 rfl (lv_at hl 0 rfl) ?_
  refine lv_aload_n hx hb dX6_closeLastByte_1 rfl (lv_at hl 0 rfl) ?_
  refine gx_get (v := .int (V_t 8)) C hw 0 rfl (gx_gj rfl rfl) ln_X6_closeLastByte_73 dX6_closeLastByte_2 ?_
  refine lv_bipush (v := 7) hx hb dX6_closeLastByte_5 (by decide) ?_
  refine lv_iadd hx hb dX6_closeLastByte_7 ?_
  refine lv_bipush (v := 8) hx hb dX6_closeLastByte_8 (by decide) ?_
  refine lv_idiv hx hb dX6_closeLastByte_10 (by decide) ?_
  refine lv_bipush (v := 8) hx hb dX6_closeLastByte_11 (by decide) ?_
  refine lv_imul hx hb dX6_closeLastByte_13 ?_
  obtain ⟨y_14, hy_14, hf⟩ := gx_b hf
  refine gx_calli (As := [.int ((((V_t 8) + 7) / 8) * 8)]) (ws' := wd_X6_closeLastByte cI cZ h_t h_t_rules h_t_tape h_t_tape_bytes h_t_tape_bytes_cells h_t_pace h_t_symbols h_t_starts h_t_lengths y_14.2 V_t_rules V_t_tape V_t_tape_bytes V_t_tape_bytes_cells) (isC := [0, 1, 2, 3, 4]) (isR := []) (isP := [0, 1, 2, 3, 4]) C hw (ct_X6_zerosUpTo l D cI cZ h_t h_t_rules h_t_tape h_t_tape_bytes h_t_tape_bytes_cells h_t_pace h_t_symbols h_t_starts h_t_lengths V_t V_t_rules V_t_tape V_t_tape_bytes V_t_tape_bytes_cells ((((V_t 8) + 7) / 8) * 8) hy_14) kl_X6_closeLastByte_69 ⟨rfl, rfl⟩ ⟨rfl, rfl, by decide, by decide, by decide, by decide, rfl⟩ 0 rfl rfl rfl rfl hl.1 (Nat.le_of_ble_eq_true rfl) ⟨Nat.le_refl _, Nat.le_refl _⟩ dX6_closeLastByte_14 (fun H locs hw => ?_)
  refine lv_istore_n (lv' := [(1, .int y_14.1), (0, .ref h_t)]) hx hb dX6_closeLastByte_17 rfl hl (by decide) rfl (fun ls hl => ?_)
  refine lv_iload_n hx hb dX6_closeLastByte_18 rfl (lv_at hl 0 rfl) ?_
  refine lv_if_ne (tgt := 34) hx hb dX6_closeLastByte_19 (by decide) (fun hc => ?_) (fun hc => ?_)
  · replace hf := gx_f hc hf
    refine lv_iload_n hx hb dX6_closeLastByte_34 rfl (lv_at hl 0 rfl) ?_
    obtain rfl := Option.some.inj hf
    exact hQ _ _ _ _ dX6_closeLastByte_35 rfl hw
  · replace hf := gx_t hc hf
    refine lv_aload_n hx hb dX6_closeLastByte_22 rfl (lv_at hl 1 rfl) ?_
    obtain ⟨y_23, hy_23, hf⟩ := gx_b hf
    refine gx_calli (As := []) (ws' := wd_X6_closeLastByte cI cZ h_t h_t_rules h_t_tape h_t_tape_bytes h_t_tape_bytes_cells h_t_pace h_t_symbols h_t_starts h_t_lengths y_14.2 V_t_rules V_t_tape V_t_tape_bytes V_t_tape_bytes_cells) (isC := [0, 2, 3]) (isR := [1, 4]) (isP := [2, 0, 3, 4, 1]) C hw (ct_X6_bitsLeft l D cI cZ h_t h_t_rules h_t_tape h_t_tape_bytes h_t_tape_bytes_cells h_t_pace h_t_symbols h_t_starts h_t_lengths y_14.2 V_t_tape V_t_tape_bytes hy_23) kl_X6_closeLastByte_57 ⟨rfl, rfl⟩ ⟨rfl, rfl, by decide, by decide, by decide, by decide, rfl⟩ 0 rfl rfl rfl rfl hl.1 (Nat.le_of_ble_eq_true rfl) ⟨Nat.le_refl _, Nat.le_refl _⟩ dX6_closeLastByte_23 (fun H locs hw => ?_)
    refine lv_if_le (tgt := 34) hx hb dX6_closeLastByte_26 (by decide) (fun hc => ?_) (fun hc => ?_)
    · replace hf := gx_t hc hf
      refine lv_iload_n hx hb dX6_closeLastByte_34 rfl (lv_at hl 0 rfl) ?_
      obtain rfl := Option.some.inj hf
      exact hQ _ _ _ _ dX6_closeLastByte_35 rfl hw
    · replace hf := gx_f hc hf
      refine lv_bipush (v := 6) hx hb dX6_closeLastByte_29 (by decide) ?_
      refine lv_goto (tgt := 35) hx hb dX6_closeLastByte_31 (by decide) ?_
      obtain rfl := Option.some.inj hf
      exact hQ _ _ _ _ dX6_closeLastByte_35 rfl hw
-- LzwForms$Unpacker.nextCode: touched ['t', 't_rules', 't_tape', 't_tape_bytes', 't_tape_bytes_cells', 't_pace']; used ['t', 't_rules', 't_tape_bytes', 't_tape_bytes_cells', 't_pace']; mod ['t']; height 3
theorem ln_X6_nextCode_15 : gx_L wsX6_nextCode RX6 15 6 1 := ⟨_, _, _, rfl, by decide +kernel, by decide, Or.inl (by decide +kernel)⟩
theorem ln_X6_nextCode_24 : gx_L wsX6_nextCode RX6 24 6 2 := ⟨_, _, _, rfl, by decide +kernel, by decide, Or.inl (by decide +kernel)⟩
theorem ln_X6_nextCode_60 : gx_L wsX6_nextCode RX6 60 0 2 := ⟨_, _, _, rfl, by decide +kernel, by decide, Or.inr (by decide +kernel)⟩
theorem ln_X6_nextCode_98 : gx_L wsX6_nextCode RX6 98 6 9 := ⟨_, _, _, rfl, by decide +kernel, by decide, Or.inl (by decide +kernel)⟩
theorem lp_X6_nextCode_98 : gx_LP wsX6_nextCode RX6 98 6 9 false .int := ⟨_, _, _, tyX6, rfl, by decide +kernel, by decide, by decide +kernel, tyX6_ok, nmX6, by decide +kernel, by decide +kernel, by decide +kernel⟩
theorem kl_X6_nextCode_57 : gx_KV wsX6_nextCode RX6 57 yX6_bitsLeft cX6_bitsLeft 1 (some .int) wsX6_bitsLeft (gx_rm 2) (gx_rm 3) 0 := ⟨gX6_nextCode_X6_bitsLeft, ⟨_, rfl⟩, ⟨by decide, by decide, by decide +kernel⟩, ⟨by decide, by decide⟩⟩
theorem kl_X6_nextCode_104 : gx_KV wsX6_nextCode RX6 104 yX6_nextBit cX6_nextBit 2 (some .int) wsX6_nextBit (gx_rm 2) (gx_rm 3) 0 := ⟨gX6_nextCode_X6_nextBit, ⟨_, rfl⟩, ⟨by decide, by decide, by decide +kernel⟩, ⟨by decide, by decide⟩⟩
theorem kl_X6_nextCode_107 : gx_KV wsX6_nextCode RX6 107 yX5_placeInCode cX5_placeInCode 3 (some .int) wsX5_placeInCode (gx_rm 0) (gx_rm 3) 2 := ⟨gX6_nextCode_X5_placeInCode, ⟨_, rfl⟩, ⟨by decide, by decide, by decide +kernel⟩, ⟨by decide, by decide⟩⟩
def wd_X6_nextCode (cI cZ : ClassId) (h_t h_t_rules h_t_tape h_t_tape_bytes h_t_tape_bytes_cells h_t_pace h_t_symbols h_t_starts h_t_lengths : Nat) (V_t V_t_rules V_t_tape V_t_tape_bytes V_t_tape_bytes_cells V_t_pace : Nat → Int32) : va_W := [gx_o h_t 6 [some (some h_t_rules), some (some h_t_tape), some (some h_t_pace), some (some h_t_symbols), some (some h_t_starts), some (some h_t_lengths), none, none, none, none] V_t, gx_o h_t_rules 3 [none, none, none, none, none, none, none, none, none, none, none, none] V_t_rules, gx_o h_t_tape 5 [some (some h_t_rules), some (some h_t_tape_bytes)] V_t_tape, gx_o h_t_tape_bytes 2 [some (some h_t_tape_bytes_cells), none] V_t_tape_bytes, gx_a h_t_tape_bytes_cells cI 400 V_t_tape_bytes_cells, gx_o h_t_pace 0 [some (some h_t_rules), none, none, none, none, none, none] V_t_pace]
set_option maxHeartbeats 4000000 in
set_option maxRecDepth 100000 in
theorem tm_X6_nextCode_4 (C : gx_C cX6_nextCode 3 wsX6_nextCode RX6 D cI cZ p s m args c) (h_t h_t_rules h_t_tape h_t_tape_bytes h_t_tape_bytes_cells h_t_pace h_t_symbols h_t_starts h_t_lengths : Nat) (V_t_rules V_t_tape V_t_tape_bytes V_t_tape_bytes_cells V_t_pace : Nat → Int32) {z : Int32 × (Nat → Int32)} (hQ : gx_Qi cX6_nextCode .int p l e (gx_rm 3) s m args below meth c D A Q (wd_X6_nextCode cI cZ h_t h_t_rules h_t_tape h_t_tape_bytes h_t_tape_bytes_cells h_t_pace h_t_symbols h_t_starts h_t_lengths z.2 V_t_rules V_t_tape V_t_tape_bytes V_t_tape_bytes_cells V_t_pace) z.1) : ∀ (n : Nat), (∀ (V_t : Nat → Int32) (x1 x2 : Int32) (ls : Array Slot) (H : Heap) (locs : List Loc), lv_has ls 3 [(0, .ref h_t), (1, .int x1), (2, .int x2)] → gx_W D A s (wd_X6_nextCode cI cZ h_t h_t_rules h_t_tape h_t_tape_bytes h_t_tape_bytes_cells h_t_pace h_t_symbols h_t_starts h_t_lengths V_t V_t_rules V_t_tape V_t_tape_bytes V_t_tape_bytes_cells V_t_pace) H locs → fn_X6_nextCode_l4 V_t_rules V_t_tape_bytes V_t_tape_bytes_cells V_t_pace n V_t x1 x2 = some z → W p l e (gx_rm 3) s m args below meth c H locs 0 0 Q (F0 m 4 ls [])) := by
  have hx := C.1.1
  have hb := C.1.2.1
  intro n
  induction n with
  | zero => intro V_t x1 x2 ls H locs hl hw hf; rw [fn_X6_nextCode_l4] at hf; cases hf
  | succ n ih =>
    intro V_t x1 x2 ls H locs hl hw hf
    rw [fn_X6_nextCode_l4] at hf
    refine lv_iload_n hx hb dX6_nextCode_4 rfl (lv_at hl 2 rfl) ?_
    refine lv_aload_n hx hb dX6_nextCode_5 rfl (lv_at hl 0 rfl) ?_
    refine gx_get C hw 0 rfl (gx_gr rfl) ln_X6_nextCode_24 dX6_nextCode_6 ?_
    refine gx_get (v := .int (V_t_pace 2)) C hw 5 rfl (gx_gj rfl rfl) ln_X6_nextCode_60 dX6_nextCode_9 ?_
    refine lv_icmp_ge (tgt := 53) hx hb dX6_nextCode_12 (by decide) (fun hc => ?_) (fun hc => ?_)
    · replace hf := gx_t hc hf
      refine lv_aload_n hx hb dX6_nextCode_53 rfl (lv_at hl 0 rfl) ?_
      refine lv_dup hx hb dX6_nextCode_54 rfl ?_
      refine gx_get (v := .int (V_t 9)) C hw 0 rfl (gx_gj rfl rfl) ln_X6_nextCode_98 dX6_nextCode_55 ?_
      refine lv_iconst (v := 1) hx hb dX6_nextCode_58 (by decide) ?_
      refine lv_iadd hx hb dX6_nextCode_59 ?_
      refine gx_put (ws' := wd_X6_nextCode cI cZ h_t h_t_rules h_t_tape h_t_tape_bytes h_t_tape_bytes_cells h_t_pace h_t_symbols h_t_starts h_t_lengths (upd V_t 9 ((V_t 9) + 1)) V_t_rules V_t_tape V_t_tape_bytes V_t_tape_bytes_cells V_t_pace) C hw 0 rfl rfl lp_X6_nextCode_98 rfl rfl rfl dX6_nextCode_60 (fun H locs hw => ?_)
      refine lv_iload_n hx hb dX6_nextCode_63 rfl (lv_at hl 1 rfl) ?_
      obtain rfl := Option.some.inj hf
      exact hQ _ _ _ _ dX6_nextCode_64 rfl hw
    · replace hf := gx_f hc hf
      refine lv_aload_n hx hb dX6_nextCode_15 rfl (lv_at hl 0 rfl) ?_
      obtain ⟨y_16, hy_16, hf⟩ := gx_b hf
      refine gx_calli (As := []) (ws' := wd_X6_nextCode cI cZ h_t h_t_rules h_t_tape h_t_tape_bytes h_t_tape_bytes_cells h_t_pace h_t_symbols h_t_starts h_t_lengths V_t V_t_rules V_t_tape V_t_tape_bytes V_t_tape_bytes_cells V_t_pace) (isC := [0, 2, 3]) (isR := [1, 4, 5]) (isP := [3, 0, 4, 5, 1, 2]) C hw (ct_X6_bitsLeft l D cI cZ h_t h_t_rules h_t_tape h_t_tape_bytes h_t_tape_bytes_cells h_t_pace h_t_symbols h_t_starts h_t_lengths V_t V_t_tape V_t_tape_bytes hy_16) kl_X6_nextCode_57 ⟨rfl, rfl⟩ ⟨rfl, rfl, by decide, by decide, by decide, by decide, rfl⟩ 0 rfl rfl rfl rfl hl.1 (Nat.le_of_ble_eq_true rfl) ⟨Nat.le_refl _, Nat.le_refl _⟩ dX6_nextCode_16 (fun H locs hw => ?_)
      refine lv_if_gt (tgt := 24) hx hb dX6_nextCode_19 (by decide) (fun hc => ?_) (fun hc => ?_)
      · replace hf := gx_t hc hf
        refine lv_iload_n hx hb dX6_nextCode_24 rfl (lv_at hl 1 rfl) ?_
        refine lv_aload_n hx hb dX6_nextCode_25 rfl (lv_at hl 0 rfl) ?_
        obtain ⟨y_26, hy_26, hf⟩ := gx_b hf
        refine gx_calli (As := []) (ws' := wd_X6_nextCode cI cZ h_t h_t_rules h_t_tape h_t_tape_bytes h_t_tape_bytes_cells h_t_pace h_t_symbols h_t_starts h_t_lengths y_26.2 V_t_rules V_t_tape V_t_tape_bytes V_t_tape_bytes_cells V_t_pace) (isC := [0, 1, 2, 3, 4]) (isR := [5]) (isP := [1, 2, 3, 4, 5, 0]) C hw (ct_X6_nextBit l D cI cZ h_t h_t_rules h_t_tape h_t_tape_bytes h_t_tape_bytes_cells h_t_pace h_t_symbols h_t_starts h_t_lengths V_t V_t_rules V_t_tape V_t_tape_bytes V_t_tape_bytes_cells hy_26) kl_X6_nextCode_104 ⟨rfl, rfl⟩ ⟨rfl, rfl, by decide, by decide, by decide, by decide, rfl⟩ 0 rfl rfl rfl rfl hl.1 (Nat.le_of_ble_eq_true rfl) ⟨Nat.le_refl _, Nat.le_refl _⟩ dX6_nextCode_26 (fun H locs hw => ?_)
        refine lv_aload_n hx hb dX6_nextCode_29 rfl (lv_at hl 0 rfl) ?_
        refine gx_get C hw 0 rfl (gx_gr rfl) ln_X6_nextCode_15 dX6_nextCode_30 ?_
        refine lv_iload_n hx hb dX6_nextCode_33 rfl (lv_at hl 2 rfl) ?_
        refine lv_aload_n hx hb dX6_nextCode_34 rfl (lv_at hl 0 rfl) ?_
        refine gx_get C hw 0 rfl (gx_gr rfl) ln_X6_nextCode_24 dX6_nextCode_35 ?_
        refine gx_get (v := .int (V_t_pace 2)) C hw 5 rfl (gx_gj rfl rfl) ln_X6_nextCode_60 dX6_nextCode_38 ?_
        obtain ⟨y_41, hy_41, hf⟩ := gx_b hf
        refine gx_calli (As := [.int x2, .int (V_t_pace 2)]) (ws' := wd_X6_nextCode cI cZ h_t h_t_rules h_t_tape h_t_tape_bytes h_t_tape_bytes_cells h_t_pace h_t_symbols h_t_starts h_t_lengths y_26.2 V_t_rules V_t_tape V_t_tape_bytes V_t_tape_bytes_cells V_t_pace) (isC := [2, 1]) (isR := [0, 3, 4, 5]) (isP := [0, 5, 4, 1, 2, 3]) C hw (ct_X5_placeInCode l D cI cZ h_t_tape h_t_rules h_t_tape_bytes V_t_tape V_t_rules x2 (V_t_pace 2) hy_41) kl_X6_nextCode_107 ⟨rfl, rfl⟩ ⟨rfl, rfl, by decide, by decide, by decide, by decide, rfl⟩ 0 rfl rfl rfl rfl hl.1 (Nat.le_of_ble_eq_true rfl) ⟨Nat.le_refl _, Nat.le_refl _⟩ dX6_nextCode_41 (fun H locs hw => ?_)
        refine lv_ishl hx hb dX6_nextCode_44 ?_
        refine lv_ior hx hb dX6_nextCode_45 ?_
        refine lv_istore_n (lv' := [(1, .int (x1 ||| (y_26.1 <<< (y_41 &&& 31)))), (0, .ref h_t), (2, .int x2)]) hx hb dX6_nextCode_46 rfl hl (by decide) rfl (fun ls hl => ?_)
        refine lv_iinc (v := (x2 + 1)) (lv' := [(2, .int (x2 + 1)), (1, .int (x1 ||| (y_26.1 <<< (y_41 &&& 31)))), (0, .ref h_t)]) hx hb dX6_nextCode_47 hl (k := 2) rfl rfl (by decide) rfl (fun ls hl => ?_)
        refine lv_goto (tgt := 4) hx hb dX6_nextCode_50 (by decide) ?_
        exact ih y_26.2 (x1 ||| (y_26.1 <<< (y_41 &&& 31))) (x2 + 1) _ _ _ (lv_sub hl [2, 1, 0] rfl) hw hf
      · replace hf := gx_f hc hf
        refine lv_iconst (v := (-1)) hx hb dX6_nextCode_22 (by decide) ?_
        obtain rfl := Option.some.inj hf
        exact hQ _ _ _ _ dX6_nextCode_23 rfl hw
set_option maxHeartbeats 4000000 in
set_option maxRecDepth 100000 in
theorem ct_X6_nextCode (l : Launch) (D : va_G) (cI cZ : ClassId) (h_t h_t_rules h_t_tape h_t_tape_bytes h_t_tape_bytes_cells h_t_pace h_t_symbols h_t_starts h_t_lengths : Nat) (V_t V_t_rules V_t_tape V_t_tape_bytes V_t_tape_bytes_cells V_t_pace : Nat → Int32) {z : Int32 × (Nat → Int32)} (hf : fn_X6_nextCode V_t V_t_rules V_t_tape_bytes V_t_tape_bytes_cells V_t_pace = some z) : gx_Mi l yX6_nextCode wsX6_nextCode (gx_rm 3) D cI cZ [.ref h_t] (wd_X6_nextCode cI cZ h_t h_t_rules h_t_tape h_t_tape_bytes h_t_tape_bytes_cells h_t_pace h_t_symbols h_t_starts h_t_lengths V_t V_t_rules V_t_tape V_t_tape_bytes V_t_tape_bytes_cells V_t_pace) (wd_X6_nextCode cI cZ h_t h_t_rules h_t_tape h_t_tape_bytes h_t_tape_bytes_cells h_t_pace h_t_symbols h_t_starts h_t_lengths z.2 V_t_rules V_t_tape V_t_tape_bytes V_t_tape_bytes_cells V_t_pace) z.1 := by
  refine gx_ofi (cc := cX6_nextCode) (own := RX6) (by decide) rfl rfl (Nat.le_of_ble_eq_true rfl) [(0, .ref h_t)] rfl ?_
  intro p e s m args below meth c A Q ls C hQ hl hw
  have hx := C.1.1
  have hb := C.1.2.1
  rw [fn_X6_nextCode] at hf
  refine lv_iconst (v := 0) hx hb dX6_nextCode_0 (by decide) ?_
  refine lv_istore_n (lv' := [(1, .int 0), (0, .ref h_t)]) hx hb dX6_nextCode_1 rfl hl (by decide) rfl (fun ls hl => ?_)
  refine lv_iconst (v := 0) hx hb dX6_nextCode_2 (by decide) ?_
  refine lv_istore_n (lv' := [(2, .int 0), (1, .int 0), (0, .ref h_t)]) hx hb dX6_nextCode_3 rfl hl (by decide) rfl (fun ls hl => ?_)
  exact tm_X6_nextCode_4 C h_t h_t_rules h_t_tape h_t_tape_bytes h_t_tape_bytes_cells h_t_pace h_t_symbols h_t_starts h_t_lengths V_t_rules V_t_tape V_t_tape_bytes V_t_tape_bytes_cells V_t_pace hQ  gx_fuel V_t 0 0 _ _ _ (lv_sub hl [2, 1, 0] rfl) hw hf
-- LzwForms$Unpacker.isAboveCount: touched ['t', 't_rules', 't_pace']; used ['t_rules', 't_pace']; mod []; height 0
theorem ln_X6_isAboveCount_9 : gx_L wsX6_isAboveCount RX6 9 6 0 := ⟨_, _, _, rfl, by decide +kernel, by decide, Or.inl (by decide +kernel)⟩
theorem ln_X6_isAboveCount_24 : gx_L wsX6_isAboveCount RX6 24 6 2 := ⟨_, _, _, rfl, by decide +kernel, by decide, Or.inl (by decide +kernel)⟩
theorem ln_X6_isAboveCount_139 : gx_L wsX6_isAboveCount RX6 139 3 10 := ⟨_, _, _, rfl, by decide +kernel, by decide, Or.inr (by decide +kernel)⟩
theorem ln_X6_isAboveCount_142 : gx_L wsX6_isAboveCount RX6 142 0 1 := ⟨_, _, _, rfl, by decide +kernel, by decide, Or.inr (by decide +kernel)⟩
def wd_X6_isAboveCount (cI cZ : ClassId) (h_t h_t_rules h_t_tape h_t_pace h_t_symbols h_t_starts h_t_lengths : Nat) (V_t V_t_rules V_t_pace : Nat → Int32) : va_W := [gx_o h_t 6 [some (some h_t_rules), some (some h_t_tape), some (some h_t_pace), some (some h_t_symbols), some (some h_t_starts), some (some h_t_lengths), none, none, none, none] V_t, gx_o h_t_rules 3 [none, none, none, none, none, none, none, none, none, none, none, none] V_t_rules, gx_o h_t_pace 0 [some (some h_t_rules), none, none, none, none, none, none] V_t_pace]
set_option maxHeartbeats 4000000 in
set_option maxRecDepth 100000 in
theorem ct_X6_isAboveCount (l : Launch) (D : va_G) (cI cZ : ClassId) (h_t h_t_rules h_t_tape h_t_pace h_t_symbols h_t_starts h_t_lengths : Nat) (V_t V_t_rules V_t_pace : Nat → Int32) (a1 : Int32) {z : Int32} (hf : fn_X6_isAboveCount V_t_rules V_t_pace a1 = some z) : gx_Mi l yX6_isAboveCount wsX6_isAboveCount (gx_rm 0) D cI cZ [.ref h_t, .int a1] (wd_X6_isAboveCount cI cZ h_t h_t_rules h_t_tape h_t_pace h_t_symbols h_t_starts h_t_lengths V_t V_t_rules V_t_pace) (wd_X6_isAboveCount cI cZ h_t h_t_rules h_t_tape h_t_pace h_t_symbols h_t_starts h_t_lengths V_t V_t_rules V_t_pace) z := by
  refine gx_ofi (cc := cX6_isAboveCount) (own := RX6) (by decide) rfl rfl (Nat.le_of_ble_eq_true rfl) [(0, .ref h_t), (1, .int a1)] rfl ?_
  intro p e s m args below meth c A Q ls C hQ hl hw
  have hx := C.1.1
  have hb := C.1.2.1
  rw [fn_X6_isAboveCount] at hf
  refine lv_aload_n hx hb dX6_isAboveCount_0 rfl (lv_at hl 0 rfl) ?_
  refine gx_get C hw 0 rfl (gx_gr rfl) ln_X6_isAboveCount_9 dX6_isAboveCount_1 ?_
  refine gx_get (v := .int (V_t_rules 10)) C hw 1 rfl (gx_gj rfl rfl) ln_X6_isAboveCount_139 dX6_isAboveCount_4 ?_
  refine lv_istore_n (lv' := [(2, .int (V_t_rules 10)), (0, .ref h_t), (1, .int a1)]) hx hb dX6_isAboveCount_7 rfl hl (by decide) rfl (fun ls hl => ?_)
  refine lv_iload_n hx hb dX6_isAboveCount_8 rfl (lv_at hl 2 rfl) ?_
  refine lv_aload_n hx hb dX6_isAboveCount_9 rfl (lv_at hl 1 rfl) ?_
  refine gx_get C hw 0 rfl (gx_gr rfl) ln_X6_isAboveCount_24 dX6_isAboveCount_10 ?_
  refine gx_get (v := .int (V_t_pace 1)) C hw 2 rfl (gx_gj rfl rfl) ln_X6_isAboveCount_142 dX6_isAboveCount_13 ?_
  refine lv_icmp_gt (tgt := 35) hx hb dX6_isAboveCount_16 (by decide) (fun hc => ?_) (fun hc => ?_)
  · replace hf := gx_t hc hf
    refine lv_iconst (v := 1) hx hb dX6_isAboveCount_35 (by decide) ?_
    refine lv_goto (tgt := 40) hx hb dX6_isAboveCount_36 (by decide) ?_
    obtain rfl := Option.some.inj hf
    exact hQ _ _ _ _ dX6_isAboveCount_40 (gx_nb (Or.inr rfl)) hw
  · replace hf := gx_f hc hf
    refine lv_aload_n hx hb dX6_isAboveCount_19 rfl (lv_at hl 1 rfl) ?_
    refine gx_get C hw 0 rfl (gx_gr rfl) ln_X6_isAboveCount_24 dX6_isAboveCount_20 ?_
    refine gx_get (v := .int (V_t_pace 1)) C hw 2 rfl (gx_gj rfl rfl) ln_X6_isAboveCount_142 dX6_isAboveCount_23 ?_
    refine lv_iload_n hx hb dX6_isAboveCount_26 rfl (lv_at hl 0 rfl) ?_
    refine lv_icmp_ne (tgt := 39) hx hb dX6_isAboveCount_27 (by decide) (fun hc => ?_) (fun hc => ?_)
    · replace hf := gx_f hc hf
      refine lv_iconst (v := 0) hx hb dX6_isAboveCount_39 (by decide) ?_
      obtain rfl := Option.some.inj hf
      exact hQ _ _ _ _ dX6_isAboveCount_40 (gx_nb (Or.inl rfl)) hw
    · replace hf := gx_t hc hf
      refine lv_iload_n hx hb dX6_isAboveCount_30 rfl (lv_at hl 2 rfl) ?_
      refine lv_iload_n hx hb dX6_isAboveCount_31 rfl (lv_at hl 0 rfl) ?_
      refine lv_icmp_lt (tgt := 39) hx hb dX6_isAboveCount_32 (by decide) (fun hc => ?_) (fun hc => ?_)
      · replace hf := gx_t hc hf
        refine lv_iconst (v := 0) hx hb dX6_isAboveCount_39 (by decide) ?_
        obtain rfl := Option.some.inj hf
        exact hQ _ _ _ _ dX6_isAboveCount_40 (gx_nb (Or.inl rfl)) hw
      · replace hf := gx_f hc hf
        refine lv_iconst (v := 1) hx hb dX6_isAboveCount_35 (by decide) ?_
        refine lv_goto (tgt := 40) hx hb dX6_isAboveCount_36 (by decide) ?_
        obtain rfl := Option.some.inj hf
        exact hQ _ _ _ _ dX6_isAboveCount_40 (gx_nb (Or.inr rfl)) hw
-- LzwForms$Unpacker.makeString: touched ['t', 't_rules', 't_pace', 't_starts', 't_lengths']; used ['t', 't_rules', 't_pace', 't_starts', 't_lengths']; mod ['t_starts', 't_lengths']; height 0
theorem ln_X6_makeString_9 : gx_L wsX6_makeString RX6 9 6 0 := ⟨_, _, _, rfl, by decide +kernel, by decide, Or.inl (by decide +kernel)⟩
theorem ln_X6_makeString_24 : gx_L wsX6_makeString RX6 24 6 2 := ⟨_, _, _, rfl, by decide +kernel, by decide, Or.inl (by decide +kernel)⟩
theorem ln_X6_makeString_37 : gx_L wsX6_makeString RX6 37 6 4 := ⟨_, _, _, rfl, by decide +kernel, by decide, Or.inl (by decide +kernel)⟩
theorem ln_X6_makeString_41 : gx_L wsX6_makeString RX6 41 6 5 := ⟨_, _, _, rfl, by decide +kernel, by decide, Or.inl (by decide +kernel)⟩
theorem ln_X6_makeString_92 : gx_L wsX6_makeString RX6 92 6 6 := ⟨_, _, _, rfl, by decide +kernel, by decide, Or.inl (by decide +kernel)⟩
theorem ln_X6_makeString_95 : gx_L wsX6_makeString RX6 95 6 7 := ⟨_, _, _, rfl, by decide +kernel, by decide, Or.inl (by decide +kernel)⟩
theorem ln_X6_makeString_126 : gx_L wsX6_makeString RX6 126 3 9 := ⟨_, _, _, rfl, by decide +kernel, by decide, Or.inr (by decide +kernel)⟩
theorem ln_X6_makeString_139 : gx_L wsX6_makeString RX6 139 3 10 := ⟨_, _, _, rfl, by decide +kernel, by decide, Or.inr (by decide +kernel)⟩
theorem ln_X6_makeString_142 : gx_L wsX6_makeString RX6 142 0 1 := ⟨_, _, _, rfl, by decide +kernel, by decide, Or.inr (by decide +kernel)⟩
def wd_X6_makeString (cI cZ : ClassId) (h_t h_t_rules h_t_tape h_t_pace h_t_symbols h_t_starts h_t_lengths : Nat) (V_t V_t_rules V_t_pace V_t_starts V_t_lengths : Nat → Int32) : va_W := [gx_o h_t 6 [some (some h_t_rules), some (some h_t_tape), some (some h_t_pace), some (some h_t_symbols), some (some h_t_starts), some (some h_t_lengths), none, none, none, none] V_t, gx_o h_t_rules 3 [none, none, none, none, none, none, none, none, none, none, none, none] V_t_rules, gx_o h_t_pace 0 [some (some h_t_rules), none, none, none, none, none, none] V_t_pace, gx_a h_t_starts cI 300 V_t_starts, gx_a h_t_lengths cI 300 V_t_lengths]
set_option maxHeartbeats 4000000 in
set_option maxRecDepth 100000 in
theorem ct_X6_makeString (l : Launch) (D : va_G) (cI cZ : ClassId) (h_t h_t_rules h_t_tape h_t_pace h_t_symbols h_t_starts h_t_lengths : Nat) (V_t V_t_rules V_t_pace V_t_starts V_t_lengths : Nat → Int32) {z : (Nat → Int32) × (Nat → Int32)} (hf : fn_X6_makeString V_t V_t_rules V_t_pace V_t_starts V_t_lengths = some z) : gx_Mv l yX6_makeString wsX6_makeString (gx_rm 0) D cI cZ [.ref h_t] (wd_X6_makeString cI cZ h_t h_t_rules h_t_tape h_t_pace h_t_symbols h_t_starts h_t_lengths V_t V_t_rules V_t_pace V_t_starts V_t_lengths) (wd_X6_makeString cI cZ h_t h_t_rules h_t_tape h_t_pace h_t_symbols h_t_starts h_t_lengths V_t V_t_rules V_t_pace z.1 z.2) := by
  refine gx_ofv (cc := cX6_makeString) (own := RX6) (by decide) rfl rfl (Nat.le_of_ble_eq_true rfl) [(0, .ref h_t)] rfl ?_
  intro p e s m args below meth c A Q ls C hQ hl hw
  have hx := C.1.1
  have hb := C.1.2.1
  rw [fn_X6_makeString] at hf
  refine lv_aload_n hx hb dX6_makeString_0 rfl (lv_at hl 0 rfl) ?_
  refine gx_get C hw 0 rfl (gx_gr rfl) ln_X6_makeString_24 dX6_makeString_1 ?_
  refine gx_get (v := .int (V_t_pace 1)) C hw 2 rfl (gx_gj rfl rfl) ln_X6_makeString_142 dX6_makeString_4 ?_
  refine lv_aload_n hx hb dX6_makeString_7 rfl (lv_at hl 0 rfl) ?_
  refine gx_get C hw 0 rfl (gx_gr rfl) ln_X6_makeString_9 dX6_makeString_8 ?_
  refine gx_get (v := .int (V_t_rules 9)) C hw 1 rfl (gx_gj rfl rfl) ln_X6_makeString_126 dX6_makeString_11 ?_
  refine lv_isub hx hb dX6_makeString_14 ?_
  refine lv_istore_n (lv' := [(1, .int ((V_t_pace 1) - (V_t_rules 9))), (0, .ref h_t)]) hx hb dX6_makeString_15 rfl hl (by decide) rfl (fun ls hl => ?_)
  refine lv_aload_n hx hb dX6_makeString_16 rfl (lv_at hl 1 rfl) ?_
  refine gx_get C hw 0 rfl (gx_gr rfl) ln_X6_makeString_24 dX6_makeString_17 ?_
  refine gx_get (v := .int (V_t_pace 1)) C hw 2 rfl (gx_gj rfl rfl) ln_X6_makeString_142 dX6_makeString_20 ?_
  refine lv_aload_n hx hb dX6_makeString_23 rfl (lv_at hl 1 rfl) ?_
  refine gx_get C hw 0 rfl (gx_gr rfl) ln_X6_makeString_9 dX6_makeString_24 ?_
  refine gx_get (v := .int (V_t_rules 10)) C hw 1 rfl (gx_gj rfl rfl) ln_X6_makeString_139 dX6_makeString_27 ?_
  refine lv_icmp_ge (tgt := 68) hx hb dX6_makeString_30 (by decide) (fun hc => ?_) (fun hc => ?_)
  · replace hf := gx_t hc hf
    obtain rfl := Option.some.inj hf
    exact hQ _ _ _ _ dX6_makeString_68 hw
  · replace hf := gx_f hc hf
    refine lv_iload_n hx hb dX6_makeString_33 rfl (lv_at hl 0 rfl) ?_
    refine lv_if_lt (tgt := 68) hx hb dX6_makeString_34 (by decide) (fun hc => ?_) (fun hc => ?_)
    · replace hf := gx_t hc hf
      obtain rfl := Option.some.inj hf
      exact hQ _ _ _ _ dX6_makeString_68 hw
    · replace hf := gx_f hc hf
      refine lv_iload_n hx hb dX6_makeString_37 rfl (lv_at hl 0 rfl) ?_
      refine lv_aload_n hx hb dX6_makeString_38 rfl (lv_at hl 1 rfl) ?_
      refine gx_get C hw 0 rfl (gx_gr rfl) ln_X6_makeString_37 dX6_makeString_39 ?_
      refine gx_alen C hw 3 rfl dX6_makeString_42 ?_
      refine lv_icmp_ge (tgt := 68) hx hb dX6_makeString_43 (by decide) (fun hc => ?_) (fun hc => ?_)
      · replace hf := gx_t hc hf
        obtain rfl := Option.some.inj hf
        exact hQ _ _ _ _ dX6_makeString_68 hw
      · replace hf := gx_f hc hf
        refine lv_aload_n hx hb dX6_makeString_46 rfl (lv_at hl 1 rfl) ?_
        refine gx_get C hw 0 rfl (gx_gr rfl) ln_X6_makeString_37 dX6_makeString_47 ?_
        refine lv_iload_n hx hb dX6_makeString_50 rfl (lv_at hl 0 rfl) ?_
        refine lv_aload_n hx hb dX6_makeString_51 rfl (lv_at hl 1 rfl) ?_
        refine gx_get (v := .int (V_t 6)) C hw 0 rfl (gx_gj rfl rfl) ln_X6_makeString_92 dX6_makeString_52 ?_
        obtain ⟨hi_55, hf⟩ := gx_g hf
        refine gx_iast (ws' := wd_X6_makeString cI cZ h_t h_t_rules h_t_tape h_t_pace h_t_symbols h_t_starts h_t_lengths V_t V_t_rules V_t_pace (upd V_t_starts ((V_t_pace 1) - (V_t_rules 9)).toNatClampNeg (V_t 6)) V_t_lengths) C hw 3 rfl hi_55 rfl dX6_makeString_55 (fun H locs hw => ?_)
        refine lv_aload_n hx hb dX6_makeString_56 rfl (lv_at hl 1 rfl) ?_
        refine gx_get C hw 0 rfl (gx_gr rfl) ln_X6_makeString_41 dX6_makeString_57 ?_
        refine lv_iload_n hx hb dX6_makeString_60 rfl (lv_at hl 0 rfl) ?_
        refine lv_aload_n hx hb dX6_makeString_61 rfl (lv_at hl 1 rfl) ?_
        refine gx_get (v := .int (V_t 7)) C hw 0 rfl (gx_gj rfl rfl) ln_X6_makeString_95 dX6_makeString_62 ?_
        refine lv_iconst (v := 1) hx hb dX6_makeString_65 (by decide) ?_
        refine lv_iadd hx hb dX6_makeString_66 ?_
        obtain ⟨hi_67, hf⟩ := gx_g hf
        refine gx_iast (ws' := wd_X6_makeString cI cZ h_t h_t_rules h_t_tape h_t_pace h_t_symbols h_t_starts h_t_lengths V_t V_t_rules V_t_pace (upd V_t_starts ((V_t_pace 1) - (V_t_rules 9)).toNatClampNeg (V_t 6)) (upd V_t_lengths ((V_t_pace 1) - (V_t_rules 9)).toNatClampNeg ((V_t 7) + 1))) C hw 4 rfl hi_67 rfl dX6_makeString_67 (fun H locs hw => ?_)
        obtain rfl := Option.some.inj hf
        exact hQ _ _ _ _ dX6_makeString_68 hw
-- LzwForms$Unpacker.give: touched ['t', 't_rules', 't_symbols', 't_symbols_cells', 't_starts', 't_lengths']; used ['t', 't_rules', 't_symbols', 't_symbols_cells', 't_starts', 't_lengths']; mod ['t', 't_symbols', 't_symbols_cells']; height 1
theorem ln_X6_give_9 : gx_L wsX6_give RX6 9 6 0 := ⟨_, _, _, rfl, by decide +kernel, by decide, Or.inl (by decide +kernel)⟩
theorem ln_X6_give_33 : gx_L wsX6_give RX6 33 6 3 := ⟨_, _, _, rfl, by decide +kernel, by decide, Or.inl (by decide +kernel)⟩
theorem ln_X6_give_37 : gx_L wsX6_give RX6 37 6 4 := ⟨_, _, _, rfl, by decide +kernel, by decide, Or.inl (by decide +kernel)⟩
theorem ln_X6_give_41 : gx_L wsX6_give RX6 41 6 5 := ⟨_, _, _, rfl, by decide +kernel, by decide, Or.inl (by decide +kernel)⟩
theorem lp_X6_give_92 : gx_LP wsX6_give RX6 92 6 6 false .int := ⟨_, _, _, tyX6, rfl, by decide +kernel, by decide, by decide +kernel, tyX6_ok, nmX6, by decide +kernel, by decide +kernel, by decide +kernel⟩
theorem lp_X6_give_95 : gx_LP wsX6_give RX6 95 6 7 false .int := ⟨_, _, _, tyX6, rfl, by decide +kernel, by decide, by decide +kernel, tyX6_ok, nmX6, by decide +kernel, by decide +kernel, by decide +kernel⟩
theorem ln_X6_give_126 : gx_L wsX6_give RX6 126 3 9 := ⟨_, _, _, rfl, by decide +kernel, by decide, Or.inr (by decide +kernel)⟩
theorem kl_X6_give_145 : gx_KV wsX6_give RX6 145 yX2_size cX2_size 1 (some .int) wsX2_size (gx_rm 0) (gx_rm 1) 0 := ⟨gX6_give_X2_size, ⟨_, rfl⟩, ⟨by decide, by decide, by decide +kernel⟩, ⟨by decide, by decide⟩⟩
theorem kl_X6_give_148 : gx_KV wsX6_give RX6 148 yX2_get cX2_get 2 (some .int) wsX2_get (gx_rm 0) (gx_rm 1) 1 := ⟨gX6_give_X2_get, ⟨_, rfl⟩, ⟨by decide, by decide, by decide +kernel⟩, ⟨by decide, by decide⟩⟩
theorem kl_X6_give_151 : gx_KV wsX6_give RX6 151 yX2_add cX2_add 2 (some .boolean) wsX2_add (gx_rm 0) (gx_rm 1) 1 := ⟨gX6_give_X2_add, ⟨_, rfl⟩, ⟨by decide, by decide, by decide +kernel⟩, ⟨by decide, by decide⟩⟩
def wd_X6_give (cI cZ : ClassId) (h_t h_t_rules h_t_tape h_t_pace h_t_symbols h_t_symbols_cells h_t_starts h_t_lengths : Nat) (V_t V_t_rules V_t_symbols V_t_symbols_cells V_t_starts V_t_lengths : Nat → Int32) : va_W := [gx_o h_t 6 [some (some h_t_rules), some (some h_t_tape), some (some h_t_pace), some (some h_t_symbols), some (some h_t_starts), some (some h_t_lengths), none, none, none, none] V_t, gx_o h_t_rules 3 [none, none, none, none, none, none, none, none, none, none, none, none] V_t_rules, gx_o h_t_symbols 2 [some (some h_t_symbols_cells), none] V_t_symbols, gx_a h_t_symbols_cells cI 300 V_t_symbols_cells, gx_a h_t_starts cI 300 V_t_starts, gx_a h_t_lengths cI 300 V_t_lengths]
set_option maxHeartbeats 4000000 in
set_option maxRecDepth 100000 in
theorem tm_X6_give_106 (C : gx_C cX6_give 7 wsX6_give RX6 D cI cZ p s m args c) (h_t h_t_rules h_t_tape h_t_pace h_t_symbols h_t_symbols_cells h_t_starts h_t_lengths : Nat) (V_t_rules V_t_starts V_t_lengths : Nat → Int32) {z : Int32 × (Nat → Int32) × (Nat → Int32) × (Nat → Int32)} (hQ : gx_Qi cX6_give .int p l e (gx_rm 1) s m args below meth c D A Q (wd_X6_give cI cZ h_t h_t_rules h_t_tape h_t_pace h_t_symbols h_t_symbols_cells h_t_starts h_t_lengths z.2.1 V_t_rules z.2.2.1 z.2.2.2 V_t_starts V_t_lengths) z.1) (K70 : (Nat → Int32) → (Nat → Int32) → (Nat → Int32) → Int32 → Int32 → Int32 → Int32 → Int32 → Int32 → Option (Int32 × (Nat → Int32) × (Nat → Int32) × (Nat → Int32))) (hK70 : ∀ (V_t V_t_symbols V_t_symbols_cells : Nat → Int32) (x1 x2 x3 x4 x5 x6 : Int32) (ls : Array Slot) (H : Heap) (locs : List Loc), lv_has ls 7 [(0, .ref h_t), (1, .int x1), (2, .int x2), (3, .int x3), (4, .int x4), (5, .int x5), (6, .int x6)] → gx_W D A s (wd_X6_give cI cZ h_t h_t_rules h_t_tape h_t_pace h_t_symbols h_t_symbols_cells h_t_starts h_t_lengths V_t V_t_rules V_t_symbols V_t_symbols_cells V_t_starts V_t_lengths) H locs → K70 V_t V_t_symbols V_t_symbols_cells x1 x2 x3 x4 x5 x6 = some z → W p l e (gx_rm 1) s m args below meth c H locs 0 0 Q (F0 m 70 ls [])) : ∀ (V_t V_t_symbols V_t_symbols_cells : Nat → Int32) (x1 x2 x3 x4 x5 x6 s1 : Int32) (ls : Array Slot) (H : Heap) (locs : List Loc), lv_has ls 7 [(0, .ref h_t), (1, .int x1), (2, .int x2), (3, .int x3), (4, .int x4), (5, .int x5), (6, .int x6)] → gx_W D A s (wd_X6_give cI cZ h_t h_t_rules h_t_tape h_t_pace h_t_symbols h_t_symbols_cells h_t_starts h_t_lengths V_t V_t_rules V_t_symbols V_t_symbols_cells V_t_starts V_t_lengths) H locs → fn_X6_give_j106 V_t_rules V_t_starts V_t_lengths K70 V_t V_t_symbols V_t_symbols_cells x1 x2 x3 x4 x5 x6 s1 = some z → W p l e (gx_rm 1) s m args below meth c H locs 0 0 Q (F0 m 106 ls [.int s1, .ref h_t_symbols]) := by
  have hx := C.1.1
  have hb := C.1.2.1
  intro V_t V_t_symbols V_t_symbols_cells x1 x2 x3 x4 x5 x6 s1 ls H locs hl hw hf
  rw [fn_X6_give_j106] at hf
  obtain ⟨y_106, hy_106, hf⟩ := gx_b hf
  refine gx_calli (As := [.int s1]) (ws' := wd_X6_give cI cZ h_t h_t_rules h_t_tape h_t_pace h_t_symbols h_t_symbols_cells h_t_starts h_t_lengths V_t V_t_rules y_106.2.1 y_106.2.2 V_t_starts V_t_lengths) (isC := [2, 3]) (isR := [0, 1, 4, 5]) (isP := [0, 1, 4, 5, 2, 3]) C hw (ct_X2_add l D cI cZ h_t_symbols h_t_symbols_cells 300 V_t_symbols V_t_symbols_cells s1 hy_106) kl_X6_give_151 ⟨rfl, rfl⟩ ⟨rfl, rfl, by decide, by decide, by decide, by decide, rfl⟩ 0 rfl rfl rfl rfl hl.1 (Nat.le_of_ble_eq_true rfl) ⟨Nat.le_refl _, Nat.le_refl _⟩ dX6_give_106 (fun H locs hw => ?_)
  refine lv_pop hx hb dX6_give_109 rfl ?_
  refine lv_iinc (v := (x6 + 1)) (lv' := [(6, .int (x6 + 1)), (0, .ref h_t), (1, .int x1), (2, .int x2), (3, .int x3), (4, .int x4), (5, .int x5)]) hx hb dX6_give_110 hl (k := 6) rfl rfl (by decide) rfl (fun ls hl => ?_)
  refine lv_goto (tgt := 70) hx hb dX6_give_113 (by decide) ?_
  exact hK70 V_t y_106.2.1 y_106.2.2 x1 x2 x3 x4 x5 (x6 + 1) _ _ _ (lv_sub hl [1, 2, 3, 4, 5, 6, 0] rfl) hw hf
set_option maxHeartbeats 4000000 in
set_option maxRecDepth 100000 in
theorem tm_X6_give_70 (C : gx_C cX6_give 7 wsX6_give RX6 D cI cZ p s m args c) (h_t h_t_rules h_t_tape h_t_pace h_t_symbols h_t_symbols_cells h_t_starts h_t_lengths : Nat) (V_t_rules V_t_starts V_t_lengths : Nat → Int32) {z : Int32 × (Nat → Int32) × (Nat → Int32) × (Nat → Int32)} (hQ : gx_Qi cX6_give .int p l e (gx_rm 1) s m args below meth c D A Q (wd_X6_give cI cZ h_t h_t_rules h_t_tape h_t_pace h_t_symbols h_t_symbols_cells h_t_starts h_t_lengths z.2.1 V_t_rules z.2.2.1 z.2.2.2 V_t_starts V_t_lengths) z.1) : ∀ (n : Nat), (∀ (V_t V_t_symbols V_t_symbols_cells : Nat → Int32) (x1 x2 x3 x4 x5 x6 : Int32) (ls : Array Slot) (H : Heap) (locs : List Loc), lv_has ls 7 [(0, .ref h_t), (1, .int x1), (2, .int x2), (3, .int x3), (4, .int x4), (5, .int x5), (6, .int x6)] → gx_W D A s (wd_X6_give cI cZ h_t h_t_rules h_t_tape h_t_pace h_t_symbols h_t_symbols_cells h_t_starts h_t_lengths V_t V_t_rules V_t_symbols V_t_symbols_cells V_t_starts V_t_lengths) H locs → fn_X6_give_l70 V_t_rules V_t_starts V_t_lengths n V_t V_t_symbols V_t_symbols_cells x1 x2 x3 x4 x5 x6 = some z → W p l e (gx_rm 1) s m args below meth c H locs 0 0 Q (F0 m 70 ls [])) := by
  have hx := C.1.1
  have hb := C.1.2.1
  intro n
  induction n with
  | zero => intro V_t V_t_symbols V_t_symbols_cells x1 x2 x3 x4 x5 x6 ls H locs hl hw hf; rw [fn_X6_give_l70] at hf; cases hf
  | succ n ih =>
    intro V_t V_t_symbols V_t_symbols_cells x1 x2 x3 x4 x5 x6 ls H locs hl hw hf
    rw [fn_X6_give_l70] at hf
    refine lv_iload hx hb dX6_give_70 (lv_at hl 6 rfl) ?_
    refine lv_iload hx hb dX6_give_72 (lv_at hl 5 rfl) ?_
    refine lv_icmp_ge (tgt := 116) hx hb dX6_give_74 (by decide) (fun hc => ?_) (fun hc => ?_)
    · replace hf := gx_t hc hf
      refine lv_aload_n hx hb dX6_give_116 rfl (lv_at hl 0 rfl) ?_
      refine lv_iload_n hx hb dX6_give_117 rfl (lv_at hl 2 rfl) ?_
      refine gx_put (ws' := wd_X6_give cI cZ h_t h_t_rules h_t_tape h_t_pace h_t_symbols h_t_symbols_cells h_t_starts h_t_lengths (upd V_t 6 x2) V_t_rules V_t_symbols V_t_symbols_cells V_t_starts V_t_lengths) C hw 0 rfl rfl lp_X6_give_92 rfl rfl rfl dX6_give_118 (fun H locs hw => ?_)
      refine lv_aload_n hx hb dX6_give_121 rfl (lv_at hl 0 rfl) ?_
      refine lv_iload hx hb dX6_give_122 (lv_at hl 5 rfl) ?_
      refine gx_put (ws' := wd_X6_give cI cZ h_t h_t_rules h_t_tape h_t_pace h_t_symbols h_t_symbols_cells h_t_starts h_t_lengths (upd (upd V_t 6 x2) 7 x5) V_t_rules V_t_symbols V_t_symbols_cells V_t_starts V_t_lengths) C hw 0 rfl rfl lp_X6_give_95 rfl rfl rfl dX6_give_124 (fun H locs hw => ?_)
      refine lv_iconst (v := 0) hx hb dX6_give_127 (by decide) ?_
      obtain rfl := Option.some.inj hf
      exact hQ _ _ _ _ dX6_give_128 rfl hw
    · replace hf := gx_f hc hf
      refine lv_aload_n hx hb dX6_give_77 rfl (lv_at hl 0 rfl) ?_
      refine gx_get C hw 0 rfl (gx_gr rfl) ln_X6_give_33 dX6_give_78 ?_
      refine lv_iload hx hb dX6_give_81 (lv_at hl 4 rfl) ?_
      refine lv_if_eq (tgt := 105) hx hb dX6_give_83 (by decide) (fun hc => ?_) (fun hc => ?_)
      · replace hf := gx_t hc hf
        refine lv_iload_n hx hb dX6_give_105 rfl (lv_at hl 1 rfl) ?_
        exact tm_X6_give_106 C h_t h_t_rules h_t_tape h_t_pace h_t_symbols h_t_symbols_cells h_t_starts h_t_lengths V_t_rules V_t_starts V_t_lengths hQ (fn_X6_give_l70 V_t_rules V_t_starts V_t_lengths n) ih V_t V_t_symbols V_t_symbols_cells x1 x2 x3 x4 x5 x6 x1 _ _ _ (lv_sub hl [0, 1, 2, 3, 4, 5, 6] rfl) hw hf
      · replace hf := gx_f hc hf
        refine lv_aload_n hx hb dX6_give_86 rfl (lv_at hl 0 rfl) ?_
        refine gx_get C hw 0 rfl (gx_gr rfl) ln_X6_give_33 dX6_give_87 ?_
        refine lv_aload_n hx hb dX6_give_90 rfl (lv_at hl 0 rfl) ?_
        refine gx_get C hw 0 rfl (gx_gr rfl) ln_X6_give_37 dX6_give_91 ?_
        refine lv_iload_n hx hb dX6_give_94 rfl (lv_at hl 3 rfl) ?_
        obtain ⟨hi_95, hf⟩ := gx_g hf
        refine gx_iald C hw 4 rfl hi_95 dX6_give_95 ?_
        refine lv_iload hx hb dX6_give_96 (lv_at hl 6 rfl) ?_
        refine lv_iadd hx hb dX6_give_98 ?_
        obtain ⟨y_99, hy_99, hf⟩ := gx_b hf
        refine gx_calli (As := [.int ((V_t_starts x3.toNatClampNeg) + x6)]) (ws' := wd_X6_give cI cZ h_t h_t_rules h_t_tape h_t_pace h_t_symbols h_t_symbols_cells h_t_starts h_t_lengths V_t V_t_rules V_t_symbols V_t_symbols_cells V_t_starts V_t_lengths) (isC := [2, 3]) (isR := [0, 1, 4, 5]) (isP := [0, 1, 4, 5, 2, 3]) C hw (ct_X2_get l D cI cZ h_t_symbols h_t_symbols_cells 300 V_t_symbols V_t_symbols_cells ((V_t_starts x3.toNatClampNeg) + x6) hy_99) kl_X6_give_148 ⟨rfl, rfl⟩ ⟨rfl, rfl, by decide, by decide, by decide, by decide, rfl⟩ 0 rfl rfl rfl rfl hl.1 (Nat.le_of_ble_eq_true rfl) ⟨Nat.le_refl _, Nat.le_refl _⟩ dX6_give_99 (fun H locs hw => ?_)
        refine lv_goto (tgt := 106) hx hb dX6_give_102 (by decide) ?_
        exact tm_X6_give_106 C h_t h_t_rules h_t_tape h_t_pace h_t_symbols h_t_symbols_cells h_t_starts h_t_lengths V_t_rules V_t_starts V_t_lengths hQ (fn_X6_give_l70 V_t_rules V_t_starts V_t_lengths n) ih V_t V_t_symbols V_t_symbols_cells x1 x2 x3 x4 x5 x6 y_99 _ _ _ (lv_sub hl [0, 1, 2, 3, 4, 5, 6] rfl) hw hf
set_option maxHeartbeats 4000000 in
set_option maxRecDepth 100000 in
theorem tm_X6_give_53 (C : gx_C cX6_give 7 wsX6_give RX6 D cI cZ p s m args c) (h_t h_t_rules h_t_tape h_t_pace h_t_symbols h_t_symbols_cells h_t_starts h_t_lengths : Nat) (V_t_rules V_t_starts V_t_lengths : Nat → Int32) {z : Int32 × (Nat → Int32) × (Nat → Int32) × (Nat → Int32)} (hQ : gx_Qi cX6_give .int p l e (gx_rm 1) s m args below meth c D A Q (wd_X6_give cI cZ h_t h_t_rules h_t_tape h_t_pace h_t_symbols h_t_symbols_cells h_t_starts h_t_lengths z.2.1 V_t_rules z.2.2.1 z.2.2.2 V_t_starts V_t_lengths) z.1) : ∀ (V_t V_t_symbols V_t_symbols_cells : Nat → Int32) (x1 x2 x3 x4 s0 : Int32) (ls : Array Slot) (H : Heap) (locs : List Loc), lv_has ls 7 [(0, .ref h_t), (1, .int x1), (2, .int x2), (3, .int x3), (4, .int x4)] → gx_W D A s (wd_X6_give cI cZ h_t h_t_rules h_t_tape h_t_pace h_t_symbols h_t_symbols_cells h_t_starts h_t_lengths V_t V_t_rules V_t_symbols V_t_symbols_cells V_t_starts V_t_lengths) H locs → fn_X6_give_j53 V_t_rules V_t_starts V_t_lengths V_t V_t_symbols V_t_symbols_cells x1 x2 x3 x4 s0 = some z → W p l e (gx_rm 1) s m args below meth c H locs 0 0 Q (F0 m 53 ls [.int s0]) := by
  have hx := C.1.1
  have hb := C.1.2.1
  intro V_t V_t_symbols V_t_symbols_cells x1 x2 x3 x4 s0 ls H locs hl hw hf
  rw [fn_X6_give_j53] at hf
  refine lv_istore (lv' := [(5, .int s0), (0, .ref h_t), (1, .int x1), (2, .int x2), (3, .int x3), (4, .int x4)]) hx hb dX6_give_53 hl (by decide) rfl (fun ls hl => ?_)
  refine lv_iload_n hx hb dX6_give_55 rfl (lv_at hl 3 rfl) ?_
  refine lv_iload hx hb dX6_give_56 (lv_at hl 0 rfl) ?_
  refine lv_iadd hx hb dX6_give_58 ?_
  refine lv_sipush (v := 300) hx hb dX6_give_59 (by decide) ?_
  refine lv_icmp_le (tgt := 67) hx hb dX6_give_62 (by decide) (fun hc => ?_) (fun hc => ?_)
  · replace hf := gx_t hc hf
    refine lv_iconst (v := 0) hx hb dX6_give_67 (by decide) ?_
    refine lv_istore (lv' := [(6, .int 0), (5, .int s0), (0, .ref h_t), (1, .int x1), (2, .int x2), (3, .int x3), (4, .int x4)]) hx hb dX6_give_68 hl (by decide) rfl (fun ls hl => ?_)
    exact tm_X6_give_70 C h_t h_t_rules h_t_tape h_t_pace h_t_symbols h_t_symbols_cells h_t_starts h_t_lengths V_t_rules V_t_starts V_t_lengths hQ  gx_fuel V_t V_t_symbols V_t_symbols_cells x1 x2 x3 x4 s0 0 _ _ _ (lv_sub hl [2, 3, 4, 5, 6, 1, 0] rfl) hw hf
  · replace hf := gx_f hc hf
    refine lv_iconst (v := 5) hx hb dX6_give_65 (by decide) ?_
    obtain rfl := Option.some.inj hf
    exact hQ _ _ _ _ dX6_give_66 rfl hw
set_option maxHeartbeats 4000000 in
set_option maxRecDepth 100000 in
theorem tm_X6_give_36 (C : gx_C cX6_give 7 wsX6_give RX6 D cI cZ p s m args c) (h_t h_t_rules h_t_tape h_t_pace h_t_symbols h_t_symbols_cells h_t_starts h_t_lengths : Nat) (V_t_rules V_t_starts V_t_lengths : Nat → Int32) {z : Int32 × (Nat → Int32) × (Nat → Int32) × (Nat → Int32)} (hQ : gx_Qi cX6_give .int p l e (gx_rm 1) s m args below meth c D A Q (wd_X6_give cI cZ h_t h_t_rules h_t_tape h_t_pace h_t_symbols h_t_symbols_cells h_t_starts h_t_lengths z.2.1 V_t_rules z.2.2.1 z.2.2.2 V_t_starts V_t_lengths) z.1) : ∀ (V_t V_t_symbols V_t_symbols_cells : Nat → Int32) (x1 x2 x3 s0 : Int32) (ls : Array Slot) (H : Heap) (locs : List Loc), lv_has ls 7 [(0, .ref h_t), (1, .int x1), (2, .int x2), (3, .int x3)] → gx_W D A s (wd_X6_give cI cZ h_t h_t_rules h_t_tape h_t_pace h_t_symbols h_t_symbols_cells h_t_starts h_t_lengths V_t V_t_rules V_t_symbols V_t_symbols_cells V_t_starts V_t_lengths) H locs → fn_X6_give_j36 V_t_rules V_t_starts V_t_lengths V_t V_t_symbols V_t_symbols_cells x1 x2 x3 s0 = some z → W p l e (gx_rm 1) s m args below meth c H locs 0 0 Q (F0 m 36 ls [.int s0]) := by
  have hx := C.1.1
  have hb := C.1.2.1
  intro V_t V_t_symbols V_t_symbols_cells x1 x2 x3 s0 ls H locs hl hw hf
  rw [fn_X6_give_j36] at hf
  refine lv_istore (lv' := [(4, .int s0), (0, .ref h_t), (1, .int x1), (2, .int x2), (3, .int x3)]) hx hb dX6_give_36 hl (by decide) rfl (fun ls hl => ?_)
  refine lv_iload hx hb dX6_give_38 (lv_at hl 0 rfl) ?_
  refine lv_if_eq (tgt := 52) hx hb dX6_give_40 (by decide) (fun hc => ?_) (fun hc => ?_)
  · replace hf := gx_t hc hf
    refine lv_iconst (v := 1) hx hb dX6_give_52 (by decide) ?_
    exact tm_X6_give_53 C h_t h_t_rules h_t_tape h_t_pace h_t_symbols h_t_symbols_cells h_t_starts h_t_lengths V_t_rules V_t_starts V_t_lengths hQ  V_t V_t_symbols V_t_symbols_cells x1 x2 x3 s0 1 _ _ _ (lv_sub hl [1, 2, 3, 4, 0] rfl) hw hf
  · replace hf := gx_f hc hf
    refine lv_aload_n hx hb dX6_give_43 rfl (lv_at hl 1 rfl) ?_
    refine gx_get C hw 0 rfl (gx_gr rfl) ln_X6_give_41 dX6_give_44 ?_
    refine lv_iload_n hx hb dX6_give_47 rfl (lv_at hl 4 rfl) ?_
    obtain ⟨hi_48, hf⟩ := gx_g hf
    refine gx_iald C hw 5 rfl hi_48 dX6_give_48 ?_
    refine lv_goto (tgt := 53) hx hb dX6_give_49 (by decide) ?_
    exact tm_X6_give_53 C h_t h_t_rules h_t_tape h_t_pace h_t_symbols h_t_symbols_cells h_t_starts h_t_lengths V_t_rules V_t_starts V_t_lengths hQ  V_t V_t_symbols V_t_symbols_cells x1 x2 x3 s0 (V_t_lengths x3.toNatClampNeg) _ _ _ (lv_sub hl [1, 2, 3, 4, 0] rfl) hw hf
set_option maxHeartbeats 4000000 in
set_option maxRecDepth 100000 in
theorem tm_X6_give_35 (C : gx_C cX6_give 7 wsX6_give RX6 D cI cZ p s m args c) (h_t h_t_rules h_t_tape h_t_pace h_t_symbols h_t_symbols_cells h_t_starts h_t_lengths : Nat) (V_t_rules V_t_starts V_t_lengths : Nat → Int32) {z : Int32 × (Nat → Int32) × (Nat → Int32) × (Nat → Int32)} (hQ : gx_Qi cX6_give .int p l e (gx_rm 1) s m args below meth c D A Q (wd_X6_give cI cZ h_t h_t_rules h_t_tape h_t_pace h_t_symbols h_t_symbols_cells h_t_starts h_t_lengths z.2.1 V_t_rules z.2.2.1 z.2.2.2 V_t_starts V_t_lengths) z.1) : ∀ (V_t V_t_symbols V_t_symbols_cells : Nat → Int32) (x1 x2 x3 : Int32) (ls : Array Slot) (H : Heap) (locs : List Loc), lv_has ls 7 [(0, .ref h_t), (1, .int x1), (2, .int x2), (3, .int x3)] → gx_W D A s (wd_X6_give cI cZ h_t h_t_rules h_t_tape h_t_pace h_t_symbols h_t_symbols_cells h_t_starts h_t_lengths V_t V_t_rules V_t_symbols V_t_symbols_cells V_t_starts V_t_lengths) H locs → fn_X6_give_j35 V_t_rules V_t_starts V_t_lengths V_t V_t_symbols V_t_symbols_cells x1 x2 x3 = some z → W p l e (gx_rm 1) s m args below meth c H locs 0 0 Q (F0 m 35 ls []) := by
  have hx := C.1.1
  have hb := C.1.2.1
  intro V_t V_t_symbols V_t_symbols_cells x1 x2 x3 ls H locs hl hw hf
  rw [fn_X6_give_j35] at hf
  refine lv_iconst (v := 0) hx hb dX6_give_35 (by decide) ?_
  exact tm_X6_give_36 C h_t h_t_rules h_t_tape h_t_pace h_t_symbols h_t_symbols_cells h_t_starts h_t_lengths V_t_rules V_t_starts V_t_lengths hQ  V_t V_t_symbols V_t_symbols_cells x1 x2 x3 0 _ _ _ (lv_sub hl [0, 1, 2, 3] rfl) hw hf
set_option maxHeartbeats 4000000 in
set_option maxRecDepth 100000 in
theorem ct_X6_give (l : Launch) (D : va_G) (cI cZ : ClassId) (h_t h_t_rules h_t_tape h_t_pace h_t_symbols h_t_symbols_cells h_t_starts h_t_lengths : Nat) (V_t V_t_rules V_t_symbols V_t_symbols_cells V_t_starts V_t_lengths : Nat → Int32) (a1 : Int32) {z : Int32 × (Nat → Int32) × (Nat → Int32) × (Nat → Int32)} (hf : fn_X6_give V_t V_t_rules V_t_symbols V_t_symbols_cells V_t_starts V_t_lengths a1 = some z) : gx_Mi l yX6_give wsX6_give (gx_rm 1) D cI cZ [.ref h_t, .int a1] (wd_X6_give cI cZ h_t h_t_rules h_t_tape h_t_pace h_t_symbols h_t_symbols_cells h_t_starts h_t_lengths V_t V_t_rules V_t_symbols V_t_symbols_cells V_t_starts V_t_lengths) (wd_X6_give cI cZ h_t h_t_rules h_t_tape h_t_pace h_t_symbols h_t_symbols_cells h_t_starts h_t_lengths z.2.1 V_t_rules z.2.2.1 z.2.2.2 V_t_starts V_t_lengths) z.1 := by
  refine gx_ofi (cc := cX6_give) (own := RX6) (by decide) rfl rfl (Nat.le_of_ble_eq_true rfl) [(0, .ref h_t), (1, .int a1)] rfl ?_
  intro p e s m args below meth c A Q ls C hQ hl hw
  have hx := C.1.1
  have hb := C.1.2.1
  rw [fn_X6_give] at hf
  refine lv_aload_n hx hb dX6_give_0 rfl (lv_at hl 0 rfl) ?_
  refine gx_get C hw 0 rfl (gx_gr rfl) ln_X6_give_33 dX6_give_1 ?_
  obtain ⟨y_4, hy_4, hf⟩ := gx_b hf
  refine gx_calli (As := []) (ws' := wd_X6_give cI cZ h_t h_t_rules h_t_tape h_t_pace h_t_symbols h_t_symbols_cells h_t_starts h_t_lengths V_t V_t_rules V_t_symbols V_t_symbols_cells V_t_starts V_t_lengths) (isC := [2]) (isR := [0, 1, 3, 4, 5]) (isP := [0, 1, 5, 2, 3, 4]) C hw (ct_X2_size l D cI cZ h_t_symbols h_t_symbols_cells V_t_symbols hy_4) kl_X6_give_145 ⟨rfl, rfl⟩ ⟨rfl, rfl, by decide, by decide, by decide, by decide, rfl⟩ 0 rfl rfl rfl rfl hl.1 (Nat.le_of_ble_eq_true rfl) ⟨Nat.le_refl _, Nat.le_refl _⟩ dX6_give_4 (fun H locs hw => ?_)
  refine lv_istore_n (lv' := [(2, .int y_4), (0, .ref h_t), (1, .int a1)]) hx hb dX6_give_7 rfl hl (by decide) rfl (fun ls hl => ?_)
  refine lv_iload_n hx hb dX6_give_8 rfl (lv_at hl 2 rfl) ?_
  refine lv_aload_n hx hb dX6_give_9 rfl (lv_at hl 1 rfl) ?_
  refine gx_get C hw 0 rfl (gx_gr rfl) ln_X6_give_9 dX6_give_10 ?_
  refine gx_get (v := .int (V_t_rules 9)) C hw 1 rfl (gx_gj rfl rfl) ln_X6_give_126 dX6_give_13 ?_
  refine lv_isub hx hb dX6_give_16 ?_
  refine lv_istore_n (lv' := [(3, .int (a1 - (V_t_rules 9))), (2, .int y_4), (0, .ref h_t), (1, .int a1)]) hx hb dX6_give_17 rfl hl (by decide) rfl (fun ls hl => ?_)
  refine lv_iload_n hx hb dX6_give_18 rfl (lv_at hl 0 rfl) ?_
  refine lv_if_lt (tgt := 35) hx hb dX6_give_19 (by decide) (fun hc => ?_) (fun hc => ?_)
  · replace hf := gx_t hc hf
    exact tm_X6_give_35 C h_t h_t_rules h_t_tape h_t_pace h_t_symbols h_t_symbols_cells h_t_starts h_t_lengths V_t_rules V_t_starts V_t_lengths hQ  V_t V_t_symbols V_t_symbols_cells a1 y_4 (a1 - (V_t_rules 9)) _ _ _ (lv_sub hl [2, 3, 1, 0] rfl) hw hf
  · replace hf := gx_f hc hf
    refine lv_iload_n hx hb dX6_give_22 rfl (lv_at hl 0 rfl) ?_
    refine lv_aload_n hx hb dX6_give_23 rfl (lv_at hl 2 rfl) ?_
    refine gx_get C hw 0 rfl (gx_gr rfl) ln_X6_give_37 dX6_give_24 ?_
    refine gx_alen C hw 4 rfl dX6_give_27 ?_
    refine lv_icmp_ge (tgt := 35) hx hb dX6_give_28 (by decide) (fun hc => ?_) (fun hc => ?_)
    · replace hf := gx_t hc hf
      exact tm_X6_give_35 C h_t h_t_rules h_t_tape h_t_pace h_t_symbols h_t_symbols_cells h_t_starts h_t_lengths V_t_rules V_t_starts V_t_lengths hQ  V_t V_t_symbols V_t_symbols_cells a1 y_4 (a1 - (V_t_rules 9)) _ _ _ (lv_sub hl [2, 3, 1, 0] rfl) hw hf
    · replace hf := gx_f hc hf
      refine lv_iconst (v := 1) hx hb dX6_give_31 (by decide) ?_
      refine lv_goto (tgt := 36) hx hb dX6_give_32 (by decide) ?_
      exact tm_X6_give_36 C h_t h_t_rules h_t_tape h_t_pace h_t_symbols h_t_symbols_cells h_t_starts h_t_lengths V_t_rules V_t_starts V_t_lengths hQ  V_t V_t_symbols V_t_symbols_cells a1 y_4 (a1 - (V_t_rules 9)) 1 _ _ _ (lv_sub hl [2, 3, 1, 0] rfl) hw hf
-- LzwForms$Unpacker.takeString: touched ['t', 't_rules', 't_pace', 't_symbols', 't_symbols_cells', 't_starts', 't_lengths']; used ['t', 't_rules', 't_pace', 't_symbols', 't_symbols_cells', 't_starts', 't_lengths']; mod ['t', 't_symbols', 't_symbols_cells', 't_starts', 't_lengths']; height 2
theorem ln_X6_takeString_9 : gx_L wsX6_takeString RX6 9 6 0 := ⟨_, _, _, rfl, by decide +kernel, by decide, Or.inl (by decide +kernel)⟩
theorem ln_X6_takeString_24 : gx_L wsX6_takeString RX6 24 6 2 := ⟨_, _, _, rfl, by decide +kernel, by decide, Or.inl (by decide +kernel)⟩
theorem ln_X6_takeString_123 : gx_L wsX6_takeString RX6 123 0 3 := ⟨_, _, _, rfl, by decide +kernel, by decide, Or.inr (by decide +kernel)⟩
theorem ln_X6_takeString_126 : gx_L wsX6_takeString RX6 126 3 9 := ⟨_, _, _, rfl, by decide +kernel, by decide, Or.inr (by decide +kernel)⟩
theorem kl_X6_takeString_129 : gx_KV wsX6_takeString RX6 129 yX6_isAboveCount cX6_isAboveCount 3 (some .boolean) wsX6_isAboveCount (gx_rm 0) (gx_rm 2) 1 := ⟨gX6_takeString_X6_isAboveCount, ⟨_, rfl⟩, ⟨by decide, by decide, by decide +kernel⟩, ⟨by decide, by decide⟩⟩
theorem kl_X6_takeString_133 : gx_KV wsX6_takeString RX6 133 yX6_makeString cX6_makeString 2 none wsX6_makeString (gx_rm 0) (gx_rm 2) 0 := ⟨gX6_takeString_X6_makeString, ⟨_, rfl⟩, ⟨by decide, by decide, by decide +kernel⟩, ⟨by decide, by decide⟩⟩
theorem kl_X6_takeString_136 : gx_KV wsX6_takeString RX6 136 yX6_give cX6_give 7 (some .int) wsX6_give (gx_rm 1) (gx_rm 2) 1 := ⟨gX6_takeString_X6_give, ⟨_, rfl⟩, ⟨by decide, by decide, by decide +kernel⟩, ⟨by decide, by decide⟩⟩
def wd_X6_takeString (cI cZ : ClassId) (h_t h_t_rules h_t_tape h_t_pace h_t_symbols h_t_symbols_cells h_t_starts h_t_lengths : Nat) (V_t V_t_rules V_t_pace V_t_symbols V_t_symbols_cells V_t_starts V_t_lengths : Nat → Int32) : va_W := [gx_o h_t 6 [some (some h_t_rules), some (some h_t_tape), some (some h_t_pace), some (some h_t_symbols), some (some h_t_starts), some (some h_t_lengths), none, none, none, none] V_t, gx_o h_t_rules 3 [none, none, none, none, none, none, none, none, none, none, none, none] V_t_rules, gx_o h_t_pace 0 [some (some h_t_rules), none, none, none, none, none, none] V_t_pace, gx_o h_t_symbols 2 [some (some h_t_symbols_cells), none] V_t_symbols, gx_a h_t_symbols_cells cI 300 V_t_symbols_cells, gx_a h_t_starts cI 300 V_t_starts, gx_a h_t_lengths cI 300 V_t_lengths]
set_option maxHeartbeats 4000000 in
set_option maxRecDepth 100000 in
theorem tm_X6_takeString_37 (C : gx_C cX6_takeString 2 wsX6_takeString RX6 D cI cZ p s m args c) (h_t h_t_rules h_t_tape h_t_pace h_t_symbols h_t_symbols_cells h_t_starts h_t_lengths : Nat) (V_t_rules V_t_pace : Nat → Int32) {z : Int32 × (Nat → Int32) × (Nat → Int32) × (Nat → Int32) × (Nat → Int32) × (Nat → Int32)} (hQ : gx_Qi cX6_takeString .int p l e (gx_rm 2) s m args below meth c D A Q (wd_X6_takeString cI cZ h_t h_t_rules h_t_tape h_t_pace h_t_symbols h_t_symbols_cells h_t_starts h_t_lengths z.2.1 V_t_rules V_t_pace z.2.2.1 z.2.2.2.1 z.2.2.2.2.1 z.2.2.2.2.2) z.1) : ∀ (V_t V_t_symbols V_t_symbols_cells V_t_starts V_t_lengths : Nat → Int32) (x1 : Int32) (ls : Array Slot) (H : Heap) (locs : List Loc), lv_has ls 2 [(0, .ref h_t), (1, .int x1)] → gx_W D A s (wd_X6_takeString cI cZ h_t h_t_rules h_t_tape h_t_pace h_t_symbols h_t_symbols_cells h_t_starts h_t_lengths V_t V_t_rules V_t_pace V_t_symbols V_t_symbols_cells V_t_starts V_t_lengths) H locs → fn_X6_takeString_j37 V_t_rules V_t_pace V_t V_t_symbols V_t_symbols_cells V_t_starts V_t_lengths x1 = some z → W p l e (gx_rm 2) s m args below meth c H locs 0 0 Q (F0 m 37 ls []) := by
  have hx := C.1.1
  have hb := C.1.2.1
  intro V_t V_t_symbols V_t_symbols_cells V_t_starts V_t_lengths x1 ls H locs hl hw hf
  rw [fn_X6_takeString_j37] at hf
  refine lv_aload_n hx hb dX6_takeString_37 rfl (lv_at hl 0 rfl) ?_
  refine lv_iload_n hx hb dX6_takeString_38 rfl (lv_at hl 1 rfl) ?_
  obtain ⟨y_39, hy_39, hf⟩ := gx_b hf
  refine gx_calli (As := [.int x1]) (ws' := wd_X6_takeString cI cZ h_t h_t_rules h_t_tape h_t_pace h_t_symbols h_t_symbols_cells h_t_starts h_t_lengths y_39.2.1 V_t_rules V_t_pace y_39.2.2.1 y_39.2.2.2 V_t_starts V_t_lengths) (isC := [0, 1, 3, 4, 5, 6]) (isR := [2]) (isP := [1, 2, 0, 3, 4, 5, 6]) C hw (ct_X6_give l D cI cZ h_t h_t_rules h_t_tape h_t_pace h_t_symbols h_t_symbols_cells h_t_starts h_t_lengths V_t V_t_rules V_t_symbols V_t_symbols_cells V_t_starts V_t_lengths x1 hy_39) kl_X6_takeString_136 ⟨rfl, rfl⟩ ⟨rfl, rfl, by decide, by decide, by decide, by decide, rfl⟩ 0 rfl rfl rfl rfl hl.1 (Nat.le_of_ble_eq_true rfl) ⟨Nat.le_refl _, Nat.le_refl _⟩ dX6_takeString_39 (fun H locs hw => ?_)
  obtain rfl := Option.some.inj hf
  exact hQ _ _ _ _ dX6_takeString_42 rfl hw
set_option maxHeartbeats 4000000 in
set_option maxRecDepth 100000 in
theorem ct_X6_takeString (l : Launch) (D : va_G) (cI cZ : ClassId) (h_t h_t_rules h_t_tape h_t_pace h_t_symbols h_t_symbols_cells h_t_starts h_t_lengths : Nat) (V_t V_t_rules V_t_pace V_t_symbols V_t_symbols_cells V_t_starts V_t_lengths : Nat → Int32) (a1 : Int32) {z : Int32 × (Nat → Int32) × (Nat → Int32) × (Nat → Int32) × (Nat → Int32) × (Nat → Int32)} (hf : fn_X6_takeString V_t V_t_rules V_t_pace V_t_symbols V_t_symbols_cells V_t_starts V_t_lengths a1 = some z) : gx_Mi l yX6_takeString wsX6_takeString (gx_rm 2) D cI cZ [.ref h_t, .int a1] (wd_X6_takeString cI cZ h_t h_t_rules h_t_tape h_t_pace h_t_symbols h_t_symbols_cells h_t_starts h_t_lengths V_t V_t_rules V_t_pace V_t_symbols V_t_symbols_cells V_t_starts V_t_lengths) (wd_X6_takeString cI cZ h_t h_t_rules h_t_tape h_t_pace h_t_symbols h_t_symbols_cells h_t_starts h_t_lengths z.2.1 V_t_rules V_t_pace z.2.2.1 z.2.2.2.1 z.2.2.2.2.1 z.2.2.2.2.2) z.1 := by
  refine gx_ofi (cc := cX6_takeString) (own := RX6) (by decide) rfl rfl (Nat.le_of_ble_eq_true rfl) [(0, .ref h_t), (1, .int a1)] rfl ?_
  intro p e s m args below meth c A Q ls C hQ hl hw
  have hx := C.1.1
  have hb := C.1.2.1
  rw [fn_X6_takeString] at hf
  refine lv_aload_n hx hb dX6_takeString_0 rfl (lv_at hl 0 rfl) ?_
  refine gx_get C hw 0 rfl (gx_gr rfl) ln_X6_takeString_24 dX6_takeString_1 ?_
  refine gx_get (v := .int (V_t_pace 3)) C hw 2 rfl (gx_gj rfl rfl) ln_X6_takeString_123 dX6_takeString_4 ?_
  refine lv_if_eq (tgt := 23) hx hb dX6_takeString_7 (by decide) (fun hc => ?_) (fun hc => ?_)
  · replace hf := gx_t hc hf
    refine lv_aload_n hx hb dX6_takeString_23 rfl (lv_at hl 0 rfl) ?_
    refine lv_iload_n hx hb dX6_takeString_24 rfl (lv_at hl 1 rfl) ?_
    obtain ⟨y_25, hy_25, hf⟩ := gx_b hf
    refine gx_calli (As := [.int a1]) (ws' := wd_X6_takeString cI cZ h_t h_t_rules h_t_tape h_t_pace h_t_symbols h_t_symbols_cells h_t_starts h_t_lengths V_t V_t_rules V_t_pace V_t_symbols V_t_symbols_cells V_t_starts V_t_lengths) (isC := [0, 1, 2]) (isR := [3, 4, 5, 6]) (isP := [4, 5, 6, 0, 1, 2, 3]) C hw (ct_X6_isAboveCount l D cI cZ h_t h_t_rules h_t_tape h_t_pace h_t_symbols h_t_starts h_t_lengths V_t V_t_rules V_t_pace a1 hy_25) kl_X6_takeString_129 ⟨rfl, rfl⟩ ⟨rfl, rfl, by decide, by decide, by decide, by decide, rfl⟩ 0 rfl rfl rfl rfl hl.1 (Nat.le_of_ble_eq_true rfl) ⟨Nat.le_refl _, Nat.le_refl _⟩ dX6_takeString_25 (fun H locs hw => ?_)
    refine lv_if_eq (tgt := 33) hx hb dX6_takeString_28 (by decide) (fun hc => ?_) (fun hc => ?_)
    · replace hf := gx_t hc hf
      refine lv_aload_n hx hb dX6_takeString_33 rfl (lv_at hl 0 rfl) ?_
      obtain ⟨y_34, hy_34, hf⟩ := gx_b hf
      refine gx_callv (As := []) (ws' := wd_X6_takeString cI cZ h_t h_t_rules h_t_tape h_t_pace h_t_symbols h_t_symbols_cells h_t_starts h_t_lengths V_t V_t_rules V_t_pace V_t_symbols V_t_symbols_cells y_34.1 y_34.2) (isC := [0, 1, 2, 5, 6]) (isR := [3, 4]) (isP := [2, 3, 4, 0, 1, 5, 6]) C hw (ct_X6_makeString l D cI cZ h_t h_t_rules h_t_tape h_t_pace h_t_symbols h_t_starts h_t_lengths V_t V_t_rules V_t_pace V_t_starts V_t_lengths hy_34) kl_X6_takeString_133 ⟨rfl, rfl⟩ ⟨rfl, rfl, by decide, by decide, by decide, by decide, rfl⟩ 0 rfl rfl rfl rfl hl.1 (Nat.le_of_ble_eq_true rfl) ⟨Nat.le_refl _, Nat.le_refl _⟩ dX6_takeString_34 (fun H locs hw => ?_)
      exact tm_X6_takeString_37 C h_t h_t_rules h_t_tape h_t_pace h_t_symbols h_t_symbols_cells h_t_starts h_t_lengths V_t_rules V_t_pace hQ  V_t V_t_symbols V_t_symbols_cells y_34.1 y_34.2 a1 _ _ _ (lv_sub hl [0, 1] rfl) hw hf
    · replace hf := gx_f hc hf
      refine lv_iconst (v := 4) hx hb dX6_takeString_31 (by decide) ?_
      obtain rfl := Option.some.inj hf
      exact hQ _ _ _ _ dX6_takeString_32 rfl hw
  · replace hf := gx_f hc hf
    refine lv_iload_n hx hb dX6_takeString_10 rfl (lv_at hl 1 rfl) ?_
    refine lv_aload_n hx hb dX6_takeString_11 rfl (lv_at hl 0 rfl) ?_
    refine gx_get C hw 0 rfl (gx_gr rfl) ln_X6_takeString_9 dX6_takeString_12 ?_
    refine gx_get (v := .int (V_t_rules 9)) C hw 1 rfl (gx_gj rfl rfl) ln_X6_takeString_126 dX6_takeString_15 ?_
    refine lv_icmp_lt (tgt := 37) hx hb dX6_takeString_18 (by decide) (fun hc => ?_) (fun hc => ?_)
    · replace hf := gx_t hc hf
      exact tm_X6_takeString_37 C h_t h_t_rules h_t_tape h_t_pace h_t_symbols h_t_symbols_cells h_t_starts h_t_lengths V_t_rules V_t_pace hQ  V_t V_t_symbols V_t_symbols_cells V_t_starts V_t_lengths a1 _ _ _ (lv_sub hl [0, 1] rfl) hw hf
    · replace hf := gx_f hc hf
      refine lv_iconst (v := 3) hx hb dX6_takeString_21 (by decide) ?_
      obtain rfl := Option.some.inj hf
      exact hQ _ _ _ _ dX6_takeString_22 rfl hw
-- LzwForms$Unpacker.take: touched ['t', 't_rules', 't_pace', 't_symbols', 't_symbols_cells', 't_starts', 't_lengths']; used ['t', 't_rules', 't_pace', 't_symbols', 't_symbols_cells', 't_starts', 't_lengths']; mod ['t', 't_pace', 't_symbols', 't_symbols_cells', 't_starts', 't_lengths']; height 3
theorem ln_X6_take_9 : gx_L wsX6_take RX6 9 6 0 := ⟨_, _, _, rfl, by decide +kernel, by decide, Or.inl (by decide +kernel)⟩
theorem ln_X6_take_24 : gx_L wsX6_take RX6 24 6 2 := ⟨_, _, _, rfl, by decide +kernel, by decide, Or.inl (by decide +kernel)⟩
theorem ln_X6_take_82 : gx_L wsX6_take RX6 82 3 8 := ⟨_, _, _, rfl, by decide +kernel, by decide, Or.inr (by decide +kernel)⟩
theorem ln_X6_take_98 : gx_L wsX6_take RX6 98 6 9 := ⟨_, _, _, rfl, by decide +kernel, by decide, Or.inl (by decide +kernel)⟩
theorem ln_X6_take_111 : gx_L wsX6_take RX6 111 3 7 := ⟨_, _, _, rfl, by decide +kernel, by decide, Or.inr (by decide +kernel)⟩
theorem ln_X6_take_114 : gx_L wsX6_take RX6 114 3 4 := ⟨_, _, _, rfl, by decide +kernel, by decide, Or.inr (by decide +kernel)⟩
theorem kl_X6_take_117 : gx_KV wsX6_take RX6 117 yX6_takeString cX6_takeString 2 (some .int) wsX6_takeString (gx_rm 2) (gx_rm 3) 1 := ⟨gX6_take_X6_takeString, ⟨_, rfl⟩, ⟨by decide, by decide, by decide +kernel⟩, ⟨by decide, by decide⟩⟩
theorem kl_X6_take_120 : gx_KV wsX6_take RX6 120 yX0_pass cX0_pass 2 none wsX0_pass (gx_rm 2) (gx_rm 3) 1 := ⟨gX6_take_X0_pass, ⟨_, rfl⟩, ⟨by decide, by decide, by decide +kernel⟩, ⟨by decide, by decide⟩⟩
def wd_X6_take (cI cZ : ClassId) (h_t h_t_rules h_t_tape h_t_pace h_t_symbols h_t_symbols_cells h_t_starts h_t_lengths : Nat) (V_t V_t_rules V_t_pace V_t_symbols V_t_symbols_cells V_t_starts V_t_lengths : Nat → Int32) : va_W := [gx_o h_t 6 [some (some h_t_rules), some (some h_t_tape), some (some h_t_pace), some (some h_t_symbols), some (some h_t_starts), some (some h_t_lengths), none, none, none, none] V_t, gx_o h_t_rules 3 [none, none, none, none, none, none, none, none, none, none, none, none] V_t_rules, gx_o h_t_pace 0 [some (some h_t_rules), none, none, none, none, none, none] V_t_pace, gx_o h_t_symbols 2 [some (some h_t_symbols_cells), none] V_t_symbols, gx_a h_t_symbols_cells cI 300 V_t_symbols_cells, gx_a h_t_starts cI 300 V_t_starts, gx_a h_t_lengths cI 300 V_t_lengths]
set_option maxHeartbeats 4000000 in
set_option maxRecDepth 100000 in
theorem tm_X6_take_65 (C : gx_C cX6_take 4 wsX6_take RX6 D cI cZ p s m args c) (h_t h_t_rules h_t_tape h_t_pace h_t_symbols h_t_symbols_cells h_t_starts h_t_lengths : Nat) (V_t_rules : Nat → Int32) {z : Int32 × (Nat → Int32) × (Nat → Int32) × (Nat → Int32) × (Nat → Int32) × (Nat → Int32) × (Nat → Int32)} (hQ : gx_Qi cX6_take .int p l e (gx_rm 3) s m args below meth c D A Q (wd_X6_take cI cZ h_t h_t_rules h_t_tape h_t_pace h_t_symbols h_t_symbols_cells h_t_starts h_t_lengths z.2.1 V_t_rules z.2.2.1 z.2.2.2.1 z.2.2.2.2.1 z.2.2.2.2.2.1 z.2.2.2.2.2.2) z.1) : ∀ (V_t V_t_pace V_t_symbols V_t_symbols_cells V_t_starts V_t_lengths : Nat → Int32) (x1 s0 : Int32) (ls : Array Slot) (H : Heap) (locs : List Loc), lv_has ls 4 [(0, .ref h_t), (1, .int x1)] → gx_W D A s (wd_X6_take cI cZ h_t h_t_rules h_t_tape h_t_pace h_t_symbols h_t_symbols_cells h_t_starts h_t_lengths V_t V_t_rules V_t_pace V_t_symbols V_t_symbols_cells V_t_starts V_t_lengths) H locs → fn_X6_take_j65 V_t_rules V_t V_t_pace V_t_symbols V_t_symbols_cells V_t_starts V_t_lengths x1 s0 = some z → W p l e (gx_rm 3) s m args below meth c H locs 0 0 Q (F0 m 65 ls [.int s0]) := by
  have hx := C.1.1
  have hb := C.1.2.1
  intro V_t V_t_pace V_t_symbols V_t_symbols_cells V_t_starts V_t_lengths x1 s0 ls H locs hl hw hf
  rw [fn_X6_take_j65] at hf
  refine lv_istore_n (lv' := [(3, .int s0), (0, .ref h_t), (1, .int x1)]) hx hb dX6_take_65 rfl hl (by decide) rfl (fun ls hl => ?_)
  refine lv_iload_n hx hb dX6_take_66 rfl (lv_at hl 0 rfl) ?_
  refine lv_if_ne (tgt := 78) hx hb dX6_take_67 (by decide) (fun hc => ?_) (fun hc => ?_)
  · replace hf := gx_f hc hf
    refine lv_iload_n hx hb dX6_take_78 rfl (lv_at hl 0 rfl) ?_
    obtain rfl := Option.some.inj hf
    exact hQ _ _ _ _ dX6_take_79 rfl hw
  · replace hf := gx_t hc hf
    refine lv_aload_n hx hb dX6_take_70 rfl (lv_at hl 1 rfl) ?_
    refine gx_get C hw 0 rfl (gx_gr rfl) ln_X6_take_24 dX6_take_71 ?_
    refine lv_iload_n hx hb dX6_take_74 rfl (lv_at hl 2 rfl) ?_
    obtain ⟨y_75, hy_75, hf⟩ := gx_b hf
    refine gx_callv (As := [.int x1]) (ws' := wd_X6_take cI cZ h_t h_t_rules h_t_tape h_t_pace h_t_symbols h_t_symbols_cells h_t_starts h_t_lengths V_t V_t_rules y_75 V_t_symbols V_t_symbols_cells V_t_starts V_t_lengths) (isC := [2, 1]) (isR := [0, 3, 4, 5, 6]) (isP := [0, 6, 5, 1, 2, 3, 4]) C hw (ct_X0_pass l D cI cZ h_t_pace h_t_rules V_t_pace V_t_rules x1 hy_75) kl_X6_take_120 ⟨rfl, rfl⟩ ⟨rfl, rfl, by decide, by decide, by decide, by decide, rfl⟩ 0 rfl rfl rfl rfl hl.1 (Nat.le_of_ble_eq_true rfl) ⟨Nat.le_refl _, Nat.le_refl _⟩ dX6_take_75 (fun H locs hw => ?_)
    refine lv_iload_n hx hb dX6_take_78 rfl (lv_at hl 0 rfl) ?_
    obtain rfl := Option.some.inj hf
    exact hQ _ _ _ _ dX6_take_79 rfl hw
set_option maxHeartbeats 4000000 in
set_option maxRecDepth 100000 in
theorem tm_X6_take_56 (C : gx_C cX6_take 4 wsX6_take RX6 D cI cZ p s m args c) (h_t h_t_rules h_t_tape h_t_pace h_t_symbols h_t_symbols_cells h_t_starts h_t_lengths : Nat) (V_t_rules : Nat → Int32) {z : Int32 × (Nat → Int32) × (Nat → Int32) × (Nat → Int32) × (Nat → Int32) × (Nat → Int32) × (Nat → Int32)} (hQ : gx_Qi cX6_take .int p l e (gx_rm 3) s m args below meth c D A Q (wd_X6_take cI cZ h_t h_t_rules h_t_tape h_t_pace h_t_symbols h_t_symbols_cells h_t_starts h_t_lengths z.2.1 V_t_rules z.2.2.1 z.2.2.2.1 z.2.2.2.2.1 z.2.2.2.2.2.1 z.2.2.2.2.2.2) z.1) : ∀ (V_t V_t_pace V_t_symbols V_t_symbols_cells V_t_starts V_t_lengths : Nat → Int32) (x1 : Int32) (ls : Array Slot) (H : Heap) (locs : List Loc), lv_has ls 4 [(0, .ref h_t), (1, .int x1)] → gx_W D A s (wd_X6_take cI cZ h_t h_t_rules h_t_tape h_t_pace h_t_symbols h_t_symbols_cells h_t_starts h_t_lengths V_t V_t_rules V_t_pace V_t_symbols V_t_symbols_cells V_t_starts V_t_lengths) H locs → fn_X6_take_j56 V_t_rules V_t V_t_pace V_t_symbols V_t_symbols_cells V_t_starts V_t_lengths x1 = some z → W p l e (gx_rm 3) s m args below meth c H locs 0 0 Q (F0 m 56 ls []) := by
  have hx := C.1.1
  have hb := C.1.2.1
  intro V_t V_t_pace V_t_symbols V_t_symbols_cells V_t_starts V_t_lengths x1 ls H locs hl hw hf
  rw [fn_X6_take_j56] at hf
  refine lv_iconst (v := 0) hx hb dX6_take_56 (by decide) ?_
  refine lv_goto (tgt := 65) hx hb dX6_take_57 (by decide) ?_
  exact tm_X6_take_65 C h_t h_t_rules h_t_tape h_t_pace h_t_symbols h_t_symbols_cells h_t_starts h_t_lengths V_t_rules hQ  V_t V_t_pace V_t_symbols V_t_symbols_cells V_t_starts V_t_lengths x1 0 _ _ _ (lv_sub hl [0, 1] rfl) hw hf
set_option maxHeartbeats 4000000 in
set_option maxRecDepth 100000 in
theorem tm_X6_take_41 (C : gx_C cX6_take 4 wsX6_take RX6 D cI cZ p s m args c) (h_t h_t_rules h_t_tape h_t_pace h_t_symbols h_t_symbols_cells h_t_starts h_t_lengths : Nat) (V_t_rules : Nat → Int32) {z : Int32 × (Nat → Int32) × (Nat → Int32) × (Nat → Int32) × (Nat → Int32) × (Nat → Int32) × (Nat → Int32)} (hQ : gx_Qi cX6_take .int p l e (gx_rm 3) s m args below meth c D A Q (wd_X6_take cI cZ h_t h_t_rules h_t_tape h_t_pace h_t_symbols h_t_symbols_cells h_t_starts h_t_lengths z.2.1 V_t_rules z.2.2.1 z.2.2.2.1 z.2.2.2.2.1 z.2.2.2.2.2.1 z.2.2.2.2.2.2) z.1) : ∀ (V_t V_t_pace V_t_symbols V_t_symbols_cells V_t_starts V_t_lengths : Nat → Int32) (x1 x2 : Int32) (ls : Array Slot) (H : Heap) (locs : List Loc), lv_has ls 4 [(0, .ref h_t), (1, .int x1), (2, .int x2)] → gx_W D A s (wd_X6_take cI cZ h_t h_t_rules h_t_tape h_t_pace h_t_symbols h_t_symbols_cells h_t_starts h_t_lengths V_t V_t_rules V_t_pace V_t_symbols V_t_symbols_cells V_t_starts V_t_lengths) H locs → fn_X6_take_j41 V_t_rules V_t V_t_pace V_t_symbols V_t_symbols_cells V_t_starts V_t_lengths x1 x2 = some z → W p l e (gx_rm 3) s m args below meth c H locs 0 0 Q (F0 m 41 ls []) := by
  have hx := C.1.1
  have hb := C.1.2.1
  intro V_t V_t_pace V_t_symbols V_t_symbols_cells V_t_starts V_t_lengths x1 x2 ls H locs hl hw hf
  rw [fn_X6_take_j41] at hf
  refine lv_iload_n hx hb dX6_take_41 rfl (lv_at hl 2 rfl) ?_
  refine lv_if_ne (tgt := 56) hx hb dX6_take_42 (by decide) (fun hc => ?_) (fun hc => ?_)
  · replace hf := gx_f hc hf
    exact tm_X6_take_56 C h_t h_t_rules h_t_tape h_t_pace h_t_symbols h_t_symbols_cells h_t_starts h_t_lengths V_t_rules hQ  V_t V_t_pace V_t_symbols V_t_symbols_cells V_t_starts V_t_lengths x1 _ _ _ (lv_sub hl [0, 1] rfl) hw hf
  · replace hf := gx_t hc hf
    refine lv_iload_n hx hb dX6_take_45 rfl (lv_at hl 1 rfl) ?_
    refine lv_aload_n hx hb dX6_take_46 rfl (lv_at hl 0 rfl) ?_
    refine gx_get C hw 0 rfl (gx_gr rfl) ln_X6_take_9 dX6_take_47 ?_
    refine gx_get (v := .int (V_t_rules 8)) C hw 1 rfl (gx_gj rfl rfl) ln_X6_take_82 dX6_take_50 ?_
    refine lv_icmp_ne (tgt := 60) hx hb dX6_take_53 (by decide) (fun hc => ?_) (fun hc => ?_)
    · replace hf := gx_f hc hf
      refine lv_aload_n hx hb dX6_take_60 rfl (lv_at hl 0 rfl) ?_
      refine lv_iload_n hx hb dX6_take_61 rfl (lv_at hl 1 rfl) ?_
      obtain ⟨y_62, hy_62, hf⟩ := gx_b hf
      refine gx_calli (As := [.int x1]) (ws' := wd_X6_take cI cZ h_t h_t_rules h_t_tape h_t_pace h_t_symbols h_t_symbols_cells h_t_starts h_t_lengths y_62.2.1 V_t_rules V_t_pace y_62.2.2.1 y_62.2.2.2.1 y_62.2.2.2.2.1 y_62.2.2.2.2.2) (isC := [0, 1, 2, 3, 4, 5, 6]) (isR := []) (isP := [0, 1, 2, 3, 4, 5, 6]) C hw (ct_X6_takeString l D cI cZ h_t h_t_rules h_t_tape h_t_pace h_t_symbols h_t_symbols_cells h_t_starts h_t_lengths V_t V_t_rules V_t_pace V_t_symbols V_t_symbols_cells V_t_starts V_t_lengths x1 hy_62) kl_X6_take_117 ⟨rfl, rfl⟩ ⟨rfl, rfl, by decide, by decide, by decide, by decide, rfl⟩ 0 rfl rfl rfl rfl hl.1 (Nat.le_of_ble_eq_true rfl) ⟨Nat.le_refl _, Nat.le_refl _⟩ dX6_take_62 (fun H locs hw => ?_)
      exact tm_X6_take_65 C h_t h_t_rules h_t_tape h_t_pace h_t_symbols h_t_symbols_cells h_t_starts h_t_lengths V_t_rules hQ  y_62.2.1 V_t_pace y_62.2.2.1 y_62.2.2.2.1 y_62.2.2.2.2.1 y_62.2.2.2.2.2 x1 y_62.1 _ _ _ (lv_sub hl [0, 1] rfl) hw hf
    · replace hf := gx_t hc hf
      exact tm_X6_take_56 C h_t h_t_rules h_t_tape h_t_pace h_t_symbols h_t_symbols_cells h_t_starts h_t_lengths V_t_rules hQ  V_t V_t_pace V_t_symbols V_t_symbols_cells V_t_starts V_t_lengths x1 _ _ _ (lv_sub hl [0, 1] rfl) hw hf
set_option maxHeartbeats 4000000 in
set_option maxRecDepth 100000 in
theorem tm_X6_take_16 (C : gx_C cX6_take 4 wsX6_take RX6 D cI cZ p s m args c) (h_t h_t_rules h_t_tape h_t_pace h_t_symbols h_t_symbols_cells h_t_starts h_t_lengths : Nat) (V_t_rules : Nat → Int32) {z : Int32 × (Nat → Int32) × (Nat → Int32) × (Nat → Int32) × (Nat → Int32) × (Nat → Int32) × (Nat → Int32)} (hQ : gx_Qi cX6_take .int p l e (gx_rm 3) s m args below meth c D A Q (wd_X6_take cI cZ h_t h_t_rules h_t_tape h_t_pace h_t_symbols h_t_symbols_cells h_t_starts h_t_lengths z.2.1 V_t_rules z.2.2.1 z.2.2.2.1 z.2.2.2.2.1 z.2.2.2.2.2.1 z.2.2.2.2.2.2) z.1) : ∀ (V_t V_t_pace V_t_symbols V_t_symbols_cells V_t_starts V_t_lengths : Nat → Int32) (x1 s0 : Int32) (ls : Array Slot) (H : Heap) (locs : List Loc), lv_has ls 4 [(0, .ref h_t), (1, .int x1)] → gx_W D A s (wd_X6_take cI cZ h_t h_t_rules h_t_tape h_t_pace h_t_symbols h_t_symbols_cells h_t_starts h_t_lengths V_t V_t_rules V_t_pace V_t_symbols V_t_symbols_cells V_t_starts V_t_lengths) H locs → fn_X6_take_j16 V_t_rules V_t V_t_pace V_t_symbols V_t_symbols_cells V_t_starts V_t_lengths x1 s0 = some z → W p l e (gx_rm 3) s m args below meth c H locs 0 0 Q (F0 m 16 ls [.int s0]) := by
  have hx := C.1.1
  have hb := C.1.2.1
  intro V_t V_t_pace V_t_symbols V_t_symbols_cells V_t_starts V_t_lengths x1 s0 ls H locs hl hw hf
  rw [fn_X6_take_j16] at hf
  refine lv_istore_n (lv' := [(2, .int s0), (0, .ref h_t), (1, .int x1)]) hx hb dX6_take_16 rfl hl (by decide) rfl (fun ls hl => ?_)
  refine lv_aload_n hx hb dX6_take_17 rfl (lv_at hl 1 rfl) ?_
  refine gx_get (v := .int (V_t 9)) C hw 0 rfl (gx_gj rfl rfl) ln_X6_take_98 dX6_take_18 ?_
  refine lv_iconst (v := 1) hx hb dX6_take_21 (by decide) ?_
  refine lv_icmp_ne (tgt := 41) hx hb dX6_take_22 (by decide) (fun hc => ?_) (fun hc => ?_)
  · replace hf := gx_f hc hf
    exact tm_X6_take_41 C h_t h_t_rules h_t_tape h_t_pace h_t_symbols h_t_symbols_cells h_t_starts h_t_lengths V_t_rules hQ  V_t V_t_pace V_t_symbols V_t_symbols_cells V_t_starts V_t_lengths x1 s0 _ _ _ (lv_sub hl [1, 2, 0] rfl) hw hf
  · replace hf := gx_t hc hf
    refine lv_aload_n hx hb dX6_take_25 rfl (lv_at hl 1 rfl) ?_
    refine gx_get C hw 0 rfl (gx_gr rfl) ln_X6_take_9 dX6_take_26 ?_
    refine gx_get (v := .int (V_t_rules 4)) C hw 1 rfl (gx_gj rfl rfl) ln_X6_take_114 dX6_take_29 ?_
    refine lv_if_eq (tgt := 41) hx hb dX6_take_32 (by decide) (fun hc => ?_) (fun hc => ?_)
    · replace hf := gx_t hc hf
      exact tm_X6_take_41 C h_t h_t_rules h_t_tape h_t_pace h_t_symbols h_t_symbols_cells h_t_starts h_t_lengths V_t_rules hQ  V_t V_t_pace V_t_symbols V_t_symbols_cells V_t_starts V_t_lengths x1 s0 _ _ _ (lv_sub hl [1, 2, 0] rfl) hw hf
    · replace hf := gx_f hc hf
      refine lv_iload_n hx hb dX6_take_35 rfl (lv_at hl 0 rfl) ?_
      refine lv_if_ne (tgt := 41) hx hb dX6_take_36 (by decide) (fun hc => ?_) (fun hc => ?_)
      · replace hf := gx_f hc hf
        exact tm_X6_take_41 C h_t h_t_rules h_t_tape h_t_pace h_t_symbols h_t_symbols_cells h_t_starts h_t_lengths V_t_rules hQ  V_t V_t_pace V_t_symbols V_t_symbols_cells V_t_starts V_t_lengths x1 s0 _ _ _ (lv_sub hl [1, 2, 0] rfl) hw hf
      · replace hf := gx_t hc hf
        refine lv_iconst (v := 2) hx hb dX6_take_39 (by decide) ?_
        obtain rfl := Option.some.inj hf
        exact hQ _ _ _ _ dX6_take_40 rfl hw
set_option maxHeartbeats 4000000 in
set_option maxRecDepth 100000 in
theorem ct_X6_take (l : Launch) (D : va_G) (cI cZ : ClassId) (h_t h_t_rules h_t_tape h_t_pace h_t_symbols h_t_symbols_cells h_t_starts h_t_lengths : Nat) (V_t V_t_rules V_t_pace V_t_symbols V_t_symbols_cells V_t_starts V_t_lengths : Nat → Int32) (a1 : Int32) {z : Int32 × (Nat → Int32) × (Nat → Int32) × (Nat → Int32) × (Nat → Int32) × (Nat → Int32) × (Nat → Int32)} (hf : fn_X6_take V_t V_t_rules V_t_pace V_t_symbols V_t_symbols_cells V_t_starts V_t_lengths a1 = some z) : gx_Mi l yX6_take wsX6_take (gx_rm 3) D cI cZ [.ref h_t, .int a1] (wd_X6_take cI cZ h_t h_t_rules h_t_tape h_t_pace h_t_symbols h_t_symbols_cells h_t_starts h_t_lengths V_t V_t_rules V_t_pace V_t_symbols V_t_symbols_cells V_t_starts V_t_lengths) (wd_X6_take cI cZ h_t h_t_rules h_t_tape h_t_pace h_t_symbols h_t_symbols_cells h_t_starts h_t_lengths z.2.1 V_t_rules z.2.2.1 z.2.2.2.1 z.2.2.2.2.1 z.2.2.2.2.2.1 z.2.2.2.2.2.2) z.1 := by
  refine gx_ofi (cc := cX6_take) (own := RX6) (by decide) rfl rfl (Nat.le_of_ble_eq_true rfl) [(0, .ref h_t), (1, .int a1)] rfl ?_
  intro p e s m args below meth c A Q ls C hQ hl hw
  have hx := C.1.1
  have hb := C.1.2.1
  rw [fn_X6_take] at hf
  refine lv_iload_n hx hb dX6_take_0 rfl (lv_at hl 1 rfl) ?_
  refine lv_aload_n hx hb dX6_take_1 rfl (lv_at hl 0 rfl) ?_
  refine gx_get C hw 0 rfl (gx_gr rfl) ln_X6_take_9 dX6_take_2 ?_
  refine gx_get (v := .int (V_t_rules 7)) C hw 1 rfl (gx_gj rfl rfl) ln_X6_take_111 dX6_take_5 ?_
  refine lv_icmp_ne (tgt := 15) hx hb dX6_take_8 (by decide) (fun hc => ?_) (fun hc => ?_)
  · replace hf := gx_f hc hf
    refine lv_iconst (v := 0) hx hb dX6_take_15 (by decide) ?_
    exact tm_X6_take_16 C h_t h_t_rules h_t_tape h_t_pace h_t_symbols h_t_symbols_cells h_t_starts h_t_lengths V_t_rules hQ  V_t V_t_pace V_t_symbols V_t_symbols_cells V_t_starts V_t_lengths a1 0 _ _ _ (lv_sub hl [0, 1] rfl) hw hf
  · replace hf := gx_t hc hf
    refine lv_iconst (v := 1) hx hb dX6_take_11 (by decide) ?_
    refine lv_goto (tgt := 16) hx hb dX6_take_12 (by decide) ?_
    exact tm_X6_take_16 C h_t h_t_rules h_t_tape h_t_pace h_t_symbols h_t_symbols_cells h_t_starts h_t_lengths V_t_rules hQ  V_t V_t_pace V_t_symbols V_t_symbols_cells V_t_starts V_t_lengths a1 1 _ _ _ (lv_sub hl [0, 1] rfl) hw hf
-- LzwForms$Unpacker.unpack: touched ['t', 't_rules', 't_tape', 't_tape_bytes', 't_tape_bytes_cells', 't_pace', 't_symbols', 't_symbols_cells', 't_starts', 't_lengths']; used ['t', 't_rules', 't_tape_bytes', 't_tape_bytes_cells', 't_pace', 't_symbols', 't_symbols_cells', 't_starts', 't_lengths']; mod ['t', 't_pace', 't_symbols', 't_symbols_cells', 't_starts', 't_lengths']; height 5
theorem ln_X6_unpack_9 : gx_L wsX6_unpack RX6 9 6 0 := ⟨_, _, _, rfl, by decide +kernel, by decide, Or.inl (by decide +kernel)⟩
theorem ln_X6_unpack_15 : gx_L wsX6_unpack RX6 15 6 1 := ⟨_, _, _, rfl, by decide +kernel, by decide, Or.inl (by decide +kernel)⟩
theorem ln_X6_unpack_24 : gx_L wsX6_unpack RX6 24 6 2 := ⟨_, _, _, rfl, by decide +kernel, by decide, Or.inl (by decide +kernel)⟩
theorem ln_X6_unpack_51 : gx_L wsX6_unpack RX6 51 3 5 := ⟨_, _, _, rfl, by decide +kernel, by decide, Or.inr (by decide +kernel)⟩
theorem ln_X6_unpack_60 : gx_L wsX6_unpack RX6 60 0 2 := ⟨_, _, _, rfl, by decide +kernel, by decide, Or.inr (by decide +kernel)⟩
theorem ln_X6_unpack_73 : gx_L wsX6_unpack RX6 73 6 8 := ⟨_, _, _, rfl, by decide +kernel, by decide, Or.inl (by decide +kernel)⟩
theorem ln_X6_unpack_82 : gx_L wsX6_unpack RX6 82 3 8 := ⟨_, _, _, rfl, by decide +kernel, by decide, Or.inr (by decide +kernel)⟩
theorem kl_X6_unpack_44 : gx_KV wsX6_unpack RX6 44 yX6_begin cX6_begin 1 none wsX6_begin (gx_rm 2) (gx_rm 5) 0 := ⟨gX6_unpack_X6_begin, ⟨_, rfl⟩, ⟨by decide, by decide, by decide +kernel⟩, ⟨by decide, by decide⟩⟩
theorem kl_X6_unpack_47 : gx_KV wsX6_unpack RX6 47 yX0_bitsThatFill cX0_bitsThatFill 1 (some .int) wsX0_bitsThatFill (gx_rm 1) (gx_rm 5) 0 := ⟨gX6_unpack_X0_bitsThatFill, ⟨_, rfl⟩, ⟨by decide, by decide, by decide +kernel⟩, ⟨by decide, by decide⟩⟩
theorem kl_X6_unpack_57 : gx_KV wsX6_unpack RX6 57 yX6_bitsLeft cX6_bitsLeft 1 (some .int) wsX6_bitsLeft (gx_rm 2) (gx_rm 5) 0 := ⟨gX6_unpack_X6_bitsLeft, ⟨_, rfl⟩, ⟨by decide, by decide, by decide +kernel⟩, ⟨by decide, by decide⟩⟩
theorem kl_X6_unpack_64 : gx_KV wsX6_unpack RX6 64 yX5_bits cX5_bits 1 (some .int) wsX5_bits (gx_rm 1) (gx_rm 5) 0 := ⟨gX6_unpack_X5_bits, ⟨_, rfl⟩, ⟨by decide, by decide, by decide +kernel⟩, ⟨by decide, by decide⟩⟩
theorem kl_X6_unpack_69 : gx_KV wsX6_unpack RX6 69 yX6_zerosUpTo cX6_zerosUpTo 3 (some .int) wsX6_zerosUpTo (gx_rm 3) (gx_rm 5) 1 := ⟨gX6_unpack_X6_zerosUpTo, ⟨_, rfl⟩, ⟨by decide, by decide, by decide +kernel⟩, ⟨by decide, by decide⟩⟩
theorem kl_X6_unpack_76 : gx_KV wsX6_unpack RX6 76 yX6_nextCode cX6_nextCode 3 (some .int) wsX6_nextCode (gx_rm 3) (gx_rm 5) 0 := ⟨gX6_unpack_X6_nextCode, ⟨_, rfl⟩, ⟨by decide, by decide, by decide +kernel⟩, ⟨by decide, by decide⟩⟩
theorem kl_X6_unpack_79 : gx_KV wsX6_unpack RX6 79 yX6_take cX6_take 4 (some .int) wsX6_take (gx_rm 3) (gx_rm 5) 1 := ⟨gX6_unpack_X6_take, ⟨_, rfl⟩, ⟨by decide, by decide, by decide +kernel⟩, ⟨by decide, by decide⟩⟩
theorem kl_X6_unpack_85 : gx_KV wsX6_unpack RX6 85 yX6_closeLastByte cX6_closeLastByte 2 (some .int) wsX6_closeLastByte (gx_rm 4) (gx_rm 5) 0 := ⟨gX6_unpack_X6_closeLastByte, ⟨_, rfl⟩, ⟨by decide, by decide, by decide +kernel⟩, ⟨by decide, by decide⟩⟩
def wd_X6_unpack (cI cZ : ClassId) (h_t h_t_rules h_t_tape h_t_tape_bytes h_t_tape_bytes_cells h_t_pace h_t_symbols h_t_symbols_cells h_t_starts h_t_lengths : Nat) (V_t V_t_rules V_t_tape V_t_tape_bytes V_t_tape_bytes_cells V_t_pace V_t_symbols V_t_symbols_cells V_t_starts V_t_lengths : Nat → Int32) : va_W := [gx_o h_t 6 [some (some h_t_rules), some (some h_t_tape), some (some h_t_pace), some (some h_t_symbols), some (some h_t_starts), some (some h_t_lengths), none, none, none, none] V_t, gx_o h_t_rules 3 [none, none, none, none, none, none, none, none, none, none, none, none] V_t_rules, gx_o h_t_tape 5 [some (some h_t_rules), some (some h_t_tape_bytes)] V_t_tape, gx_o h_t_tape_bytes 2 [some (some h_t_tape_bytes_cells), none] V_t_tape_bytes, gx_a h_t_tape_bytes_cells cI 400 V_t_tape_bytes_cells, gx_o h_t_pace 0 [some (some h_t_rules), none, none, none, none, none, none] V_t_pace, gx_o h_t_symbols 2 [some (some h_t_symbols_cells), none] V_t_symbols, gx_a h_t_symbols_cells cI 300 V_t_symbols_cells, gx_a h_t_starts cI 300 V_t_starts, gx_a h_t_lengths cI 300 V_t_lengths]
set_option maxHeartbeats 4000000 in
set_option maxRecDepth 100000 in
theorem tm_X6_unpack_59 (C : gx_C cX6_unpack 5 wsX6_unpack RX6 D cI cZ p s m args c) (h_t h_t_rules h_t_tape h_t_tape_bytes h_t_tape_bytes_cells h_t_pace h_t_symbols h_t_symbols_cells h_t_starts h_t_lengths : Nat) (V_t_rules V_t_tape V_t_tape_bytes V_t_tape_bytes_cells : Nat → Int32) {z : Int32 × (Nat → Int32) × (Nat → Int32) × (Nat → Int32) × (Nat → Int32) × (Nat → Int32) × (Nat → Int32)} (hQ : gx_Qi cX6_unpack .int p l e (gx_rm 5) s m args below meth c D A Q (wd_X6_unpack cI cZ h_t h_t_rules h_t_tape h_t_tape_bytes h_t_tape_bytes_cells h_t_pace h_t_symbols h_t_symbols_cells h_t_starts h_t_lengths z.2.1 V_t_rules V_t_tape V_t_tape_bytes V_t_tape_bytes_cells z.2.2.1 z.2.2.2.1 z.2.2.2.2.1 z.2.2.2.2.2.1 z.2.2.2.2.2.2) z.1) (K6 : (Nat → Int32) → (Nat → Int32) → (Nat → Int32) → (Nat → Int32) → (Nat → Int32) → (Nat → Int32) → Int32 → Option (Int32 × (Nat → Int32) × (Nat → Int32) × (Nat → Int32) × (Nat → Int32) × (Nat → Int32) × (Nat → Int32))) (hK6 : ∀ (V_t V_t_pace V_t_symbols V_t_symbols_cells V_t_starts V_t_lengths : Nat → Int32) (x1 : Int32) (ls : Array Slot) (H : Heap) (locs : List Loc), lv_has ls 5 [(0, .ref h_t), (1, .int x1)] → gx_W D A s (wd_X6_unpack cI cZ h_t h_t_rules h_t_tape h_t_tape_bytes h_t_tape_bytes_cells h_t_pace h_t_symbols h_t_symbols_cells h_t_starts h_t_lengths V_t V_t_rules V_t_tape V_t_tape_bytes V_t_tape_bytes_cells V_t_pace V_t_symbols V_t_symbols_cells V_t_starts V_t_lengths) H locs → K6 V_t V_t_pace V_t_symbols V_t_symbols_cells V_t_starts V_t_lengths x1 = some z → W p l e (gx_rm 5) s m args below meth c H locs 0 0 Q (F0 m 6 ls [])) : ∀ (V_t V_t_pace V_t_symbols V_t_symbols_cells V_t_starts V_t_lengths : Nat → Int32) (x1 x2 : Int32) (ls : Array Slot) (H : Heap) (locs : List Loc), lv_has ls 5 [(0, .ref h_t), (1, .int x1), (2, .int x2)] → gx_W D A s (wd_X6_unpack cI cZ h_t h_t_rules h_t_tape h_t_tape_bytes h_t_tape_bytes_cells h_t_pace h_t_symbols h_t_symbols_cells h_t_starts h_t_lengths V_t V_t_rules V_t_tape V_t_tape_bytes V_t_tape_bytes_cells V_t_pace V_t_symbols V_t_symbols_cells V_t_starts V_t_lengths) H locs → fn_X6_unpack_j59 V_t_rules V_t_tape_bytes V_t_tape_bytes_cells K6 V_t V_t_pace V_t_symbols V_t_symbols_cells V_t_starts V_t_lengths x1 x2 = some z → W p l e (gx_rm 5) s m args below meth c H locs 0 0 Q (F0 m 59 ls []) := by
  have hx := C.1.1
  have hb := C.1.2.1
  intro V_t V_t_pace V_t_symbols V_t_symbols_cells V_t_starts V_t_lengths x1 x2 ls H locs hl hw hf
  rw [fn_X6_unpack_j59] at hf
  refine lv_aload_n hx hb dX6_unpack_59 rfl (lv_at hl 0 rfl) ?_
  refine lv_aload_n hx hb dX6_unpack_60 rfl (lv_at hl 0 rfl) ?_
  refine gx_get (v := .int (V_t 8)) C hw 0 rfl (gx_gj rfl rfl) ln_X6_unpack_73 dX6_unpack_61 ?_
  refine lv_iload_n hx hb dX6_unpack_64 rfl (lv_at hl 2 rfl) ?_
  refine lv_iadd hx hb dX6_unpack_65 ?_
  obtain ⟨y_66, hy_66, hf⟩ := gx_b hf
  refine gx_calli (As := [.int ((V_t 8) + x2)]) (ws' := wd_X6_unpack cI cZ h_t h_t_rules h_t_tape h_t_tape_bytes h_t_tape_bytes_cells h_t_pace h_t_symbols h_t_symbols_cells h_t_starts h_t_lengths y_66.2 V_t_rules V_t_tape V_t_tape_bytes V_t_tape_bytes_cells V_t_pace V_t_symbols V_t_symbols_cells V_t_starts V_t_lengths) (isC := [0, 1, 2, 3, 4]) (isR := [5, 6, 7, 8, 9]) (isP := [5, 6, 7, 8, 9, 0, 1, 2, 3, 4]) C hw (ct_X6_zerosUpTo l D cI cZ h_t h_t_rules h_t_tape h_t_tape_bytes h_t_tape_bytes_cells h_t_pace h_t_symbols h_t_starts h_t_lengths V_t V_t_rules V_t_tape V_t_tape_bytes V_t_tape_bytes_cells ((V_t 8) + x2) hy_66) kl_X6_unpack_69 ⟨rfl, rfl⟩ ⟨rfl, rfl, by decide, by decide, by decide, by decide, rfl⟩ 0 rfl rfl rfl rfl hl.1 (Nat.le_of_ble_eq_true rfl) ⟨Nat.le_refl _, Nat.le_refl _⟩ dX6_unpack_66 (fun H locs hw => ?_)
  refine lv_if_eq (tgt := 75) hx hb dX6_unpack_69 (by decide) (fun hc => ?_) (fun hc => ?_)
  · replace hf := gx_t hc hf
    refine lv_aload_n hx hb dX6_unpack_75 rfl (lv_at hl 0 rfl) ?_
    obtain ⟨y_76, hy_76, hf⟩ := gx_b hf
    refine gx_calli (As := []) (ws' := wd_X6_unpack cI cZ h_t h_t_rules h_t_tape h_t_tape_bytes h_t_tape_bytes_cells h_t_pace h_t_symbols h_t_symbols_cells h_t_starts h_t_lengths y_76.2 V_t_rules V_t_tape V_t_tape_bytes V_t_tape_bytes_cells V_t_pace V_t_symbols V_t_symbols_cells V_t_starts V_t_lengths) (isC := [0, 1, 2, 3, 4, 5]) (isR := [6, 7, 8, 9]) (isP := [4, 5, 6, 7, 8, 9, 0, 1, 2, 3]) C hw (ct_X6_nextCode l D cI cZ h_t h_t_rules h_t_tape h_t_tape_bytes h_t_tape_bytes_cells h_t_pace h_t_symbols h_t_starts h_t_lengths y_66.2 V_t_rules V_t_tape V_t_tape_bytes V_t_tape_bytes_cells V_t_pace hy_76) kl_X6_unpack_76 ⟨rfl, rfl⟩ ⟨rfl, rfl, by decide, by decide, by decide, by decide, rfl⟩ 0 rfl rfl rfl rfl hl.1 (Nat.le_of_ble_eq_true rfl) ⟨Nat.le_refl _, Nat.le_refl _⟩ dX6_unpack_76 (fun H locs hw => ?_)
    refine lv_istore_n (lv' := [(3, .int y_76.1), (0, .ref h_t), (1, .int x1), (2, .int x2)]) hx hb dX6_unpack_79 rfl hl (by decide) rfl (fun ls hl => ?_)
    refine lv_iload_n hx hb dX6_unpack_80 rfl (lv_at hl 0 rfl) ?_
    refine lv_iconst (v := (-1)) hx hb dX6_unpack_81 (by decide) ?_
    refine lv_icmp_ne (tgt := 87) hx hb dX6_unpack_82 (by decide) (fun hc => ?_) (fun hc => ?_)
    · replace hf := gx_f hc hf
      refine lv_aload_n hx hb dX6_unpack_87 rfl (lv_at hl 1 rfl) ?_
      refine lv_iload_n hx hb dX6_unpack_88 rfl (lv_at hl 0 rfl) ?_
      obtain ⟨y_89, hy_89, hf⟩ := gx_b hf
      refine gx_calli (As := [.int y_76.1]) (ws' := wd_X6_unpack cI cZ h_t h_t_rules h_t_tape h_t_tape_bytes h_t_tape_bytes_cells h_t_pace h_t_symbols h_t_symbols_cells h_t_starts h_t_lengths y_89.2.1 V_t_rules V_t_tape V_t_tape_bytes V_t_tape_bytes_cells y_89.2.2.1 y_89.2.2.2.1 y_89.2.2.2.2.1 y_89.2.2.2.2.2.1 y_89.2.2.2.2.2.2) (isC := [0, 1, 5, 6, 7, 8, 9]) (isR := [2, 3, 4]) (isP := [3, 4, 0, 1, 2, 5, 6, 7, 8, 9]) C hw (ct_X6_take l D cI cZ h_t h_t_rules h_t_tape h_t_pace h_t_symbols h_t_symbols_cells h_t_starts h_t_lengths y_76.2 V_t_rules V_t_pace V_t_symbols V_t_symbols_cells V_t_starts V_t_lengths y_76.1 hy_89) kl_X6_unpack_79 ⟨rfl, rfl⟩ ⟨rfl, rfl, by decide, by decide, by decide, by decide, rfl⟩ 0 rfl rfl rfl rfl hl.1 (Nat.le_of_ble_eq_true rfl) ⟨Nat.le_refl _, Nat.le_refl _⟩ dX6_unpack_89 (fun H locs hw => ?_)
      refine lv_istore (lv' := [(4, .int y_89.1), (3, .int y_76.1), (0, .ref h_t), (1, .int x1), (2, .int x2)]) hx hb dX6_unpack_92 hl (by decide) rfl (fun ls hl => ?_)
      refine lv_iload hx hb dX6_unpack_94 (lv_at hl 0 rfl) ?_
      refine lv_if_eq (tgt := 102) hx hb dX6_unpack_96 (by decide) (fun hc => ?_) (fun hc => ?_)
      · replace hf := gx_t hc hf
        refine lv_iload_n hx hb dX6_unpack_102 rfl (lv_at hl 1 rfl) ?_
        refine lv_aload_n hx hb dX6_unpack_103 rfl (lv_at hl 2 rfl) ?_
        refine gx_get C hw 0 rfl (gx_gr rfl) ln_X6_unpack_9 dX6_unpack_104 ?_
        refine gx_get (v := .int (V_t_rules 8)) C hw 1 rfl (gx_gj rfl rfl) ln_X6_unpack_82 dX6_unpack_107 ?_
        refine lv_icmp_ne (tgt := 118) hx hb dX6_unpack_110 (by decide) (fun hc => ?_) (fun hc => ?_)
        · replace hf := gx_f hc hf
          refine lv_iinc (v := (x1 + 1)) (lv' := [(1, .int (x1 + 1)), (4, .int y_89.1), (3, .int y_76.1), (0, .ref h_t), (2, .int x2)]) hx hb dX6_unpack_118 hl (k := 3) rfl rfl (by decide) rfl (fun ls hl => ?_)
          refine lv_goto (tgt := 6) hx hb dX6_unpack_121 (by decide) ?_
          exact hK6 y_89.2.1 y_89.2.2.1 y_89.2.2.2.1 y_89.2.2.2.2.1 y_89.2.2.2.2.2.1 y_89.2.2.2.2.2.2 (x1 + 1) _ _ _ (lv_sub hl [3, 0] rfl) hw hf
        · replace hf := gx_t hc hf
          refine lv_aload_n hx hb dX6_unpack_113 rfl (lv_at hl 2 rfl) ?_
          obtain ⟨y_114, hy_114, hf⟩ := gx_b hf
          refine gx_calli (As := []) (ws' := wd_X6_unpack cI cZ h_t h_t_rules h_t_tape h_t_tape_bytes h_t_tape_bytes_cells h_t_pace h_t_symbols h_t_symbols_cells h_t_starts h_t_lengths y_114.2 V_t_rules V_t_tape V_t_tape_bytes V_t_tape_bytes_cells y_89.2.2.1 y_89.2.2.2.1 y_89.2.2.2.2.1 y_89.2.2.2.2.2.1 y_89.2.2.2.2.2.2) (isC := [0, 1, 2, 3, 4]) (isR := [5, 6, 7, 8, 9]) (isP := [5, 6, 7, 8, 9, 0, 1, 2, 3, 4]) C hw (ct_X6_closeLastByte l D cI cZ h_t h_t_rules h_t_tape h_t_tape_bytes h_t_tape_bytes_cells h_t_pace h_t_symbols h_t_starts h_t_lengths y_89.2.1 V_t_rules V_t_tape V_t_tape_bytes V_t_tape_bytes_cells hy_114) kl_X6_unpack_85 ⟨rfl, rfl⟩ ⟨rfl, rfl, by decide, by decide, by decide, by decide, rfl⟩ 0 rfl rfl rfl rfl hl.1 (Nat.le_of_ble_eq_true rfl) ⟨Nat.le_refl _, Nat.le_refl _⟩ dX6_unpack_114 (fun H locs hw => ?_)
          obtain rfl := Option.some.inj hf
          exact hQ _ _ _ _ dX6_unpack_117 rfl hw
      · replace hf := gx_f hc hf
        refine lv_iload hx hb dX6_unpack_99 (lv_at hl 0 rfl) ?_
        obtain rfl := Option.some.inj hf
        exact hQ _ _ _ _ dX6_unpack_101 rfl hw
    · replace hf := gx_t hc hf
      refine lv_iconst (v := 1) hx hb dX6_unpack_85 (by decide) ?_
      obtain rfl := Option.some.inj hf
      exact hQ _ _ _ _ dX6_unpack_86 rfl hw
  · replace hf := gx_f hc hf
    refine lv_bipush (v := 6) hx hb dX6_unpack_72 (by decide) ?_
    obtain rfl := Option.some.inj hf
    exact hQ _ _ _ _ dX6_unpack_74 rfl hw
set_option maxHeartbeats 4000000 in
set_option maxRecDepth 100000 in
theorem tm_X6_unpack_6 (C : gx_C cX6_unpack 5 wsX6_unpack RX6 D cI cZ p s m args c) (h_t h_t_rules h_t_tape h_t_tape_bytes h_t_tape_bytes_cells h_t_pace h_t_symbols h_t_symbols_cells h_t_starts h_t_lengths : Nat) (V_t_rules V_t_tape V_t_tape_bytes V_t_tape_bytes_cells : Nat → Int32) {z : Int32 × (Nat → Int32) × (Nat → Int32) × (Nat → Int32) × (Nat → Int32) × (Nat → Int32) × (Nat → Int32)} (hQ : gx_Qi cX6_unpack .int p l e (gx_rm 5) s m args below meth c D A Q (wd_X6_unpack cI cZ h_t h_t_rules h_t_tape h_t_tape_bytes h_t_tape_bytes_cells h_t_pace h_t_symbols h_t_symbols_cells h_t_starts h_t_lengths z.2.1 V_t_rules V_t_tape V_t_tape_bytes V_t_tape_bytes_cells z.2.2.1 z.2.2.2.1 z.2.2.2.2.1 z.2.2.2.2.2.1 z.2.2.2.2.2.2) z.1) : ∀ (n : Nat), (∀ (V_t V_t_pace V_t_symbols V_t_symbols_cells V_t_starts V_t_lengths : Nat → Int32) (x1 : Int32) (ls : Array Slot) (H : Heap) (locs : List Loc), lv_has ls 5 [(0, .ref h_t), (1, .int x1)] → gx_W D A s (wd_X6_unpack cI cZ h_t h_t_rules h_t_tape h_t_tape_bytes h_t_tape_bytes_cells h_t_pace h_t_symbols h_t_symbols_cells h_t_starts h_t_lengths V_t V_t_rules V_t_tape V_t_tape_bytes V_t_tape_bytes_cells V_t_pace V_t_symbols V_t_symbols_cells V_t_starts V_t_lengths) H locs → fn_X6_unpack_l6 V_t_rules V_t_tape_bytes V_t_tape_bytes_cells n V_t V_t_pace V_t_symbols V_t_symbols_cells V_t_starts V_t_lengths x1 = some z → W p l e (gx_rm 5) s m args below meth c H locs 0 0 Q (F0 m 6 ls [])) := by
  have hx := C.1.1
  have hb := C.1.2.1
  intro n
  induction n with
  | zero => intro V_t V_t_pace V_t_symbols V_t_symbols_cells V_t_starts V_t_lengths x1 ls H locs hl hw hf; rw [fn_X6_unpack_l6] at hf; cases hf
  | succ n ih =>
    intro V_t V_t_pace V_t_symbols V_t_symbols_cells V_t_starts V_t_lengths x1 ls H locs hl hw hf
    rw [fn_X6_unpack_l6] at hf
    refine lv_iload_n hx hb dX6_unpack_6 rfl (lv_at hl 1 rfl) ?_
    refine lv_sipush (v := 3200) hx hb dX6_unpack_7 (by decide) ?_
    refine lv_icmp_gt (tgt := 124) hx hb dX6_unpack_10 (by decide) (fun hc => ?_) (fun hc => ?_)
    · replace hf := gx_t hc hf
      refine lv_iconst (v := 1) hx hb dX6_unpack_124 (by decide) ?_
      obtain rfl := Option.some.inj hf
      exact hQ _ _ _ _ dX6_unpack_125 rfl hw
    · replace hf := gx_f hc hf
      refine lv_aload_n hx hb dX6_unpack_13 rfl (lv_at hl 0 rfl) ?_
      refine gx_get C hw 0 rfl (gx_gr rfl) ln_X6_unpack_24 dX6_unpack_14 ?_
      obtain ⟨y_17, hy_17, hf⟩ := gx_b hf
      refine gx_calli (As := []) (ws' := wd_X6_unpack cI cZ h_t h_t_rules h_t_tape h_t_tape_bytes h_t_tape_bytes_cells h_t_pace h_t_symbols h_t_symbols_cells h_t_starts h_t_lengths V_t V_t_rules V_t_tape V_t_tape_bytes V_t_tape_bytes_cells V_t_pace V_t_symbols V_t_symbols_cells V_t_starts V_t_lengths) (isC := [5, 1]) (isR := [0, 2, 3, 4, 6, 7, 8, 9]) (isP := [0, 9, 1, 2, 3, 8, 4, 5, 6, 7]) C hw (ct_X0_bitsThatFill l D cI cZ h_t_pace h_t_rules V_t_pace V_t_rules hy_17) kl_X6_unpack_47 ⟨rfl, rfl⟩ ⟨rfl, rfl, by decide, by decide, by decide, by decide, rfl⟩ 0 rfl rfl rfl rfl hl.1 (Nat.le_of_ble_eq_true rfl) ⟨Nat.le_refl _, Nat.le_refl _⟩ dX6_unpack_17 (fun H locs hw => ?_)
      refine lv_istore_n (lv' := [(2, .int y_17), (0, .ref h_t), (1, .int x1)]) hx hb dX6_unpack_20 rfl hl (by decide) rfl (fun ls hl => ?_)
      refine lv_aload_n hx hb dX6_unpack_21 rfl (lv_at hl 1 rfl) ?_
      refine gx_get C hw 0 rfl (gx_gr rfl) ln_X6_unpack_9 dX6_unpack_22 ?_
      refine gx_get (v := .int (V_t_rules 5)) C hw 1 rfl (gx_gj rfl rfl) ln_X6_unpack_51 dX6_unpack_25 ?_
      refine lv_if_eq (tgt := 59) hx hb dX6_unpack_28 (by decide) (fun hc => ?_) (fun hc => ?_)
      · replace hf := gx_t hc hf
        exact tm_X6_unpack_59 C h_t h_t_rules h_t_tape h_t_tape_bytes h_t_tape_bytes_cells h_t_pace h_t_symbols h_t_symbols_cells h_t_starts h_t_lengths V_t_rules V_t_tape V_t_tape_bytes V_t_tape_bytes_cells hQ (fn_X6_unpack_l6 V_t_rules V_t_tape_bytes V_t_tape_bytes_cells n) ih V_t V_t_pace V_t_symbols V_t_symbols_cells V_t_starts V_t_lengths x1 y_17 _ _ _ (lv_sub hl [1, 2, 0] rfl) hw hf
      · replace hf := gx_f hc hf
        refine lv_aload_n hx hb dX6_unpack_31 rfl (lv_at hl 1 rfl) ?_
        obtain ⟨y_32, hy_32, hf⟩ := gx_b hf
        refine gx_calli (As := []) (ws' := wd_X6_unpack cI cZ h_t h_t_rules h_t_tape h_t_tape_bytes h_t_tape_bytes_cells h_t_pace h_t_symbols h_t_symbols_cells h_t_starts h_t_lengths V_t V_t_rules V_t_tape V_t_tape_bytes V_t_tape_bytes_cells V_t_pace V_t_symbols V_t_symbols_cells V_t_starts V_t_lengths) (isC := [0, 2, 3]) (isR := [1, 4, 5, 6, 7, 8, 9]) (isP := [7, 0, 8, 9, 1, 2, 3, 4, 5, 6]) C hw (ct_X6_bitsLeft l D cI cZ h_t h_t_rules h_t_tape h_t_tape_bytes h_t_tape_bytes_cells h_t_pace h_t_symbols h_t_starts h_t_lengths V_t V_t_tape V_t_tape_bytes hy_32) kl_X6_unpack_57 ⟨rfl, rfl⟩ ⟨rfl, rfl, by decide, by decide, by decide, by decide, rfl⟩ 0 rfl rfl rfl rfl hl.1 (Nat.le_of_ble_eq_true rfl) ⟨Nat.le_refl _, Nat.le_refl _⟩ dX6_unpack_32 (fun H locs hw => ?_)
        refine lv_iload_n hx hb dX6_unpack_35 rfl (lv_at hl 0 rfl) ?_
        refine lv_aload_n hx hb dX6_unpack_36 rfl (lv_at hl 1 rfl) ?_
        refine gx_get C hw 0 rfl (gx_gr rfl) ln_X6_unpack_24 dX6_unpack_37 ?_
        refine gx_get (v := .int (V_t_pace 2)) C hw 5 rfl (gx_gj rfl rfl) ln_X6_unpack_60 dX6_unpack_40 ?_
        refine lv_iadd hx hb dX6_unpack_43 ?_
        refine lv_icmp_ge (tgt := 59) hx hb dX6_unpack_44 (by decide) (fun hc => ?_) (fun hc => ?_)
        · replace hf := gx_t hc hf
          exact tm_X6_unpack_59 C h_t h_t_rules h_t_tape h_t_tape_bytes h_t_tape_bytes_cells h_t_pace h_t_symbols h_t_symbols_cells h_t_starts h_t_lengths V_t_rules V_t_tape V_t_tape_bytes V_t_tape_bytes_cells hQ (fn_X6_unpack_l6 V_t_rules V_t_tape_bytes V_t_tape_bytes_cells n) ih V_t V_t_pace V_t_symbols V_t_symbols_cells V_t_starts V_t_lengths x1 y_17 _ _ _ (lv_sub hl [1, 2, 0] rfl) hw hf
        · replace hf := gx_f hc hf
          refine lv_aload_n hx hb dX6_unpack_47 rfl (lv_at hl 1 rfl) ?_
          refine lv_aload_n hx hb dX6_unpack_48 rfl (lv_at hl 1 rfl) ?_
          refine gx_get C hw 0 rfl (gx_gr rfl) ln_X6_unpack_15 dX6_unpack_49 ?_
          obtain ⟨y_52, hy_52, hf⟩ := gx_b hf
          refine gx_calli (As := []) (ws' := wd_X6_unpack cI cZ h_t h_t_rules h_t_tape h_t_tape_bytes h_t_tape_bytes_cells h_t_pace h_t_symbols h_t_symbols_cells h_t_starts h_t_lengths V_t V_t_rules V_t_tape V_t_tape_bytes V_t_tape_bytes_cells V_t_pace V_t_symbols V_t_symbols_cells V_t_starts V_t_lengths) (isC := [2, 3]) (isR := [0, 1, 4, 5, 6, 7, 8, 9]) (isP := [0, 1, 8, 9, 2, 3, 4, 5, 6, 7]) C hw (ct_X5_bits l D cI cZ h_t_tape h_t_rules h_t_tape_bytes h_t_tape_bytes_cells V_t_tape V_t_tape_bytes hy_52) kl_X6_unpack_64 ⟨rfl, rfl⟩ ⟨rfl, rfl, by decide, by decide, by decide, by decide, rfl⟩ 0 rfl rfl rfl rfl hl.1 (Nat.le_of_ble_eq_true rfl) ⟨Nat.le_refl _, Nat.le_refl _⟩ dX6_unpack_52 (fun H locs hw => ?_)
          obtain ⟨y_55, hy_55, hf⟩ := gx_b hf
          refine gx_calli (As := [.int y_52]) (ws' := wd_X6_unpack cI cZ h_t h_t_rules h_t_tape h_t_tape_bytes h_t_tape_bytes_cells h_t_pace h_t_symbols h_t_symbols_cells h_t_starts h_t_lengths y_55.2 V_t_rules V_t_tape V_t_tape_bytes V_t_tape_bytes_cells V_t_pace V_t_symbols V_t_symbols_cells V_t_starts V_t_lengths) (isC := [0, 1, 2, 3, 4]) (isR := [5, 6, 7, 8, 9]) (isP := [5, 6, 7, 8, 9, 0, 1, 2, 3, 4]) C hw (ct_X6_zerosUpTo l D cI cZ h_t h_t_rules h_t_tape h_t_tape_bytes h_t_tape_bytes_cells h_t_pace h_t_symbols h_t_starts h_t_lengths V_t V_t_rules V_t_tape V_t_tape_bytes V_t_tape_bytes_cells y_52 hy_55) kl_X6_unpack_69 ⟨rfl, rfl⟩ ⟨rfl, rfl, by decide, by decide, by decide, by decide, rfl⟩ 0 rfl rfl rfl rfl hl.1 (Nat.le_of_ble_eq_true rfl) ⟨Nat.le_refl _, Nat.le_refl _⟩ dX6_unpack_55 (fun H locs hw => ?_)
          obtain rfl := Option.some.inj hf
          exact hQ _ _ _ _ dX6_unpack_58 rfl hw
set_option maxHeartbeats 4000000 in
set_option maxRecDepth 100000 in
theorem ct_X6_unpack (l : Launch) (D : va_G) (cI cZ : ClassId) (h_t h_t_rules h_t_tape h_t_tape_bytes h_t_tape_bytes_cells h_t_pace h_t_symbols h_t_symbols_cells h_t_starts h_t_lengths : Nat) (V_t V_t_rules V_t_tape V_t_tape_bytes V_t_tape_bytes_cells V_t_pace V_t_symbols V_t_symbols_cells V_t_starts V_t_lengths : Nat → Int32) {z : Int32 × (Nat → Int32) × (Nat → Int32) × (Nat → Int32) × (Nat → Int32) × (Nat → Int32) × (Nat → Int32)} (hf : fn_X6_unpack V_t V_t_rules V_t_tape_bytes V_t_tape_bytes_cells V_t_pace V_t_symbols V_t_symbols_cells V_t_starts V_t_lengths = some z) : gx_Mi l yX6_unpack wsX6_unpack (gx_rm 5) D cI cZ [.ref h_t] (wd_X6_unpack cI cZ h_t h_t_rules h_t_tape h_t_tape_bytes h_t_tape_bytes_cells h_t_pace h_t_symbols h_t_symbols_cells h_t_starts h_t_lengths V_t V_t_rules V_t_tape V_t_tape_bytes V_t_tape_bytes_cells V_t_pace V_t_symbols V_t_symbols_cells V_t_starts V_t_lengths) (wd_X6_unpack cI cZ h_t h_t_rules h_t_tape h_t_tape_bytes h_t_tape_bytes_cells h_t_pace h_t_symbols h_t_symbols_cells h_t_starts h_t_lengths z.2.1 V_t_rules V_t_tape V_t_tape_bytes V_t_tape_bytes_cells z.2.2.1 z.2.2.2.1 z.2.2.2.2.1 z.2.2.2.2.2.1 z.2.2.2.2.2.2) z.1 := by
  refine gx_ofi (cc := cX6_unpack) (own := RX6) (by decide) rfl rfl (Nat.le_of_ble_eq_true rfl) [(0, .ref h_t)] rfl ?_
  intro p e s m args below meth c A Q ls C hQ hl hw
  have hx := C.1.1
  have hb := C.1.2.1
  rw [fn_X6_unpack] at hf
  refine lv_aload_n hx hb dX6_unpack_0 rfl (lv_at hl 0 rfl) ?_
  obtain ⟨y_1, hy_1, hf⟩ := gx_b hf
  refine gx_callv (As := []) (ws' := wd_X6_unpack cI cZ h_t h_t_rules h_t_tape h_t_tape_bytes h_t_tape_bytes_cells h_t_pace h_t_symbols h_t_symbols_cells h_t_starts h_t_lengths y_1.1 V_t_rules V_t_tape V_t_tape_bytes V_t_tape_bytes_cells y_1.2.1 y_1.2.2 V_t_symbols_cells V_t_starts V_t_lengths) (isC := [0, 1, 5, 6]) (isR := [2, 3, 4, 7, 8, 9]) (isP := [6, 7, 0, 1, 2, 8, 9, 3, 4, 5]) C hw (ct_X6_begin l D cI cZ h_t h_t_rules h_t_tape h_t_pace h_t_symbols h_t_symbols_cells h_t_starts h_t_lengths V_t V_t_rules V_t_pace V_t_symbols hy_1) kl_X6_unpack_44 ⟨rfl, rfl⟩ ⟨rfl, rfl, by decide, by decide, by decide, by decide, rfl⟩ 0 rfl rfl rfl rfl hl.1 (Nat.le_of_ble_eq_true rfl) ⟨Nat.le_refl _, Nat.le_refl _⟩ dX6_unpack_1 (fun H locs hw => ?_)
  refine lv_iconst (v := 0) hx hb dX6_unpack_4 (by decide) ?_
  refine lv_istore_n (lv' := [(1, .int 0), (0, .ref h_t)]) hx hb dX6_unpack_5 rfl hl (by decide) rfl (fun ls hl => ?_)
  exact tm_X6_unpack_6 C h_t h_t_rules h_t_tape h_t_tape_bytes h_t_tape_bytes_cells h_t_pace h_t_symbols h_t_symbols_cells h_t_starts h_t_lengths V_t_rules V_t_tape V_t_tape_bytes V_t_tape_bytes_cells hQ  gx_fuel y_1.1 y_1.2.1 y_1.2.2 V_t_symbols_cells V_t_starts V_t_lengths 0 _ _ _ (lv_sub hl [1, 0] rfl) hw hf
end
