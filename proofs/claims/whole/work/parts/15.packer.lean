section
variable {p : Program} {l : Launch} {e : Env} {s : State} {m : MethodId} {args : Array Value} {below : List Frame} {meth : Method} {c : Code} {D : va_G} {cI cZ : ClassId} {A : Nat → Prop} {Q : State → Prop}
-- LzwForms$Packer.begin: touched ['t', 't_rules', 't_pace', 't_table', 't_table_heads', 't_table_chainOf', 't_codes', 't_widths', 't_begins']; used ['t', 't_rules', 't_pace', 't_table', 't_table_heads', 't_table_chainOf', 't_codes', 't_widths', 't_begins']; mod ['t', 't_pace', 't_table', 't_table_chainOf', 't_codes', 't_widths', 't_begins']; height 2
theorem ln_X1_begin_20 : gx_L wsX1_begin RX1 20 1 1 := ⟨_, _, _, rfl, by decide +kernel, by decide, Or.inl (by decide +kernel)⟩
theorem ln_X1_begin_27 : gx_L wsX1_begin RX1 27 1 2 := ⟨_, _, _, rfl, by decide +kernel, by decide, Or.inl (by decide +kernel)⟩
theorem ln_X1_begin_36 : gx_L wsX1_begin RX1 36 1 3 := ⟨_, _, _, rfl, by decide +kernel, by decide, Or.inl (by decide +kernel)⟩
theorem ln_X1_begin_40 : gx_L wsX1_begin RX1 40 1 4 := ⟨_, _, _, rfl, by decide +kernel, by decide, Or.inl (by decide +kernel)⟩
theorem ln_X1_begin_43 : gx_L wsX1_begin RX1 43 1 5 := ⟨_, _, _, rfl, by decide +kernel, by decide, Or.inl (by decide +kernel)⟩
theorem lp_X1_begin_73 : gx_LP wsX1_begin RX1 73 1 8 false .int := ⟨_, _, _, tyX1, rfl, by decide +kernel, by decide, by decide +kernel, tyX1_ok, nmX1, by decide +kernel, by decide +kernel, by decide +kernel⟩
theorem lp_X1_begin_98 : gx_LP wsX1_begin RX1 98 1 6 false .int := ⟨_, _, _, tyX1, rfl, by decide +kernel, by decide, by decide +kernel, tyX1_ok, nmX1, by decide +kernel, by decide +kernel, by decide +kernel⟩
theorem lp_X1_begin_101 : gx_LP wsX1_begin RX1 101 1 7 false .int := ⟨_, _, _, tyX1, rfl, by decide +kernel, by decide, by decide +kernel, tyX1_ok, nmX1, by decide +kernel, by decide +kernel, by decide +kernel⟩
theorem kl_X1_begin_91 : gx_KV wsX1_begin RX1 91 yX0_begin cX0_begin 1 none wsX0_begin (gx_rm 1) (gx_rm 2) 0 := ⟨gX1_begin_X0_begin, ⟨_, rfl⟩, ⟨by decide, by decide, by decide +kernel⟩, ⟨by decide, by decide⟩⟩
theorem kl_X1_begin_92 : gx_KV wsX1_begin RX1 92 yX4_wipe cX4_wipe 3 none wsX4_wipe (gx_rm 0) (gx_rm 2) 0 := ⟨gX1_begin_X4_wipe, ⟨_, rfl⟩, ⟨by decide, by decide, by decide +kernel⟩, ⟨by decide, by decide⟩⟩
theorem kl_X1_begin_95 : gx_KV wsX1_begin RX1 95 yX2_shrinkTo cX2_shrinkTo 2 none wsX2_shrinkTo (gx_rm 0) (gx_rm 2) 1 := ⟨gX1_begin_X2_shrinkTo, ⟨_, rfl⟩, ⟨by decide, by decide, by decide +kernel⟩, ⟨by decide, by decide⟩⟩
def wd_X1_begin (cI cZ : ClassId) (h_t h_t_rules h_t_pace h_t_table h_t_table_heads h_t_table_tails h_t_table_lengths h_t_table_nextInChain h_t_table_chainOf h_t_codes h_t_codes_cells h_t_widths h_t_widths_cells h_t_begins h_t_begins_cells : Nat) (V_t V_t_rules V_t_pace V_t_table V_t_table_heads V_t_table_chainOf V_t_codes V_t_widths V_t_begins : Nat → Int32) : va_W := [gx_o h_t 1 [some (some h_t_rules), some (some h_t_pace), some (some h_t_table), some (some h_t_codes), some (some h_t_widths), some (some h_t_begins), none, none, none] V_t, gx_o h_t_rules 3 [none, none, none, none, none, none, none, none, none, none, none, none] V_t_rules, gx_o h_t_pace 0 [some (some h_t_rules), none, none, none, none, none, none] V_t_pace, gx_o h_t_table 4 [some (some h_t_rules), some (some h_t_table_heads), some (some h_t_table_tails), some (some h_t_table_lengths), some (some h_t_table_nextInChain), some (some h_t_table_chainOf), none] V_t_table, gx_a h_t_table_heads cI 300 V_t_table_heads, gx_a h_t_table_chainOf cI 558 V_t_table_chainOf, gx_o h_t_codes 2 [some (some h_t_codes_cells), none] V_t_codes, gx_o h_t_widths 2 [some (some h_t_widths_cells), none] V_t_widths, gx_o h_t_begins 2 [some (some h_t_begins_cells), none] V_t_begins]
set_option maxHeartbeats 4000000 in
set_option maxRecDepth 100000 in
theorem ct_X1_begin (l : Launch) (D : va_G) (cI cZ : ClassId) (h_t h_t_rules h_t_pace h_t_table h_t_table_heads h_t_table_tails h_t_table_lengths h_t_table_nextInChain h_t_table_chainOf h_t_codes h_t_codes_cells h_t_widths h_t_widths_cells h_t_begins h_t_begins_cells : Nat) (V_t V_t_rules V_t_pace V_t_table V_t_table_heads V_t_table_chainOf V_t_codes V_t_widths V_t_begins : Nat → Int32) {z : (Nat → Int32) × (Nat → Int32) × (Nat → Int32) × (Nat → Int32) × (Nat → Int32) × (Nat → Int32) × (Nat → Int32)} (hf : fn_X1_begin V_t V_t_rules V_t_pace V_t_table V_t_table_heads V_t_table_chainOf V_t_codes V_t_widths V_t_begins = some z) : gx_Mv l yX1_begin wsX1_begin (gx_rm 2) D cI cZ [.ref h_t] (wd_X1_begin cI cZ h_t h_t_rules h_t_pace h_t_table h_t_table_heads h_t_table_tails h_t_table_lengths h_t_table_nextInChain h_t_table_chainOf h_t_codes h_t_codes_cells h_t_widths h_t_widths_cells h_t_begins h_t_begins_cells V_t V_t_rules V_t_pace V_t_table V_t_table_heads V_t_table_chainOf V_t_codes V_t_widths V_t_begins) (wd_X1_begin cI cZ h_t h_t_rules h_t_pace h_t_table h_t_table_heads h_t_table_tails h_t_table_lengths h_t_table_nextInChain h_t_table_chainOf h_t_codes h_t_codes_cells h_t_widths h_t_widths_cells h_t_begins h_t_begins_cells z.1 V_t_rules z.2.1 z.2.2.1 V_t_table_heads z.2.2.2.1 z.2.2.2.2.1 z.2.2.2.2.2.1 z.2.2.2.2.2.2) := by
  refine gx_ofv (cc := cX1_begin) (own := RX1) (by decide) rfl rfl (Nat.le_of_ble_eq_true rfl) [(0, .ref h_t)] rfl ?_
  intro p e s m args below meth c A Q ls C hQ hl hw
  have hx := C.1.1
  have hb := C.1.2.1
  rw [fn_X1_begin] at hf
  refine lv_aload_n hx hb dX1_begin_0 rfl (lv_at hl 0 rfl) ?_
  refine gx_get C hw 0 rfl (gx_gr rfl) ln_X1_begin_20 dX1_begin_1 ?_
  obtain ⟨y_4, hy_4, hf⟩ := gx_b hf
  refine gx_callv (As := []) (ws' := wd_X1_begin cI cZ h_t h_t_rules h_t_pace h_t_table h_t_table_heads h_t_table_tails h_t_table_lengths h_t_table_nextInChain h_t_table_chainOf h_t_codes h_t_codes_cells h_t_widths h_t_widths_cells h_t_begins h_t_begins_cells V_t V_t_rules y_4 V_t_table V_t_table_heads V_t_table_chainOf V_t_codes V_t_widths V_t_begins) (isC := [2, 1]) (isR := [0, 3, 4, 5, 6, 7, 8]) (isP := [0, 8, 7, 1, 2, 3, 4, 5, 6]) C hw (ct_X0_begin l D cI cZ h_t_pace h_t_rules V_t_pace V_t_rules hy_4) kl_X1_begin_91 ⟨rfl, rfl⟩ ⟨rfl, rfl, by decide, by decide, by decide, by decide, rfl⟩ 0 rfl rfl rfl rfl hl.1 (Nat.le_of_ble_eq_true rfl) ⟨Nat.le_refl _, Nat.le_refl _⟩ dX1_begin_4 (fun H locs hw => ?_)
  refine lv_aload_n hx hb dX1_begin_7 rfl (lv_at hl 0 rfl) ?_
  refine gx_get C hw 0 rfl (gx_gr rfl) ln_X1_begin_27 dX1_begin_8 ?_
  obtain ⟨y_11, hy_11, hf⟩ := gx_b hf
  refine gx_callv (As := []) (ws' := wd_X1_begin cI cZ h_t h_t_rules h_t_pace h_t_table h_t_table_heads h_t_table_tails h_t_table_lengths h_t_table_nextInChain h_t_table_chainOf h_t_codes h_t_codes_cells h_t_widths h_t_widths_cells h_t_begins h_t_begins_cells V_t V_t_rules y_4 y_11.1 V_t_table_heads y_11.2 V_t_codes V_t_widths V_t_begins) (isC := [3, 4, 5]) (isR := [0, 1, 2, 6, 7, 8]) (isP := [0, 1, 2, 6, 7, 8, 3, 4, 5]) C hw (ct_X4_wipe l D cI cZ h_t_table h_t_rules h_t_table_heads h_t_table_tails h_t_table_lengths h_t_table_nextInChain h_t_table_chainOf V_t_table V_t_table_heads V_t_table_chainOf hy_11) kl_X1_begin_92 ⟨rfl, rfl⟩ ⟨rfl, rfl, by decide, by decide, by decide, by decide, rfl⟩ 0 rfl rfl rfl rfl hl.1 (Nat.le_of_ble_eq_true rfl) ⟨Nat.le_refl _, Nat.le_refl _⟩ dX1_begin_11 (fun H locs hw => ?_)
  refine lv_aload_n hx hb dX1_begin_14 rfl (lv_at hl 0 rfl) ?_
  refine gx_get C hw 0 rfl (gx_gr rfl) ln_X1_begin_36 dX1_begin_15 ?_
  refine lv_iconst (v := 0) hx hb dX1_begin_18 (by decide) ?_
  obtain ⟨y_19, hy_19, hf⟩ := gx_b hf
  refine gx_callv (As := [.int 0]) (ws' := wd_X1_begin cI cZ h_t h_t_rules h_t_pace h_t_table h_t_table_heads h_t_table_tails h_t_table_lengths h_t_table_nextInChain h_t_table_chainOf h_t_codes h_t_codes_cells h_t_widths h_t_widths_cells h_t_begins h_t_begins_cells V_t V_t_rules y_4 y_11.1 V_t_table_heads y_11.2 y_19 V_t_widths V_t_begins) (isC := [6]) (isR := [0, 1, 2, 3, 4, 5, 7, 8]) (isP := [0, 1, 2, 3, 4, 5, 8, 6, 7]) C hw (ct_X2_shrinkTo l D cI cZ h_t_codes h_t_codes_cells V_t_codes 0 hy_19) kl_X1_begin_95 ⟨rfl, rfl⟩ ⟨rfl, rfl, by decide, by decide, by decide, by decide, rfl⟩ 0 rfl rfl rfl rfl hl.1 (Nat.le_of_ble_eq_true rfl) ⟨Nat.le_refl _, Nat.le_refl _⟩ dX1_begin_19 (fun H locs hw => ?_)
  refine lv_aload_n hx hb dX1_begin_22 rfl (lv_at hl 0 rfl) ?_
  refine gx_get C hw 0 rfl (gx_gr rfl) ln_X1_begin_40 dX1_begin_23 ?_
  refine lv_iconst (v := 0) hx hb dX1_begin_26 (by decide) ?_
  obtain ⟨y_27, hy_27, hf⟩ := gx_b hf
  refine gx_callv (As := [.int 0]) (ws' := wd_X1_begin cI cZ h_t h_t_rules h_t_pace h_t_table h_t_table_heads h_t_table_tails h_t_table_lengths h_t_table_nextInChain h_t_table_chainOf h_t_codes h_t_codes_cells h_t_widths h_t_widths_cells h_t_begins h_t_begins_cells V_t V_t_rules y_4 y_11.1 V_t_table_heads y_11.2 y_19 y_27 V_t_begins) (isC := [7]) (isR := [0, 1, 2, 3, 4, 5, 6, 8]) (isP := [0, 1, 2, 3, 4, 5, 6, 8, 7]) C hw (ct_X2_shrinkTo l D cI cZ h_t_widths h_t_widths_cells V_t_widths 0 hy_27) kl_X1_begin_95 ⟨rfl, rfl⟩ ⟨rfl, rfl, by decide, by decide, by decide, by decide, rfl⟩ 0 rfl rfl rfl rfl hl.1 (Nat.le_of_ble_eq_true rfl) ⟨Nat.le_refl _, Nat.le_refl _⟩ dX1_begin_27 (fun H locs hw => ?_)
  refine lv_aload_n hx hb dX1_begin_30 rfl (lv_at hl 0 rfl) ?_
  refine gx_get C hw 0 rfl (gx_gr rfl) ln_X1_begin_43 dX1_begin_31 ?_
  refine lv_iconst (v := 0) hx hb dX1_begin_34 (by decide) ?_
  obtain ⟨y_35, hy_35, hf⟩ := gx_b hf
  refine gx_callv (As := [.int 0]) (ws' := wd_X1_begin cI cZ h_t h_t_rules h_t_pace h_t_table h_t_table_heads h_t_table_tails h_t_table_lengths h_t_table_nextInChain h_t_table_chainOf h_t_codes h_t_codes_cells h_t_widths h_t_widths_cells h_t_begins h_t_begins_cells V_t V_t_rules y_4 y_11.1 V_t_table_heads y_11.2 y_19 y_27 y_35) (isC := [8]) (isR := [0, 1, 2, 3, 4, 5, 6, 7]) (isP := [0, 1, 2, 3, 4, 5, 6, 7, 8]) C hw (ct_X2_shrinkTo l D cI cZ h_t_begins h_t_begins_cells V_t_begins 0 hy_35) kl_X1_begin_95 ⟨rfl, rfl⟩ ⟨rfl, rfl, by decide, by decide, by decide, by decide, rfl⟩ 0 rfl rfl rfl rfl hl.1 (Nat.le_of_ble_eq_true rfl) ⟨Nat.le_refl _, Nat.le_refl _⟩ dX1_begin_35 (fun H locs hw => ?_)
  refine lv_aload_n hx hb dX1_begin_38 rfl (lv_at hl 0 rfl) ?_
  refine lv_iconst (v := 0) hx hb dX1_begin_39 (by decide) ?_
  refine gx_put (ws' := wd_X1_begin cI cZ h_t h_t_rules h_t_pace h_t_table h_t_table_heads h_t_table_tails h_t_table_lengths h_t_table_nextInChain h_t_table_chainOf h_t_codes h_t_codes_cells h_t_widths h_t_widths_cells h_t_begins h_t_begins_cells (upd V_t 6 0) V_t_rules y_4 y_11.1 V_t_table_heads y_11.2 y_19 y_27 y_35) C hw 0 rfl rfl lp_X1_begin_98 rfl rfl rfl dX1_begin_40 (fun H locs hw => ?_)
  refine lv_aload_n hx hb dX1_begin_43 rfl (lv_at hl 0 rfl) ?_
  refine lv_iconst (v := 0) hx hb dX1_begin_44 (by decide) ?_
  refine gx_put (ws' := wd_X1_begin cI cZ h_t h_t_rules h_t_pace h_t_table h_t_table_heads h_t_table_tails h_t_table_lengths h_t_table_nextInChain h_t_table_chainOf h_t_codes h_t_codes_cells h_t_widths h_t_widths_cells h_t_begins h_t_begins_cells (upd (upd V_t 6 0) 7 0) V_t_rules y_4 y_11.1 V_t_table_heads y_11.2 y_19 y_27 y_35) C hw 0 rfl rfl lp_X1_begin_101 rfl rfl rfl dX1_begin_45 (fun H locs hw => ?_)
  refine lv_aload_n hx hb dX1_begin_48 rfl (lv_at hl 0 rfl) ?_
  refine lv_iconst (v := 0) hx hb dX1_begin_49 (by decide) ?_
  refine gx_put (ws' := wd_X1_begin cI cZ h_t h_t_rules h_t_pace h_t_table h_t_table_heads h_t_table_tails h_t_table_lengths h_t_table_nextInChain h_t_table_chainOf h_t_codes h_t_codes_cells h_t_widths h_t_widths_cells h_t_begins h_t_begins_cells (upd (upd (upd V_t 6 0) 7 0) 8 0) V_t_rules y_4 y_11.1 V_t_table_heads y_11.2 y_19 y_27 y_35) C hw 0 rfl rfl lp_X1_begin_73 rfl rfl rfl dX1_begin_50 (fun H locs hw => ?_)
  obtain rfl := Option.some.inj hf
  exact hQ _ _ _ _ dX1_begin_53 hw
-- LzwForms$Packer.longestFrom: touched ['t', 't_rules', 't_table', 't_table_tails', 't_table_nextInChain', 't_table_chainOf', 'a1', 'a1_cells']; used ['t_rules', 't_table', 't_table_tails', 't_table_nextInChain', 't_table_chainOf', 'a1', 'a1_cells']; mod []; height 1
theorem ln_X1_longestFrom_27 : gx_L wsX1_longestFrom RX1 27 1 2 := ⟨_, _, _, rfl, by decide +kernel, by decide, Or.inl (by decide +kernel)⟩
theorem kl_X1_longestFrom_58 : gx_KV wsX1_longestFrom RX1 58 yX2_size cX2_size 1 (some .int) wsX2_size (gx_rm 0) (gx_rm 1) 0 := ⟨gX1_longestFrom_X2_size, ⟨_, rfl⟩, ⟨by decide, by decide, by decide +kernel⟩, ⟨by decide, by decide⟩⟩
theorem kl_X1_longestFrom_77 : gx_KV wsX1_longestFrom RX1 77 yX2_get cX2_get 2 (some .int) wsX2_get (gx_rm 0) (gx_rm 1) 1 := ⟨gX1_longestFrom_X2_get, ⟨_, rfl⟩, ⟨by decide, by decide, by decide +kernel⟩, ⟨by decide, by decide⟩⟩
theorem kl_X1_longestFrom_104 : gx_KV wsX1_longestFrom RX1 104 yX4_longer cX4_longer 5 (some .int) wsX4_longer (gx_rm 0) (gx_rm 1) 2 := ⟨gX1_longestFrom_X4_longer, ⟨_, rfl⟩, ⟨by decide, by decide, by decide +kernel⟩, ⟨by decide, by decide⟩⟩
def wd_X1_longestFrom (cI cZ : ClassId) (h_t h_t_rules h_t_pace h_t_table h_t_table_heads h_t_table_tails h_t_table_lengths h_t_table_nextInChain h_t_table_chainOf h_t_codes h_t_widths h_t_begins h_a1 h_a1_cells : Nat) (V_t V_t_rules V_t_table V_t_table_tails V_t_table_nextInChain V_t_table_chainOf V_a1 V_a1_cells : Nat → Int32) : va_W := [gx_o h_t 1 [some (some h_t_rules), some (some h_t_pace), some (some h_t_table), some (some h_t_codes), some (some h_t_widths), some (some h_t_begins), none, none, none] V_t, gx_o h_t_rules 3 [none, none, none, none, none, none, none, none, none, none, none, none] V_t_rules, gx_o h_t_table 4 [some (some h_t_rules), some (some h_t_table_heads), some (some h_t_table_tails), some (some h_t_table_lengths), some (some h_t_table_nextInChain), some (some h_t_table_chainOf), none] V_t_table, gx_a h_t_table_tails cI 300 V_t_table_tails, gx_a h_t_table_nextInChain cI 300 V_t_table_nextInChain, gx_a h_t_table_chainOf cI 558 V_t_table_chainOf, gx_o h_a1 2 [some (some h_a1_cells), none] V_a1, gx_a h_a1_cells cI 300 V_a1_cells]
set_option maxHeartbeats 4000000 in
set_option maxRecDepth 100000 in
theorem tm_X1_longestFrom_11 (C : gx_C cX1_longestFrom 6 wsX1_longestFrom RX1 D cI cZ p s m args c) (h_t h_t_rules h_t_pace h_t_table h_t_table_heads h_t_table_tails h_t_table_lengths h_t_table_nextInChain h_t_table_chainOf h_t_codes h_t_widths h_t_begins h_a1 h_a1_cells : Nat) (V_t V_t_rules V_t_table V_t_table_tails V_t_table_nextInChain V_t_table_chainOf V_a1 V_a1_cells : Nat → Int32) {z : Int32} (hQ : gx_Qi cX1_longestFrom .int p l e (gx_rm 1) s m args below meth c D A Q (wd_X1_longestFrom cI cZ h_t h_t_rules h_t_pace h_t_table h_t_table_heads h_t_table_tails h_t_table_lengths h_t_table_nextInChain h_t_table_chainOf h_t_codes h_t_widths h_t_begins h_a1 h_a1_cells V_t V_t_rules V_t_table V_t_table_tails V_t_table_nextInChain V_t_table_chainOf V_a1 V_a1_cells) z) : ∀ (n : Nat), (∀ (x3 x4 : Int32) (ls : Array Slot) (H : Heap) (locs : List Loc), lv_has ls 6 [(0, .ref h_t), (1, .ref h_a1), (3, .int x3), (4, .int x4)] → gx_W D A s (wd_X1_longestFrom cI cZ h_t h_t_rules h_t_pace h_t_table h_t_table_heads h_t_table_tails h_t_table_lengths h_t_table_nextInChain h_t_table_chainOf h_t_codes h_t_widths h_t_begins h_a1 h_a1_cells V_t V_t_rules V_t_table V_t_table_tails V_t_table_nextInChain V_t_table_chainOf V_a1 V_a1_cells) H locs → fn_X1_longestFrom_l11 V_t_rules V_t_table V_t_table_tails V_t_table_nextInChain V_t_table_chainOf V_a1 V_a1_cells n x3 x4 = some z → W p l e (gx_rm 1) s m args below meth c H locs 0 0 Q (F0 m 11 ls [])) := by
  have hx := C.1.1
  have hb := C.1.2.1
  intro n
  induction n with
  | zero => intro x3 x4 ls H locs hl hw hf; rw [fn_X1_longestFrom_l11] at hf; cases hf
  | succ n ih =>
    intro x3 x4 ls H locs hl hw hf
    rw [fn_X1_longestFrom_l11] at hf
    refine lv_iload hx hb dX1_longestFrom_11 (lv_at hl 3 rfl) ?_
    refine lv_aload_n hx hb dX1_longestFrom_13 rfl (lv_at hl 1 rfl) ?_
    obtain ⟨y_14, hy_14, hf⟩ := gx_b hf
    refine gx_calli (As := []) (ws' := wd_X1_longestFrom cI cZ h_t h_t_rules h_t_pace h_t_table h_t_table_heads h_t_table_tails h_t_table_lengths h_t_table_nextInChain h_t_table_chainOf h_t_codes h_t_widths h_t_begins h_a1 h_a1_cells V_t V_t_rules V_t_table V_t_table_tails V_t_table_nextInChain V_t_table_chainOf V_a1 V_a1_cells) (isC := [6]) (isR := [0, 1, 2, 3, 4, 5, 7]) (isP := [0, 1, 2, 3, 4, 5, 7, 6]) C hw (ct_X2_size l D cI cZ h_a1 h_a1_cells V_a1 hy_14) kl_X1_longestFrom_58 ⟨rfl, rfl⟩ ⟨rfl, rfl, by decide, by decide, by decide, by decide, rfl⟩ 0 rfl rfl rfl rfl hl.1 (Nat.le_of_ble_eq_true rfl) ⟨Nat.le_refl _, Nat.le_refl _⟩ dX1_longestFrom_14 (fun H locs hw => ?_)
    refine lv_icmp_ge (tgt := 53) hx hb dX1_longestFrom_17 (by decide) (fun hc => ?_) (fun hc => ?_)
    · replace hf := gx_t hc hf
      refine lv_iload_n hx hb dX1_longestFrom_53 rfl (lv_at hl 2 rfl) ?_
      obtain rfl := Option.some.inj hf
      exact hQ _ _ _ _ dX1_longestFrom_54 rfl hw
    · replace hf := gx_f hc hf
      refine lv_aload_n hx hb dX1_longestFrom_20 rfl (lv_at hl 0 rfl) ?_
      refine gx_get C hw 0 rfl (gx_gr rfl) ln_X1_longestFrom_27 dX1_longestFrom_21 ?_
      refine lv_iload_n hx hb dX1_longestFrom_24 rfl (lv_at hl 2 rfl) ?_
      refine lv_aload_n hx hb dX1_longestFrom_25 rfl (lv_at hl 1 rfl) ?_
      refine lv_iload hx hb dX1_longestFrom_26 (lv_at hl 3 rfl) ?_
      obtain ⟨y_28, hy_28, hf⟩ := gx_b hf
      refine gx_calli (As := [.int x4]) (ws' := wd_X1_longestFrom cI cZ h_t h_t_rules h_t_pace h_t_table h_t_table_heads h_t_table_tails h_t_table_lengths h_t_table_nextInChain h_t_table_chainOf h_t_codes h_t_widths h_t_begins h_a1 h_a1_cells V_t V_t_rules V_t_table V_t_table_tails V_t_table_nextInChain V_t_table_chainOf V_a1 V_a1_cells) (isC := [6, 7]) (isR := [0, 1, 2, 3, 4, 5]) (isP := [0, 1, 2, 3, 4, 5, 6, 7]) C hw (ct_X2_get l D cI cZ h_a1 h_a1_cells 300 V_a1 V_a1_cells x4 hy_28) kl_X1_longestFrom_77 ⟨rfl, rfl⟩ ⟨rfl, rfl, by decide, by decide, by decide, by decide, rfl⟩ 0 rfl rfl rfl rfl hl.1 (Nat.le_of_ble_eq_true rfl) ⟨Nat.le_refl _, Nat.le_refl _⟩ dX1_longestFrom_28 (fun H locs hw => ?_)
      obtain ⟨y_31, hy_31, hf⟩ := gx_b hf
      refine gx_calli (As := [.int x3, .int y_28]) (ws' := wd_X1_longestFrom cI cZ h_t h_t_rules h_t_pace h_t_table h_t_table_heads h_t_table_tails h_t_table_lengths h_t_table_nextInChain h_t_table_chainOf h_t_codes h_t_widths h_t_begins h_a1 h_a1_cells V_t V_t_rules V_t_table V_t_table_tails V_t_table_nextInChain V_t_table_chainOf V_a1 V_a1_cells) (isC := [2, 1, 3, 4, 5]) (isR := [0, 6, 7]) (isP := [0, 4, 3, 5, 6, 7, 1, 2]) C hw (ct_X4_longer l D cI cZ h_t_table h_t_rules h_t_table_heads h_t_table_tails h_t_table_lengths h_t_table_nextInChain h_t_table_chainOf V_t_table V_t_rules V_t_table_tails V_t_table_nextInChain V_t_table_chainOf x3 y_28 hy_31) kl_X1_longestFrom_104 ⟨rfl, rfl⟩ ⟨rfl, rfl, by decide, by decide, by decide, by decide, rfl⟩ 0 rfl rfl rfl rfl hl.1 (Nat.le_of_ble_eq_true rfl) ⟨Nat.le_refl _, Nat.le_refl _⟩ dX1_longestFrom_31 (fun H locs hw => ?_)
      refine lv_istore (lv' := [(5, .int y_31), (0, .ref h_t), (1, .ref h_a1), (3, .int x3), (4, .int x4)]) hx hb dX1_longestFrom_34 hl (by decide) rfl (fun ls hl => ?_)
      refine lv_iload hx hb dX1_longestFrom_36 (lv_at hl 0 rfl) ?_
      refine lv_iconst (v := (-1)) hx hb dX1_longestFrom_38 (by decide) ?_
      refine lv_icmp_ne (tgt := 44) hx hb dX1_longestFrom_39 (by decide) (fun hc => ?_) (fun hc => ?_)
      · replace hf := gx_f hc hf
        refine lv_iload hx hb dX1_longestFrom_44 (lv_at hl 0 rfl) ?_
        refine lv_istore_n (lv' := [(3, .int y_31), (5, .int y_31), (0, .ref h_t), (1, .ref h_a1), (4, .int x4)]) hx hb dX1_longestFrom_46 rfl hl (by decide) rfl (fun ls hl => ?_)
        refine lv_iinc (v := (x4 + 1)) (lv' := [(4, .int (x4 + 1)), (3, .int y_31), (5, .int y_31), (0, .ref h_t), (1, .ref h_a1)]) hx hb dX1_longestFrom_47 hl (k := 4) rfl rfl (by decide) rfl (fun ls hl => ?_)
        refine lv_goto (tgt := 11) hx hb dX1_longestFrom_50 (by decide) ?_
        exact ih y_31 (x4 + 1) _ _ _ (lv_sub hl [3, 4, 1, 0] rfl) hw hf
      · replace hf := gx_t hc hf
        refine lv_iload_n hx hb dX1_longestFrom_42 rfl (lv_at hl 3 rfl) ?_
        obtain rfl := Option.some.inj hf
        exact hQ _ _ _ _ dX1_longestFrom_43 rfl hw
set_option maxHeartbeats 4000000 in
set_option maxRecDepth 100000 in
theorem ct_X1_longestFrom (l : Launch) (D : va_G) (cI cZ : ClassId) (h_t h_t_rules h_t_pace h_t_table h_t_table_heads h_t_table_tails h_t_table_lengths h_t_table_nextInChain h_t_table_chainOf h_t_codes h_t_widths h_t_begins h_a1 h_a1_cells : Nat) (V_t V_t_rules V_t_table V_t_table_tails V_t_table_nextInChain V_t_table_chainOf V_a1 V_a1_cells : Nat → Int32) (a2 : Int32) {z : Int32} (hf : fn_X1_longestFrom V_t_rules V_t_table V_t_table_tails V_t_table_nextInChain V_t_table_chainOf V_a1 V_a1_cells a2 = some z) : gx_Mi l yX1_longestFrom wsX1_longestFrom (gx_rm 1) D cI cZ [.ref h_t, .ref h_a1, .int a2] (wd_X1_longestFrom cI cZ h_t h_t_rules h_t_pace h_t_table h_t_table_heads h_t_table_tails h_t_table_lengths h_t_table_nextInChain h_t_table_chainOf h_t_codes h_t_widths h_t_begins h_a1 h_a1_cells V_t V_t_rules V_t_table V_t_table_tails V_t_table_nextInChain V_t_table_chainOf V_a1 V_a1_cells) (wd_X1_longestFrom cI cZ h_t h_t_rules h_t_pace h_t_table h_t_table_heads h_t_table_tails h_t_table_lengths h_t_table_nextInChain h_t_table_chainOf h_t_codes h_t_widths h_t_begins h_a1 h_a1_cells V_t V_t_rules V_t_table V_t_table_tails V_t_table_nextInChain V_t_table_chainOf V_a1 V_a1_cells) z := by
  refine gx_ofi (cc := cX1_longestFrom) (own := RX1) (by decide) rfl rfl (Nat.le_of_ble_eq_true rfl) [(0, .ref h_t), (1, .ref h_a1), (2, .int a2)] rfl ?_
  intro p e s m args below meth c A Q ls C hQ hl hw
  have hx := C.1.1
  have hb := C.1.2.1
  rw [fn_X1_longestFrom] at hf
  refine lv_aload_n hx hb dX1_longestFrom_0 rfl (lv_at hl 1 rfl) ?_
  refine lv_iload_n hx hb dX1_longestFrom_1 rfl (lv_at hl 2 rfl) ?_
  obtain ⟨y_2, hy_2, hf⟩ := gx_b hf
  refine gx_calli (As := [.int a2]) (ws' := wd_X1_longestFrom cI cZ h_t h_t_rules h_t_pace h_t_table h_t_table_heads h_t_table_tails h_t_table_lengths h_t_table_nextInChain h_t_table_chainOf h_t_codes h_t_widths h_t_begins h_a1 h_a1_cells V_t V_t_rules V_t_table V_t_table_tails V_t_table_nextInChain V_t_table_chainOf V_a1 V_a1_cells) (isC := [6, 7]) (isR := [0, 1, 2, 3, 4, 5]) (isP := [0, 1, 2, 3, 4, 5, 6, 7]) C hw (ct_X2_get l D cI cZ h_a1 h_a1_cells 300 V_a1 V_a1_cells a2 hy_2) kl_X1_longestFrom_77 ⟨rfl, rfl⟩ ⟨rfl, rfl, by decide, by decide, by decide, by decide, rfl⟩ 0 rfl rfl rfl rfl hl.1 (Nat.le_of_ble_eq_true rfl) ⟨Nat.le_refl _, Nat.le_refl _⟩ dX1_longestFrom_2 (fun H locs hw => ?_)
  refine lv_istore_n (lv' := [(3, .int y_2), (0, .ref h_t), (1, .ref h_a1), (2, .int a2)]) hx hb dX1_longestFrom_5 rfl hl (by decide) rfl (fun ls hl => ?_)
  refine lv_iload_n hx hb dX1_longestFrom_6 rfl (lv_at hl 3 rfl) ?_
  refine lv_iconst (v := 1) hx hb dX1_longestFrom_7 (by decide) ?_
  refine lv_iadd hx hb dX1_longestFrom_8 ?_
  refine lv_istore (lv' := [(4, .int (a2 + 1)), (3, .int y_2), (0, .ref h_t), (1, .ref h_a1), (2, .int a2)]) hx hb dX1_longestFrom_9 hl (by decide) rfl (fun ls hl => ?_)
  exact tm_X1_longestFrom_11 C h_t h_t_rules h_t_pace h_t_table h_t_table_heads h_t_table_tails h_t_table_lengths h_t_table_nextInChain h_t_table_chainOf h_t_codes h_t_widths h_t_begins h_a1 h_a1_cells V_t V_t_rules V_t_table V_t_table_tails V_t_table_nextInChain V_t_table_chainOf V_a1 V_a1_cells hQ  gx_fuel y_2 (a2 + 1) _ _ _ (lv_sub hl [2, 3, 1, 0] rfl) hw hf
-- LzwForms$Packer.clearIsDue: touched ['t', 't_rules', 't_table']; used ['t', 't_rules', 't_table']; mod []; height 1
theorem ln_X1_clearIsDue_9 : gx_L wsX1_clearIsDue RX1 9 1 0 := ⟨_, _, _, rfl, by decide +kernel, by decide, Or.inl (by decide +kernel)⟩
theorem ln_X1_clearIsDue_27 : gx_L wsX1_clearIsDue RX1 27 1 2 := ⟨_, _, _, rfl, by decide +kernel, by decide, Or.inl (by decide +kernel)⟩
theorem ln_X1_clearIsDue_73 : gx_L wsX1_clearIsDue RX1 73 1 8 := ⟨_, _, _, rfl, by decide +kernel, by decide, Or.inl (by decide +kernel)⟩
theorem ln_X1_clearIsDue_108 : gx_L wsX1_clearIsDue RX1 108 3 3 := ⟨_, _, _, rfl, by decide +kernel, by decide, Or.inr (by decide +kernel)⟩
theorem kl_X1_clearIsDue_111 : gx_KV wsX1_clearIsDue RX1 111 yX4_isFull cX4_isFull 1 (some .boolean) wsX4_isFull (gx_rm 0) (gx_rm 1) 0 := ⟨gX1_clearIsDue_X4_isFull, ⟨_, rfl⟩, ⟨by decide, by decide, by decide +kernel⟩, ⟨by decide, by decide⟩⟩
def wd_X1_clearIsDue (cI cZ : ClassId) (h_t h_t_rules h_t_pace h_t_table h_t_table_heads h_t_table_tails h_t_table_lengths h_t_table_nextInChain h_t_table_chainOf h_t_codes h_t_widths h_t_begins : Nat) (V_t V_t_rules V_t_table : Nat → Int32) : va_W := [gx_o h_t 1 [some (some h_t_rules), some (some h_t_pace), some (some h_t_table), some (some h_t_codes), some (some h_t_widths), some (some h_t_begins), none, none, none] V_t, gx_o h_t_rules 3 [none, none, none, none, none, none, none, none, none, none, none, none] V_t_rules, gx_o h_t_table 4 [some (some h_t_rules), some (some h_t_table_heads), some (some h_t_table_tails), some (some h_t_table_lengths), some (some h_t_table_nextInChain), some (some h_t_table_chainOf), none] V_t_table]
set_option maxHeartbeats 4000000 in
set_option maxRecDepth 100000 in
theorem ct_X1_clearIsDue (l : Launch) (D : va_G) (cI cZ : ClassId) (h_t h_t_rules h_t_pace h_t_table h_t_table_heads h_t_table_tails h_t_table_lengths h_t_table_nextInChain h_t_table_chainOf h_t_codes h_t_widths h_t_begins : Nat) (V_t V_t_rules V_t_table : Nat → Int32) {z : Int32} (hf : fn_X1_clearIsDue V_t V_t_rules V_t_table = some z) : gx_Mi l yX1_clearIsDue wsX1_clearIsDue (gx_rm 1) D cI cZ [.ref h_t] (wd_X1_clearIsDue cI cZ h_t h_t_rules h_t_pace h_t_table h_t_table_heads h_t_table_tails h_t_table_lengths h_t_table_nextInChain h_t_table_chainOf h_t_codes h_t_widths h_t_begins V_t V_t_rules V_t_table) (wd_X1_clearIsDue cI cZ h_t h_t_rules h_t_pace h_t_table h_t_table_heads h_t_table_tails h_t_table_lengths h_t_table_nextInChain h_t_table_chainOf h_t_codes h_t_widths h_t_begins V_t V_t_rules V_t_table) z := by
  refine gx_ofi (cc := cX1_clearIsDue) (own := RX1) (by decide) rfl rfl (Nat.le_of_ble_eq_true rfl) [(0, .ref h_t)] rfl ?_
  intro p e s m args below meth c A Q ls C hQ hl hw
  have hx := C.1.1
  have hb := C.1.2.1
  rw [fn_X1_clearIsDue] at hf
  refine lv_aload_n hx hb dX1_clearIsDue_0 rfl (lv_at hl 0 rfl) ?_
  refine gx_get C hw 0 rfl (gx_gr rfl) ln_X1_clearIsDue_9 dX1_clearIsDue_1 ?_
  refine gx_get (v := .int (V_t_rules 3)) C hw 1 rfl (gx_gj rfl rfl) ln_X1_clearIsDue_108 dX1_clearIsDue_4 ?_
  refine lv_iconst (v := 1) hx hb dX1_clearIsDue_7 (by decide) ?_
  refine lv_icmp_ne (tgt := 19) hx hb dX1_clearIsDue_8 (by decide) (fun hc => ?_) (fun hc => ?_)
  · replace hf := gx_f hc hf
    refine lv_aload_n hx hb dX1_clearIsDue_19 rfl (lv_at hl 0 rfl) ?_
    refine gx_get C hw 0 rfl (gx_gr rfl) ln_X1_clearIsDue_9 dX1_clearIsDue_20 ?_
    refine gx_get (v := .int (V_t_rules 3)) C hw 1 rfl (gx_gj rfl rfl) ln_X1_clearIsDue_108 dX1_clearIsDue_23 ?_
    refine lv_iconst (v := 1) hx hb dX1_clearIsDue_26 (by decide) ?_
    refine lv_icmp_le (tgt := 48) hx hb dX1_clearIsDue_27 (by decide) (fun hc => ?_) (fun hc => ?_)
    · replace hf := gx_t hc hf
      refine lv_iconst (v := 0) hx hb dX1_clearIsDue_48 (by decide) ?_
      obtain rfl := Option.some.inj hf
      exact hQ _ _ _ _ dX1_clearIsDue_49 (gx_nb (Or.inl rfl)) hw
    · replace hf := gx_f hc hf
      refine lv_aload_n hx hb dX1_clearIsDue_30 rfl (lv_at hl 0 rfl) ?_
      refine gx_get (v := .int (V_t 8)) C hw 0 rfl (gx_gj rfl rfl) ln_X1_clearIsDue_73 dX1_clearIsDue_31 ?_
      refine lv_aload_n hx hb dX1_clearIsDue_34 rfl (lv_at hl 0 rfl) ?_
      refine gx_get C hw 0 rfl (gx_gr rfl) ln_X1_clearIsDue_9 dX1_clearIsDue_35 ?_
      refine gx_get (v := .int (V_t_rules 3)) C hw 1 rfl (gx_gj rfl rfl) ln_X1_clearIsDue_108 dX1_clearIsDue_38 ?_
      refine lv_icmp_ne (tgt := 48) hx hb dX1_clearIsDue_41 (by decide) (fun hc => ?_) (fun hc => ?_)
      · replace hf := gx_f hc hf
        refine lv_iconst (v := 0) hx hb dX1_clearIsDue_48 (by decide) ?_
        obtain rfl := Option.some.inj hf
        exact hQ _ _ _ _ dX1_clearIsDue_49 (gx_nb (Or.inl rfl)) hw
      · replace hf := gx_t hc hf
        refine lv_iconst (v := 1) hx hb dX1_clearIsDue_44 (by decide) ?_
        refine lv_goto (tgt := 49) hx hb dX1_clearIsDue_45 (by decide) ?_
        obtain rfl := Option.some.inj hf
        exact hQ _ _ _ _ dX1_clearIsDue_49 (gx_nb (Or.inr rfl)) hw
  · replace hf := gx_t hc hf
    refine lv_aload_n hx hb dX1_clearIsDue_11 rfl (lv_at hl 0 rfl) ?_
    refine gx_get C hw 0 rfl (gx_gr rfl) ln_X1_clearIsDue_27 dX1_clearIsDue_12 ?_
    obtain ⟨y_15, hy_15, hf⟩ := gx_b hf
    refine gx_calli (As := []) (ws' := wd_X1_clearIsDue cI cZ h_t h_t_rules h_t_pace h_t_table h_t_table_heads h_t_table_tails h_t_table_lengths h_t_table_nextInChain h_t_table_chainOf h_t_codes h_t_widths h_t_begins V_t V_t_rules V_t_table) (isC := [2, 1]) (isR := [0]) (isP := [0, 2, 1]) C hw (ct_X4_isFull l D cI cZ h_t_table h_t_rules h_t_table_heads h_t_table_tails h_t_table_lengths h_t_table_nextInChain h_t_table_chainOf V_t_table V_t_rules hy_15) kl_X1_clearIsDue_111 ⟨rfl, rfl⟩ ⟨rfl, rfl, by decide, by decide, by decide, by decide, rfl⟩ 0 rfl rfl rfl rfl hl.1 (Nat.le_of_ble_eq_true rfl) ⟨Nat.le_refl _, Nat.le_refl _⟩ dX1_clearIsDue_15 (fun H locs hw => ?_)
    obtain ⟨hz_18, hf⟩ := gx_g hf
    obtain rfl := Option.some.inj hf
    exact hQ _ _ _ _ dX1_clearIsDue_18 (gx_nb hz_18) hw
-- LzwForms$Packer.put: touched ['t', 't_rules', 't_pace', 't_codes', 't_codes_cells', 't_widths', 't_widths_cells', 't_begins', 't_begins_cells']; used ['t', 't_rules', 't_pace', 't_codes', 't_codes_cells', 't_widths', 't_widths_cells', 't_begins', 't_begins_cells']; mod ['t', 't_pace', 't_codes', 't_codes_cells', 't_widths', 't_widths_cells', 't_begins', 't_begins_cells']; height 3
theorem ln_X1_put_20 : gx_L wsX1_put RX1 20 1 1 := ⟨_, _, _, rfl, by decide +kernel, by decide, Or.inl (by decide +kernel)⟩
theorem ln_X1_put_36 : gx_L wsX1_put RX1 36 1 3 := ⟨_, _, _, rfl, by decide +kernel, by decide, Or.inl (by decide +kernel)⟩
theorem ln_X1_put_40 : gx_L wsX1_put RX1 40 1 4 := ⟨_, _, _, rfl, by decide +kernel, by decide, Or.inl (by decide +kernel)⟩
theorem ln_X1_put_43 : gx_L wsX1_put RX1 43 1 5 := ⟨_, _, _, rfl, by decide +kernel, by decide, Or.inl (by decide +kernel)⟩
theorem ln_X1_put_98 : gx_L wsX1_put RX1 98 1 6 := ⟨_, _, _, rfl, by decide +kernel, by decide, Or.inl (by decide +kernel)⟩
theorem lp_X1_put_98 : gx_LP wsX1_put RX1 98 1 6 false .int := ⟨_, _, _, tyX1, rfl, by decide +kernel, by decide, by decide +kernel, tyX1_ok, nmX1, by decide +kernel, by decide +kernel, by decide +kernel⟩
theorem ln_X1_put_124 : gx_L wsX1_put RX1 124 0 2 := ⟨_, _, _, rfl, by decide +kernel, by decide, Or.inr (by decide +kernel)⟩
theorem kl_X1_put_117 : gx_KV wsX1_put RX1 117 yX0_bitsThatFill cX0_bitsThatFill 1 (some .int) wsX0_bitsThatFill (gx_rm 1) (gx_rm 3) 0 := ⟨gX1_put_X0_bitsThatFill, ⟨_, rfl⟩, ⟨by decide, by decide, by decide +kernel⟩, ⟨by decide, by decide⟩⟩
theorem kl_X1_put_120 : gx_KV wsX1_put RX1 120 yX2_add cX2_add 2 (some .boolean) wsX2_add (gx_rm 0) (gx_rm 3) 1 := ⟨gX1_put_X2_add, ⟨_, rfl⟩, ⟨by decide, by decide, by decide +kernel⟩, ⟨by decide, by decide⟩⟩
theorem kl_X1_put_127 : gx_KV wsX1_put RX1 127 yX0_pass cX0_pass 2 none wsX0_pass (gx_rm 2) (gx_rm 3) 1 := ⟨gX1_put_X0_pass, ⟨_, rfl⟩, ⟨by decide, by decide, by decide +kernel⟩, ⟨by decide, by decide⟩⟩
def wd_X1_put (cI cZ : ClassId) (h_t h_t_rules h_t_pace h_t_table h_t_codes h_t_codes_cells h_t_widths h_t_widths_cells h_t_begins h_t_begins_cells : Nat) (V_t V_t_rules V_t_pace V_t_codes V_t_codes_cells V_t_widths V_t_widths_cells V_t_begins V_t_begins_cells : Nat → Int32) : va_W := [gx_o h_t 1 [some (some h_t_rules), some (some h_t_pace), some (some h_t_table), some (some h_t_codes), some (some h_t_widths), some (some h_t_begins), none, none, none] V_t, gx_o h_t_rules 3 [none, none, none, none, none, none, none, none, none, none, none, none] V_t_rules, gx_o h_t_pace 0 [some (some h_t_rules), none, none, none, none, none, none] V_t_pace, gx_o h_t_codes 2 [some (some h_t_codes_cells), none] V_t_codes, gx_a h_t_codes_cells cI 452 V_t_codes_cells, gx_o h_t_widths 2 [some (some h_t_widths_cells), none] V_t_widths, gx_a h_t_widths_cells cI 452 V_t_widths_cells, gx_o h_t_begins 2 [some (some h_t_begins_cells), none] V_t_begins, gx_a h_t_begins_cells cI 452 V_t_begins_cells]
set_option maxHeartbeats 4000000 in
set_option maxRecDepth 100000 in
theorem ct_X1_put (l : Launch) (D : va_G) (cI cZ : ClassId) (h_t h_t_rules h_t_pace h_t_table h_t_codes h_t_codes_cells h_t_widths h_t_widths_cells h_t_begins h_t_begins_cells : Nat) (V_t V_t_rules V_t_pace V_t_codes V_t_codes_cells V_t_widths V_t_widths_cells V_t_begins V_t_begins_cells : Nat → Int32) (a1 : Int32) {z : (Nat → Int32) × (Nat → Int32) × (Nat → Int32) × (Nat → Int32) × (Nat → Int32) × (Nat → Int32) × (Nat → Int32) × (Nat → Int32)} (hf : fn_X1_put V_t V_t_rules V_t_pace V_t_codes V_t_codes_cells V_t_widths V_t_widths_cells V_t_begins V_t_begins_cells a1 = some z) : gx_Mv l yX1_put wsX1_put (gx_rm 3) D cI cZ [.ref h_t, .int a1] (wd_X1_put cI cZ h_t h_t_rules h_t_pace h_t_table h_t_codes h_t_codes_cells h_t_widths h_t_widths_cells h_t_begins h_t_begins_cells V_t V_t_rules V_t_pace V_t_codes V_t_codes_cells V_t_widths V_t_widths_cells V_t_begins V_t_begins_cells) (wd_X1_put cI cZ h_t h_t_rules h_t_pace h_t_table h_t_codes h_t_codes_cells h_t_widths h_t_widths_cells h_t_begins h_t_begins_cells z.1 V_t_rules z.2.1 z.2.2.1 z.2.2.2.1 z.2.2.2.2.1 z.2.2.2.2.2.1 z.2.2.2.2.2.2.1 z.2.2.2.2.2.2.2) := by
  refine gx_ofv (cc := cX1_put) (own := RX1) (by decide) rfl rfl (Nat.le_of_ble_eq_true rfl) [(0, .ref h_t), (1, .int a1)] rfl ?_
  intro p e s m args below meth c A Q ls C hQ hl hw
  have hx := C.1.1
  have hb := C.1.2.1
  rw [fn_X1_put] at hf
  refine lv_aload_n hx hb dX1_put_0 rfl (lv_at hl 0 rfl) ?_
  refine lv_dup hx hb dX1_put_1 rfl ?_
  refine gx_get (v := .int (V_t 6)) C hw 0 rfl (gx_gj rfl rfl) ln_X1_put_98 dX1_put_2 ?_
  refine lv_aload_n hx hb dX1_put_5 rfl (lv_at hl 0 rfl) ?_
  refine gx_get C hw 0 rfl (gx_gr rfl) ln_X1_put_20 dX1_put_6 ?_
  obtain ⟨y_9, hy_9, hf⟩ := gx_b hf
  refine gx_calli (As := []) (ws' := wd_X1_put cI cZ h_t h_t_rules h_t_pace h_t_table h_t_codes h_t_codes_cells h_t_widths h_t_widths_cells h_t_begins h_t_begins_cells V_t V_t_rules V_t_pace V_t_codes V_t_codes_cells V_t_widths V_t_widths_cells V_t_begins V_t_begins_cells) (isC := [2, 1]) (isR := [0, 3, 4, 5, 6, 7, 8]) (isP := [0, 8, 7, 1, 2, 3, 4, 5, 6]) C hw (ct_X0_bitsThatFill l D cI cZ h_t_pace h_t_rules V_t_pace V_t_rules hy_9) kl_X1_put_117 ⟨rfl, rfl⟩ ⟨rfl, rfl, by decide, by decide, by decide, by decide, rfl⟩ 0 rfl rfl rfl rfl hl.1 (Nat.le_of_ble_eq_true rfl) ⟨Nat.le_refl _, Nat.le_refl _⟩ dX1_put_9 (fun H locs hw => ?_)
  refine lv_iadd hx hb dX1_put_12 ?_
  refine gx_put (ws' := wd_X1_put cI cZ h_t h_t_rules h_t_pace h_t_table h_t_codes h_t_codes_cells h_t_widths h_t_widths_cells h_t_begins h_t_begins_cells (upd V_t 6 ((V_t 6) + y_9)) V_t_rules V_t_pace V_t_codes V_t_codes_cells V_t_widths V_t_widths_cells V_t_begins V_t_begins_cells) C hw 0 rfl rfl lp_X1_put_98 rfl rfl rfl dX1_put_13 (fun H locs hw => ?_)
  refine lv_aload_n hx hb dX1_put_16 rfl (lv_at hl 0 rfl) ?_
  refine gx_get C hw 0 rfl (gx_gr rfl) ln_X1_put_36 dX1_put_17 ?_
  refine lv_iload_n hx hb dX1_put_20 rfl (lv_at hl 1 rfl) ?_
  obtain ⟨y_21, hy_21, hf⟩ := gx_b hf
  refine gx_calli (As := [.int a1]) (ws' := wd_X1_put cI cZ h_t h_t_rules h_t_pace h_t_table h_t_codes h_t_codes_cells h_t_widths h_t_widths_cells h_t_begins h_t_begins_cells (upd V_t 6 ((V_t 6) + y_9)) V_t_rules V_t_pace y_21.2.1 y_21.2.2 V_t_widths V_t_widths_cells V_t_begins V_t_begins_cells) (isC := [3, 4]) (isR := [0, 1, 2, 5, 6, 7, 8]) (isP := [0, 1, 2, 7, 8, 3, 4, 5, 6]) C hw (ct_X2_add l D cI cZ h_t_codes h_t_codes_cells 452 V_t_codes V_t_codes_cells a1 hy_21) kl_X1_put_120 ⟨rfl, rfl⟩ ⟨rfl, rfl, by decide, by decide, by decide, by decide, rfl⟩ 0 rfl rfl rfl rfl hl.1 (Nat.le_of_ble_eq_true rfl) ⟨Nat.le_refl _, Nat.le_refl _⟩ dX1_put_21 (fun H locs hw => ?_)
  refine lv_pop hx hb dX1_put_24 rfl ?_
  refine lv_aload_n hx hb dX1_put_25 rfl (lv_at hl 0 rfl) ?_
  refine gx_get C hw 0 rfl (gx_gr rfl) ln_X1_put_40 dX1_put_26 ?_
  refine lv_aload_n hx hb dX1_put_29 rfl (lv_at hl 0 rfl) ?_
  refine gx_get C hw 0 rfl (gx_gr rfl) ln_X1_put_20 dX1_put_30 ?_
  refine gx_get (v := .int (V_t_pace 2)) C hw 2 rfl (gx_gj rfl rfl) ln_X1_put_124 dX1_put_33 ?_
  obtain ⟨y_36, hy_36, hf⟩ := gx_b hf
  refine gx_calli (As := [.int (V_t_pace 2)]) (ws' := wd_X1_put cI cZ h_t h_t_rules h_t_pace h_t_table h_t_codes h_t_codes_cells h_t_widths h_t_widths_cells h_t_begins h_t_begins_cells (upd V_t 6 ((V_t 6) + y_9)) V_t_rules V_t_pace y_21.2.1 y_21.2.2 y_36.2.1 y_36.2.2 V_t_begins V_t_begins_cells) (isC := [5, 6]) (isR := [0, 1, 2, 3, 4, 7, 8]) (isP := [0, 1, 2, 3, 4, 7, 8, 5, 6]) C hw (ct_X2_add l D cI cZ h_t_widths h_t_widths_cells 452 V_t_widths V_t_widths_cells (V_t_pace 2) hy_36) kl_X1_put_120 ⟨rfl, rfl⟩ ⟨rfl, rfl, by decide, by decide, by decide, by decide, rfl⟩ 0 rfl rfl rfl rfl hl.1 (Nat.le_of_ble_eq_true rfl) ⟨Nat.le_refl _, Nat.le_refl _⟩ dX1_put_36 (fun H locs hw => ?_)
  refine lv_pop hx hb dX1_put_39 rfl ?_
  refine lv_aload_n hx hb dX1_put_40 rfl (lv_at hl 0 rfl) ?_
  refine gx_get C hw 0 rfl (gx_gr rfl) ln_X1_put_43 dX1_put_41 ?_
  refine lv_aload_n hx hb dX1_put_44 rfl (lv_at hl 0 rfl) ?_
  refine gx_get (v := .int ((V_t 6) + y_9)) C hw 0 rfl (gx_gj rfl pk_us) ln_X1_put_98 dX1_put_45 ?_
  obtain ⟨y_48, hy_48, hf⟩ := gx_b hf
  refine gx_calli (As := [.int ((V_t 6) + y_9)]) (ws' := wd_X1_put cI cZ h_t h_t_rules h_t_pace h_t_table h_t_codes h_t_codes_cells h_t_widths h_t_widths_cells h_t_begins h_t_begins_cells (upd V_t 6 ((V_t 6) + y_9)) V_t_rules V_t_pace y_21.2.1 y_21.2.2 y_36.2.1 y_36.2.2 y_48.2.1 y_48.2.2) (isC := [7, 8]) (isR := [0, 1, 2, 3, 4, 5, 6]) (isP := [0, 1, 2, 3, 4, 5, 6, 7, 8]) C hw (ct_X2_add l D cI cZ h_t_begins h_t_begins_cells 452 V_t_begins V_t_begins_cells ((V_t 6) + y_9) hy_48) kl_X1_put_120 ⟨rfl, rfl⟩ ⟨rfl, rfl, by decide, by decide, by decide, by decide, rfl⟩ 0 rfl rfl rfl rfl hl.1 (Nat.le_of_ble_eq_true rfl) ⟨Nat.le_refl _, Nat.le_refl _⟩ dX1_put_48 (fun H locs hw => ?_)
  refine lv_pop hx hb dX1_put_51 rfl ?_
  refine lv_aload_n hx hb dX1_put_52 rfl (lv_at hl 0 rfl) ?_
  refine lv_dup hx hb dX1_put_53 rfl ?_
  refine gx_get (v := .int ((V_t 6) + y_9)) C hw 0 rfl (gx_gj rfl pk_us) ln_X1_put_98 dX1_put_54 ?_
  refine lv_aload_n hx hb dX1_put_57 rfl (lv_at hl 0 rfl) ?_
  refine gx_get C hw 0 rfl (gx_gr rfl) ln_X1_put_20 dX1_put_58 ?_
  refine gx_get (v := .int (V_t_pace 2)) C hw 2 rfl (gx_gj rfl rfl) ln_X1_put_124 dX1_put_61 ?_
  refine lv_iadd hx hb dX1_put_64 ?_
  refine gx_put (ws' := wd_X1_put cI cZ h_t h_t_rules h_t_pace h_t_table h_t_codes h_t_codes_cells h_t_widths h_t_widths_cells h_t_begins h_t_begins_cells (upd (upd V_t 6 ((V_t 6) + y_9)) 6 (((V_t 6) + y_9) + (V_t_pace 2))) V_t_rules V_t_pace y_21.2.1 y_21.2.2 y_36.2.1 y_36.2.2 y_48.2.1 y_48.2.2) C hw 0 rfl rfl lp_X1_put_98 rfl rfl rfl dX1_put_65 (fun H locs hw => ?_)
  refine lv_aload_n hx hb dX1_put_68 rfl (lv_at hl 0 rfl) ?_
  refine gx_get C hw 0 rfl (gx_gr rfl) ln_X1_put_20 dX1_put_69 ?_
  refine lv_iload_n hx hb dX1_put_72 rfl (lv_at hl 1 rfl) ?_
  obtain ⟨y_73, hy_73, hf⟩ := gx_b hf
  refine gx_callv (As := [.int a1]) (ws' := wd_X1_put cI cZ h_t h_t_rules h_t_pace h_t_table h_t_codes h_t_codes_cells h_t_widths h_t_widths_cells h_t_begins h_t_begins_cells (upd (upd V_t 6 ((V_t 6) + y_9)) 6 (((V_t 6) + y_9) + (V_t_pace 2))) V_t_rules y_73 y_21.2.1 y_21.2.2 y_36.2.1 y_36.2.2 y_48.2.1 y_48.2.2) (isC := [2, 1]) (isR := [0, 3, 4, 5, 6, 7, 8]) (isP := [0, 8, 7, 1, 2, 3, 4, 5, 6]) C hw (ct_X0_pass l D cI cZ h_t_pace h_t_rules V_t_pace V_t_rules a1 hy_73) kl_X1_put_127 ⟨rfl, rfl⟩ ⟨rfl, rfl, by decide, by decide, by decide, by decide, rfl⟩ 0 rfl rfl rfl rfl hl.1 (Nat.le_of_ble_eq_true rfl) ⟨Nat.le_refl _, Nat.le_refl _⟩ dX1_put_73 (fun H locs hw => ?_)
  obtain rfl := Option.some.inj hf
  exact hQ _ _ _ _ dX1_put_76 hw
-- LzwForms$Packer.putClear: touched ['t', 't_rules', 't_pace', 't_table', 't_table_heads', 't_table_chainOf', 't_codes', 't_codes_cells', 't_widths', 't_widths_cells', 't_begins', 't_begins_cells']; used ['t', 't_rules', 't_pace', 't_table', 't_table_heads', 't_table_chainOf', 't_codes', 't_codes_cells', 't_widths', 't_widths_cells', 't_begins', 't_begins_cells']; mod ['t', 't_pace', 't_table', 't_table_chainOf', 't_codes', 't_codes_cells', 't_widths', 't_widths_cells', 't_begins', 't_begins_cells']; height 4
theorem ln_X1_putClear_9 : gx_L wsX1_putClear RX1 9 1 0 := ⟨_, _, _, rfl, by decide +kernel, by decide, Or.inl (by decide +kernel)⟩
theorem ln_X1_putClear_27 : gx_L wsX1_putClear RX1 27 1 2 := ⟨_, _, _, rfl, by decide +kernel, by decide, Or.inl (by decide +kernel)⟩
theorem lp_X1_putClear_73 : gx_LP wsX1_putClear RX1 73 1 8 false .int := ⟨_, _, _, tyX1, rfl, by decide +kernel, by decide, by decide +kernel, tyX1_ok, nmX1, by decide +kernel, by decide +kernel, by decide +kernel⟩
theorem ln_X1_putClear_101 : gx_L wsX1_putClear RX1 101 1 7 := ⟨_, _, _, rfl, by decide +kernel, by decide, Or.inl (by decide +kernel)⟩
theorem lp_X1_putClear_101 : gx_LP wsX1_putClear RX1 101 1 7 false .int := ⟨_, _, _, tyX1, rfl, by decide +kernel, by decide, by decide +kernel, tyX1_ok, nmX1, by decide +kernel, by decide +kernel, by decide +kernel⟩
theorem ln_X1_putClear_114 : gx_L wsX1_putClear RX1 114 3 7 := ⟨_, _, _, rfl, by decide +kernel, by decide, Or.inr (by decide +kernel)⟩
theorem kl_X1_putClear_70 : gx_KV wsX1_putClear RX1 70 yX1_put cX1_put 2 none wsX1_put (gx_rm 3) (gx_rm 4) 1 := ⟨gX1_putClear_X1_put, ⟨_, rfl⟩, ⟨by decide, by decide, by decide +kernel⟩, ⟨by decide, by decide⟩⟩
theorem kl_X1_putClear_92 : gx_KV wsX1_putClear RX1 92 yX4_wipe cX4_wipe 3 none wsX4_wipe (gx_rm 0) (gx_rm 4) 0 := ⟨gX1_putClear_X4_wipe, ⟨_, rfl⟩, ⟨by decide, by decide, by decide +kernel⟩, ⟨by decide, by decide⟩⟩
def wd_X1_putClear (cI cZ : ClassId) (h_t h_t_rules h_t_pace h_t_table h_t_table_heads h_t_table_tails h_t_table_lengths h_t_table_nextInChain h_t_table_chainOf h_t_codes h_t_codes_cells h_t_widths h_t_widths_cells h_t_begins h_t_begins_cells : Nat) (V_t V_t_rules V_t_pace V_t_table V_t_table_heads V_t_table_chainOf V_t_codes V_t_codes_cells V_t_widths V_t_widths_cells V_t_begins V_t_begins_cells : Nat → Int32) : va_W := [gx_o h_t 1 [some (some h_t_rules), some (some h_t_pace), some (some h_t_table), some (some h_t_codes), some (some h_t_widths), some (some h_t_begins), none, none, none] V_t, gx_o h_t_rules 3 [none, none, none, none, none, none, none, none, none, none, none, none] V_t_rules, gx_o h_t_pace 0 [some (some h_t_rules), none, none, none, none, none, none] V_t_pace, gx_o h_t_table 4 [some (some h_t_rules), some (some h_t_table_heads), some (some h_t_table_tails), some (some h_t_table_lengths), some (some h_t_table_nextInChain), some (some h_t_table_chainOf), none] V_t_table, gx_a h_t_table_heads cI 300 V_t_table_heads, gx_a h_t_table_chainOf cI 558 V_t_table_chainOf, gx_o h_t_codes 2 [some (some h_t_codes_cells), none] V_t_codes, gx_a h_t_codes_cells cI 452 V_t_codes_cells, gx_o h_t_widths 2 [some (some h_t_widths_cells), none] V_t_widths, gx_a h_t_widths_cells cI 452 V_t_widths_cells, gx_o h_t_begins 2 [some (some h_t_begins_cells), none] V_t_begins, gx_a h_t_begins_cells cI 452 V_t_begins_cells]
set_option maxHeartbeats 4000000 in
set_option maxRecDepth 100000 in
theorem ct_X1_putClear (l : Launch) (D : va_G) (cI cZ : ClassId) (h_t h_t_rules h_t_pace h_t_table h_t_table_heads h_t_table_tails h_t_table_lengths h_t_table_nextInChain h_t_table_chainOf h_t_codes h_t_codes_cells h_t_widths h_t_widths_cells h_t_begins h_t_begins_cells : Nat) (V_t V_t_rules V_t_pace V_t_table V_t_table_heads V_t_table_chainOf V_t_codes V_t_codes_cells V_t_widths V_t_widths_cells V_t_begins V_t_begins_cells : Nat → Int32) {z : (Nat → Int32) × (Nat → Int32) × (Nat → Int32) × (Nat → Int32) × (Nat → Int32) × (Nat → Int32) × (Nat → Int32) × (Nat → Int32) × (Nat → Int32) × (Nat → Int32)} (hf : fn_X1_putClear V_t V_t_rules V_t_pace V_t_table V_t_table_heads V_t_table_chainOf V_t_codes V_t_codes_cells V_t_widths V_t_widths_cells V_t_begins V_t_begins_cells = some z) : gx_Mv l yX1_putClear wsX1_putClear (gx_rm 4) D cI cZ [.ref h_t] (wd_X1_putClear cI cZ h_t h_t_rules h_t_pace h_t_table h_t_table_heads h_t_table_tails h_t_table_lengths h_t_table_nextInChain h_t_table_chainOf h_t_codes h_t_codes_cells h_t_widths h_t_widths_cells h_t_begins h_t_begins_cells V_t V_t_rules V_t_pace V_t_table V_t_table_heads V_t_table_chainOf V_t_codes V_t_codes_cells V_t_widths V_t_widths_cells V_t_begins V_t_begins_cells) (wd_X1_putClear cI cZ h_t h_t_rules h_t_pace h_t_table h_t_table_heads h_t_table_tails h_t_table_lengths h_t_table_nextInChain h_t_table_chainOf h_t_codes h_t_codes_cells h_t_widths h_t_widths_cells h_t_begins h_t_begins_cells z.1 V_t_rules z.2.1 z.2.2.1 V_t_table_heads z.2.2.2.1 z.2.2.2.2.1 z.2.2.2.2.2.1 z.2.2.2.2.2.2.1 z.2.2.2.2.2.2.2.1 z.2.2.2.2.2.2.2.2.1 z.2.2.2.2.2.2.2.2.2) := by
  refine gx_ofv (cc := cX1_putClear) (own := RX1) (by decide) rfl rfl (Nat.le_of_ble_eq_true rfl) [(0, .ref h_t)] rfl ?_
  intro p e s m args below meth c A Q ls C hQ hl hw
  have hx := C.1.1
  have hb := C.1.2.1
  rw [fn_X1_putClear] at hf
  refine lv_aload_n hx hb dX1_putClear_0 rfl (lv_at hl 0 rfl) ?_
  refine lv_aload_n hx hb dX1_putClear_1 rfl (lv_at hl 0 rfl) ?_
  refine gx_get C hw 0 rfl (gx_gr rfl) ln_X1_putClear_9 dX1_putClear_2 ?_
  refine gx_get (v := .int (V_t_rules 7)) C hw 1 rfl (gx_gj rfl rfl) ln_X1_putClear_114 dX1_putClear_5 ?_
  obtain ⟨y_8, hy_8, hf⟩ := gx_b hf
  refine gx_callv (As := [.int (V_t_rules 7)]) (ws' := wd_X1_putClear cI cZ h_t h_t_rules h_t_pace h_t_table h_t_table_heads h_t_table_tails h_t_table_lengths h_t_table_nextInChain h_t_table_chainOf h_t_codes h_t_codes_cells h_t_widths h_t_widths_cells h_t_begins h_t_begins_cells y_8.1 V_t_rules y_8.2.1 V_t_table V_t_table_heads V_t_table_chainOf y_8.2.2.1 y_8.2.2.2.1 y_8.2.2.2.2.1 y_8.2.2.2.2.2.1 y_8.2.2.2.2.2.2.1 y_8.2.2.2.2.2.2.2) (isC := [0, 1, 2, 6, 7, 8, 9, 10, 11]) (isR := [3, 4, 5]) (isP := [3, 4, 5, 0, 1, 2, 6, 7, 8, 9, 10, 11]) C hw (ct_X1_put l D cI cZ h_t h_t_rules h_t_pace h_t_table h_t_codes h_t_codes_cells h_t_widths h_t_widths_cells h_t_begins h_t_begins_cells V_t V_t_rules V_t_pace V_t_codes V_t_codes_cells V_t_widths V_t_widths_cells V_t_begins V_t_begins_cells (V_t_rules 7) hy_8) kl_X1_putClear_70 ⟨rfl, rfl⟩ ⟨rfl, rfl, by decide, by decide, by decide, by decide, rfl⟩ 0 rfl rfl rfl rfl hl.1 (Nat.le_of_ble_eq_true rfl) ⟨Nat.le_refl _, Nat.le_refl _⟩ dX1_putClear_8 (fun H locs hw => ?_)
  refine lv_aload_n hx hb dX1_putClear_11 rfl (lv_at hl 0 rfl) ?_
  refine gx_get C hw 0 rfl (gx_gr rfl) ln_X1_putClear_27 dX1_putClear_12 ?_
  obtain ⟨y_15, hy_15, hf⟩ := gx_b hf
  refine gx_callv (As := []) (ws' := wd_X1_putClear cI cZ h_t h_t_rules h_t_pace h_t_table h_t_table_heads h_t_table_tails h_t_table_lengths h_t_table_nextInChain h_t_table_chainOf h_t_codes h_t_codes_cells h_t_widths h_t_widths_cells h_t_begins h_t_begins_cells y_8.1 V_t_rules y_8.2.1 y_15.1 V_t_table_heads y_15.2 y_8.2.2.1 y_8.2.2.2.1 y_8.2.2.2.2.1 y_8.2.2.2.2.2.1 y_8.2.2.2.2.2.2.1 y_8.2.2.2.2.2.2.2) (isC := [3, 4, 5]) (isR := [0, 1, 2, 6, 7, 8, 9, 10, 11]) (isP := [0, 1, 2, 9, 10, 11, 3, 4, 5, 6, 7, 8]) C hw (ct_X4_wipe l D cI cZ h_t_table h_t_rules h_t_table_heads h_t_table_tails h_t_table_lengths h_t_table_nextInChain h_t_table_chainOf V_t_table V_t_table_heads V_t_table_chainOf hy_15) kl_X1_putClear_92 ⟨rfl, rfl⟩ ⟨rfl, rfl, by decide, by decide, by decide, by decide, rfl⟩ 0 rfl rfl rfl rfl hl.1 (Nat.le_of_ble_eq_true rfl) ⟨Nat.le_refl _, Nat.le_refl _⟩ dX1_putClear_15 (fun H locs hw => ?_)
  refine lv_aload_n hx hb dX1_putClear_18 rfl (lv_at hl 0 rfl) ?_
  refine lv_dup hx hb dX1_putClear_19 rfl ?_
  refine gx_get (v := .int (y_8.1 7)) C hw 0 rfl (gx_gj rfl rfl) ln_X1_putClear_101 dX1_putClear_20 ?_
  refine lv_iconst (v := 1) hx hb dX1_putClear_23 (by decide) ?_
  refine lv_iadd hx hb dX1_putClear_24 ?_
  refine gx_put (ws' := wd_X1_putClear cI cZ h_t h_t_rules h_t_pace h_t_table h_t_table_heads h_t_table_tails h_t_table_lengths h_t_table_nextInChain h_t_table_chainOf h_t_codes h_t_codes_cells h_t_widths h_t_widths_cells h_t_begins h_t_begins_cells (upd y_8.1 7 ((y_8.1 7) + 1)) V_t_rules y_8.2.1 y_15.1 V_t_table_heads y_15.2 y_8.2.2.1 y_8.2.2.2.1 y_8.2.2.2.2.1 y_8.2.2.2.2.2.1 y_8.2.2.2.2.2.2.1 y_8.2.2.2.2.2.2.2) C hw 0 rfl rfl lp_X1_putClear_101 rfl rfl rfl dX1_putClear_25 (fun H locs hw => ?_)
  refine lv_aload_n hx hb dX1_putClear_28 rfl (lv_at hl 0 rfl) ?_
  refine lv_iconst (v := 0) hx hb dX1_putClear_29 (by decide) ?_
  refine gx_put (ws' := wd_X1_putClear cI cZ h_t h_t_rules h_t_pace h_t_table h_t_table_heads h_t_table_tails h_t_table_lengths h_t_table_nextInChain h_t_table_chainOf h_t_codes h_t_codes_cells h_t_widths h_t_widths_cells h_t_begins h_t_begins_cells (upd (upd y_8.1 7 ((y_8.1 7) + 1)) 8 0) V_t_rules y_8.2.1 y_15.1 V_t_table_heads y_15.2 y_8.2.2.1 y_8.2.2.2.1 y_8.2.2.2.2.1 y_8.2.2.2.2.2.1 y_8.2.2.2.2.2.2.1 y_8.2.2.2.2.2.2.2) C hw 0 rfl rfl lp_X1_putClear_73 rfl rfl rfl dX1_putClear_30 (fun H locs hw => ?_)
  obtain rfl := Option.some.inj hf
  exact hQ _ _ _ _ dX1_putClear_33 hw
-- LzwForms$Packer.pack: touched ['t', 't_rules', 't_pace', 't_table', 't_table_heads', 't_table_tails', 't_table_lengths', 't_table_nextInChain', 't_table_chainOf', 't_codes', 't_codes_cells', 't_widths', 't_widths_cells', 't_begins', 't_begins_cells', 'a1', 'a1_cells']; used ['t', 't_rules', 't_pace', 't_table', 't_table_heads', 't_table_tails', 't_table_lengths', 't_table_nextInChain', 't_table_chainOf', 't_codes', 't_codes_cells', 't_widths', 't_widths_cells', 't_begins', 't_begins_cells', 'a1', 'a1_cells']; mod ['t', 't_pace', 't_table', 't_table_heads', 't_table_tails', 't_table_lengths', 't_table_nextInChain', 't_table_chainOf', 't_codes', 't_codes_cells', 't_widths', 't_widths_cells', 't_begins', 't_begins_cells']; height 5
theorem ln_X1_pack_9 : gx_L wsX1_pack RX1 9 1 0 := ⟨_, _, _, rfl, by decide +kernel, by decide, Or.inl (by decide +kernel)⟩
theorem ln_X1_pack_27 : gx_L wsX1_pack RX1 27 1 2 := ⟨_, _, _, rfl, by decide +kernel, by decide, Or.inl (by decide +kernel)⟩
theorem ln_X1_pack_49 : gx_L wsX1_pack RX1 49 3 4 := ⟨_, _, _, rfl, by decide +kernel, by decide, Or.inr (by decide +kernel)⟩
theorem ln_X1_pack_73 : gx_L wsX1_pack RX1 73 1 8 := ⟨_, _, _, rfl, by decide +kernel, by decide, Or.inl (by decide +kernel)⟩
theorem lp_X1_pack_73 : gx_LP wsX1_pack RX1 73 1 8 false .int := ⟨_, _, _, tyX1, rfl, by decide +kernel, by decide, by decide +kernel, tyX1_ok, nmX1, by decide +kernel, by decide +kernel, by decide +kernel⟩
theorem ln_X1_pack_88 : gx_L wsX1_pack RX1 88 3 8 := ⟨_, _, _, rfl, by decide +kernel, by decide, Or.inr (by decide +kernel)⟩
theorem kl_X1_pack_46 : gx_KV wsX1_pack RX1 46 yX1_begin cX1_begin 1 none wsX1_begin (gx_rm 2) (gx_rm 5) 0 := ⟨gX1_pack_X1_begin, ⟨_, rfl⟩, ⟨by decide, by decide, by decide +kernel⟩, ⟨by decide, by decide⟩⟩
theorem kl_X1_pack_55 : gx_KV wsX1_pack RX1 55 yX1_putClear cX1_putClear 1 none wsX1_putClear (gx_rm 4) (gx_rm 5) 0 := ⟨gX1_pack_X1_putClear, ⟨_, rfl⟩, ⟨by decide, by decide, by decide +kernel⟩, ⟨by decide, by decide⟩⟩
theorem kl_X1_pack_58 : gx_KV wsX1_pack RX1 58 yX2_size cX2_size 1 (some .int) wsX2_size (gx_rm 0) (gx_rm 5) 0 := ⟨gX1_pack_X2_size, ⟨_, rfl⟩, ⟨by decide, by decide, by decide +kernel⟩, ⟨by decide, by decide⟩⟩
theorem kl_X1_pack_62 : gx_KV wsX1_pack RX1 62 yX1_longestFrom cX1_longestFrom 6 (some .int) wsX1_longestFrom (gx_rm 1) (gx_rm 5) 2 := ⟨gX1_pack_X1_longestFrom, ⟨_, rfl⟩, ⟨by decide, by decide, by decide +kernel⟩, ⟨by decide, by decide⟩⟩
theorem kl_X1_pack_66 : gx_KV wsX1_pack RX1 66 yX4_lengthOf cX4_lengthOf 3 (some .int) wsX4_lengthOf (gx_rm 1) (gx_rm 5) 1 := ⟨gX1_pack_X4_lengthOf, ⟨_, rfl⟩, ⟨by decide, by decide, by decide +kernel⟩, ⟨by decide, by decide⟩⟩
theorem kl_X1_pack_70 : gx_KV wsX1_pack RX1 70 yX1_put cX1_put 2 none wsX1_put (gx_rm 3) (gx_rm 5) 1 := ⟨gX1_pack_X1_put, ⟨_, rfl⟩, ⟨by decide, by decide, by decide +kernel⟩, ⟨by decide, by decide⟩⟩
theorem kl_X1_pack_77 : gx_KV wsX1_pack RX1 77 yX2_get cX2_get 2 (some .int) wsX2_get (gx_rm 0) (gx_rm 5) 1 := ⟨gX1_pack_X2_get, ⟨_, rfl⟩, ⟨by decide, by decide, by decide +kernel⟩, ⟨by decide, by decide⟩⟩
theorem kl_X1_pack_80 : gx_KV wsX1_pack RX1 80 yX4_addLonger cX4_addLonger 4 none wsX4_addLonger (gx_rm 2) (gx_rm 5) 2 := ⟨gX1_pack_X4_addLonger, ⟨_, rfl⟩, ⟨by decide, by decide, by decide +kernel⟩, ⟨by decide, by decide⟩⟩
theorem kl_X1_pack_84 : gx_KV wsX1_pack RX1 84 yX1_clearIsDue cX1_clearIsDue 1 (some .boolean) wsX1_clearIsDue (gx_rm 1) (gx_rm 5) 0 := ⟨gX1_pack_X1_clearIsDue, ⟨_, rfl⟩, ⟨by decide, by decide, by decide +kernel⟩, ⟨by decide, by decide⟩⟩
def wd_X1_pack (cI cZ : ClassId) (h_t h_t_rules h_t_pace h_t_table h_t_table_heads h_t_table_tails h_t_table_lengths h_t_table_nextInChain h_t_table_chainOf h_t_codes h_t_codes_cells h_t_widths h_t_widths_cells h_t_begins h_t_begins_cells h_a1 h_a1_cells : Nat) (V_t V_t_rules V_t_pace V_t_table V_t_table_heads V_t_table_tails V_t_table_lengths V_t_table_nextInChain V_t_table_chainOf V_t_codes V_t_codes_cells V_t_widths V_t_widths_cells V_t_begins V_t_begins_cells V_a1 V_a1_cells : Nat → Int32) : va_W := [gx_o h_t 1 [some (some h_t_rules), some (some h_t_pace), some (some h_t_table), some (some h_t_codes), some (some h_t_widths), some (some h_t_begins), none, none, none] V_t, gx_o h_t_rules 3 [none, none, none, none, none, none, none, none, none, none, none, none] V_t_rules, gx_o h_t_pace 0 [some (some h_t_rules), none, none, none, none, none, none] V_t_pace, gx_o h_t_table 4 [some (some h_t_rules), some (some h_t_table_heads), some (some h_t_table_tails), some (some h_t_table_lengths), some (some h_t_table_nextInChain), some (some h_t_table_chainOf), none] V_t_table, gx_a h_t_table_heads cI 300 V_t_table_heads, gx_a h_t_table_tails cI 300 V_t_table_tails, gx_a h_t_table_lengths cI 300 V_t_table_lengths, gx_a h_t_table_nextInChain cI 300 V_t_table_nextInChain, gx_a h_t_table_chainOf cI 558 V_t_table_chainOf, gx_o h_t_codes 2 [some (some h_t_codes_cells), none] V_t_codes, gx_a h_t_codes_cells cI 452 V_t_codes_cells, gx_o h_t_widths 2 [some (some h_t_widths_cells), none] V_t_widths, gx_a h_t_widths_cells cI 452 V_t_widths_cells, gx_o h_t_begins 2 [some (some h_t_begins_cells), none] V_t_begins, gx_a h_t_begins_cells cI 452 V_t_begins_cells, gx_o h_a1 2 [some (some h_a1_cells), none] V_a1, gx_a h_a1_cells cI 300 V_a1_cells]
set_option maxHeartbeats 4000000 in
set_option maxRecDepth 100000 in
theorem tm_X1_pack_113 (C : gx_C cX1_pack 5 wsX1_pack RX1 D cI cZ p s m args c) (h_t h_t_rules h_t_pace h_t_table h_t_table_heads h_t_table_tails h_t_table_lengths h_t_table_nextInChain h_t_table_chainOf h_t_codes h_t_codes_cells h_t_widths h_t_widths_cells h_t_begins h_t_begins_cells h_a1 h_a1_cells : Nat) (V_t_rules V_a1 V_a1_cells : Nat → Int32) {z : (Nat → Int32) × (Nat → Int32) × (Nat → Int32) × (Nat → Int32) × (Nat → Int32) × (Nat → Int32) × (Nat → Int32) × (Nat → Int32) × (Nat → Int32) × (Nat → Int32) × (Nat → Int32) × (Nat → Int32) × (Nat → Int32) × (Nat → Int32)} (hQ : gx_Qv cX1_pack p l e (gx_rm 5) s m args below meth c D A Q (wd_X1_pack cI cZ h_t h_t_rules h_t_pace h_t_table h_t_table_heads h_t_table_tails h_t_table_lengths h_t_table_nextInChain h_t_table_chainOf h_t_codes h_t_codes_cells h_t_widths h_t_widths_cells h_t_begins h_t_begins_cells h_a1 h_a1_cells z.1 V_t_rules z.2.1 z.2.2.1 z.2.2.2.1 z.2.2.2.2.1 z.2.2.2.2.2.1 z.2.2.2.2.2.2.1 z.2.2.2.2.2.2.2.1 z.2.2.2.2.2.2.2.2.1 z.2.2.2.2.2.2.2.2.2.1 z.2.2.2.2.2.2.2.2.2.2.1 z.2.2.2.2.2.2.2.2.2.2.2.1 z.2.2.2.2.2.2.2.2.2.2.2.2.1 z.2.2.2.2.2.2.2.2.2.2.2.2.2 V_a1 V_a1_cells)) : ∀ (V_t V_t_pace V_t_table V_t_table_heads V_t_table_tails V_t_table_lengths V_t_table_nextInChain V_t_table_chainOf V_t_codes V_t_codes_cells V_t_widths V_t_widths_cells V_t_begins V_t_begins_cells : Nat → Int32) (ls : Array Slot) (H : Heap) (locs : List Loc), lv_has ls 5 [(0, .ref h_t)] → gx_W D A s (wd_X1_pack cI cZ h_t h_t_rules h_t_pace h_t_table h_t_table_heads h_t_table_tails h_t_table_lengths h_t_table_nextInChain h_t_table_chainOf h_t_codes h_t_codes_cells h_t_widths h_t_widths_cells h_t_begins h_t_begins_cells h_a1 h_a1_cells V_t V_t_rules V_t_pace V_t_table V_t_table_heads V_t_table_tails V_t_table_lengths V_t_table_nextInChain V_t_table_chainOf V_t_codes V_t_codes_cells V_t_widths V_t_widths_cells V_t_begins V_t_begins_cells V_a1 V_a1_cells) H locs → fn_X1_pack_j113 V_t_rules V_a1 V_a1_cells V_t V_t_pace V_t_table V_t_table_heads V_t_table_tails V_t_table_lengths V_t_table_nextInChain V_t_table_chainOf V_t_codes V_t_codes_cells V_t_widths V_t_widths_cells V_t_begins V_t_begins_cells = some z → W p l e (gx_rm 5) s m args below meth c H locs 0 0 Q (F0 m 113 ls []) := by
  have hx := C.1.1
  have hb := C.1.2.1
  intro V_t V_t_pace V_t_table V_t_table_heads V_t_table_tails V_t_table_lengths V_t_table_nextInChain V_t_table_chainOf V_t_codes V_t_codes_cells V_t_widths V_t_widths_cells V_t_begins V_t_begins_cells ls H locs hl hw hf
  rw [fn_X1_pack_j113] at hf
  refine lv_aload_n hx hb dX1_pack_113 rfl (lv_at hl 0 rfl) ?_
  refine gx_get C hw 0 rfl (gx_gr rfl) ln_X1_pack_9 dX1_pack_114 ?_
  refine gx_get (v := .int (V_t_rules 4)) C hw 1 rfl (gx_gj rfl rfl) ln_X1_pack_49 dX1_pack_117 ?_
  refine lv_if_eq (tgt := 134) hx hb dX1_pack_120 (by decide) (fun hc => ?_) (fun hc => ?_)
  · replace hf := gx_t hc hf
    obtain rfl := Option.some.inj hf
    exact hQ _ _ _ _ dX1_pack_134 hw
  · replace hf := gx_f hc hf
    refine lv_aload_n hx hb dX1_pack_123 rfl (lv_at hl 0 rfl) ?_
    refine lv_aload_n hx hb dX1_pack_124 rfl (lv_at hl 0 rfl) ?_
    refine gx_get C hw 0 rfl (gx_gr rfl) ln_X1_pack_9 dX1_pack_125 ?_
    refine gx_get (v := .int (V_t_rules 8)) C hw 1 rfl (gx_gj rfl rfl) ln_X1_pack_88 dX1_pack_128 ?_
    obtain ⟨y_131, hy_131, hf⟩ := gx_b hf
    refine gx_callv (As := [.int (V_t_rules 8)]) (ws' := wd_X1_pack cI cZ h_t h_t_rules h_t_pace h_t_table h_t_table_heads h_t_table_tails h_t_table_lengths h_t_table_nextInChain h_t_table_chainOf h_t_codes h_t_codes_cells h_t_widths h_t_widths_cells h_t_begins h_t_begins_cells h_a1 h_a1_cells y_131.1 V_t_rules y_131.2.1 V_t_table V_t_table_heads V_t_table_tails V_t_table_lengths V_t_table_nextInChain V_t_table_chainOf y_131.2.2.1 y_131.2.2.2.1 y_131.2.2.2.2.1 y_131.2.2.2.2.2.1 y_131.2.2.2.2.2.2.1 y_131.2.2.2.2.2.2.2 V_a1 V_a1_cells) (isC := [0, 1, 2, 9, 10, 11, 12, 13, 14]) (isR := [3, 4, 5, 6, 7, 8, 15, 16]) (isP := [8, 9, 10, 0, 1, 2, 3, 4, 5, 11, 12, 13, 14, 15, 16, 6, 7]) C hw (ct_X1_put l D cI cZ h_t h_t_rules h_t_pace h_t_table h_t_codes h_t_codes_cells h_t_widths h_t_widths_cells h_t_begins h_t_begins_cells V_t V_t_rules V_t_pace V_t_codes V_t_codes_cells V_t_widths V_t_widths_cells V_t_begins V_t_begins_cells (V_t_rules 8) hy_131) kl_X1_pack_70 ⟨rfl, rfl⟩ ⟨rfl, rfl, by decide, by decide, by decide, by decide, rfl⟩ 0 rfl rfl rfl rfl hl.1 (Nat.le_of_ble_eq_true rfl) ⟨Nat.le_refl _, Nat.le_refl _⟩ dX1_pack_131 (fun H locs hw => ?_)
    obtain rfl := Option.some.inj hf
    exact hQ _ _ _ _ dX1_pack_134 hw
set_option maxHeartbeats 4000000 in
set_option maxRecDepth 100000 in
theorem tm_X1_pack_22 (C : gx_C cX1_pack 5 wsX1_pack RX1 D cI cZ p s m args c) (h_t h_t_rules h_t_pace h_t_table h_t_table_heads h_t_table_tails h_t_table_lengths h_t_table_nextInChain h_t_table_chainOf h_t_codes h_t_codes_cells h_t_widths h_t_widths_cells h_t_begins h_t_begins_cells h_a1 h_a1_cells : Nat) (V_t_rules V_a1 V_a1_cells : Nat → Int32) {z : (Nat → Int32) × (Nat → Int32) × (Nat → Int32) × (Nat → Int32) × (Nat → Int32) × (Nat → Int32) × (Nat → Int32) × (Nat → Int32) × (Nat → Int32) × (Nat → Int32) × (Nat → Int32) × (Nat → Int32) × (Nat → Int32) × (Nat → Int32)} (hQ : gx_Qv cX1_pack p l e (gx_rm 5) s m args below meth c D A Q (wd_X1_pack cI cZ h_t h_t_rules h_t_pace h_t_table h_t_table_heads h_t_table_tails h_t_table_lengths h_t_table_nextInChain h_t_table_chainOf h_t_codes h_t_codes_cells h_t_widths h_t_widths_cells h_t_begins h_t_begins_cells h_a1 h_a1_cells z.1 V_t_rules z.2.1 z.2.2.1 z.2.2.2.1 z.2.2.2.2.1 z.2.2.2.2.2.1 z.2.2.2.2.2.2.1 z.2.2.2.2.2.2.2.1 z.2.2.2.2.2.2.2.2.1 z.2.2.2.2.2.2.2.2.2.1 z.2.2.2.2.2.2.2.2.2.2.1 z.2.2.2.2.2.2.2.2.2.2.2.1 z.2.2.2.2.2.2.2.2.2.2.2.2.1 z.2.2.2.2.2.2.2.2.2.2.2.2.2 V_a1 V_a1_cells)) : ∀ (n : Nat), (∀ (V_t V_t_pace V_t_table V_t_table_heads V_t_table_tails V_t_table_lengths V_t_table_nextInChain V_t_table_chainOf V_t_codes V_t_codes_cells V_t_widths V_t_widths_cells V_t_begins V_t_begins_cells : Nat → Int32) (x2 x3 : Int32) (ls : Array Slot) (H : Heap) (locs : List Loc), lv_has ls 5 [(0, .ref h_t), (1, .ref h_a1), (2, .int x2), (3, .int x3)] → gx_W D A s (wd_X1_pack cI cZ h_t h_t_rules h_t_pace h_t_table h_t_table_heads h_t_table_tails h_t_table_lengths h_t_table_nextInChain h_t_table_chainOf h_t_codes h_t_codes_cells h_t_widths h_t_widths_cells h_t_begins h_t_begins_cells h_a1 h_a1_cells V_t V_t_rules V_t_pace V_t_table V_t_table_heads V_t_table_tails V_t_table_lengths V_t_table_nextInChain V_t_table_chainOf V_t_codes V_t_codes_cells V_t_widths V_t_widths_cells V_t_begins V_t_begins_cells V_a1 V_a1_cells) H locs → fn_X1_pack_l22 V_t_rules V_a1 V_a1_cells n V_t V_t_pace V_t_table V_t_table_heads V_t_table_tails V_t_table_lengths V_t_table_nextInChain V_t_table_chainOf V_t_codes V_t_codes_cells V_t_widths V_t_widths_cells V_t_begins V_t_begins_cells x2 x3 = some z → W p l e (gx_rm 5) s m args below meth c H locs 0 0 Q (F0 m 22 ls [])) := by
  have hx := C.1.1
  have hb := C.1.2.1
  intro n
  induction n with
  | zero => intro V_t V_t_pace V_t_table V_t_table_heads V_t_table_tails V_t_table_lengths V_t_table_nextInChain V_t_table_chainOf V_t_codes V_t_codes_cells V_t_widths V_t_widths_cells V_t_begins V_t_begins_cells x2 x3 ls H locs hl hw hf; rw [fn_X1_pack_l22] at hf; cases hf
  | succ n ih =>
    intro V_t V_t_pace V_t_table V_t_table_heads V_t_table_tails V_t_table_lengths V_t_table_nextInChain V_t_table_chainOf V_t_codes V_t_codes_cells V_t_widths V_t_widths_cells V_t_begins V_t_begins_cells x2 x3 ls H locs hl hw hf
    rw [fn_X1_pack_l22] at hf
    refine lv_iload_n hx hb dX1_pack_22 rfl (lv_at hl 3 rfl) ?_
    refine lv_aload_n hx hb dX1_pack_23 rfl (lv_at hl 1 rfl) ?_
    obtain ⟨y_24, hy_24, hf⟩ := gx_b hf
    refine gx_calli (As := []) (ws' := wd_X1_pack cI cZ h_t h_t_rules h_t_pace h_t_table h_t_table_heads h_t_table_tails h_t_table_lengths h_t_table_nextInChain h_t_table_chainOf h_t_codes h_t_codes_cells h_t_widths h_t_widths_cells h_t_begins h_t_begins_cells h_a1 h_a1_cells V_t V_t_rules V_t_pace V_t_table V_t_table_heads V_t_table_tails V_t_table_lengths V_t_table_nextInChain V_t_table_chainOf V_t_codes V_t_codes_cells V_t_widths V_t_widths_cells V_t_begins V_t_begins_cells V_a1 V_a1_cells) (isC := [15]) (isR := [0, 1, 2, 3, 4, 5, 6, 7, 8, 9, 10, 11, 12, 13, 14, 16]) (isP := [0, 1, 2, 3, 4, 5, 6, 7, 8, 9, 10, 11, 12, 13, 14, 16, 15]) C hw (ct_X2_size l D cI cZ h_a1 h_a1_cells V_a1 hy_24) kl_X1_pack_58 ⟨rfl, rfl⟩ ⟨rfl, rfl, by decide, by decide, by decide, by decide, rfl⟩ 0 rfl rfl rfl rfl hl.1 (Nat.le_of_ble_eq_true rfl) ⟨Nat.le_refl _, Nat.le_refl _⟩ dX1_pack_24 (fun H locs hw => ?_)
    refine lv_icmp_ge (tgt := 113) hx hb dX1_pack_27 (by decide) (fun hc => ?_) (fun hc => ?_)
    · replace hf := gx_t hc hf
      exact tm_X1_pack_113 C h_t h_t_rules h_t_pace h_t_table h_t_table_heads h_t_table_tails h_t_table_lengths h_t_table_nextInChain h_t_table_chainOf h_t_codes h_t_codes_cells h_t_widths h_t_widths_cells h_t_begins h_t_begins_cells h_a1 h_a1_cells V_t_rules V_a1 V_a1_cells hQ  V_t V_t_pace V_t_table V_t_table_heads V_t_table_tails V_t_table_lengths V_t_table_nextInChain V_t_table_chainOf V_t_codes V_t_codes_cells V_t_widths V_t_widths_cells V_t_begins V_t_begins_cells _ _ _ (lv_sub hl [0] rfl) hw hf
    · replace hf := gx_f hc hf
      refine lv_iload_n hx hb dX1_pack_30 rfl (lv_at hl 2 rfl) ?_
      refine lv_aload_n hx hb dX1_pack_31 rfl (lv_at hl 1 rfl) ?_
      obtain ⟨y_32, hy_32, hf⟩ := gx_b hf
      refine gx_calli (As := []) (ws' := wd_X1_pack cI cZ h_t h_t_rules h_t_pace h_t_table h_t_table_heads h_t_table_tails h_t_table_lengths h_t_table_nextInChain h_t_table_chainOf h_t_codes h_t_codes_cells h_t_widths h_t_widths_cells h_t_begins h_t_begins_cells h_a1 h_a1_cells V_t V_t_rules V_t_pace V_t_table V_t_table_heads V_t_table_tails V_t_table_lengths V_t_table_nextInChain V_t_table_chainOf V_t_codes V_t_codes_cells V_t_widths V_t_widths_cells V_t_begins V_t_begins_cells V_a1 V_a1_cells) (isC := [15]) (isR := [0, 1, 2, 3, 4, 5, 6, 7, 8, 9, 10, 11, 12, 13, 14, 16]) (isP := [0, 1, 2, 3, 4, 5, 6, 7, 8, 9, 10, 11, 12, 13, 14, 16, 15]) C hw (ct_X2_size l D cI cZ h_a1 h_a1_cells V_a1 hy_32) kl_X1_pack_58 ⟨rfl, rfl⟩ ⟨rfl, rfl, by decide, by decide, by decide, by decide, rfl⟩ 0 rfl rfl rfl rfl hl.1 (Nat.le_of_ble_eq_true rfl) ⟨Nat.le_refl _, Nat.le_refl _⟩ dX1_pack_32 (fun H locs hw => ?_)
      refine lv_icmp_ge (tgt := 113) hx hb dX1_pack_35 (by decide) (fun hc => ?_) (fun hc => ?_)
      · replace hf := gx_t hc hf
        exact tm_X1_pack_113 C h_t h_t_rules h_t_pace h_t_table h_t_table_heads h_t_table_tails h_t_table_lengths h_t_table_nextInChain h_t_table_chainOf h_t_codes h_t_codes_cells h_t_widths h_t_widths_cells h_t_begins h_t_begins_cells h_a1 h_a1_cells V_t_rules V_a1 V_a1_cells hQ  V_t V_t_pace V_t_table V_t_table_heads V_t_table_tails V_t_table_lengths V_t_table_nextInChain V_t_table_chainOf V_t_codes V_t_codes_cells V_t_widths V_t_widths_cells V_t_begins V_t_begins_cells _ _ _ (lv_sub hl [0] rfl) hw hf
      · replace hf := gx_f hc hf
        refine lv_aload_n hx hb dX1_pack_38 rfl (lv_at hl 0 rfl) ?_
        refine lv_aload_n hx hb dX1_pack_39 rfl (lv_at hl 1 rfl) ?_
        refine lv_iload_n hx hb dX1_pack_40 rfl (lv_at hl 2 rfl) ?_
        obtain ⟨y_41, hy_41, hf⟩ := gx_b hf
        refine gx_calli (As := [.ref h_a1, .int x2]) (ws' := wd_X1_pack cI cZ h_t h_t_rules h_t_pace h_t_table h_t_table_heads h_t_table_tails h_t_table_lengths h_t_table_nextInChain h_t_table_chainOf h_t_codes h_t_codes_cells h_t_widths h_t_widths_cells h_t_begins h_t_begins_cells h_a1 h_a1_cells V_t V_t_rules V_t_pace V_t_table V_t_table_heads V_t_table_tails V_t_table_lengths V_t_table_nextInChain V_t_table_chainOf V_t_codes V_t_codes_cells V_t_widths V_t_widths_cells V_t_begins V_t_begins_cells V_a1 V_a1_cells) (isC := [0, 1, 3, 5, 7, 8, 15, 16]) (isR := [2, 4, 6, 9, 10, 11, 12, 13, 14]) (isP := [9, 10, 0, 11, 1, 12, 2, 13, 14, 3, 4, 5, 6, 7, 8, 15, 16]) C hw (ct_X1_longestFrom l D cI cZ h_t h_t_rules h_t_pace h_t_table h_t_table_heads h_t_table_tails h_t_table_lengths h_t_table_nextInChain h_t_table_chainOf h_t_codes h_t_widths h_t_begins h_a1 h_a1_cells V_t V_t_rules V_t_table V_t_table_tails V_t_table_nextInChain V_t_table_chainOf V_a1 V_a1_cells x2 hy_41) kl_X1_pack_62 ⟨rfl, rfl⟩ ⟨rfl, rfl, by decide, by decide, by decide, by decide, rfl⟩ 0 rfl rfl rfl rfl hl.1 (Nat.le_of_ble_eq_true rfl) ⟨Nat.le_refl _, Nat.le_refl _⟩ dX1_pack_41 (fun H locs hw => ?_)
        refine lv_istore (lv' := [(4, .int y_41), (0, .ref h_t), (1, .ref h_a1), (2, .int x2), (3, .int x3)]) hx hb dX1_pack_44 hl (by decide) rfl (fun ls hl => ?_)
        refine lv_iload_n hx hb dX1_pack_46 rfl (lv_at hl 3 rfl) ?_
        refine lv_aload_n hx hb dX1_pack_47 rfl (lv_at hl 1 rfl) ?_
        refine gx_get C hw 0 rfl (gx_gr rfl) ln_X1_pack_27 dX1_pack_48 ?_
        refine lv_iload hx hb dX1_pack_51 (lv_at hl 0 rfl) ?_
        obtain ⟨y_53, hy_53, hf⟩ := gx_b hf
        refine gx_calli (As := [.int y_41]) (ws' := wd_X1_pack cI cZ h_t h_t_rules h_t_pace h_t_table h_t_table_heads h_t_table_tails h_t_table_lengths h_t_table_nextInChain h_t_table_chainOf h_t_codes h_t_codes_cells h_t_widths h_t_widths_cells h_t_begins h_t_begins_cells h_a1 h_a1_cells V_t V_t_rules V_t_pace V_t_table V_t_table_heads V_t_table_tails V_t_table_lengths V_t_table_nextInChain V_t_table_chainOf V_t_codes V_t_codes_cells V_t_widths V_t_widths_cells V_t_begins V_t_begins_cells V_a1 V_a1_cells) (isC := [3, 1, 6]) (isR := [0, 2, 4, 5, 7, 8, 9, 10, 11, 12, 13, 14, 15, 16]) (isP := [0, 15, 1, 14, 2, 3, 16, 4, 5, 6, 7, 8, 9, 10, 11, 12, 13]) C hw (ct_X4_lengthOf l D cI cZ h_t_table h_t_rules h_t_table_heads h_t_table_tails h_t_table_lengths h_t_table_nextInChain h_t_table_chainOf V_t_table V_t_rules V_t_table_lengths y_41 hy_53) kl_X1_pack_66 ⟨rfl, rfl⟩ ⟨rfl, rfl, by decide, by decide, by decide, by decide, rfl⟩ 0 rfl rfl rfl rfl hl.1 (Nat.le_of_ble_eq_true rfl) ⟨Nat.le_refl _, Nat.le_refl _⟩ dX1_pack_53 (fun H locs hw => ?_)
        refine lv_iadd hx hb dX1_pack_56 ?_
        refine lv_istore_n (lv' := [(2, .int (x2 + y_53)), (4, .int y_41), (0, .ref h_t), (1, .ref h_a1), (3, .int x3)]) hx hb dX1_pack_57 rfl hl (by decide) rfl (fun ls hl => ?_)
        refine lv_aload_n hx hb dX1_pack_58 rfl (lv_at hl 2 rfl) ?_
        refine lv_iload hx hb dX1_pack_59 (lv_at hl 1 rfl) ?_
        obtain ⟨y_61, hy_61, hf⟩ := gx_b hf
        refine gx_callv (As := [.int y_41]) (ws' := wd_X1_pack cI cZ h_t h_t_rules h_t_pace h_t_table h_t_table_heads h_t_table_tails h_t_table_lengths h_t_table_nextInChain h_t_table_chainOf h_t_codes h_t_codes_cells h_t_widths h_t_widths_cells h_t_begins h_t_begins_cells h_a1 h_a1_cells y_61.1 V_t_rules y_61.2.1 V_t_table V_t_table_heads V_t_table_tails V_t_table_lengths V_t_table_nextInChain V_t_table_chainOf y_61.2.2.1 y_61.2.2.2.1 y_61.2.2.2.2.1 y_61.2.2.2.2.2.1 y_61.2.2.2.2.2.2.1 y_61.2.2.2.2.2.2.2 V_a1 V_a1_cells) (isC := [0, 1, 2, 9, 10, 11, 12, 13, 14]) (isR := [3, 4, 5, 6, 7, 8, 15, 16]) (isP := [8, 9, 10, 0, 1, 2, 3, 4, 5, 11, 12, 13, 14, 15, 16, 6, 7]) C hw (ct_X1_put l D cI cZ h_t h_t_rules h_t_pace h_t_table h_t_codes h_t_codes_cells h_t_widths h_t_widths_cells h_t_begins h_t_begins_cells V_t V_t_rules V_t_pace V_t_codes V_t_codes_cells V_t_widths V_t_widths_cells V_t_begins V_t_begins_cells y_41 hy_61) kl_X1_pack_70 ⟨rfl, rfl⟩ ⟨rfl, rfl, by decide, by decide, by decide, by decide, rfl⟩ 0 rfl rfl rfl rfl hl.1 (Nat.le_of_ble_eq_true rfl) ⟨Nat.le_refl _, Nat.le_refl _⟩ dX1_pack_61 (fun H locs hw => ?_)
        refine lv_aload_n hx hb dX1_pack_64 rfl (lv_at hl 2 rfl) ?_
        refine lv_dup hx hb dX1_pack_65 rfl ?_
        refine gx_get (v := .int (y_61.1 8)) C hw 0 rfl (gx_gj rfl rfl) ln_X1_pack_73 dX1_pack_66 ?_
        refine lv_iconst (v := 1) hx hb dX1_pack_69 (by decide) ?_
        refine lv_iadd hx hb dX1_pack_70 ?_
        refine gx_put (ws' := wd_X1_pack cI cZ h_t h_t_rules h_t_pace h_t_table h_t_table_heads h_t_table_tails h_t_table_lengths h_t_table_nextInChain h_t_table_chainOf h_t_codes h_t_codes_cells h_t_widths h_t_widths_cells h_t_begins h_t_begins_cells h_a1 h_a1_cells (upd y_61.1 8 ((y_61.1 8) + 1)) V_t_rules y_61.2.1 V_t_table V_t_table_heads V_t_table_tails V_t_table_lengths V_t_table_nextInChain V_t_table_chainOf y_61.2.2.1 y_61.2.2.2.1 y_61.2.2.2.2.1 y_61.2.2.2.2.2.1 y_61.2.2.2.2.2.2.1 y_61.2.2.2.2.2.2.2 V_a1 V_a1_cells) C hw 0 rfl rfl lp_X1_pack_73 rfl rfl rfl dX1_pack_71 (fun H locs hw => ?_)
        refine lv_iload_n hx hb dX1_pack_74 rfl (lv_at hl 0 rfl) ?_
        refine lv_aload_n hx hb dX1_pack_75 rfl (lv_at hl 3 rfl) ?_
        obtain ⟨y_76, hy_76, hf⟩ := gx_b hf
        refine gx_calli (As := []) (ws' := wd_X1_pack cI cZ h_t h_t_rules h_t_pace h_t_table h_t_table_heads h_t_table_tails h_t_table_lengths h_t_table_nextInChain h_t_table_chainOf h_t_codes h_t_codes_cells h_t_widths h_t_widths_cells h_t_begins h_t_begins_cells h_a1 h_a1_cells (upd y_61.1 8 ((y_61.1 8) + 1)) V_t_rules y_61.2.1 V_t_table V_t_table_heads V_t_table_tails V_t_table_lengths V_t_table_nextInChain V_t_table_chainOf y_61.2.2.1 y_61.2.2.2.1 y_61.2.2.2.2.1 y_61.2.2.2.2.2.1 y_61.2.2.2.2.2.2.1 y_61.2.2.2.2.2.2.2 V_a1 V_a1_cells) (isC := [15]) (isR := [0, 1, 2, 3, 4, 5, 6, 7, 8, 9, 10, 11, 12, 13, 14, 16]) (isP := [0, 1, 2, 3, 4, 5, 6, 7, 8, 9, 10, 11, 12, 13, 14, 16, 15]) C hw (ct_X2_size l D cI cZ h_a1 h_a1_cells V_a1 hy_76) kl_X1_pack_58 ⟨rfl, rfl⟩ ⟨rfl, rfl, by decide, by decide, by decide, by decide, rfl⟩ 0 rfl rfl rfl rfl hl.1 (Nat.le_of_ble_eq_true rfl) ⟨Nat.le_refl _, Nat.le_refl _⟩ dX1_pack_76 (fun H locs hw => ?_)
        refine lv_icmp_ge (tgt := 107) hx hb dX1_pack_79 (by decide) (fun hc => ?_) (fun hc => ?_)
        · replace hf := gx_t hc hf
          refine lv_iinc (v := (x3 + 1)) (lv' := [(3, .int (x3 + 1)), (2, .int (x2 + y_53)), (4, .int y_41), (0, .ref h_t), (1, .ref h_a1)]) hx hb dX1_pack_107 hl (k := 4) rfl rfl (by decide) rfl (fun ls hl => ?_)
          refine lv_goto (tgt := 22) hx hb dX1_pack_110 (by decide) ?_
          exact ih (upd y_61.1 8 ((y_61.1 8) + 1)) y_61.2.1 V_t_table V_t_table_heads V_t_table_tails V_t_table_lengths V_t_table_nextInChain V_t_table_chainOf y_61.2.2.1 y_61.2.2.2.1 y_61.2.2.2.2.1 y_61.2.2.2.2.2.1 y_61.2.2.2.2.2.2.1 y_61.2.2.2.2.2.2.2 (x2 + y_53) (x3 + 1) _ _ _ (lv_sub hl [3, 4, 1, 0] rfl) hw hf
        · replace hf := gx_f hc hf
          refine lv_aload_n hx hb dX1_pack_82 rfl (lv_at hl 2 rfl) ?_
          refine gx_get C hw 0 rfl (gx_gr rfl) ln_X1_pack_27 dX1_pack_83 ?_
          refine lv_iload hx hb dX1_pack_86 (lv_at hl 1 rfl) ?_
          refine lv_aload_n hx hb dX1_pack_88 rfl (lv_at hl 3 rfl) ?_
          refine lv_iload_n hx hb dX1_pack_89 rfl (lv_at hl 0 rfl) ?_
          obtain ⟨y_90, hy_90, hf⟩ := gx_b hf
          refine gx_calli (As := [.int (x2 + y_53)]) (ws' := wd_X1_pack cI cZ h_t h_t_rules h_t_pace h_t_table h_t_table_heads h_t_table_tails h_t_table_lengths h_t_table_nextInChain h_t_table_chainOf h_t_codes h_t_codes_cells h_t_widths h_t_widths_cells h_t_begins h_t_begins_cells h_a1 h_a1_cells (upd y_61.1 8 ((y_61.1 8) + 1)) V_t_rules y_61.2.1 V_t_table V_t_table_heads V_t_table_tails V_t_table_lengths V_t_table_nextInChain V_t_table_chainOf y_61.2.2.1 y_61.2.2.2.1 y_61.2.2.2.2.1 y_61.2.2.2.2.2.1 y_61.2.2.2.2.2.2.1 y_61.2.2.2.2.2.2.2 V_a1 V_a1_cells) (isC := [15, 16]) (isR := [0, 1, 2, 3, 4, 5, 6, 7, 8, 9, 10, 11, 12, 13, 14]) (isP := [0, 1, 2, 3, 4, 5, 6, 7, 8, 9, 10, 11, 12, 13, 14, 15, 16]) C hw (ct_X2_get l D cI cZ h_a1 h_a1_cells 300 V_a1 V_a1_cells (x2 + y_53) hy_90) kl_X1_pack_77 ⟨rfl, rfl⟩ ⟨rfl, rfl, by decide, by decide, by decide, by decide, rfl⟩ 0 rfl rfl rfl rfl hl.1 (Nat.le_of_ble_eq_true rfl) ⟨Nat.le_refl _, Nat.le_refl _⟩ dX1_pack_90 (fun H locs hw => ?_)
          obtain ⟨y_93, hy_93, hf⟩ := gx_b hf
          refine gx_callv (As := [.int y_41, .int y_90]) (ws' := wd_X1_pack cI cZ h_t h_t_rules h_t_pace h_t_table h_t_table_heads h_t_table_tails h_t_table_lengths h_t_table_nextInChain h_t_table_chainOf h_t_codes h_t_codes_cells h_t_widths h_t_widths_cells h_t_begins h_t_begins_cells h_a1 h_a1_cells (upd y_61.1 8 ((y_61.1 8) + 1)) V_t_rules y_61.2.1 y_93.1 y_93.2.1 y_93.2.2.1 y_93.2.2.2.1 y_93.2.2.2.2.1 y_93.2.2.2.2.2 y_61.2.2.1 y_61.2.2.2.1 y_61.2.2.2.2.1 y_61.2.2.2.2.2.1 y_61.2.2.2.2.2.2.1 y_61.2.2.2.2.2.2.2 V_a1 V_a1_cells) (isC := [3, 1, 4, 5, 6, 7, 8]) (isR := [0, 2, 9, 10, 11, 12, 13, 14, 15, 16]) (isP := [0, 11, 1, 10, 12, 13, 14, 15, 16, 2, 3, 4, 5, 6, 7, 8, 9]) C hw (ct_X4_addLonger l D cI cZ h_t_table h_t_rules h_t_table_heads h_t_table_tails h_t_table_lengths h_t_table_nextInChain h_t_table_chainOf V_t_table V_t_rules V_t_table_heads V_t_table_tails V_t_table_lengths V_t_table_nextInChain V_t_table_chainOf y_41 y_90 hy_93) kl_X1_pack_80 ⟨rfl, rfl⟩ ⟨rfl, rfl, by decide, by decide, by decide, by decide, rfl⟩ 0 rfl rfl rfl rfl hl.1 (Nat.le_of_ble_eq_true rfl) ⟨Nat.le_refl _, Nat.le_refl _⟩ dX1_pack_93 (fun H locs hw => ?_)
          refine lv_aload_n hx hb dX1_pack_96 rfl (lv_at hl 2 rfl) ?_
          obtain ⟨y_97, hy_97, hf⟩ := gx_b hf
          refine gx_calli (As := []) (ws' := wd_X1_pack cI cZ h_t h_t_rules h_t_pace h_t_table h_t_table_heads h_t_table_tails h_t_table_lengths h_t_table_nextInChain h_t_table_chainOf h_t_codes h_t_codes_cells h_t_widths h_t_widths_cells h_t_begins h_t_begins_cells h_a1 h_a1_cells (upd y_61.1 8 ((y_61.1 8) + 1)) V_t_rules y_61.2.1 y_93.1 y_93.2.1 y_93.2.2.1 y_93.2.2.2.1 y_93.2.2.2.2.1 y_93.2.2.2.2.2 y_61.2.2.1 y_61.2.2.2.1 y_61.2.2.2.2.1 y_61.2.2.2.2.2.1 y_61.2.2.2.2.2.2.1 y_61.2.2.2.2.2.2.2 V_a1 V_a1_cells) (isC := [0, 1, 3]) (isR := [2, 4, 5, 6, 7, 8, 9, 10, 11, 12, 13, 14, 15, 16]) (isP := [14, 15, 0, 16, 1, 2, 3, 4, 5, 6, 7, 8, 9, 10, 11, 12, 13]) C hw (ct_X1_clearIsDue l D cI cZ h_t h_t_rules h_t_pace h_t_table h_t_table_heads h_t_table_tails h_t_table_lengths h_t_table_nextInChain h_t_table_chainOf h_t_codes h_t_widths h_t_begins (upd y_61.1 8 ((y_61.1 8) + 1)) V_t_rules y_93.1 hy_97) kl_X1_pack_84 ⟨rfl, rfl⟩ ⟨rfl, rfl, by decide, by decide, by decide, by decide, rfl⟩ 0 rfl rfl rfl rfl hl.1 (Nat.le_of_ble_eq_true rfl) ⟨Nat.le_refl _, Nat.le_refl _⟩ dX1_pack_97 (fun H locs hw => ?_)
          refine lv_if_eq (tgt := 107) hx hb dX1_pack_100 (by decide) (fun hc => ?_) (fun hc => ?_)
          · replace hf := gx_t hc hf
            refine lv_iinc (v := (x3 + 1)) (lv' := [(3, .int (x3 + 1)), (2, .int (x2 + y_53)), (4, .int y_41), (0, .ref h_t), (1, .ref h_a1)]) hx hb dX1_pack_107 hl (k := 4) rfl rfl (by decide) rfl (fun ls hl => ?_)
            refine lv_goto (tgt := 22) hx hb dX1_pack_110 (by decide) ?_
            exact ih (upd y_61.1 8 ((y_61.1 8) + 1)) y_61.2.1 y_93.1 y_93.2.1 y_93.2.2.1 y_93.2.2.2.1 y_93.2.2.2.2.1 y_93.2.2.2.2.2 y_61.2.2.1 y_61.2.2.2.1 y_61.2.2.2.2.1 y_61.2.2.2.2.2.1 y_61.2.2.2.2.2.2.1 y_61.2.2.2.2.2.2.2 (x2 + y_53) (x3 + 1) _ _ _ (lv_sub hl [3, 4, 1, 0] rfl) hw hf
          · replace hf := gx_f hc hf
            refine lv_aload_n hx hb dX1_pack_103 rfl (lv_at hl 2 rfl) ?_
            obtain ⟨y_104, hy_104, hf⟩ := gx_b hf
            refine gx_callv (As := []) (ws' := wd_X1_pack cI cZ h_t h_t_rules h_t_pace h_t_table h_t_table_heads h_t_table_tails h_t_table_lengths h_t_table_nextInChain h_t_table_chainOf h_t_codes h_t_codes_cells h_t_widths h_t_widths_cells h_t_begins h_t_begins_cells h_a1 h_a1_cells y_104.1 V_t_rules y_104.2.1 y_104.2.2.1 y_93.2.1 y_93.2.2.1 y_93.2.2.2.1 y_93.2.2.2.2.1 y_104.2.2.2.1 y_104.2.2.2.2.1 y_104.2.2.2.2.2.1 y_104.2.2.2.2.2.2.1 y_104.2.2.2.2.2.2.2.1 y_104.2.2.2.2.2.2.2.2.1 y_104.2.2.2.2.2.2.2.2.2 V_a1 V_a1_cells) (isC := [0, 1, 2, 3, 4, 8, 9, 10, 11, 12, 13, 14]) (isR := [5, 6, 7, 15, 16]) (isP := [5, 6, 7, 8, 9, 0, 1, 2, 10, 11, 12, 13, 14, 15, 16, 3, 4]) C hw (ct_X1_putClear l D cI cZ h_t h_t_rules h_t_pace h_t_table h_t_table_heads h_t_table_tails h_t_table_lengths h_t_table_nextInChain h_t_table_chainOf h_t_codes h_t_codes_cells h_t_widths h_t_widths_cells h_t_begins h_t_begins_cells (upd y_61.1 8 ((y_61.1 8) + 1)) V_t_rules y_61.2.1 y_93.1 y_93.2.1 y_93.2.2.2.2.2 y_61.2.2.1 y_61.2.2.2.1 y_61.2.2.2.2.1 y_61.2.2.2.2.2.1 y_61.2.2.2.2.2.2.1 y_61.2.2.2.2.2.2.2 hy_104) kl_X1_pack_55 ⟨rfl, rfl⟩ ⟨rfl, rfl, by decide, by decide, by decide, by decide, rfl⟩ 0 rfl rfl rfl rfl hl.1 (Nat.le_of_ble_eq_true rfl) ⟨Nat.le_refl _, Nat.le_refl _⟩ dX1_pack_104 (fun H locs hw => ?_)
            refine lv_iinc (v := (x3 + 1)) (lv' := [(3, .int (x3 + 1)), (2, .int (x2 + y_53)), (4, .int y_41), (0, .ref h_t), (1, .ref h_a1)]) hx hb dX1_pack_107 hl (k := 4) rfl rfl (by decide) rfl (fun ls hl => ?_)
            refine lv_goto (tgt := 22) hx hb dX1_pack_110 (by decide) ?_
            exact ih y_104.1 y_104.2.1 y_104.2.2.1 y_93.2.1 y_93.2.2.1 y_93.2.2.2.1 y_93.2.2.2.2.1 y_104.2.2.2.1 y_104.2.2.2.2.1 y_104.2.2.2.2.2.1 y_104.2.2.2.2.2.2.1 y_104.2.2.2.2.2.2.2.1 y_104.2.2.2.2.2.2.2.2.1 y_104.2.2.2.2.2.2.2.2.2 (x2 + y_53) (x3 + 1) _ _ _ (lv_sub hl [3, 4, 1, 0] rfl) hw hf
set_option maxHeartbeats 4000000 in
set_option maxRecDepth 100000 in
theorem ct_X1_pack (l : Launch) (D : va_G) (cI cZ : ClassId) (h_t h_t_rules h_t_pace h_t_table h_t_table_heads h_t_table_tails h_t_table_lengths h_t_table_nextInChain h_t_table_chainOf h_t_codes h_t_codes_cells h_t_widths h_t_widths_cells h_t_begins h_t_begins_cells h_a1 h_a1_cells : Nat) (V_t V_t_rules V_t_pace V_t_table V_t_table_heads V_t_table_tails V_t_table_lengths V_t_table_nextInChain V_t_table_chainOf V_t_codes V_t_codes_cells V_t_widths V_t_widths_cells V_t_begins V_t_begins_cells V_a1 V_a1_cells : Nat → Int32) {z : (Nat → Int32) × (Nat → Int32) × (Nat → Int32) × (Nat → Int32) × (Nat → Int32) × (Nat → Int32) × (Nat → Int32) × (Nat → Int32) × (Nat → Int32) × (Nat → Int32) × (Nat → Int32) × (Nat → Int32) × (Nat → Int32) × (Nat → Int32)} (hf : fn_X1_pack V_t V_t_rules V_t_pace V_t_table V_t_table_heads V_t_table_tails V_t_table_lengths V_t_table_nextInChain V_t_table_chainOf V_t_codes V_t_codes_cells V_t_widths V_t_widths_cells V_t_begins V_t_begins_cells V_a1 V_a1_cells = some z) : gx_Mv l yX1_pack wsX1_pack (gx_rm 5) D cI cZ [.ref h_t, .ref h_a1] (wd_X1_pack cI cZ h_t h_t_rules h_t_pace h_t_table h_t_table_heads h_t_table_tails h_t_table_lengths h_t_table_nextInChain h_t_table_chainOf h_t_codes h_t_codes_cells h_t_widths h_t_widths_cells h_t_begins h_t_begins_cells h_a1 h_a1_cells V_t V_t_rules V_t_pace V_t_table V_t_table_heads V_t_table_tails V_t_table_lengths V_t_table_nextInChain V_t_table_chainOf V_t_codes V_t_codes_cells V_t_widths V_t_widths_cells V_t_begins V_t_begins_cells V_a1 V_a1_cells) (wd_X1_pack cI cZ h_t h_t_rules h_t_pace h_t_table h_t_table_heads h_t_table_tails h_t_table_lengths h_t_table_nextInChain h_t_table_chainOf h_t_codes h_t_codes_cells h_t_widths h_t_widths_cells h_t_begins h_t_begins_cells h_a1 h_a1_cells z.1 V_t_rules z.2.1 z.2.2.1 z.2.2.2.1 z.2.2.2.2.1 z.2.2.2.2.2.1 z.2.2.2.2.2.2.1 z.2.2.2.2.2.2.2.1 z.2.2.2.2.2.2.2.2.1 z.2.2.2.2.2.2.2.2.2.1 z.2.2.2.2.2.2.2.2.2.2.1 z.2.2.2.2.2.2.2.2.2.2.2.1 z.2.2.2.2.2.2.2.2.2.2.2.2.1 z.2.2.2.2.2.2.2.2.2.2.2.2.2 V_a1 V_a1_cells) := by
  refine gx_ofv (cc := cX1_pack) (own := RX1) (by decide) rfl rfl (Nat.le_of_ble_eq_true rfl) [(0, .ref h_t), (1, .ref h_a1)] rfl ?_
  intro p e s m args below meth c A Q ls C hQ hl hw
  have hx := C.1.1
  have hb := C.1.2.1
  rw [fn_X1_pack] at hf
  refine lv_aload_n hx hb dX1_pack_0 rfl (lv_at hl 0 rfl) ?_
  obtain ⟨y_1, hy_1, hf⟩ := gx_b hf
  refine gx_callv (As := []) (ws' := wd_X1_pack cI cZ h_t h_t_rules h_t_pace h_t_table h_t_table_heads h_t_table_tails h_t_table_lengths h_t_table_nextInChain h_t_table_chainOf h_t_codes h_t_codes_cells h_t_widths h_t_widths_cells h_t_begins h_t_begins_cells h_a1 h_a1_cells y_1.1 V_t_rules y_1.2.1 y_1.2.2.1 V_t_table_heads V_t_table_tails V_t_table_lengths V_t_table_nextInChain y_1.2.2.2.1 y_1.2.2.2.2.1 V_t_codes_cells y_1.2.2.2.2.2.1 V_t_widths_cells y_1.2.2.2.2.2.2 V_t_begins_cells V_a1 V_a1_cells) (isC := [0, 1, 2, 3, 4, 8, 9, 11, 13]) (isR := [5, 6, 7, 10, 12, 14, 15, 16]) (isP := [8, 9, 10, 11, 12, 0, 1, 2, 13, 14, 3, 15, 4, 16, 5, 6, 7]) C hw (ct_X1_begin l D cI cZ h_t h_t_rules h_t_pace h_t_table h_t_table_heads h_t_table_tails h_t_table_lengths h_t_table_nextInChain h_t_table_chainOf h_t_codes h_t_codes_cells h_t_widths h_t_widths_cells h_t_begins h_t_begins_cells V_t V_t_rules V_t_pace V_t_table V_t_table_heads V_t_table_chainOf V_t_codes V_t_widths V_t_begins hy_1) kl_X1_pack_46 ⟨rfl, rfl⟩ ⟨rfl, rfl, by decide, by decide, by decide, by decide, rfl⟩ 0 rfl rfl rfl rfl hl.1 (Nat.le_of_ble_eq_true rfl) ⟨Nat.le_refl _, Nat.le_refl _⟩ dX1_pack_1 (fun H locs hw => ?_)
  refine lv_aload_n hx hb dX1_pack_4 rfl (lv_at hl 0 rfl) ?_
  refine gx_get C hw 0 rfl (gx_gr rfl) ln_X1_pack_9 dX1_pack_5 ?_
  refine gx_get (v := .int (V_t_rules 4)) C hw 1 rfl (gx_gj rfl rfl) ln_X1_pack_49 dX1_pack_8 ?_
  refine lv_if_eq (tgt := 18) hx hb dX1_pack_11 (by decide) (fun hc => ?_) (fun hc => ?_)
  · replace hf := gx_t hc hf
    refine lv_iconst (v := 0) hx hb dX1_pack_18 (by decide) ?_
    refine lv_istore_n (lv' := [(2, .int 0), (0, .ref h_t), (1, .ref h_a1)]) hx hb dX1_pack_19 rfl hl (by decide) rfl (fun ls hl => ?_)
    refine lv_iconst (v := 0) hx hb dX1_pack_20 (by decide) ?_
    refine lv_istore_n (lv' := [(3, .int 0), (2, .int 0), (0, .ref h_t), (1, .ref h_a1)]) hx hb dX1_pack_21 rfl hl (by decide) rfl (fun ls hl => ?_)
    exact tm_X1_pack_22 C h_t h_t_rules h_t_pace h_t_table h_t_table_heads h_t_table_tails h_t_table_lengths h_t_table_nextInChain h_t_table_chainOf h_t_codes h_t_codes_cells h_t_widths h_t_widths_cells h_t_begins h_t_begins_cells h_a1 h_a1_cells V_t_rules V_a1 V_a1_cells hQ  gx_fuel y_1.1 y_1.2.1 y_1.2.2.1 V_t_table_heads V_t_table_tails V_t_table_lengths V_t_table_nextInChain y_1.2.2.2.1 y_1.2.2.2.2.1 V_t_codes_cells y_1.2.2.2.2.2.1 V_t_widths_cells y_1.2.2.2.2.2.2 V_t_begins_cells 0 0 _ _ _ (lv_sub hl [2, 3, 1, 0] rfl) hw hf
  · replace hf := gx_f hc hf
    refine lv_aload_n hx hb dX1_pack_14 rfl (lv_at hl 0 rfl) ?_
    obtain ⟨y_15, hy_15, hf⟩ := gx_b hf
    refine gx_callv (As := []) (ws' := wd_X1_pack cI cZ h_t h_t_rules h_t_pace h_t_table h_t_table_heads h_t_table_tails h_t_table_lengths h_t_table_nextInChain h_t_table_chainOf h_t_codes h_t_codes_cells h_t_widths h_t_widths_cells h_t_begins h_t_begins_cells h_a1 h_a1_cells y_15.1 V_t_rules y_15.2.1 y_15.2.2.1 V_t_table_heads V_t_table_tails V_t_table_lengths V_t_table_nextInChain y_15.2.2.2.1 y_15.2.2.2.2.1 y_15.2.2.2.2.2.1 y_15.2.2.2.2.2.2.1 y_15.2.2.2.2.2.2.2.1 y_15.2.2.2.2.2.2.2.2.1 y_15.2.2.2.2.2.2.2.2.2 V_a1 V_a1_cells) (isC := [0, 1, 2, 3, 4, 8, 9, 10, 11, 12, 13, 14]) (isR := [5, 6, 7, 15, 16]) (isP := [5, 6, 7, 8, 9, 0, 1, 2, 10, 11, 12, 13, 14, 15, 16, 3, 4]) C hw (ct_X1_putClear l D cI cZ h_t h_t_rules h_t_pace h_t_table h_t_table_heads h_t_table_tails h_t_table_lengths h_t_table_nextInChain h_t_table_chainOf h_t_codes h_t_codes_cells h_t_widths h_t_widths_cells h_t_begins h_t_begins_cells y_1.1 V_t_rules y_1.2.1 y_1.2.2.1 V_t_table_heads y_1.2.2.2.1 y_1.2.2.2.2.1 V_t_codes_cells y_1.2.2.2.2.2.1 V_t_widths_cells y_1.2.2.2.2.2.2 V_t_begins_cells hy_15) kl_X1_pack_55 ⟨rfl, rfl⟩ ⟨rfl, rfl, by decide, by decide, by decide, by decide, rfl⟩ 0 rfl rfl rfl rfl hl.1 (Nat.le_of_ble_eq_true rfl) ⟨Nat.le_refl _, Nat.le_refl _⟩ dX1_pack_15 (fun H locs hw => ?_)
    refine lv_iconst (v := 0) hx hb dX1_pack_18 (by decide) ?_
    refine lv_istore_n (lv' := [(2, .int 0), (0, .ref h_t), (1, .ref h_a1)]) hx hb dX1_pack_19 rfl hl (by decide) rfl (fun ls hl => ?_)
    refine lv_iconst (v := 0) hx hb dX1_pack_20 (by decide) ?_
    refine lv_istore_n (lv' := [(3, .int 0), (2, .int 0), (0, .ref h_t), (1, .ref h_a1)]) hx hb dX1_pack_21 rfl hl (by decide) rfl (fun ls hl => ?_)
    exact tm_X1_pack_22 C h_t h_t_rules h_t_pace h_t_table h_t_table_heads h_t_table_tails h_t_table_lengths h_t_table_nextInChain h_t_table_chainOf h_t_codes h_t_codes_cells h_t_widths h_t_widths_cells h_t_begins h_t_begins_cells h_a1 h_a1_cells V_t_rules V_a1 V_a1_cells hQ  gx_fuel y_15.1 y_15.2.1 y_15.2.2.1 V_t_table_heads V_t_table_tails V_t_table_lengths V_t_table_nextInChain y_15.2.2.2.1 y_15.2.2.2.2.1 y_15.2.2.2.2.2.1 y_15.2.2.2.2.2.2.1 y_15.2.2.2.2.2.2.2.1 y_15.2.2.2.2.2.2.2.2.1 y_15.2.2.2.2.2.2.2.2.2 0 0 _ _ _ (lv_sub hl [2, 3, 1, 0] rfl) hw hf
end
