theorem lf_X2_init_9 : gx_LP wsX2_init RX2 9 2 0 true (.array .int) := ⟨_, _, _, tyX2, rfl, by decide +kernel, by decide, by decide +kernel, tyX2_ok, nmX2, by decide +kernel, by decide +kernel, by decide +kernel⟩
theorem lp_X2_init_15 : gx_LP wsX2_init RX2 15 2 1 false .int := ⟨_, _, _, tyX2, rfl, by decide +kernel, by decide, by decide +kernel, tyX2_ok, nmX2, by decide +kernel, by decide +kernel, by decide +kernel⟩
set_option maxHeartbeats 4000000 in
set_option maxRecDepth 100000 in
theorem ct_X2_init (l : Launch) (D : va_G) (cI cZ : ClassId) (h_t n : Nat) (hn : n ≤ 100000 := by decide) : gx_Mc l yX2_init wsX2_init (gx_rmc 1 1 n) D cI cZ [.ref h_t, .int (nI n)] [gx_o h_t 2 [some none, none] (fun _ => 0)] (fun w' => ∃ q1 : Nat, w' = [gx_o h_t 2 [some (some q1), none] (upd (fun _ => 0) 1 0), gx_a q1 cI n (fun _ => 0)]) 1 n := by
  refine gx_ofc (cc := cX2_init) (own := RX2) (by decide) rfl rfl (Nat.le_of_ble_eq_true rfl) [(0, .ref h_t), (1, .int (nI n))] rfl ?_
  intro p e s m args below meth c A Q ls hin C hQ hl hw
  have hx := C.1.1
  have hb := C.1.2.1
  have hn1 : n < 2 ^ 31 := by omega
  refine lv_aload_n hx hb dX2_init_0 rfl (lv_at hl 0 rfl) ?_
  refine gx_objI C (idx := 3) (by decide +kernel) (by decide +kernel) (by decide +kernel) hl.1 dX2_init_1 (Nat.le_of_ble_eq_true rfl) (Nat.le_of_ble_eq_true rfl) ?_
  refine lv_aload_n hx hb dX2_init_4 rfl (lv_at hl 0 rfl) ?_
  refine lv_iload_n hx hb dX2_init_5 rfl (lv_at hl 1 rfl) ?_
  refine lv_if_ge (tgt := 13) hx hb dX2_init_6 (by decide) (fun hc => ?_) (fun hc => absurd (nI_pos' hn1) hc)
  refine lv_iload_n hx hb dX2_init_13 rfl (lv_at hl 1 rfl) ?_
  refine gx_newI (N := n) C hw (by decide +kernel) (nI_pos hn1) (nI_clamp hn1) (by omega) (Nat.le_refl _) (by show 0 + n ≤ n; omega) dX2_init_14 (fun q1 H hw => ?_)
  have hw : gx_W D A s [gx_o h_t 2 [some none, none] (fun _ => 0), gx_a q1 cI n (fun _ => 0)] H _ := hw
  refine W.cs (cells' := 1) (slots' := n) rfl (Nat.zero_add n) ?_
  refine gx_putF (ws' := [gx_o h_t 2 [some (some q1), none] (fun _ => 0), gx_a q1 cI n (fun _ => 0)]) C hin hw 0 rfl (k := 0) (Nat.le_of_ble_eq_true rfl) lf_X2_init_9 rfl rfl rfl dX2_init_16 (fun H locs hw => ?_)
  refine lv_aload_n hx hb dX2_init_19 rfl (lv_at hl 0 rfl) ?_
  refine lv_iconst (v := 0) hx hb dX2_init_20 (by decide) ?_
  refine gx_put (ws' := [gx_o h_t 2 [some (some q1), none] (upd (fun _ => 0) 1 0), gx_a q1 cI n (fun _ => 0)]) C hw 0 rfl rfl lp_X2_init_15 rfl rfl rfl dX2_init_21 (fun H locs hw => ?_)
  exact hQ _ _ _ _ _ dX2_init_24 ⟨q1, rfl⟩ hw
theorem kv_X3_init_9 : gx_KV wsX3_init RX3 9 yX3_become cX3_become 5 none wsX3_become (gx_rm 0) (gx_rmc 1 0 0) 4 := ⟨gX3_init_X3_become, ⟨_, rfl⟩, ⟨by decide, by decide, by decide +kernel⟩, ⟨by decide, by decide⟩⟩
set_option maxHeartbeats 4000000 in
set_option maxRecDepth 100000 in
theorem ct_X3_init (l : Launch) (D : va_G) (cI cZ : ClassId) (h_t : Nat) {R0 : Nat → Int32} (hR : fn_X3_become (fun _ => 0) 0 8 12 1 = some R0) : gx_Mc l yX3_init wsX3_init (gx_rmc 1 0 0) D cI cZ [.ref h_t] [gx_o h_t 3 [none, none, none, none, none, none, none, none, none, none, none, none] (fun _ => 0)] (fun w' => w' = [gx_o h_t 3 [none, none, none, none, none, none, none, none, none, none, none, none] R0]) 0 0 := by
  refine gx_ofc (cc := cX3_init) (own := RX3) (by decide) rfl rfl (Nat.le_of_ble_eq_true rfl) [(0, .ref h_t)] rfl ?_
  intro p e s m args below meth c A Q ls hin C hQ hl hw
  have hx := C.1.1
  have hb := C.1.2.1
  refine lv_aload_n hx hb dX3_init_0 rfl (lv_at hl 0 rfl) ?_
  refine gx_objI C (idx := 3) (by decide +kernel) (by decide +kernel) (by decide +kernel) hl.1 dX3_init_1 (by decide) (Nat.le_of_ble_eq_true rfl) ?_
  refine lv_aload_n hx hb dX3_init_4 rfl (lv_at hl 0 rfl) ?_
  refine lv_iconst (v := 0) hx hb dX3_init_5 (by decide) ?_
  refine lv_bipush (v := 8) hx hb dX3_init_6 (by decide) ?_
  refine lv_bipush (v := 12) hx hb dX3_init_8 (by decide) ?_
  refine lv_iconst (v := 1) hx hb dX3_init_10 (by decide) ?_
  refine gx_callv (As := [.int 0, .int 8, .int 12, .int 1]) (ws' := [gx_o h_t 3 [none, none, none, none, none, none, none, none, none, none, none, none] R0]) (isC := [0]) (isR := []) (isP := [0]) C hw (ct_X3_become l D cI cZ h_t (fun _ => 0) 0 8 12 1 hR) kv_X3_init_9 ⟨rfl, rfl⟩ ⟨rfl, rfl, by decide, by decide, by decide, by decide, rfl⟩ 0 rfl rfl rfl rfl hl.1 (Nat.le_of_ble_eq_true rfl) ⟨by decide, by decide⟩ dX3_init_11 (fun H locs hw => ?_)
  exact hQ _ _ _ _ _ dX3_init_14 rfl hw
theorem lf_X0_init_9 : gx_LP wsX0_init RX0 9 0 0 true (.object "LzwForms$Rules") := ⟨_, _, _, tyX0, rfl, by decide +kernel, by decide, by decide +kernel, tyX0_ok, nmX0, by decide +kernel, by decide +kernel, by decide +kernel⟩
set_option maxHeartbeats 4000000 in
set_option maxRecDepth 100000 in
theorem ct_X0_init (l : Launch) (D : va_G) (cI cZ : ClassId) (h_t h_a1 : Nat) : gx_Mc l yX0_init wsX0_init (gx_rmc 1 0 0) D cI cZ [.ref h_t, .ref h_a1] [gx_o h_t 0 [some none, none, none, none, none, none, none] (fun _ => 0)] (fun w' => w' = [gx_o h_t 0 [some (some h_a1), none, none, none, none, none, none] (fun _ => 0)]) 0 0 := by
  refine gx_ofc (cc := cX0_init) (own := RX0) (by decide) rfl rfl (Nat.le_of_ble_eq_true rfl) [(0, .ref h_t), (1, .ref h_a1)] rfl ?_
  intro p e s m args below meth c A Q ls hin C hQ hl hw
  have hx := C.1.1
  have hb := C.1.2.1
  refine lv_aload_n hx hb dX0_init_0 rfl (lv_at hl 0 rfl) ?_
  refine gx_objI C (idx := 3) (by decide +kernel) (by decide +kernel) (by decide +kernel) hl.1 dX0_init_1 (by decide) (Nat.le_of_ble_eq_true rfl) ?_
  refine lv_aload_n hx hb dX0_init_4 rfl (lv_at hl 0 rfl) ?_
  refine lv_aload_n hx hb dX0_init_5 rfl (lv_at hl 1 rfl) ?_
  refine gx_putF (ws' := [gx_o h_t 0 [some (some h_a1), none, none, none, none, none, none] (fun _ => 0)]) C hin hw 0 rfl (k := 0) (Nat.le_of_ble_eq_true rfl) lf_X0_init_9 rfl rfl rfl dX0_init_6 (fun H locs hw => ?_)
  exact hQ _ _ _ _ _ dX0_init_9 rfl hw
def fn_X4_fill : Nat → (Nat → Int32) → Int32 → Option (Nat → Int32)
  | 0, _, _ => none
  | n + 1, V, x => if 558 ≤ x then some V else if gx_in x 558 then fn_X4_fill n (upd V x.toNatClampNeg (-1)) (x + 1) else none
theorem ln_X4_init_28 : gx_L wsX4_init RX4 28 4 5 := ⟨_, _, _, rfl, by decide +kernel, by decide, Or.inl (by decide +kernel)⟩
set_option maxHeartbeats 4000000 in
set_option maxRecDepth 100000 in
theorem tm_X4_init_56 {p : Program} {l : Launch} {e : Env} {s : State} {m : MethodId} {args : Array Value} {below : List Frame} {meth : Method} {c : Code} {D : va_G} {cI cZ : ClassId} {A : Nat → Prop} {Q : State → Prop} (C : gx_C cX4_init 3 wsX4_init RX4 D cI cZ p s m args c) (h_t h_a1 q1 q2 q3 q4 q5 : Nat) {z : Nat → Int32} (hQ : ∀ (ls : Array Slot) (H : Heap) (locs : List Loc), lv_has ls 3 [(0, .ref h_t)] → gx_W D A s [gx_o h_t 4 [some (some h_a1), some (some q1), some (some q2), some (some q3), some (some q4), some (some q5), none] (fun _ => 0), gx_a q1 cI 300 (fun _ => 0), gx_a q2 cI 300 (fun _ => 0), gx_a q3 cI 300 (fun _ => 0), gx_a q4 cI 300 (fun _ => 0), gx_a q5 cI 558 z] H locs → W p l e (gx_rmc 1 5 1758) s m args below meth c H locs 5 1758 Q (F0 m 78 ls [])) : ∀ (n : Nat), (∀ (V : Nat → Int32) (x2 : Int32) (ls : Array Slot) (H : Heap) (locs : List Loc), lv_has ls 3 [(0, .ref h_t), (2, .int x2)] → gx_W D A s [gx_o h_t 4 [some (some h_a1), some (some q1), some (some q2), some (some q3), some (some q4), some (some q5), none] (fun _ => 0), gx_a q1 cI 300 (fun _ => 0), gx_a q2 cI 300 (fun _ => 0), gx_a q3 cI 300 (fun _ => 0), gx_a q4 cI 300 (fun _ => 0), gx_a q5 cI 558 V] H locs → fn_X4_fill n V x2 = some z → W p l e (gx_rmc 1 5 1758) s m args below meth c H locs 5 1758 Q (F0 m 56 ls [])) := by
  have hx := C.1.1
  have hb := C.1.2.1
  intro n
  induction n with
  | zero => intro V x2 ls H locs hl hw hf; rw [fn_X4_fill] at hf; cases hf
  | succ n ih =>
    intro V x2 ls H locs hl hw hf
    rw [fn_X4_fill] at hf
    refine lv_iload_n hx hb dX4_init_56 rfl (lv_at hl 1 rfl) ?_
    refine lv_aload_n hx hb dX4_init_57 rfl (lv_at hl 0 rfl) ?_
    refine gx_get C hw 0 rfl (gx_gr rfl) ln_X4_init_28 dX4_init_58 ?_
    refine gx_alen C hw 5 rfl dX4_init_61 ?_
    refine lv_icmp_ge (tgt := 78) hx hb dX4_init_62 (by decide) (fun hc => ?_) (fun hc => ?_)
    · replace hf := gx_t hc hf
      obtain rfl := Option.some.inj hf
      exact hQ _ _ _ (lv_sub hl [0] rfl) hw
    · replace hf := gx_f hc hf
      obtain ⟨hi, hf⟩ := gx_g hf
      refine lv_aload_n hx hb dX4_init_65 rfl (lv_at hl 0 rfl) ?_
      refine gx_get C hw 0 rfl (gx_gr rfl) ln_X4_init_28 dX4_init_66 ?_
      refine lv_iload_n hx hb dX4_init_69 rfl (lv_at hl 1 rfl) ?_
      refine lv_iconst (v := (-1)) hx hb dX4_init_70 (by decide) ?_
      refine gx_iast (ws' := [gx_o h_t 4 [some (some h_a1), some (some q1), some (some q2), some (some q3), some (some q4), some (some q5), none] (fun _ => 0), gx_a q1 cI 300 (fun _ => 0), gx_a q2 cI 300 (fun _ => 0), gx_a q3 cI 300 (fun _ => 0), gx_a q4 cI 300 (fun _ => 0), gx_a q5 cI 558 (upd V x2.toNatClampNeg (-1))]) C hw 5 rfl hi rfl dX4_init_71 (fun H locs hw => ?_)
      refine lv_iinc (v := (x2 + 1)) (lv' := [(2, .int (x2 + 1)), (0, .ref h_t)]) hx hb dX4_init_72 hl (k := 1) rfl rfl (by decide) rfl (fun ls hl => ?_)
      refine lv_goto (tgt := 56) hx hb dX4_init_75 (by decide) ?_
      exact ih _ _ _ _ _ (lv_sub hl [1, 0] rfl) hw hf
theorem lf_X4_init_9 : gx_LP wsX4_init RX4 9 4 0 true (.object "LzwForms$Rules") := ⟨_, _, _, tyX4, rfl, by decide +kernel, by decide, by decide +kernel, tyX4_ok, nmX4, by decide +kernel, by decide +kernel, by decide +kernel⟩
theorem lf_X4_init_15 : gx_LP wsX4_init RX4 15 4 1 true (.array .int) := ⟨_, _, _, tyX4, rfl, by decide +kernel, by decide, by decide +kernel, tyX4_ok, nmX4, by decide +kernel, by decide +kernel, by decide +kernel⟩
theorem lf_X4_init_19 : gx_LP wsX4_init RX4 19 4 2 true (.array .int) := ⟨_, _, _, tyX4, rfl, by decide +kernel, by decide, by decide +kernel, tyX4_ok, nmX4, by decide +kernel, by decide +kernel, by decide +kernel⟩
theorem lf_X4_init_22 : gx_LP wsX4_init RX4 22 4 3 true (.array .int) := ⟨_, _, _, tyX4, rfl, by decide +kernel, by decide, by decide +kernel, tyX4_ok, nmX4, by decide +kernel, by decide +kernel, by decide +kernel⟩
theorem lf_X4_init_25 : gx_LP wsX4_init RX4 25 4 4 true (.array .int) := ⟨_, _, _, tyX4, rfl, by decide +kernel, by decide, by decide +kernel, tyX4_ok, nmX4, by decide +kernel, by decide +kernel, by decide +kernel⟩
theorem lf_X4_init_28 : gx_LP wsX4_init RX4 28 4 5 true (.array .int) := ⟨_, _, _, tyX4, rfl, by decide +kernel, by decide, by decide +kernel, tyX4_ok, nmX4, by decide +kernel, by decide +kernel, by decide +kernel⟩
theorem lp_X4_init_31 : gx_LP wsX4_init RX4 31 4 6 false .int := ⟨_, _, _, tyX4, rfl, by decide +kernel, by decide, by decide +kernel, tyX4_ok, nmX4, by decide +kernel, by decide +kernel, by decide +kernel⟩
set_option maxHeartbeats 4000000 in
set_option maxRecDepth 100000 in
theorem ct_X4_init (l : Launch) (D : va_G) (cI cZ : ClassId) (h_t h_a1 : Nat) {T0 : Nat → Int32} (hT : fn_X4_fill gx_fuel (fun _ => 0) 0 = some T0) : gx_Mc l yX4_init wsX4_init (gx_rmc 1 5 1758) D cI cZ [.ref h_t, .ref h_a1] [gx_o h_t 4 [some none, some none, some none, some none, some none, some none, none] (fun _ => 0)] (fun w' => ∃ q1 q2 q3 q4 q5 : Nat, w' = [gx_o h_t 4 [some (some h_a1), some (some q1), some (some q2), some (some q3), some (some q4), some (some q5), none] (upd (fun _ => 0) 6 0), gx_a q1 cI 300 (fun _ => 0), gx_a q2 cI 300 (fun _ => 0), gx_a q3 cI 300 (fun _ => 0), gx_a q4 cI 300 (fun _ => 0), gx_a q5 cI 558 T0]) 5 1758 := by
  refine gx_ofc (cc := cX4_init) (own := RX4) (by decide) rfl rfl (Nat.le_of_ble_eq_true rfl) [(0, .ref h_t), (1, .ref h_a1)] rfl ?_
  intro p e s m args below meth c A Q ls hin C hQ hl hw
  have hx := C.1.1
  have hb := C.1.2.1
  refine lv_aload_n hx hb dX4_init_0 rfl (lv_at hl 0 rfl) ?_
  refine gx_objI C (idx := 3) (by decide +kernel) (by decide +kernel) (by decide +kernel) hl.1 dX4_init_1 (by decide) (Nat.le_of_ble_eq_true rfl) ?_
  refine lv_aload_n hx hb dX4_init_4 rfl (lv_at hl 0 rfl) ?_
  refine lv_aload_n hx hb dX4_init_5 rfl (lv_at hl 1 rfl) ?_
  refine gx_putF (ws' := [gx_o h_t 4 [some (some h_a1), some none, some none, some none, some none, some none, none] (fun _ => 0)]) C hin hw 0 rfl (k := 0) (Nat.le_of_ble_eq_true rfl) lf_X4_init_9 rfl rfl rfl dX4_init_6 (fun H locs hw => ?_)
  refine lv_aload_n hx hb dX4_init_9 rfl (lv_at hl 0 rfl) ?_
  refine lv_sipush (v := 300) hx hb dX4_init_10 (by decide) ?_
  refine gx_newI (N := 300) C hw (by decide +kernel) (by decide) (by decide) (by decide) (by decide) (by decide) dX4_init_13 (fun q1 H hw => ?_)
  have hw : gx_W D A s [gx_o h_t 4 [some (some h_a1), some none, some none, some none, some none, some none, none] (fun _ => 0), gx_a q1 cI 300 (fun _ => 0)] H _ := hw
  refine W.cs (cells' := 1) (slots' := 300) rfl rfl ?_
  refine gx_putF (ws' := [gx_o h_t 4 [some (some h_a1), some (some q1), some none, some none, some none, some none, none] (fun _ => 0), gx_a q1 cI 300 (fun _ => 0)]) C hin hw 0 rfl (k := 1) (Nat.le_of_ble_eq_true rfl) lf_X4_init_15 rfl rfl rfl dX4_init_15 (fun H locs hw => ?_)
  refine lv_aload_n hx hb dX4_init_18 rfl (lv_at hl 0 rfl) ?_
  refine lv_sipush (v := 300) hx hb dX4_init_19 (by decide) ?_
  refine gx_newI (N := 300) C hw (by decide +kernel) (by decide) (by decide) (by decide) (by decide) (by decide) dX4_init_22 (fun q2 H hw => ?_)
  have hw : gx_W D A s [gx_o h_t 4 [some (some h_a1), some (some q1), some none, some none, some none, some none, none] (fun _ => 0), gx_a q1 cI 300 (fun _ => 0), gx_a q2 cI 300 (fun _ => 0)] H _ := hw
  refine W.cs (cells' := 2) (slots' := 600) rfl rfl ?_
  refine gx_putF (ws' := [gx_o h_t 4 [some (some h_a1), some (some q1), some (some q2), some none, some none, some none, none] (fun _ => 0), gx_a q1 cI 300 (fun _ => 0), gx_a q2 cI 300 (fun _ => 0)]) C hin hw 0 rfl (k := 2) (Nat.le_of_ble_eq_true rfl) lf_X4_init_19 rfl rfl rfl dX4_init_24 (fun H locs hw => ?_)
  refine lv_aload_n hx hb dX4_init_27 rfl (lv_at hl 0 rfl) ?_
  refine lv_sipush (v := 300) hx hb dX4_init_28 (by decide) ?_
  refine gx_newI (N := 300) C hw (by decide +kernel) (by decide) (by decide) (by decide) (by decide) (by decide) dX4_init_31 (fun q3 H hw => ?_)
  have hw : gx_W D A s [gx_o h_t 4 [some (some h_a1), some (some q1), some (some q2), some none, some none, some none, none] (fun _ => 0), gx_a q1 cI 300 (fun _ => 0), gx_a q2 cI 300 (fun _ => 0), gx_a q3 cI 300 (fun _ => 0)] H _ := hw
  refine W.cs (cells' := 3) (slots' := 900) rfl rfl ?_
  refine gx_putF (ws' := [gx_o h_t 4 [some (some h_a1), some (some q1), some (some q2), some (some q3), some none, some none, none] (fun _ => 0), gx_a q1 cI 300 (fun _ => 0), gx_a q2 cI 300 (fun _ => 0), gx_a q3 cI 300 (fun _ => 0)]) C hin hw 0 rfl (k := 3) (Nat.le_of_ble_eq_true rfl) lf_X4_init_22 rfl rfl rfl dX4_init_33 (fun H locs hw => ?_)
  refine lv_aload_n hx hb dX4_init_36 rfl (lv_at hl 0 rfl) ?_
  refine lv_sipush (v := 300) hx hb dX4_init_37 (by decide) ?_
  refine gx_newI (N := 300) C hw (by decide +kernel) (by decide) (by decide) (by decide) (by decide) (by decide) dX4_init_40 (fun q4 H hw => ?_)
  have hw : gx_W D A s [gx_o h_t 4 [some (some h_a1), some (some q1), some (some q2), some (some q3), some none, some none, none] (fun _ => 0), gx_a q1 cI 300 (fun _ => 0), gx_a q2 cI 300 (fun _ => 0), gx_a q3 cI 300 (fun _ => 0), gx_a q4 cI 300 (fun _ => 0)] H _ := hw
  refine W.cs (cells' := 4) (slots' := 1200) rfl rfl ?_
  refine gx_putF (ws' := [gx_o h_t 4 [some (some h_a1), some (some q1), some (some q2), some (some q3), some (some q4), some none, none] (fun _ => 0), gx_a q1 cI 300 (fun _ => 0), gx_a q2 cI 300 (fun _ => 0), gx_a q3 cI 300 (fun _ => 0), gx_a q4 cI 300 (fun _ => 0)]) C hin hw 0 rfl (k := 4) (Nat.le_of_ble_eq_true rfl) lf_X4_init_25 rfl rfl rfl dX4_init_42 (fun H locs hw => ?_)
  refine lv_aload_n hx hb dX4_init_45 rfl (lv_at hl 0 rfl) ?_
  refine lv_sipush (v := 558) hx hb dX4_init_46 (by decide) ?_
  refine gx_newI (N := 558) C hw (by decide +kernel) (by decide) (by decide) (by decide) (by decide) (by decide) dX4_init_49 (fun q5 H hw => ?_)
  have hw : gx_W D A s [gx_o h_t 4 [some (some h_a1), some (some q1), some (some q2), some (some q3), some (some q4), some none, none] (fun _ => 0), gx_a q1 cI 300 (fun _ => 0), gx_a q2 cI 300 (fun _ => 0), gx_a q3 cI 300 (fun _ => 0), gx_a q4 cI 300 (fun _ => 0), gx_a q5 cI 558 (fun _ => 0)] H _ := hw
  refine W.cs (cells' := 5) (slots' := 1758) rfl rfl ?_
  refine gx_putF (ws' := [gx_o h_t 4 [some (some h_a1), some (some q1), some (some q2), some (some q3), some (some q4), some (some q5), none] (fun _ => 0), gx_a q1 cI 300 (fun _ => 0), gx_a q2 cI 300 (fun _ => 0), gx_a q3 cI 300 (fun _ => 0), gx_a q4 cI 300 (fun _ => 0), gx_a q5 cI 558 (fun _ => 0)]) C hin hw 0 rfl (k := 5) (Nat.le_of_ble_eq_true rfl) lf_X4_init_28 rfl rfl rfl dX4_init_51 (fun H locs hw => ?_)
  refine lv_iconst (v := 0) hx hb dX4_init_54 (by decide) ?_
  refine lv_istore_n (lv' := [(2, .int 0), (0, .ref h_t), (1, .ref h_a1)]) hx hb dX4_init_55 rfl hl (by decide) rfl (fun ls hl => ?_)
  refine tm_X4_init_56 (z := T0) C h_t h_a1 q1 q2 q3 q4 q5 (fun ls H locs hl hw => ?_) gx_fuel _ _ _ _ _ (lv_sub hl [1, 0] rfl) hw hT
  refine lv_aload_n hx hb dX4_init_78 rfl (lv_at hl 0 rfl) ?_
  refine lv_iconst (v := 0) hx hb dX4_init_79 (by decide) ?_
  refine gx_put (ws' := [gx_o h_t 4 [some (some h_a1), some (some q1), some (some q2), some (some q3), some (some q4), some (some q5), none] (upd (fun _ => 0) 6 0), gx_a q1 cI 300 (fun _ => 0), gx_a q2 cI 300 (fun _ => 0), gx_a q3 cI 300 (fun _ => 0), gx_a q4 cI 300 (fun _ => 0), gx_a q5 cI 558 T0]) C hw 0 rfl rfl lp_X4_init_31 rfl rfl rfl dX4_init_80 (fun H locs hw => ?_)
  exact hQ _ _ _ _ _ dX4_init_83 ⟨q1, q2, q3, q4, q5, rfl⟩ hw
theorem lf_X5_init_9 : gx_LP wsX5_init RX5 9 5 0 true (.object "LzwForms$Rules") := ⟨_, _, _, tyX5, rfl, by decide +kernel, by decide, by decide +kernel, tyX5_ok, nmX5, by decide +kernel, by decide +kernel, by decide +kernel⟩
theorem ki_X5_init_17 : gx_KI wsX5_init RX5 17 yX2_init cX2_init 2 wsX2_init (gx_rmc 1 1 400) (gx_rmc 2 2 402) 1 := ⟨gX5_init_X2_init, ⟨_, rfl⟩, rfl, by decide +kernel, by decide +kernel, by decide +kernel, ⟨by decide, by decide, by decide +kernel⟩, ⟨by decide, by decide⟩⟩
theorem lf_X5_init_20 : gx_LP wsX5_init RX5 20 5 1 true (.object "LzwForms$Row") := ⟨_, _, _, tyX5, rfl, by decide +kernel, by decide, by decide +kernel, tyX5_ok, nmX5, by decide +kernel, by decide +kernel, by decide +kernel⟩
set_option maxHeartbeats 4000000 in
set_option maxRecDepth 100000 in
theorem ct_X5_init (l : Launch) (D : va_G) (cI cZ : ClassId) (h_t h_a1 : Nat) : gx_Mc l yX5_init wsX5_init (gx_rmc 2 2 402) D cI cZ [.ref h_t, .ref h_a1] [gx_o h_t 5 [some none, some none] (fun _ => 0)] (fun w' => ∃ q1 q2 : Nat, w' = [gx_o h_t 5 [some (some h_a1), some (some q1)] (fun _ => 0), gx_o q1 2 [some (some q2), none] (upd (fun _ => 0) 1 0), gx_a q2 cI 400 (fun _ => 0)]) 2 402 := by
  refine gx_ofc (cc := cX5_init) (own := RX5) (by decide) rfl rfl (Nat.le_of_ble_eq_true rfl) [(0, .ref h_t), (1, .ref h_a1)] rfl ?_
  intro p e s m args below meth c A Q ls hin C hQ hl hw
  have hx := C.1.1
  have hb := C.1.2.1
  refine lv_aload_n hx hb dX5_init_0 rfl (lv_at hl 0 rfl) ?_
  refine gx_objI C (idx := 3) (by decide +kernel) (by decide +kernel) (by decide +kernel) hl.1 dX5_init_1 (by decide) (Nat.le_of_ble_eq_true rfl) ?_
  refine lv_aload_n hx hb dX5_init_4 rfl (lv_at hl 0 rfl) ?_
  refine lv_aload_n hx hb dX5_init_5 rfl (lv_at hl 1 rfl) ?_
  refine gx_putF (ws' := [gx_o h_t 5 [some (some h_a1), some none] (fun _ => 0)]) C hin hw 0 rfl (k := 0) (Nat.le_of_ble_eq_true rfl) lf_X5_init_9 rfl rfl rfl dX5_init_6 (fun H locs hw => ?_)
  refine lv_aload_n hx hb dX5_init_9 rfl (lv_at hl 0 rfl) ?_
  refine gx_new (T := TX2) (N := 2) (ci := 2) (idx := 15) C hw tyX2 tyX2_ok (by decide +kernel) (by decide +kernel) (by decide +kernel) (by decide +kernel) rfl [some none, none] (by intro j hj; rcases (show j = 0 ∨ j = 1 by omega) with rfl | rfl <;> rfl) (by decide) (by decide) dX5_init_10 (fun q1 H hw => ?_)
  have hw : gx_W D A s [gx_o h_t 5 [some (some h_a1), some none] (fun _ => 0), gx_o q1 2 [some none, none] (fun _ => 0)] H _ := hw
  refine W.cs (cells' := 1) (slots' := 2) rfl rfl ?_
  refine lv_dup hx hb dX5_init_13 rfl ?_
  refine lv_sipush (v := 400) hx hb dX5_init_14 (by decide) ?_
  refine gx_callc (As := [.int 400]) (isC := [1]) (isR := [0]) (mc := 1) (ms := 400) C hw (ct_X2_init l D cI cZ q1 400) ki_X5_init_17 ⟨rfl, rfl⟩ rfl rfl (by decide) (by decide) (by decide) rfl rfl hl.1 (Nat.le_of_ble_eq_true rfl) ⟨by decide, by decide⟩ dX5_init_17 (fun w1 H locs hw1 hw => ?_)
  obtain ⟨q2, rfl⟩ := hw1
  have hw : gx_W D A s [gx_o h_t 5 [some (some h_a1), some none] (fun _ => 0), gx_o q1 2 [some (some q2), none] (upd (fun _ => 0) 1 0), gx_a q2 cI 400 (fun _ => 0)] H locs := hw
  refine W.cs (cells' := 2) (slots' := 402) rfl rfl ?_
  refine gx_putF (ws' := [gx_o h_t 5 [some (some h_a1), some (some q1)] (fun _ => 0), gx_o q1 2 [some (some q2), none] (upd (fun _ => 0) 1 0), gx_a q2 cI 400 (fun _ => 0)]) C hin hw 0 rfl (k := 1) (Nat.le_of_ble_eq_true rfl) lf_X5_init_20 rfl rfl rfl dX5_init_20 (fun H locs hw => ?_)
  exact hQ _ _ _ _ _ dX5_init_23 ⟨q1, q2, rfl⟩ hw
theorem lf_X1_init_9 : gx_LP wsX1_init RX1 9 1 0 true (.object "LzwForms$Rules") := ⟨_, _, _, tyX1, rfl, by decide +kernel, by decide, by decide +kernel, tyX1_ok, nmX1, by decide +kernel, by decide +kernel, by decide +kernel⟩
theorem ki_X1_init_17 : gx_KI wsX1_init RX1 17 yX0_init cX0_init 2 wsX0_init (gx_rmc 1 0 0) (gx_rmc 2 13 3134) 1 := ⟨gX1_init_X0_init, ⟨_, rfl⟩, rfl, by decide +kernel, by decide +kernel, by decide +kernel, ⟨by decide, by decide, by decide +kernel⟩, ⟨by decide, by decide⟩⟩
theorem lf_X1_init_20 : gx_LP wsX1_init RX1 20 1 1 true (.object "LzwForms$Pace") := ⟨_, _, _, tyX1, rfl, by decide +kernel, by decide, by decide +kernel, tyX1_ok, nmX1, by decide +kernel, by decide +kernel, by decide +kernel⟩
theorem ki_X1_init_26 : gx_KI wsX1_init RX1 26 yX4_init cX4_init 3 wsX4_init (gx_rmc 1 5 1758) (gx_rmc 2 13 3134) 1 := ⟨gX1_init_X4_init, ⟨_, rfl⟩, rfl, by decide +kernel, by decide +kernel, by decide +kernel, ⟨by decide, by decide, by decide +kernel⟩, ⟨by decide, by decide⟩⟩
theorem lf_X1_init_27 : gx_LP wsX1_init RX1 27 1 2 true (.object "LzwForms$Table") := ⟨_, _, _, tyX1, rfl, by decide +kernel, by decide, by decide +kernel, tyX1_ok, nmX1, by decide +kernel, by decide +kernel, by decide +kernel⟩
theorem ki_X1_init_33 : gx_KI wsX1_init RX1 33 yX2_init cX2_init 2 wsX2_init (gx_rmc 1 1 452) (gx_rmc 2 13 3134) 1 := ⟨gX1_init_X2_init, ⟨_, rfl⟩, rfl, by decide +kernel, by decide +kernel, by decide +kernel, ⟨by decide, by decide, by decide +kernel⟩, ⟨by decide, by decide⟩⟩
theorem lf_X1_init_36 : gx_LP wsX1_init RX1 36 1 3 true (.object "LzwForms$Row") := ⟨_, _, _, tyX1, rfl, by decide +kernel, by decide, by decide +kernel, tyX1_ok, nmX1, by decide +kernel, by decide +kernel, by decide +kernel⟩
theorem lf_X1_init_40 : gx_LP wsX1_init RX1 40 1 4 true (.object "LzwForms$Row") := ⟨_, _, _, tyX1, rfl, by decide +kernel, by decide, by decide +kernel, tyX1_ok, nmX1, by decide +kernel, by decide +kernel, by decide +kernel⟩
theorem lf_X1_init_43 : gx_LP wsX1_init RX1 43 1 5 true (.object "LzwForms$Row") := ⟨_, _, _, tyX1, rfl, by decide +kernel, by decide, by decide +kernel, tyX1_ok, nmX1, by decide +kernel, by decide +kernel, by decide +kernel⟩
set_option maxHeartbeats 4000000 in
set_option maxRecDepth 100000 in
theorem ct_X1_init (l : Launch) (D : va_G) (cI cZ : ClassId) (h_t h_a1 : Nat) {T0 : Nat → Int32} (hT : fn_X4_fill gx_fuel (fun _ => 0) 0 = some T0) : gx_Mc l yX1_init wsX1_init (gx_rmc 2 13 3134) D cI cZ [.ref h_t, .ref h_a1] [gx_o h_t 1 [some none, some none, some none, some none, some none, some none, none, none, none] (fun _ => 0)] (fun w' => ∃ q1 q2 q3 q4 q5 q6 q7 q8 q9 q10 q11 q12 q13 : Nat, w' = [gx_o h_t 1 [some (some h_a1), some (some q1), some (some q2), some (some q8), some (some q10), some (some q12), none, none, none] (fun _ => 0), gx_o q1 0 [some (some h_a1), none, none, none, none, none, none] (fun _ => 0), gx_o q2 4 [some (some h_a1), some (some q3), some (some q4), some (some q5), some (some q6), some (some q7), none] (upd (fun _ => 0) 6 0), gx_a q3 cI 300 (fun _ => 0), gx_a q4 cI 300 (fun _ => 0), gx_a q5 cI 300 (fun _ => 0), gx_a q6 cI 300 (fun _ => 0), gx_a q7 cI 558 T0, gx_o q8 2 [some (some q9), none] (upd (fun _ => 0) 1 0), gx_a q9 cI 452 (fun _ => 0), gx_o q10 2 [some (some q11), none] (upd (fun _ => 0) 1 0), gx_a q11 cI 452 (fun _ => 0), gx_o q12 2 [some (some q13), none] (upd (fun _ => 0) 1 0), gx_a q13 cI 452 (fun _ => 0)]) 13 3134 := by
  refine gx_ofc (cc := cX1_init) (own := RX1) (by decide) rfl rfl (Nat.le_of_ble_eq_true rfl) [(0, .ref h_t), (1, .ref h_a1)] rfl ?_
  intro p e s m args below meth c A Q ls hin C hQ hl hw
  have hx := C.1.1
  have hb := C.1.2.1
  refine lv_aload_n hx hb dX1_init_0 rfl (lv_at hl 0 rfl) ?_
  refine gx_objI C (idx := 3) (by decide +kernel) (by decide +kernel) (by decide +kernel) hl.1 dX1_init_1 (by decide) (Nat.le_of_ble_eq_true rfl) ?_
  refine lv_aload_n hx hb dX1_init_4 rfl (lv_at hl 0 rfl) ?_
  refine lv_aload_n hx hb dX1_init_5 rfl (lv_at hl 1 rfl) ?_
  refine gx_putF (ws' := [gx_o h_t 1 [some (some h_a1), some none, some none, some none, some none, some none, none, none, none] (fun _ => 0)]) C hin hw 0 rfl (k := 0) (Nat.le_of_ble_eq_true rfl) lf_X1_init_9 rfl rfl rfl dX1_init_6 (fun H locs hw => ?_)
  refine lv_aload_n hx hb dX1_init_9 rfl (lv_at hl 0 rfl) ?_
  refine gx_new (T := TX0) (N := 7) (ci := 0) (idx := 15) C hw tyX0 tyX0_ok (by decide +kernel) (by decide +kernel) (by decide +kernel) (by decide +kernel) rfl [some none, none, none, none, none, none, none] (by intro j hj; rcases (show j = 0 ∨ j = 1 ∨ j = 2 ∨ j = 3 ∨ j = 4 ∨ j = 5 ∨ j = 6 by omega) with rfl | rfl | rfl | rfl | rfl | rfl | rfl <;> rfl) (by decide) (by decide) dX1_init_10 (fun q1 H hw => ?_)
  have hw : gx_W D A s [gx_o h_t 1 [some (some h_a1), some none, some none, some none, some none, some none, none, none, none] (fun _ => 0), gx_o q1 0 [some none, none, none, none, none, none, none] (fun _ => 0)] H _ := hw
  refine W.cs (cells' := 1) (slots' := 7) rfl rfl ?_
  refine lv_dup hx hb dX1_init_13 rfl ?_
  refine lv_aload_n hx hb dX1_init_14 rfl (lv_at hl 1 rfl) ?_
  refine gx_callc (As := [.ref h_a1]) (isC := [1]) (isR := [0]) (mc := 0) (ms := 0) C hw (ct_X0_init l D cI cZ q1 h_a1) ki_X1_init_17 ⟨rfl, rfl⟩ rfl rfl (by decide) (by decide) (by decide) rfl rfl hl.1 (Nat.le_of_ble_eq_true rfl) ⟨by decide, by decide⟩ dX1_init_15 (fun w1 H locs hw1 hw => ?_)
  obtain ⟨rfl⟩ := hw1
  have hw : gx_W D A s [gx_o h_t 1 [some (some h_a1), some none, some none, some none, some none, some none, none, none, none] (fun _ => 0), gx_o q1 0 [some (some h_a1), none, none, none, none, none, none] (fun _ => 0)] H locs := hw
  refine W.cs (cells' := 1) (slots' := 7) rfl rfl ?_
  refine gx_putF (ws' := [gx_o h_t 1 [some (some h_a1), some (some q1), some none, some none, some none, some none, none, none, none] (fun _ => 0), gx_o q1 0 [some (some h_a1), none, none, none, none, none, none] (fun _ => 0)]) C hin hw 0 rfl (k := 1) (Nat.le_of_ble_eq_true rfl) lf_X1_init_20 rfl rfl rfl dX1_init_18 (fun H locs hw => ?_)
  refine lv_aload_n hx hb dX1_init_21 rfl (lv_at hl 0 rfl) ?_
  refine gx_new (T := TX4) (N := 7) (ci := 4) (idx := 24) C hw tyX4 tyX4_ok (by decide +kernel) (by decide +kernel) (by decide +kernel) (by decide +kernel) rfl [some none, some none, some none, some none, some none, some none, none] (by intro j hj; rcases (show j = 0 ∨ j = 1 ∨ j = 2 ∨ j = 3 ∨ j = 4 ∨ j = 5 ∨ j = 6 by omega) with rfl | rfl | rfl | rfl | rfl | rfl | rfl <;> rfl) (by decide) (by decide) dX1_init_22 (fun q2 H hw => ?_)
  have hw : gx_W D A s [gx_o h_t 1 [some (some h_a1), some (some q1), some none, some none, some none, some none, none, none, none] (fun _ => 0), gx_o q1 0 [some (some h_a1), none, none, none, none, none, none] (fun _ => 0), gx_o q2 4 [some none, some none, some none, some none, some none, some none, none] (fun _ => 0)] H _ := hw
  refine W.cs (cells' := 2) (slots' := 14) rfl rfl ?_
  refine lv_dup hx hb dX1_init_25 rfl ?_
  refine lv_aload_n hx hb dX1_init_26 rfl (lv_at hl 1 rfl) ?_
  refine gx_callc (As := [.ref h_a1]) (isC := [2]) (isR := [0, 1]) (mc := 5) (ms := 1758) C hw (ct_X4_init l D cI cZ q2 h_a1 hT) ki_X1_init_26 ⟨rfl, rfl⟩ rfl rfl (by decide) (by decide) (by decide) rfl rfl hl.1 (Nat.le_of_ble_eq_true rfl) ⟨by decide, by decide⟩ dX1_init_27 (fun w1 H locs hw1 hw => ?_)
  obtain ⟨q3, q4, q5, q6, q7, rfl⟩ := hw1
  have hw : gx_W D A s [gx_o h_t 1 [some (some h_a1), some (some q1), some none, some none, some none, some none, none, none, none] (fun _ => 0), gx_o q1 0 [some (some h_a1), none, none, none, none, none, none] (fun _ => 0), gx_o q2 4 [some (some h_a1), some (some q3), some (some q4), some (some q5), some (some q6), some (some q7), none] (upd (fun _ => 0) 6 0), gx_a q3 cI 300 (fun _ => 0), gx_a q4 cI 300 (fun _ => 0), gx_a q5 cI 300 (fun _ => 0), gx_a q6 cI 300 (fun _ => 0), gx_a q7 cI 558 T0] H locs := hw
  refine W.cs (cells' := 7) (slots' := 1772) rfl rfl ?_
  refine gx_putF (ws' := [gx_o h_t 1 [some (some h_a1), some (some q1), some (some q2), some none, some none, some none, none, none, none] (fun _ => 0), gx_o q1 0 [some (some h_a1), none, none, none, none, none, none] (fun _ => 0), gx_o q2 4 [some (some h_a1), some (some q3), some (some q4), some (some q5), some (some q6), some (some q7), none] (upd (fun _ => 0) 6 0), gx_a q3 cI 300 (fun _ => 0), gx_a q4 cI 300 (fun _ => 0), gx_a q5 cI 300 (fun _ => 0), gx_a q6 cI 300 (fun _ => 0), gx_a q7 cI 558 T0]) C hin hw 0 rfl (k := 2) (Nat.le_of_ble_eq_true rfl) lf_X1_init_27 rfl rfl rfl dX1_init_30 (fun H locs hw => ?_)
  refine lv_aload_n hx hb dX1_init_33 rfl (lv_at hl 0 rfl) ?_
  refine gx_new (T := TX2) (N := 2) (ci := 2) (idx := 31) C hw tyX2 tyX2_ok (by decide +kernel) (by decide +kernel) (by decide +kernel) (by decide +kernel) rfl [some none, none] (by intro j hj; rcases (show j = 0 ∨ j = 1 by omega) with rfl | rfl <;> rfl) (by decide) (by decide) dX1_init_34 (fun q8 H hw => ?_)
  have hw : gx_W D A s [gx_o h_t 1 [some (some h_a1), some (some q1), some (some q2), some none, some none, some none, none, none, none] (fun _ => 0), gx_o q1 0 [some (some h_a1), none, none, none, none, none, none] (fun _ => 0), gx_o q2 4 [some (some h_a1), some (some q3), some (some q4), some (some q5), some (some q6), some (some q7), none] (upd (fun _ => 0) 6 0), gx_a q3 cI 300 (fun _ => 0), gx_a q4 cI 300 (fun _ => 0), gx_a q5 cI 300 (fun _ => 0), gx_a q6 cI 300 (fun _ => 0), gx_a q7 cI 558 T0, gx_o q8 2 [some none, none] (fun _ => 0)] H _ := hw
  refine W.cs (cells' := 8) (slots' := 1774) rfl rfl ?_
  refine lv_dup hx hb dX1_init_37 rfl ?_
  refine lv_sipush (v := 452) hx hb dX1_init_38 (by decide) ?_
  refine gx_callc (As := [.int 452]) (isC := [8]) (isR := [0, 1, 2, 3, 4, 5, 6, 7]) (mc := 1) (ms := 452) C hw (ct_X2_init l D cI cZ q8 452) ki_X1_init_33 ⟨rfl, rfl⟩ rfl rfl (by decide) (by decide) (by decide) rfl rfl hl.1 (Nat.le_of_ble_eq_true rfl) ⟨by decide, by decide⟩ dX1_init_41 (fun w1 H locs hw1 hw => ?_)
  obtain ⟨q9, rfl⟩ := hw1
  have hw : gx_W D A s [gx_o h_t 1 [some (some h_a1), some (some q1), some (some q2), some none, some none, some none, none, none, none] (fun _ => 0), gx_o q1 0 [some (some h_a1), none, none, none, none, none, none] (fun _ => 0), gx_o q2 4 [some (some h_a1), some (some q3), some (some q4), some (some q5), some (some q6), some (some q7), none] (upd (fun _ => 0) 6 0), gx_a q3 cI 300 (fun _ => 0), gx_a q4 cI 300 (fun _ => 0), gx_a q5 cI 300 (fun _ => 0), gx_a q6 cI 300 (fun _ => 0), gx_a q7 cI 558 T0, gx_o q8 2 [some (some q9), none] (upd (fun _ => 0) 1 0), gx_a q9 cI 452 (fun _ => 0)] H locs := hw
  refine W.cs (cells' := 9) (slots' := 2226) rfl rfl ?_
  refine gx_putF (ws' := [gx_o h_t 1 [some (some h_a1), some (some q1), some (some q2), some (some q8), some none, some none, none, none, none] (fun _ => 0), gx_o q1 0 [some (some h_a1), none, none, none, none, none, none] (fun _ => 0), gx_o q2 4 [some (some h_a1), some (some q3), some (some q4), some (some q5), some (some q6), some (some q7), none] (upd (fun _ => 0) 6 0), gx_a q3 cI 300 (fun _ => 0), gx_a q4 cI 300 (fun _ => 0), gx_a q5 cI 300 (fun _ => 0), gx_a q6 cI 300 (fun _ => 0), gx_a q7 cI 558 T0, gx_o q8 2 [some (some q9), none] (upd (fun _ => 0) 1 0), gx_a q9 cI 452 (fun _ => 0)]) C hin hw 0 rfl (k := 3) (Nat.le_of_ble_eq_true rfl) lf_X1_init_36 rfl rfl rfl dX1_init_44 (fun H locs hw => ?_)
  refine lv_aload_n hx hb dX1_init_47 rfl (lv_at hl 0 rfl) ?_
  refine gx_new (T := TX2) (N := 2) (ci := 2) (idx := 31) C hw tyX2 tyX2_ok (by decide +kernel) (by decide +kernel) (by decide +kernel) (by decide +kernel) rfl [some none, none] (by intro j hj; rcases (show j = 0 ∨ j = 1 by omega) with rfl | rfl <;> rfl) (by decide) (by decide) dX1_init_48 (fun q10 H hw => ?_)
  have hw : gx_W D A s [gx_o h_t 1 [some (some h_a1), some (some q1), some (some q2), some (some q8), some none, some none, none, none, none] (fun _ => 0), gx_o q1 0 [some (some h_a1), none, none, none, none, none, none] (fun _ => 0), gx_o q2 4 [some (some h_a1), some (some q3), some (some q4), some (some q5), some (some q6), some (some q7), none] (upd (fun _ => 0) 6 0), gx_a q3 cI 300 (fun _ => 0), gx_a q4 cI 300 (fun _ => 0), gx_a q5 cI 300 (fun _ => 0), gx_a q6 cI 300 (fun _ => 0), gx_a q7 cI 558 T0, gx_o q8 2 [some (some q9), none] (upd (fun _ => 0) 1 0), gx_a q9 cI 452 (fun _ => 0), gx_o q10 2 [some none, none] (fun _ => 0)] H _ := hw
  refine W.cs (cells' := 10) (slots' := 2228) rfl rfl ?_
  refine lv_dup hx hb dX1_init_51 rfl ?_
  refine lv_sipush (v := 452) hx hb dX1_init_52 (by decide) ?_
  refine gx_callc (As := [.int 452]) (isC := [10]) (isR := [0, 1, 2, 3, 4, 5, 6, 7, 8, 9]) (mc := 1) (ms := 452) C hw (ct_X2_init l D cI cZ q10 452) ki_X1_init_33 ⟨rfl, rfl⟩ rfl rfl (by decide) (by decide) (by decide) rfl rfl hl.1 (Nat.le_of_ble_eq_true rfl) ⟨by decide, by decide⟩ dX1_init_55 (fun w1 H locs hw1 hw => ?_)
  obtain ⟨q11, rfl⟩ := hw1
  have hw : gx_W D A s [gx_o h_t 1 [some (some h_a1), some (some q1), some (some q2), some (some q8), some none, some none, none, none, none] (fun _ => 0), gx_o q1 0 [some (some h_a1), none, none, none, none, none, none] (fun _ => 0), gx_o q2 4 [some (some h_a1), some (some q3), some (some q4), some (some q5), some (some q6), some (some q7), none] (upd (fun _ => 0) 6 0), gx_a q3 cI 300 (fun _ => 0), gx_a q4 cI 300 (fun _ => 0), gx_a q5 cI 300 (fun _ => 0), gx_a q6 cI 300 (fun _ => 0), gx_a q7 cI 558 T0, gx_o q8 2 [some (some q9), none] (upd (fun _ => 0) 1 0), gx_a q9 cI 452 (fun _ => 0), gx_o q10 2 [some (some q11), none] (upd (fun _ => 0) 1 0), gx_a q11 cI 452 (fun _ => 0)] H locs := hw
  refine W.cs (cells' := 11) (slots' := 2680) rfl rfl ?_
  refine gx_putF (ws' := [gx_o h_t 1 [some (some h_a1), some (some q1), some (some q2), some (some q8), some (some q10), some none, none, none, none] (fun _ => 0), gx_o q1 0 [some (some h_a1), none, none, none, none, none, none] (fun _ => 0), gx_o q2 4 [some (some h_a1), some (some q3), some (some q4), some (some q5), some (some q6), some (some q7), none] (upd (fun _ => 0) 6 0), gx_a q3 cI 300 (fun _ => 0), gx_a q4 cI 300 (fun _ => 0), gx_a q5 cI 300 (fun _ => 0), gx_a q6 cI 300 (fun _ => 0), gx_a q7 cI 558 T0, gx_o q8 2 [some (some q9), none] (upd (fun _ => 0) 1 0), gx_a q9 cI 452 (fun _ => 0), gx_o q10 2 [some (some q11), none] (upd (fun _ => 0) 1 0), gx_a q11 cI 452 (fun _ => 0)]) C hin hw 0 rfl (k := 4) (Nat.le_of_ble_eq_true rfl) lf_X1_init_40 rfl rfl rfl dX1_init_58 (fun H locs hw => ?_)
  refine lv_aload_n hx hb dX1_init_61 rfl (lv_at hl 0 rfl) ?_
  refine gx_new (T := TX2) (N := 2) (ci := 2) (idx := 31) C hw tyX2 tyX2_ok (by decide +kernel) (by decide +kernel) (by decide +kernel) (by decide +kernel) rfl [some none, none] (by intro j hj; rcases (show j = 0 ∨ j = 1 by omega) with rfl | rfl <;> rfl) (by decide) (by decide) dX1_init_62 (fun q12 H hw => ?_)
  have hw : gx_W D A s [gx_o h_t 1 [some (some h_a1), some (some q1), some (some q2), some (some q8), some (some q10), some none, none, none, none] (fun _ => 0), gx_o q1 0 [some (some h_a1), none, none, none, none, none, none] (fun _ => 0), gx_o q2 4 [some (some h_a1), some (some q3), some (some q4), some (some q5), some (some q6), some (some q7), none] (upd (fun _ => 0) 6 0), gx_a q3 cI 300 (fun _ => 0), gx_a q4 cI 300 (fun _ => 0), gx_a q5 cI 300 (fun _ => 0), gx_a q6 cI 300 (fun _ => 0), gx_a q7 cI 558 T0, gx_o q8 2 [some (some q9), none] (upd (fun _ => 0) 1 0), gx_a q9 cI 452 (fun _ => 0), gx_o q10 2 [some (some q11), none] (upd (fun _ => 0) 1 0), gx_a q11 cI 452 (fun _ => 0), gx_o q12 2 [some none, none] (fun _ => 0)] H _ := hw
  refine W.cs (cells' := 12) (slots' := 2682) rfl rfl ?_
  refine lv_dup hx hb dX1_init_65 rfl ?_
  refine lv_sipush (v := 452) hx hb dX1_init_66 (by decide) ?_
  refine gx_callc (As := [.int 452]) (isC := [12]) (isR := [0, 1, 2, 3, 4, 5, 6, 7, 8, 9, 10, 11]) (mc := 1) (ms := 452) C hw (ct_X2_init l D cI cZ q12 452) ki_X1_init_33 ⟨rfl, rfl⟩ rfl rfl (by decide) (by decide) (by decide) rfl rfl hl.1 (Nat.le_of_ble_eq_true rfl) ⟨by decide, by decide⟩ dX1_init_69 (fun w1 H locs hw1 hw => ?_)
  obtain ⟨q13, rfl⟩ := hw1
  have hw : gx_W D A s [gx_o h_t 1 [some (some h_a1), some (some q1), some (some q2), some (some q8), some (some q10), some none, none, none, none] (fun _ => 0), gx_o q1 0 [some (some h_a1), none, none, none, none, none, none] (fun _ => 0), gx_o q2 4 [some (some h_a1), some (some q3), some (some q4), some (some q5), some (some q6), some (some q7), none] (upd (fun _ => 0) 6 0), gx_a q3 cI 300 (fun _ => 0), gx_a q4 cI 300 (fun _ => 0), gx_a q5 cI 300 (fun _ => 0), gx_a q6 cI 300 (fun _ => 0), gx_a q7 cI 558 T0, gx_o q8 2 [some (some q9), none] (upd (fun _ => 0) 1 0), gx_a q9 cI 452 (fun _ => 0), gx_o q10 2 [some (some q11), none] (upd (fun _ => 0) 1 0), gx_a q11 cI 452 (fun _ => 0), gx_o q12 2 [some (some q13), none] (upd (fun _ => 0) 1 0), gx_a q13 cI 452 (fun _ => 0)] H locs := hw
  refine W.cs (cells' := 13) (slots' := 3134) rfl rfl ?_
  refine gx_putF (ws' := [gx_o h_t 1 [some (some h_a1), some (some q1), some (some q2), some (some q8), some (some q10), some (some q12), none, none, none] (fun _ => 0), gx_o q1 0 [some (some h_a1), none, none, none, none, none, none] (fun _ => 0), gx_o q2 4 [some (some h_a1), some (some q3), some (some q4), some (some q5), some (some q6), some (some q7), none] (upd (fun _ => 0) 6 0), gx_a q3 cI 300 (fun _ => 0), gx_a q4 cI 300 (fun _ => 0), gx_a q5 cI 300 (fun _ => 0), gx_a q6 cI 300 (fun _ => 0), gx_a q7 cI 558 T0, gx_o q8 2 [some (some q9), none] (upd (fun _ => 0) 1 0), gx_a q9 cI 452 (fun _ => 0), gx_o q10 2 [some (some q11), none] (upd (fun _ => 0) 1 0), gx_a q11 cI 452 (fun _ => 0), gx_o q12 2 [some (some q13), none] (upd (fun _ => 0) 1 0), gx_a q13 cI 452 (fun _ => 0)]) C hin hw 0 rfl (k := 5) (Nat.le_of_ble_eq_true rfl) lf_X1_init_43 rfl rfl rfl dX1_init_72 (fun H locs hw => ?_)
  exact hQ _ _ _ _ _ dX1_init_75 ⟨q1, q2, q3, q4, q5, q6, q7, q8, q9, q10, q11, q12, q13, rfl⟩ hw
theorem lf_X6_init_9 : gx_LP wsX6_init RX6 9 6 0 true (.object "LzwForms$Rules") := ⟨_, _, _, tyX6, rfl, by decide +kernel, by decide, by decide +kernel, tyX6_ok, nmX6, by decide +kernel, by decide +kernel, by decide +kernel⟩
theorem lf_X6_init_15 : gx_LP wsX6_init RX6 15 6 1 true (.object "LzwForms$Tape") := ⟨_, _, _, tyX6, rfl, by decide +kernel, by decide, by decide +kernel, tyX6_ok, nmX6, by decide +kernel, by decide +kernel, by decide +kernel⟩
theorem ki_X6_init_21 : gx_KI wsX6_init RX6 21 yX0_init cX0_init 2 wsX0_init (gx_rmc 1 0 0) (gx_rmc 2 5 909) 1 := ⟨gX6_init_X0_init, ⟨_, rfl⟩, rfl, by decide +kernel, by decide +kernel, by decide +kernel, ⟨by decide, by decide, by decide +kernel⟩, ⟨by decide, by decide⟩⟩
theorem lf_X6_init_24 : gx_LP wsX6_init RX6 24 6 2 true (.object "LzwForms$Pace") := ⟨_, _, _, tyX6, rfl, by decide +kernel, by decide, by decide +kernel, tyX6_ok, nmX6, by decide +kernel, by decide +kernel, by decide +kernel⟩
theorem ki_X6_init_30 : gx_KI wsX6_init RX6 30 yX2_init cX2_init 2 wsX2_init (gx_rmc 1 1 300) (gx_rmc 2 5 909) 1 := ⟨gX6_init_X2_init, ⟨_, rfl⟩, rfl, by decide +kernel, by decide +kernel, by decide +kernel, ⟨by decide, by decide, by decide +kernel⟩, ⟨by decide, by decide⟩⟩
theorem lf_X6_init_33 : gx_LP wsX6_init RX6 33 6 3 true (.object "LzwForms$Row") := ⟨_, _, _, tyX6, rfl, by decide +kernel, by decide, by decide +kernel, tyX6_ok, nmX6, by decide +kernel, by decide +kernel, by decide +kernel⟩
theorem lf_X6_init_37 : gx_LP wsX6_init RX6 37 6 4 true (.array .int) := ⟨_, _, _, tyX6, rfl, by decide +kernel, by decide, by decide +kernel, tyX6_ok, nmX6, by decide +kernel, by decide +kernel, by decide +kernel⟩
theorem lf_X6_init_41 : gx_LP wsX6_init RX6 41 6 5 true (.array .int) := ⟨_, _, _, tyX6, rfl, by decide +kernel, by decide, by decide +kernel, tyX6_ok, nmX6, by decide +kernel, by decide +kernel, by decide +kernel⟩
set_option maxHeartbeats 4000000 in
set_option maxRecDepth 100000 in
theorem ct_X6_init (l : Launch) (D : va_G) (cI cZ : ClassId) (h_t h_a1 h_a2 : Nat) : gx_Mc l yX6_init wsX6_init (gx_rmc 2 5 909) D cI cZ [.ref h_t, .ref h_a1, .ref h_a2] [gx_o h_t 6 [some none, some none, some none, some none, some none, some none, none, none, none, none] (fun _ => 0)] (fun w' => ∃ q1 q2 q3 q4 q5 : Nat, w' = [gx_o h_t 6 [some (some h_a1), some (some h_a2), some (some q1), some (some q2), some (some q4), some (some q5), none, none, none, none] (fun _ => 0), gx_o q1 0 [some (some h_a1), none, none, none, none, none, none] (fun _ => 0), gx_o q2 2 [some (some q3), none] (upd (fun _ => 0) 1 0), gx_a q3 cI 300 (fun _ => 0), gx_a q4 cI 300 (fun _ => 0), gx_a q5 cI 300 (fun _ => 0)]) 5 909 := by
  refine gx_ofc (cc := cX6_init) (own := RX6) (by decide) rfl rfl (Nat.le_of_ble_eq_true rfl) [(0, .ref h_t), (1, .ref h_a1), (2, .ref h_a2)] rfl ?_
  intro p e s m args below meth c A Q ls hin C hQ hl hw
  have hx := C.1.1
  have hb := C.1.2.1
  refine lv_aload_n hx hb dX6_init_0 rfl (lv_at hl 0 rfl) ?_
  refine gx_objI C (idx := 3) (by decide +kernel) (by decide +kernel) (by decide +kernel) hl.1 dX6_init_1 (by decide) (Nat.le_of_ble_eq_true rfl) ?_
  refine lv_aload_n hx hb dX6_init_4 rfl (lv_at hl 0 rfl) ?_
  refine lv_aload_n hx hb dX6_init_5 rfl (lv_at hl 1 rfl) ?_
  refine gx_putF (ws' := [gx_o h_t 6 [some (some h_a1), some none, some none, some none, some none, some none, none, none, none, none] (fun _ => 0)]) C hin hw 0 rfl (k := 0) (Nat.le_of_ble_eq_true rfl) lf_X6_init_9 rfl rfl rfl dX6_init_6 (fun H locs hw => ?_)
  refine lv_aload_n hx hb dX6_init_9 rfl (lv_at hl 0 rfl) ?_
  refine lv_aload_n hx hb dX6_init_10 rfl (lv_at hl 2 rfl) ?_
  refine gx_putF (ws' := [gx_o h_t 6 [some (some h_a1), some (some h_a2), some none, some none, some none, some none, none, none, none, none] (fun _ => 0)]) C hin hw 0 rfl (k := 1) (Nat.le_of_ble_eq_true rfl) lf_X6_init_15 rfl rfl rfl dX6_init_11 (fun H locs hw => ?_)
  refine lv_aload_n hx hb dX6_init_14 rfl (lv_at hl 0 rfl) ?_
  refine gx_new (T := TX0) (N := 7) (ci := 0) (idx := 19) C hw tyX0 tyX0_ok (by decide +kernel) (by decide +kernel) (by decide +kernel) (by decide +kernel) rfl [some none, none, none, none, none, none, none] (by intro j hj; rcases (show j = 0 ∨ j = 1 ∨ j = 2 ∨ j = 3 ∨ j = 4 ∨ j = 5 ∨ j = 6 by omega) with rfl | rfl | rfl | rfl | rfl | rfl | rfl <;> rfl) (by decide) (by decide) dX6_init_15 (fun q1 H hw => ?_)
  have hw : gx_W D A s [gx_o h_t 6 [some (some h_a1), some (some h_a2), some none, some none, some none, some none, none, none, none, none] (fun _ => 0), gx_o q1 0 [some none, none, none, none, none, none, none] (fun _ => 0)] H _ := hw
  refine W.cs (cells' := 1) (slots' := 7) rfl rfl ?_
  refine lv_dup hx hb dX6_init_18 rfl ?_
  refine lv_aload_n hx hb dX6_init_19 rfl (lv_at hl 1 rfl) ?_
  refine gx_callc (As := [.ref h_a1]) (isC := [1]) (isR := [0]) (mc := 0) (ms := 0) C hw (ct_X0_init l D cI cZ q1 h_a1) ki_X6_init_21 ⟨rfl, rfl⟩ rfl rfl (by decide) (by decide) (by decide) rfl rfl hl.1 (Nat.le_of_ble_eq_true rfl) ⟨by decide, by decide⟩ dX6_init_20 (fun w1 H locs hw1 hw => ?_)
  obtain ⟨rfl⟩ := hw1
  have hw : gx_W D A s [gx_o h_t 6 [some (some h_a1), some (some h_a2), some none, some none, some none, some none, none, none, none, none] (fun _ => 0), gx_o q1 0 [some (some h_a1), none, none, none, none, none, none] (fun _ => 0)] H locs := hw
  refine W.cs (cells' := 1) (slots' := 7) rfl rfl ?_
  refine gx_putF (ws' := [gx_o h_t 6 [some (some h_a1), some (some h_a2), some (some q1), some none, some none, some none, none, none, none, none] (fun _ => 0), gx_o q1 0 [some (some h_a1), none, none, none, none, none, none] (fun _ => 0)]) C hin hw 0 rfl (k := 2) (Nat.le_of_ble_eq_true rfl) lf_X6_init_24 rfl rfl rfl dX6_init_23 (fun H locs hw => ?_)
  refine lv_aload_n hx hb dX6_init_26 rfl (lv_at hl 0 rfl) ?_
  refine gx_new (T := TX2) (N := 2) (ci := 2) (idx := 28) C hw tyX2 tyX2_ok (by decide +kernel) (by decide +kernel) (by decide +kernel) (by decide +kernel) rfl [some none, none] (by intro j hj; rcases (show j = 0 ∨ j = 1 by omega) with rfl | rfl <;> rfl) (by decide) (by decide) dX6_init_27 (fun q2 H hw => ?_)
  have hw : gx_W D A s [gx_o h_t 6 [some (some h_a1), some (some h_a2), some (some q1), some none, some none, some none, none, none, none, none] (fun _ => 0), gx_o q1 0 [some (some h_a1), none, none, none, none, none, none] (fun _ => 0), gx_o q2 2 [some none, none] (fun _ => 0)] H _ := hw
  refine W.cs (cells' := 2) (slots' := 9) rfl rfl ?_
  refine lv_dup hx hb dX6_init_30 rfl ?_
  refine lv_sipush (v := 300) hx hb dX6_init_31 (by decide) ?_
  refine gx_callc (As := [.int 300]) (isC := [2]) (isR := [0, 1]) (mc := 1) (ms := 300) C hw (ct_X2_init l D cI cZ q2 300) ki_X6_init_30 ⟨rfl, rfl⟩ rfl rfl (by decide) (by decide) (by decide) rfl rfl hl.1 (Nat.le_of_ble_eq_true rfl) ⟨by decide, by decide⟩ dX6_init_34 (fun w1 H locs hw1 hw => ?_)
  obtain ⟨q3, rfl⟩ := hw1
  have hw : gx_W D A s [gx_o h_t 6 [some (some h_a1), some (some h_a2), some (some q1), some none, some none, some none, none, none, none, none] (fun _ => 0), gx_o q1 0 [some (some h_a1), none, none, none, none, none, none] (fun _ => 0), gx_o q2 2 [some (some q3), none] (upd (fun _ => 0) 1 0), gx_a q3 cI 300 (fun _ => 0)] H locs := hw
  refine W.cs (cells' := 3) (slots' := 309) rfl rfl ?_
  refine gx_putF (ws' := [gx_o h_t 6 [some (some h_a1), some (some h_a2), some (some q1), some (some q2), some none, some none, none, none, none, none] (fun _ => 0), gx_o q1 0 [some (some h_a1), none, none, none, none, none, none] (fun _ => 0), gx_o q2 2 [some (some q3), none] (upd (fun _ => 0) 1 0), gx_a q3 cI 300 (fun _ => 0)]) C hin hw 0 rfl (k := 3) (Nat.le_of_ble_eq_true rfl) lf_X6_init_33 rfl rfl rfl dX6_init_37 (fun H locs hw => ?_)
  refine lv_aload_n hx hb dX6_init_40 rfl (lv_at hl 0 rfl) ?_
  refine lv_sipush (v := 300) hx hb dX6_init_41 (by decide) ?_
  refine gx_newI (N := 300) C hw (by decide +kernel) (by decide) (by decide) (by decide) (by decide) (by decide) dX6_init_44 (fun q4 H hw => ?_)
  have hw : gx_W D A s [gx_o h_t 6 [some (some h_a1), some (some h_a2), some (some q1), some (some q2), some none, some none, none, none, none, none] (fun _ => 0), gx_o q1 0 [some (some h_a1), none, none, none, none, none, none] (fun _ => 0), gx_o q2 2 [some (some q3), none] (upd (fun _ => 0) 1 0), gx_a q3 cI 300 (fun _ => 0), gx_a q4 cI 300 (fun _ => 0)] H _ := hw
  refine W.cs (cells' := 4) (slots' := 609) rfl rfl ?_
  refine gx_putF (ws' := [gx_o h_t 6 [some (some h_a1), some (some h_a2), some (some q1), some (some q2), some (some q4), some none, none, none, none, none] (fun _ => 0), gx_o q1 0 [some (some h_a1), none, none, none, none, none, none] (fun _ => 0), gx_o q2 2 [some (some q3), none] (upd (fun _ => 0) 1 0), gx_a q3 cI 300 (fun _ => 0), gx_a q4 cI 300 (fun _ => 0)]) C hin hw 0 rfl (k := 4) (Nat.le_of_ble_eq_true rfl) lf_X6_init_37 rfl rfl rfl dX6_init_46 (fun H locs hw => ?_)
  refine lv_aload_n hx hb dX6_init_49 rfl (lv_at hl 0 rfl) ?_
  refine lv_sipush (v := 300) hx hb dX6_init_50 (by decide) ?_
  refine gx_newI (N := 300) C hw (by decide +kernel) (by decide) (by decide) (by decide) (by decide) (by decide) dX6_init_53 (fun q5 H hw => ?_)
  have hw : gx_W D A s [gx_o h_t 6 [some (some h_a1), some (some h_a2), some (some q1), some (some q2), some (some q4), some none, none, none, none, none] (fun _ => 0), gx_o q1 0 [some (some h_a1), none, none, none, none, none, none] (fun _ => 0), gx_o q2 2 [some (some q3), none] (upd (fun _ => 0) 1 0), gx_a q3 cI 300 (fun _ => 0), gx_a q4 cI 300 (fun _ => 0), gx_a q5 cI 300 (fun _ => 0)] H _ := hw
  refine W.cs (cells' := 5) (slots' := 909) rfl rfl ?_
  refine gx_putF (ws' := [gx_o h_t 6 [some (some h_a1), some (some h_a2), some (some q1), some (some q2), some (some q4), some (some q5), none, none, none, none] (fun _ => 0), gx_o q1 0 [some (some h_a1), none, none, none, none, none, none] (fun _ => 0), gx_o q2 2 [some (some q3), none] (upd (fun _ => 0) 1 0), gx_a q3 cI 300 (fun _ => 0), gx_a q4 cI 300 (fun _ => 0), gx_a q5 cI 300 (fun _ => 0)]) C hin hw 0 rfl (k := 5) (Nat.le_of_ble_eq_true rfl) lf_X6_init_41 rfl rfl rfl dX6_init_55 (fun H locs hw => ?_)
  exact hQ _ _ _ _ _ dX6_init_58 ⟨q1, q2, q3, q4, q5, rfl⟩ hw
theorem ki_X7_init_11 : gx_KI wsX7_init RX7 11 yX3_init cX3_init 1 wsX3_init (gx_rmc 1 0 0) (gx_rmc 3 26 4780) 0 := ⟨gX7_init_X3_init, ⟨_, rfl⟩, rfl, by decide +kernel, by decide +kernel, by decide +kernel, ⟨by decide, by decide, by decide +kernel⟩, ⟨by decide, by decide⟩⟩
theorem ki_X7_init_14 : gx_KI wsX7_init RX7 14 yX5_init cX5_init 2 wsX5_init (gx_rmc 2 2 402) (gx_rmc 3 26 4780) 1 := ⟨gX7_init_X5_init, ⟨_, rfl⟩, rfl, by decide +kernel, by decide +kernel, by decide +kernel, ⟨by decide, by decide, by decide +kernel⟩, ⟨by decide, by decide⟩⟩
theorem lf_X7_init_17 : gx_LP wsX7_init RX7 17 7 0 true (.object "LzwForms$Rules") := ⟨_, _, _, tyX7, rfl, by decide +kernel, by decide, by decide +kernel, tyX7_ok, nmX7, by decide +kernel, by decide +kernel, by decide +kernel⟩
theorem ki_X7_init_23 : gx_KI wsX7_init RX7 23 yX2_init cX2_init 2 wsX2_init (gx_rmc 1 1 300) (gx_rmc 3 26 4780) 1 := ⟨gX7_init_X2_init, ⟨_, rfl⟩, rfl, by decide +kernel, by decide +kernel, by decide +kernel, ⟨by decide, by decide, by decide +kernel⟩, ⟨by decide, by decide⟩⟩
theorem lf_X7_init_26 : gx_LP wsX7_init RX7 26 7 1 true (.object "LzwForms$Row") := ⟨_, _, _, tyX7, rfl, by decide +kernel, by decide, by decide +kernel, tyX7_ok, nmX7, by decide +kernel, by decide +kernel, by decide +kernel⟩
theorem lf_X7_init_30 : gx_LP wsX7_init RX7 30 7 2 true (.object "LzwForms$Tape") := ⟨_, _, _, tyX7, rfl, by decide +kernel, by decide, by decide +kernel, tyX7_ok, nmX7, by decide +kernel, by decide +kernel, by decide +kernel⟩
theorem ki_X7_init_36 : gx_KI wsX7_init RX7 36 yX1_init cX1_init 2 wsX1_init (gx_rmc 2 13 3134) (gx_rmc 3 26 4780) 1 := ⟨gX7_init_X1_init, ⟨_, rfl⟩, rfl, by decide +kernel, by decide +kernel, by decide +kernel, ⟨by decide, by decide, by decide +kernel⟩, ⟨by decide, by decide⟩⟩
theorem lf_X7_init_37 : gx_LP wsX7_init RX7 37 7 3 true (.object "LzwForms$Packer") := ⟨_, _, _, tyX7, rfl, by decide +kernel, by decide, by decide +kernel, tyX7_ok, nmX7, by decide +kernel, by decide +kernel, by decide +kernel⟩
theorem ki_X7_init_43 : gx_KI wsX7_init RX7 43 yX6_init cX6_init 3 wsX6_init (gx_rmc 2 5 909) (gx_rmc 3 26 4780) 2 := ⟨gX7_init_X6_init, ⟨_, rfl⟩, rfl, by decide +kernel, by decide +kernel, by decide +kernel, ⟨by decide, by decide, by decide +kernel⟩, ⟨by decide, by decide⟩⟩
theorem lf_X7_init_46 : gx_LP wsX7_init RX7 46 7 4 true (.object "LzwForms$Unpacker") := ⟨_, _, _, tyX7, rfl, by decide +kernel, by decide, by decide +kernel, tyX7_ok, nmX7, by decide +kernel, by decide +kernel, by decide +kernel⟩
theorem lp_X7_init_50 : gx_LP wsX7_init RX7 50 7 5 false .boolean := ⟨_, _, _, tyX7, rfl, by decide +kernel, by decide, by decide +kernel, tyX7_ok, nmX7, by decide +kernel, by decide +kernel, by decide +kernel⟩
theorem lp_X7_init_54 : gx_LP wsX7_init RX7 54 7 6 false .int := ⟨_, _, _, tyX7, rfl, by decide +kernel, by decide, by decide +kernel, tyX7_ok, nmX7, by decide +kernel, by decide +kernel, by decide +kernel⟩
set_option maxHeartbeats 4000000 in
set_option maxRecDepth 100000 in
theorem ct_X7_init (l : Launch) (D : va_G) (cI cZ : ClassId) (h_t : Nat) {R0 : Nat → Int32} (hR : fn_X3_become (fun _ => 0) 0 8 12 1 = some R0) {T0 : Nat → Int32} (hT : fn_X4_fill gx_fuel (fun _ => 0) 0 = some T0) : gx_Mc l yX7_init wsX7_init (gx_rmc 3 26 4780) D cI cZ [.ref h_t] [gx_o h_t 7 [some none, some none, some none, some none, some none, none, none] (fun _ => 0)] (fun w' => ∃ q1 q2 q3 q4 q5 q6 q7 q8 q9 q10 q11 q12 q13 q14 q15 q16 q17 q18 q19 q20 q21 q22 q23 q24 q25 q26 : Nat, w' = [gx_o h_t 7 [some (some q1), some (some q5), some (some q2), some (some q7), some (some q21), none, none] (upd (upd (fun _ => 0) 5 0) 6 (-1)), gx_o q1 3 [none, none, none, none, none, none, none, none, none, none, none, none] R0, gx_o q2 5 [some (some q1), some (some q3)] (fun _ => 0), gx_o q3 2 [some (some q4), none] (upd (fun _ => 0) 1 0), gx_a q4 cI 400 (fun _ => 0), gx_o q5 2 [some (some q6), none] (upd (fun _ => 0) 1 0), gx_a q6 cI 300 (fun _ => 0), gx_o q7 1 [some (some q1), some (some q8), some (some q9), some (some q15), some (some q17), some (some q19), none, none, none] (fun _ => 0), gx_o q8 0 [some (some q1), none, none, none, none, none, none] (fun _ => 0), gx_o q9 4 [some (some q1), some (some q10), some (some q11), some (some q12), some (some q13), some (some q14), none] (upd (fun _ => 0) 6 0), gx_a q10 cI 300 (fun _ => 0), gx_a q11 cI 300 (fun _ => 0), gx_a q12 cI 300 (fun _ => 0), gx_a q13 cI 300 (fun _ => 0), gx_a q14 cI 558 T0, gx_o q15 2 [some (some q16), none] (upd (fun _ => 0) 1 0), gx_a q16 cI 452 (fun _ => 0), gx_o q17 2 [some (some q18), none] (upd (fun _ => 0) 1 0), gx_a q18 cI 452 (fun _ => 0), gx_o q19 2 [some (some q20), none] (upd (fun _ => 0) 1 0), gx_a q20 cI 452 (fun _ => 0), gx_o q21 6 [some (some q1), some (some q2), some (some q22), some (some q23), some (some q25), some (some q26), none, none, none, none] (fun _ => 0), gx_o q22 0 [some (some q1), none, none, none, none, none, none] (fun _ => 0), gx_o q23 2 [some (some q24), none] (upd (fun _ => 0) 1 0), gx_a q24 cI 300 (fun _ => 0), gx_a q25 cI 300 (fun _ => 0), gx_a q26 cI 300 (fun _ => 0)]) 26 4780 := by
  refine gx_ofc (cc := cX7_init) (own := RX7) (by decide) rfl rfl (Nat.le_of_ble_eq_true rfl) [(0, .ref h_t)] rfl ?_
  intro p e s m args below meth c A Q ls hin C hQ hl hw
  have hx := C.1.1
  have hb := C.1.2.1
  refine lv_aload_n hx hb dX7_init_0 rfl (lv_at hl 0 rfl) ?_
  refine gx_objI C (idx := 3) (by decide +kernel) (by decide +kernel) (by decide +kernel) hl.1 dX7_init_1 (by decide) (Nat.le_of_ble_eq_true rfl) ?_
  refine gx_new (T := TX3) (N := 12) (ci := 3) (idx := 9) C hw tyX3 tyX3_ok (by decide +kernel) (by decide +kernel) (by decide +kernel) (by decide +kernel) rfl [none, none, none, none, none, none, none, none, none, none, none, none] (by intro j hj; rcases (show j = 0 ∨ j = 1 ∨ j = 2 ∨ j = 3 ∨ j = 4 ∨ j = 5 ∨ j = 6 ∨ j = 7 ∨ j = 8 ∨ j = 9 ∨ j = 10 ∨ j = 11 by omega) with rfl | rfl | rfl | rfl | rfl | rfl | rfl | rfl | rfl | rfl | rfl | rfl <;> rfl) (by decide) (by decide) dX7_init_4 (fun q1 H hw => ?_)
  have hw : gx_W D A s [gx_o h_t 7 [some none, some none, some none, some none, some none, none, none] (fun _ => 0), gx_o q1 3 [none, none, none, none, none, none, none, none, none, none, none, none] (fun _ => 0)] H _ := hw
  refine W.cs (cells' := 1) (slots' := 12) rfl rfl ?_
  refine lv_dup hx hb dX7_init_7 rfl ?_
  refine gx_callc (As := []) (isC := [1]) (isR := [0]) (mc := 0) (ms := 0) C hw (ct_X3_init l D cI cZ q1 hR) ki_X7_init_11 ⟨rfl, rfl⟩ rfl rfl (by decide) (by decide) (by decide) rfl rfl hl.1 (Nat.le_of_ble_eq_true rfl) ⟨by decide, by decide⟩ dX7_init_8 (fun w1 H locs hw1 hw => ?_)
  obtain ⟨rfl⟩ := hw1
  have hw : gx_W D A s [gx_o h_t 7 [some none, some none, some none, some none, some none, none, none] (fun _ => 0), gx_o q1 3 [none, none, none, none, none, none, none, none, none, none, none, none] R0] H locs := hw
  refine W.cs (cells' := 1) (slots' := 12) rfl rfl ?_
  refine lv_astore_n (lv' := [(1, .ref q1), (0, .ref h_t)]) hx hb dX7_init_11 rfl hl (by decide) rfl (fun ls hl => ?_)
  refine gx_new (T := TX5) (N := 2) (ci := 5) (idx := 12) C hw tyX5 tyX5_ok (by decide +kernel) (by decide +kernel) (by decide +kernel) (by decide +kernel) rfl [some none, some none] (by intro j hj; rcases (show j = 0 ∨ j = 1 by omega) with rfl | rfl <;> rfl) (by decide) (by decide) dX7_init_12 (fun q2 H hw => ?_)
  have hw : gx_W D A s [gx_o h_t 7 [some none, some none, some none, some none, some none, none, none] (fun _ => 0), gx_o q1 3 [none, none, none, none, none, none, none, none, none, none, none, none] R0, gx_o q2 5 [some none, some none] (fun _ => 0)] H _ := hw
  refine W.cs (cells' := 2) (slots' := 14) rfl rfl ?_
  refine lv_dup hx hb dX7_init_15 rfl ?_
  refine lv_aload_n hx hb dX7_init_16 rfl (lv_at hl 0 rfl) ?_
  refine gx_callc (As := [.ref q1]) (isC := [2]) (isR := [0, 1]) (mc := 2) (ms := 402) C hw (ct_X5_init l D cI cZ q2 q1) ki_X7_init_14 ⟨rfl, rfl⟩ rfl rfl (by decide) (by decide) (by decide) rfl rfl hl.1 (Nat.le_of_ble_eq_true rfl) ⟨by decide, by decide⟩ dX7_init_17 (fun w1 H locs hw1 hw => ?_)
  obtain ⟨q3, q4, rfl⟩ := hw1
  have hw : gx_W D A s [gx_o h_t 7 [some none, some none, some none, some none, some none, none, none] (fun _ => 0), gx_o q1 3 [none, none, none, none, none, none, none, none, none, none, none, none] R0, gx_o q2 5 [some (some q1), some (some q3)] (fun _ => 0), gx_o q3 2 [some (some q4), none] (upd (fun _ => 0) 1 0), gx_a q4 cI 400 (fun _ => 0)] H locs := hw
  refine W.cs (cells' := 4) (slots' := 416) rfl rfl ?_
  refine lv_astore_n (lv' := [(2, .ref q2), (1, .ref q1), (0, .ref h_t)]) hx hb dX7_init_20 rfl hl (by decide) rfl (fun ls hl => ?_)
  refine lv_aload_n hx hb dX7_init_21 rfl (lv_at hl 2 rfl) ?_
  refine lv_aload_n hx hb dX7_init_22 rfl (lv_at hl 1 rfl) ?_
  refine gx_putF (ws' := [gx_o h_t 7 [some (some q1), some none, some none, some none, some none, none, none] (fun _ => 0), gx_o q1 3 [none, none, none, none, none, none, none, none, none, none, none, none] R0, gx_o q2 5 [some (some q1), some (some q3)] (fun _ => 0), gx_o q3 2 [some (some q4), none] (upd (fun _ => 0) 1 0), gx_a q4 cI 400 (fun _ => 0)]) C hin hw 0 rfl (k := 0) (Nat.le_of_ble_eq_true rfl) lf_X7_init_17 rfl rfl rfl dX7_init_23 (fun H locs hw => ?_)
  refine lv_aload_n hx hb dX7_init_26 rfl (lv_at hl 2 rfl) ?_
  refine gx_new (T := TX2) (N := 2) (ci := 2) (idx := 21) C hw tyX2 tyX2_ok (by decide +kernel) (by decide +kernel) (by decide +kernel) (by decide +kernel) rfl [some none, none] (by intro j hj; rcases (show j = 0 ∨ j = 1 by omega) with rfl | rfl <;> rfl) (by decide) (by decide) dX7_init_27 (fun q5 H hw => ?_)
  have hw : gx_W D A s [gx_o h_t 7 [some (some q1), some none, some none, some none, some none, none, none] (fun _ => 0), gx_o q1 3 [none, none, none, none, none, none, none, none, none, none, none, none] R0, gx_o q2 5 [some (some q1), some (some q3)] (fun _ => 0), gx_o q3 2 [some (some q4), none] (upd (fun _ => 0) 1 0), gx_a q4 cI 400 (fun _ => 0), gx_o q5 2 [some none, none] (fun _ => 0)] H _ := hw
  refine W.cs (cells' := 5) (slots' := 418) rfl rfl ?_
  refine lv_dup hx hb dX7_init_30 rfl ?_
  refine lv_sipush (v := 300) hx hb dX7_init_31 (by decide) ?_
  refine gx_callc (As := [.int 300]) (isC := [5]) (isR := [0, 1, 2, 3, 4]) (mc := 1) (ms := 300) C hw (ct_X2_init l D cI cZ q5 300) ki_X7_init_23 ⟨rfl, rfl⟩ rfl rfl (by decide) (by decide) (by decide) rfl rfl hl.1 (Nat.le_of_ble_eq_true rfl) ⟨by decide, by decide⟩ dX7_init_34 (fun w1 H locs hw1 hw => ?_)
  obtain ⟨q6, rfl⟩ := hw1
  have hw : gx_W D A s [gx_o h_t 7 [some (some q1), some none, some none, some none, some none, none, none] (fun _ => 0), gx_o q1 3 [none, none, none, none, none, none, none, none, none, none, none, none] R0, gx_o q2 5 [some (some q1), some (some q3)] (fun _ => 0), gx_o q3 2 [some (some q4), none] (upd (fun _ => 0) 1 0), gx_a q4 cI 400 (fun _ => 0), gx_o q5 2 [some (some q6), none] (upd (fun _ => 0) 1 0), gx_a q6 cI 300 (fun _ => 0)] H locs := hw
  refine W.cs (cells' := 6) (slots' := 718) rfl rfl ?_
  refine gx_putF (ws' := [gx_o h_t 7 [some (some q1), some (some q5), some none, some none, some none, none, none] (fun _ => 0), gx_o q1 3 [none, none, none, none, none, none, none, none, none, none, none, none] R0, gx_o q2 5 [some (some q1), some (some q3)] (fun _ => 0), gx_o q3 2 [some (some q4), none] (upd (fun _ => 0) 1 0), gx_a q4 cI 400 (fun _ => 0), gx_o q5 2 [some (some q6), none] (upd (fun _ => 0) 1 0), gx_a q6 cI 300 (fun _ => 0)]) C hin hw 0 rfl (k := 1) (Nat.le_of_ble_eq_true rfl) lf_X7_init_26 rfl rfl rfl dX7_init_37 (fun H locs hw => ?_)
  refine lv_aload_n hx hb dX7_init_40 rfl (lv_at hl 2 rfl) ?_
  refine lv_aload_n hx hb dX7_init_41 rfl (lv_at hl 0 rfl) ?_
  refine gx_putF (ws' := [gx_o h_t 7 [some (some q1), some (some q5), some (some q2), some none, some none, none, none] (fun _ => 0), gx_o q1 3 [none, none, none, none, none, none, none, none, none, none, none, none] R0, gx_o q2 5 [some (some q1), some (some q3)] (fun _ => 0), gx_o q3 2 [some (some q4), none] (upd (fun _ => 0) 1 0), gx_a q4 cI 400 (fun _ => 0), gx_o q5 2 [some (some q6), none] (upd (fun _ => 0) 1 0), gx_a q6 cI 300 (fun _ => 0)]) C hin hw 0 rfl (k := 2) (Nat.le_of_ble_eq_true rfl) lf_X7_init_30 rfl rfl rfl dX7_init_42 (fun H locs hw => ?_)
  refine lv_aload_n hx hb dX7_init_45 rfl (lv_at hl 2 rfl) ?_
  refine gx_new (T := TX1) (N := 9) (ci := 1) (idx := 34) C hw tyX1 tyX1_ok (by decide +kernel) (by decide +kernel) (by decide +kernel) (by decide +kernel) rfl [some none, some none, some none, some none, some none, some none, none, none, none] (by intro j hj; rcases (show j = 0 ∨ j = 1 ∨ j = 2 ∨ j = 3 ∨ j = 4 ∨ j = 5 ∨ j = 6 ∨ j = 7 ∨ j = 8 by omega) with rfl | rfl | rfl | rfl | rfl | rfl | rfl | rfl | rfl <;> rfl) (by decide) (by decide) dX7_init_46 (fun q7 H hw => ?_)
  have hw : gx_W D A s [gx_o h_t 7 [some (some q1), some (some q5), some (some q2), some none, some none, none, none] (fun _ => 0), gx_o q1 3 [none, none, none, none, none, none, none, none, none, none, none, none] R0, gx_o q2 5 [some (some q1), some (some q3)] (fun _ => 0), gx_o q3 2 [some (some q4), none] (upd (fun _ => 0) 1 0), gx_a q4 cI 400 (fun _ => 0), gx_o q5 2 [some (some q6), none] (upd (fun _ => 0) 1 0), gx_a q6 cI 300 (fun _ => 0), gx_o q7 1 [some none, some none, some none, some none, some none, some none, none, none, none] (fun _ => 0)] H _ := hw
  refine W.cs (cells' := 7) (slots' := 727) rfl rfl ?_
  refine lv_dup hx hb dX7_init_49 rfl ?_
  refine lv_aload_n hx hb dX7_init_50 rfl (lv_at hl 1 rfl) ?_
  refine gx_callc (As := [.ref q1]) (isC := [7]) (isR := [0, 1, 2, 3, 4, 5, 6]) (mc := 13) (ms := 3134) C hw (ct_X1_init l D cI cZ q7 q1 hT) ki_X7_init_36 ⟨rfl, rfl⟩ rfl rfl (by decide) (by decide) (by decide) rfl rfl hl.1 (Nat.le_of_ble_eq_true rfl) ⟨by decide, by decide⟩ dX7_init_51 (fun w1 H locs hw1 hw => ?_)
  obtain ⟨q8, q9, q10, q11, q12, q13, q14, q15, q16, q17, q18, q19, q20, rfl⟩ := hw1
  have hw : gx_W D A s [gx_o h_t 7 [some (some q1), some (some q5), some (some q2), some none, some none, none, none] (fun _ => 0), gx_o q1 3 [none, none, none, none, none, none, none, none, none, none, none, none] R0, gx_o q2 5 [some (some q1), some (some q3)] (fun _ => 0), gx_o q3 2 [some (some q4), none] (upd (fun _ => 0) 1 0), gx_a q4 cI 400 (fun _ => 0), gx_o q5 2 [some (some q6), none] (upd (fun _ => 0) 1 0), gx_a q6 cI 300 (fun _ => 0), gx_o q7 1 [some (some q1), some (some q8), some (some q9), some (some q15), some (some q17), some (some q19), none, none, none] (fun _ => 0), gx_o q8 0 [some (some q1), none, none, none, none, none, none] (fun _ => 0), gx_o q9 4 [some (some q1), some (some q10), some (some q11), some (some q12), some (some q13), some (some q14), none] (upd (fun _ => 0) 6 0), gx_a q10 cI 300 (fun _ => 0), gx_a q11 cI 300 (fun _ => 0), gx_a q12 cI 300 (fun _ => 0), gx_a q13 cI 300 (fun _ => 0), gx_a q14 cI 558 T0, gx_o q15 2 [some (some q16), none] (upd (fun _ => 0) 1 0), gx_a q16 cI 452 (fun _ => 0), gx_o q17 2 [some (some q18), none] (upd (fun _ => 0) 1 0), gx_a q18 cI 452 (fun _ => 0), gx_o q19 2 [some (some q20), none] (upd (fun _ => 0) 1 0), gx_a q20 cI 452 (fun _ => 0)] H locs := hw
  refine W.cs (cells' := 20) (slots' := 3861) rfl rfl ?_
  refine gx_putF (ws' := [gx_o h_t 7 [some (some q1), some (some q5), some (some q2), some (some q7), some none, none, none] (fun _ => 0), gx_o q1 3 [none, none, none, none, none, none, none, none, none, none, none, none] R0, gx_o q2 5 [some (some q1), some (some q3)] (fun _ => 0), gx_o q3 2 [some (some q4), none] (upd (fun _ => 0) 1 0), gx_a q4 cI 400 (fun _ => 0), gx_o q5 2 [some (some q6), none] (upd (fun _ => 0) 1 0), gx_a q6 cI 300 (fun _ => 0), gx_o q7 1 [some (some q1), some (some q8), some (some q9), some (some q15), some (some q17), some (some q19), none, none, none] (fun _ => 0), gx_o q8 0 [some (some q1), none, none, none, none, none, none] (fun _ => 0), gx_o q9 4 [some (some q1), some (some q10), some (some q11), some (some q12), some (some q13), some (some q14), none] (upd (fun _ => 0) 6 0), gx_a q10 cI 300 (fun _ => 0), gx_a q11 cI 300 (fun _ => 0), gx_a q12 cI 300 (fun _ => 0), gx_a q13 cI 300 (fun _ => 0), gx_a q14 cI 558 T0, gx_o q15 2 [some (some q16), none] (upd (fun _ => 0) 1 0), gx_a q16 cI 452 (fun _ => 0), gx_o q17 2 [some (some q18), none] (upd (fun _ => 0) 1 0), gx_a q18 cI 452 (fun _ => 0), gx_o q19 2 [some (some q20), none] (upd (fun _ => 0) 1 0), gx_a q20 cI 452 (fun _ => 0)]) C hin hw 0 rfl (k := 3) (Nat.le_of_ble_eq_true rfl) lf_X7_init_37 rfl rfl rfl dX7_init_54 (fun H locs hw => ?_)
  refine lv_aload_n hx hb dX7_init_57 rfl (lv_at hl 2 rfl) ?_
  refine gx_new (T := TX6) (N := 10) (ci := 6) (idx := 41) C hw tyX6 tyX6_ok (by decide +kernel) (by decide +kernel) (by decide +kernel) (by decide +kernel) rfl [some none, some none, some none, some none, some none, some none, none, none, none, none] (by intro j hj; rcases (show j = 0 ∨ j = 1 ∨ j = 2 ∨ j = 3 ∨ j = 4 ∨ j = 5 ∨ j = 6 ∨ j = 7 ∨ j = 8 ∨ j = 9 by omega) with rfl | rfl | rfl | rfl | rfl | rfl | rfl | rfl | rfl | rfl <;> rfl) (by decide) (by decide) dX7_init_58 (fun q21 H hw => ?_)
  have hw : gx_W D A s [gx_o h_t 7 [some (some q1), some (some q5), some (some q2), some (some q7), some none, none, none] (fun _ => 0), gx_o q1 3 [none, none, none, none, none, none, none, none, none, none, none, none] R0, gx_o q2 5 [some (some q1), some (some q3)] (fun _ => 0), gx_o q3 2 [some (some q4), none] (upd (fun _ => 0) 1 0), gx_a q4 cI 400 (fun _ => 0), gx_o q5 2 [some (some q6), none] (upd (fun _ => 0) 1 0), gx_a q6 cI 300 (fun _ => 0), gx_o q7 1 [some (some q1), some (some q8), some (some q9), some (some q15), some (some q17), some (some q19), none, none, none] (fun _ => 0), gx_o q8 0 [some (some q1), none, none, none, none, none, none] (fun _ => 0), gx_o q9 4 [some (some q1), some (some q10), some (some q11), some (some q12), some (some q13), some (some q14), none] (upd (fun _ => 0) 6 0), gx_a q10 cI 300 (fun _ => 0), gx_a q11 cI 300 (fun _ => 0), gx_a q12 cI 300 (fun _ => 0), gx_a q13 cI 300 (fun _ => 0), gx_a q14 cI 558 T0, gx_o q15 2 [some (some q16), none] (upd (fun _ => 0) 1 0), gx_a q16 cI 452 (fun _ => 0), gx_o q17 2 [some (some q18), none] (upd (fun _ => 0) 1 0), gx_a q18 cI 452 (fun _ => 0), gx_o q19 2 [some (some q20), none] (upd (fun _ => 0) 1 0), gx_a q20 cI 452 (fun _ => 0), gx_o q21 6 [some none, some none, some none, some none, some none, some none, none, none, none, none] (fun _ => 0)] H _ := hw
  refine W.cs (cells' := 21) (slots' := 3871) rfl rfl ?_
  refine lv_dup hx hb dX7_init_61 rfl ?_
  refine lv_aload_n hx hb dX7_init_62 rfl (lv_at hl 1 rfl) ?_
  refine lv_aload_n hx hb dX7_init_63 rfl (lv_at hl 0 rfl) ?_
  refine gx_callc (As := [.ref q1, .ref q2]) (isC := [21]) (isR := [0, 1, 2, 3, 4, 5, 6, 7, 8, 9, 10, 11, 12, 13, 14, 15, 16, 17, 18, 19, 20]) (mc := 5) (ms := 909) C hw (ct_X6_init l D cI cZ q21 q1 q2) ki_X7_init_43 ⟨rfl, rfl⟩ rfl rfl (by decide) (by decide) (by decide) rfl rfl hl.1 (Nat.le_of_ble_eq_true rfl) ⟨by decide, by decide⟩ dX7_init_64 (fun w1 H locs hw1 hw => ?_)
  obtain ⟨q22, q23, q24, q25, q26, rfl⟩ := hw1
  have hw : gx_W D A s [gx_o h_t 7 [some (some q1), some (some q5), some (some q2), some (some q7), some none, none, none] (fun _ => 0), gx_o q1 3 [none, none, none, none, none, none, none, none, none, none, none, none] R0, gx_o q2 5 [some (some q1), some (some q3)] (fun _ => 0), gx_o q3 2 [some (some q4), none] (upd (fun _ => 0) 1 0), gx_a q4 cI 400 (fun _ => 0), gx_o q5 2 [some (some q6), none] (upd (fun _ => 0) 1 0), gx_a q6 cI 300 (fun _ => 0), gx_o q7 1 [some (some q1), some (some q8), some (some q9), some (some q15), some (some q17), some (some q19), none, none, none] (fun _ => 0), gx_o q8 0 [some (some q1), none, none, none, none, none, none] (fun _ => 0), gx_o q9 4 [some (some q1), some (some q10), some (some q11), some (some q12), some (some q13), some (some q14), none] (upd (fun _ => 0) 6 0), gx_a q10 cI 300 (fun _ => 0), gx_a q11 cI 300 (fun _ => 0), gx_a q12 cI 300 (fun _ => 0), gx_a q13 cI 300 (fun _ => 0), gx_a q14 cI 558 T0, gx_o q15 2 [some (some q16), none] (upd (fun _ => 0) 1 0), gx_a q16 cI 452 (fun _ => 0), gx_o q17 2 [some (some q18), none] (upd (fun _ => 0) 1 0), gx_a q18 cI 452 (fun _ => 0), gx_o q19 2 [some (some q20), none] (upd (fun _ => 0) 1 0), gx_a q20 cI 452 (fun _ => 0), gx_o q21 6 [some (some q1), some (some q2), some (some q22), some (some q23), some (some q25), some (some q26), none, none, none, none] (fun _ => 0), gx_o q22 0 [some (some q1), none, none, none, none, none, none] (fun _ => 0), gx_o q23 2 [some (some q24), none] (upd (fun _ => 0) 1 0), gx_a q24 cI 300 (fun _ => 0), gx_a q25 cI 300 (fun _ => 0), gx_a q26 cI 300 (fun _ => 0)] H locs := hw
  refine W.cs (cells' := 26) (slots' := 4780) rfl rfl ?_
  refine gx_putF (ws' := [gx_o h_t 7 [some (some q1), some (some q5), some (some q2), some (some q7), some (some q21), none, none] (fun _ => 0), gx_o q1 3 [none, none, none, none, none, none, none, none, none, none, none, none] R0, gx_o q2 5 [some (some q1), some (some q3)] (fun _ => 0), gx_o q3 2 [some (some q4), none] (upd (fun _ => 0) 1 0), gx_a q4 cI 400 (fun _ => 0), gx_o q5 2 [some (some q6), none] (upd (fun _ => 0) 1 0), gx_a q6 cI 300 (fun _ => 0), gx_o q7 1 [some (some q1), some (some q8), some (some q9), some (some q15), some (some q17), some (some q19), none, none, none] (fun _ => 0), gx_o q8 0 [some (some q1), none, none, none, none, none, none] (fun _ => 0), gx_o q9 4 [some (some q1), some (some q10), some (some q11), some (some q12), some (some q13), some (some q14), none] (upd (fun _ => 0) 6 0), gx_a q10 cI 300 (fun _ => 0), gx_a q11 cI 300 (fun _ => 0), gx_a q12 cI 300 (fun _ => 0), gx_a q13 cI 300 (fun _ => 0), gx_a q14 cI 558 T0, gx_o q15 2 [some (some q16), none] (upd (fun _ => 0) 1 0), gx_a q16 cI 452 (fun _ => 0), gx_o q17 2 [some (some q18), none] (upd (fun _ => 0) 1 0), gx_a q18 cI 452 (fun _ => 0), gx_o q19 2 [some (some q20), none] (upd (fun _ => 0) 1 0), gx_a q20 cI 452 (fun _ => 0), gx_o q21 6 [some (some q1), some (some q2), some (some q22), some (some q23), some (some q25), some (some q26), none, none, none, none] (fun _ => 0), gx_o q22 0 [some (some q1), none, none, none, none, none, none] (fun _ => 0), gx_o q23 2 [some (some q24), none] (upd (fun _ => 0) 1 0), gx_a q24 cI 300 (fun _ => 0), gx_a q25 cI 300 (fun _ => 0), gx_a q26 cI 300 (fun _ => 0)]) C hin hw 0 rfl (k := 4) (Nat.le_of_ble_eq_true rfl) lf_X7_init_46 rfl rfl rfl dX7_init_67 (fun H locs hw => ?_)
  refine lv_aload_n hx hb dX7_init_70 rfl (lv_at hl 2 rfl) ?_
  refine lv_iconst (v := 0) hx hb dX7_init_71 (by decide) ?_
  refine gx_put (ws' := [gx_o h_t 7 [some (some q1), some (some q5), some (some q2), some (some q7), some (some q21), none, none] (upd (fun _ => 0) 5 0), gx_o q1 3 [none, none, none, none, none, none, none, none, none, none, none, none] R0, gx_o q2 5 [some (some q1), some (some q3)] (fun _ => 0), gx_o q3 2 [some (some q4), none] (upd (fun _ => 0) 1 0), gx_a q4 cI 400 (fun _ => 0), gx_o q5 2 [some (some q6), none] (upd (fun _ => 0) 1 0), gx_a q6 cI 300 (fun _ => 0), gx_o q7 1 [some (some q1), some (some q8), some (some q9), some (some q15), some (some q17), some (some q19), none, none, none] (fun _ => 0), gx_o q8 0 [some (some q1), none, none, none, none, none, none] (fun _ => 0), gx_o q9 4 [some (some q1), some (some q10), some (some q11), some (some q12), some (some q13), some (some q14), none] (upd (fun _ => 0) 6 0), gx_a q10 cI 300 (fun _ => 0), gx_a q11 cI 300 (fun _ => 0), gx_a q12 cI 300 (fun _ => 0), gx_a q13 cI 300 (fun _ => 0), gx_a q14 cI 558 T0, gx_o q15 2 [some (some q16), none] (upd (fun _ => 0) 1 0), gx_a q16 cI 452 (fun _ => 0), gx_o q17 2 [some (some q18), none] (upd (fun _ => 0) 1 0), gx_a q18 cI 452 (fun _ => 0), gx_o q19 2 [some (some q20), none] (upd (fun _ => 0) 1 0), gx_a q20 cI 452 (fun _ => 0), gx_o q21 6 [some (some q1), some (some q2), some (some q22), some (some q23), some (some q25), some (some q26), none, none, none, none] (fun _ => 0), gx_o q22 0 [some (some q1), none, none, none, none, none, none] (fun _ => 0), gx_o q23 2 [some (some q24), none] (upd (fun _ => 0) 1 0), gx_a q24 cI 300 (fun _ => 0), gx_a q25 cI 300 (fun _ => 0), gx_a q26 cI 300 (fun _ => 0)]) C hw 0 rfl rfl lp_X7_init_50 (gx_nb (Or.inl rfl)) (gx_fb (Or.inl rfl)) rfl dX7_init_72 (fun H locs hw => ?_)
  refine lv_aload_n hx hb dX7_init_75 rfl (lv_at hl 2 rfl) ?_
  refine lv_iconst (v := (-1)) hx hb dX7_init_76 (by decide) ?_
  refine gx_put (ws' := [gx_o h_t 7 [some (some q1), some (some q5), some (some q2), some (some q7), some (some q21), none, none] (upd (upd (fun _ => 0) 5 0) 6 (-1)), gx_o q1 3 [none, none, none, none, none, none, none, none, none, none, none, none] R0, gx_o q2 5 [some (some q1), some (some q3)] (fun _ => 0), gx_o q3 2 [some (some q4), none] (upd (fun _ => 0) 1 0), gx_a q4 cI 400 (fun _ => 0), gx_o q5 2 [some (some q6), none] (upd (fun _ => 0) 1 0), gx_a q6 cI 300 (fun _ => 0), gx_o q7 1 [some (some q1), some (some q8), some (some q9), some (some q15), some (some q17), some (some q19), none, none, none] (fun _ => 0), gx_o q8 0 [some (some q1), none, none, none, none, none, none] (fun _ => 0), gx_o q9 4 [some (some q1), some (some q10), some (some q11), some (some q12), some (some q13), some (some q14), none] (upd (fun _ => 0) 6 0), gx_a q10 cI 300 (fun _ => 0), gx_a q11 cI 300 (fun _ => 0), gx_a q12 cI 300 (fun _ => 0), gx_a q13 cI 300 (fun _ => 0), gx_a q14 cI 558 T0, gx_o q15 2 [some (some q16), none] (upd (fun _ => 0) 1 0), gx_a q16 cI 452 (fun _ => 0), gx_o q17 2 [some (some q18), none] (upd (fun _ => 0) 1 0), gx_a q18 cI 452 (fun _ => 0), gx_o q19 2 [some (some q20), none] (upd (fun _ => 0) 1 0), gx_a q20 cI 452 (fun _ => 0), gx_o q21 6 [some (some q1), some (some q2), some (some q22), some (some q23), some (some q25), some (some q26), none, none, none, none] (fun _ => 0), gx_o q22 0 [some (some q1), none, none, none, none, none, none] (fun _ => 0), gx_o q23 2 [some (some q24), none] (upd (fun _ => 0) 1 0), gx_a q24 cI 300 (fun _ => 0), gx_a q25 cI 300 (fun _ => 0), gx_a q26 cI 300 (fun _ => 0)]) C hw 0 rfl rfl lp_X7_init_54 rfl rfl rfl dX7_init_77 (fun H locs hw => ?_)
  exact hQ _ _ _ _ _ dX7_init_80 ⟨q1, q2, q3, q4, q5, q6, q7, q8, q9, q10, q11, q12, q13, q14, q15, q16, q17, q18, q19, q20, q21, q22, q23, q24, q25, q26, rfl⟩ hw
theorem lp_X8_init_7 : gx_LP wsX8_init RX8 7 8 1 false .int := ⟨_, _, _, tyX8, rfl, by decide +kernel, by decide, by decide +kernel, tyX8_ok, nmX8, by decide +kernel, by decide +kernel, by decide +kernel⟩
theorem lp_X8_init_13 : gx_LP wsX8_init RX8 13 8 2 false .int := ⟨_, _, _, tyX8, rfl, by decide +kernel, by decide, by decide +kernel, tyX8_ok, nmX8, by decide +kernel, by decide +kernel, by decide +kernel⟩
theorem lp_X8_init_16 : gx_LP wsX8_init RX8 16 8 3 false .int := ⟨_, _, _, tyX8, rfl, by decide +kernel, by decide, by decide +kernel, tyX8_ok, nmX8, by decide +kernel, by decide +kernel, by decide +kernel⟩
theorem lf_X8_init_19 : gx_LP wsX8_init RX8 19 8 4 true (.array .int) := ⟨_, _, _, tyX8, rfl, by decide +kernel, by decide, by decide +kernel, tyX8_ok, nmX8, by decide +kernel, by decide +kernel, by decide +kernel⟩
theorem lf_X8_init_23 : gx_LP wsX8_init RX8 23 8 6 true (.array .boolean) := ⟨_, _, _, tyX8, rfl, by decide +kernel, by decide, by decide +kernel, tyX8_ok, nmX8, by decide +kernel, by decide +kernel, by decide +kernel⟩
theorem lp_X8_init_27 : gx_LP wsX8_init RX8 27 8 8 false .int := ⟨_, _, _, tyX8, rfl, by decide +kernel, by decide, by decide +kernel, tyX8_ok, nmX8, by decide +kernel, by decide +kernel, by decide +kernel⟩
theorem lf_X8_init_30 : gx_LP wsX8_init RX8 30 8 10 true (.array .int) := ⟨_, _, _, tyX8, rfl, by decide +kernel, by decide, by decide +kernel, tyX8_ok, nmX8, by decide +kernel, by decide +kernel, by decide +kernel⟩
theorem lf_X8_init_33 : gx_LP wsX8_init RX8 33 8 11 true (.array .int) := ⟨_, _, _, tyX8, rfl, by decide +kernel, by decide, by decide +kernel, tyX8_ok, nmX8, by decide +kernel, by decide +kernel, by decide +kernel⟩
theorem lf_X8_init_36 : gx_LP wsX8_init RX8 36 8 12 true (.array .int) := ⟨_, _, _, tyX8, rfl, by decide +kernel, by decide, by decide +kernel, tyX8_ok, nmX8, by decide +kernel, by decide +kernel, by decide +kernel⟩
theorem lf_X8_init_39 : gx_LP wsX8_init RX8 39 8 17 true (.array .int) := ⟨_, _, _, tyX8, rfl, by decide +kernel, by decide, by decide +kernel, tyX8_ok, nmX8, by decide +kernel, by decide +kernel, by decide +kernel⟩
theorem lf_X8_init_42 : gx_LP wsX8_init RX8 42 8 18 true (.array .int) := ⟨_, _, _, tyX8, rfl, by decide +kernel, by decide, by decide +kernel, tyX8_ok, nmX8, by decide +kernel, by decide +kernel, by decide +kernel⟩
theorem lf_X8_init_45 : gx_LP wsX8_init RX8 45 8 19 true (.array .int) := ⟨_, _, _, tyX8, rfl, by decide +kernel, by decide, by decide +kernel, tyX8_ok, nmX8, by decide +kernel, by decide +kernel, by decide +kernel⟩
theorem lf_X8_init_48 : gx_LP wsX8_init RX8 48 8 24 true (.array .int) := ⟨_, _, _, tyX8, rfl, by decide +kernel, by decide, by decide +kernel, tyX8_ok, nmX8, by decide +kernel, by decide +kernel, by decide +kernel⟩
theorem kv_X8_init_51 : gx_KV wsX8_init RX8 51 yX8_layCodes cX8_layCodes 1 none wsX8_layCodes (gx_rm 0) (gx_rmc 1 9 6800) 0 := ⟨gX8_init_X8_layCodes, ⟨_, rfl⟩, ⟨by decide, by decide, by decide +kernel⟩, ⟨by decide, by decide⟩⟩
set_option maxHeartbeats 4000000 in
set_option maxRecDepth 100000 in
theorem ct_X8_init (l : Launch) (D : va_G) (cI cZ : ClassId) (h_t : Nat) : gx_Mc l yX8_init wsX8_init (gx_rmc 1 9 6800) D cI cZ [.ref h_t] [gx_o h_t 8 [none, none, none, none, some none, none, some none, none, none, none, some none, some none, some none, none, none, none, none, some none, some none, some none, none, none, none, none, some none, none, none, none] (fun _ => 0)] (fun w' => ∃ q1 q2 q3 q4 q5 q6 q7 q8 q9 : Nat, w' = [gx_o h_t 8 [none, none, none, none, some (some q1), none, some (some q2), none, none, none, some (some q3), some (some q4), some (some q5), none, none, none, none, some (some q6), some (some q7), some (some q8), none, none, none, none, some (some q9), none, none, none] (upd (upd (upd (upd (upd (fun _ => 0) 1 8) 2 12) 3 1) 8 (-1)) 21 0), gx_a q1 cI 300 (fun _ => 0), gx_a q2 cZ 3200 (fun _ => 0), gx_a q3 cI 700 (fun _ => 0), gx_a q4 cI 700 (fun _ => 0), gx_a q5 cI 700 (fun _ => 0), gx_a q6 cI 300 (fun _ => 0), gx_a q7 cI 300 (fun _ => 0), gx_a q8 cI 300 (fun _ => 0), gx_a q9 cI 300 (fun _ => 0)]) 9 6800 := by
  refine gx_ofc (cc := cX8_init) (own := RX8) (by decide) rfl rfl (Nat.le_of_ble_eq_true rfl) [(0, .ref h_t)] rfl ?_
  intro p e s m args below meth c A Q ls hin C hQ hl hw
  have hx := C.1.1
  have hb := C.1.2.1
  refine lv_aload_n hx hb dX8_init_0 rfl (lv_at hl 0 rfl) ?_
  refine gx_objI C (idx := 1) (by decide +kernel) (by decide +kernel) (by decide +kernel) hl.1 dX8_init_1 (by decide) (Nat.le_of_ble_eq_true rfl) ?_
  refine lv_aload_n hx hb dX8_init_4 rfl (lv_at hl 0 rfl) ?_
  refine lv_bipush (v := 8) hx hb dX8_init_5 (by decide) ?_
  refine gx_put (ws' := [gx_o h_t 8 [none, none, none, none, some none, none, some none, none, none, none, some none, some none, some none, none, none, none, none, some none, some none, some none, none, none, none, none, some none, none, none, none] (upd (fun _ => 0) 1 8)]) C hw 0 rfl rfl lp_X8_init_7 rfl rfl rfl dX8_init_7 (fun H locs hw => ?_)
  refine lv_aload_n hx hb dX8_init_10 rfl (lv_at hl 0 rfl) ?_
  refine lv_bipush (v := 12) hx hb dX8_init_11 (by decide) ?_
  refine gx_put (ws' := [gx_o h_t 8 [none, none, none, none, some none, none, some none, none, none, none, some none, some none, some none, none, none, none, none, some none, some none, some none, none, none, none, none, some none, none, none, none] (upd (upd (fun _ => 0) 1 8) 2 12)]) C hw 0 rfl rfl lp_X8_init_13 rfl rfl rfl dX8_init_13 (fun H locs hw => ?_)
  refine lv_aload_n hx hb dX8_init_16 rfl (lv_at hl 0 rfl) ?_
  refine lv_iconst (v := 1) hx hb dX8_init_17 (by decide) ?_
  refine gx_put (ws' := [gx_o h_t 8 [none, none, none, none, some none, none, some none, none, none, none, some none, some none, some none, none, none, none, none, some none, some none, some none, none, none, none, none, some none, none, none, none] (upd (upd (upd (fun _ => 0) 1 8) 2 12) 3 1)]) C hw 0 rfl rfl lp_X8_init_16 rfl rfl rfl dX8_init_18 (fun H locs hw => ?_)
  refine lv_aload_n hx hb dX8_init_21 rfl (lv_at hl 0 rfl) ?_
  refine lv_sipush (v := 300) hx hb dX8_init_22 (by decide) ?_
  refine gx_newI (N := 300) C hw (by decide +kernel) (by decide) (by decide) (by decide) (by decide) (by decide) dX8_init_25 (fun q1 H hw => ?_)
  have hw : gx_W D A s [gx_o h_t 8 [none, none, none, none, some none, none, some none, none, none, none, some none, some none, some none, none, none, none, none, some none, some none, some none, none, none, none, none, some none, none, none, none] (upd (upd (upd (fun _ => 0) 1 8) 2 12) 3 1), gx_a q1 cI 300 (fun _ => 0)] H _ := hw
  refine W.cs (cells' := 1) (slots' := 300) rfl rfl ?_
  refine gx_putF (ws' := [gx_o h_t 8 [none, none, none, none, some (some q1), none, some none, none, none, none, some none, some none, some none, none, none, none, none, some none, some none, some none, none, none, none, none, some none, none, none, none] (upd (upd (upd (fun _ => 0) 1 8) 2 12) 3 1), gx_a q1 cI 300 (fun _ => 0)]) C hin hw 0 rfl (k := 4) (Nat.le_of_ble_eq_true rfl) lf_X8_init_19 rfl rfl rfl dX8_init_27 (fun H locs hw => ?_)
  refine lv_aload_n hx hb dX8_init_30 rfl (lv_at hl 0 rfl) ?_
  refine lv_sipush (v := 3200) hx hb dX8_init_31 (by decide) ?_
  refine gx_newZ (N := 3200) C hw (by decide +kernel) (by decide) (by decide) (by decide) (by decide) (by decide) dX8_init_34 (fun q2 H hw => ?_)
  have hw : gx_W D A s [gx_o h_t 8 [none, none, none, none, some (some q1), none, some none, none, none, none, some none, some none, some none, none, none, none, none, some none, some none, some none, none, none, none, none, some none, none, none, none] (upd (upd (upd (fun _ => 0) 1 8) 2 12) 3 1), gx_a q1 cI 300 (fun _ => 0), gx_a q2 cZ 3200 (fun _ => 0)] H _ := hw
  refine W.cs (cells' := 2) (slots' := 3500) rfl rfl ?_
  refine gx_putF (ws' := [gx_o h_t 8 [none, none, none, none, some (some q1), none, some (some q2), none, none, none, some none, some none, some none, none, none, none, none, some none, some none, some none, none, none, none, none, some none, none, none, none] (upd (upd (upd (fun _ => 0) 1 8) 2 12) 3 1), gx_a q1 cI 300 (fun _ => 0), gx_a q2 cZ 3200 (fun _ => 0)]) C hin hw 0 rfl (k := 6) (Nat.le_of_ble_eq_true rfl) lf_X8_init_23 rfl rfl rfl dX8_init_36 (fun H locs hw => ?_)
  refine lv_aload_n hx hb dX8_init_39 rfl (lv_at hl 0 rfl) ?_
  refine lv_iconst (v := (-1)) hx hb dX8_init_40 (by decide) ?_
  refine gx_put (ws' := [gx_o h_t 8 [none, none, none, none, some (some q1), none, some (some q2), none, none, none, some none, some none, some none, none, none, none, none, some none, some none, some none, none, none, none, none, some none, none, none, none] (upd (upd (upd (upd (fun _ => 0) 1 8) 2 12) 3 1) 8 (-1)), gx_a q1 cI 300 (fun _ => 0), gx_a q2 cZ 3200 (fun _ => 0)]) C hw 0 rfl rfl lp_X8_init_27 rfl rfl rfl dX8_init_41 (fun H locs hw => ?_)
  refine lv_aload_n hx hb dX8_init_44 rfl (lv_at hl 0 rfl) ?_
  refine lv_sipush (v := 700) hx hb dX8_init_45 (by decide) ?_
  refine gx_newI (N := 700) C hw (by decide +kernel) (by decide) (by decide) (by decide) (by decide) (by decide) dX8_init_48 (fun q3 H hw => ?_)
  have hw : gx_W D A s [gx_o h_t 8 [none, none, none, none, some (some q1), none, some (some q2), none, none, none, some none, some none, some none, none, none, none, none, some none, some none, some none, none, none, none, none, some none, none, none, none] (upd (upd (upd (upd (fun _ => 0) 1 8) 2 12) 3 1) 8 (-1)), gx_a q1 cI 300 (fun _ => 0), gx_a q2 cZ 3200 (fun _ => 0), gx_a q3 cI 700 (fun _ => 0)] H _ := hw
  refine W.cs (cells' := 3) (slots' := 4200) rfl rfl ?_
  refine gx_putF (ws' := [gx_o h_t 8 [none, none, none, none, some (some q1), none, some (some q2), none, none, none, some (some q3), some none, some none, none, none, none, none, some none, some none, some none, none, none, none, none, some none, none, none, none] (upd (upd (upd (upd (fun _ => 0) 1 8) 2 12) 3 1) 8 (-1)), gx_a q1 cI 300 (fun _ => 0), gx_a q2 cZ 3200 (fun _ => 0), gx_a q3 cI 700 (fun _ => 0)]) C hin hw 0 rfl (k := 10) (Nat.le_of_ble_eq_true rfl) lf_X8_init_30 rfl rfl rfl dX8_init_50 (fun H locs hw => ?_)
  refine lv_aload_n hx hb dX8_init_53 rfl (lv_at hl 0 rfl) ?_
  refine lv_sipush (v := 700) hx hb dX8_init_54 (by decide) ?_
  refine gx_newI (N := 700) C hw (by decide +kernel) (by decide) (by decide) (by decide) (by decide) (by decide) dX8_init_57 (fun q4 H hw => ?_)
  have hw : gx_W D A s [gx_o h_t 8 [none, none, none, none, some (some q1), none, some (some q2), none, none, none, some (some q3), some none, some none, none, none, none, none, some none, some none, some none, none, none, none, none, some none, none, none, none] (upd (upd (upd (upd (fun _ => 0) 1 8) 2 12) 3 1) 8 (-1)), gx_a q1 cI 300 (fun _ => 0), gx_a q2 cZ 3200 (fun _ => 0), gx_a q3 cI 700 (fun _ => 0), gx_a q4 cI 700 (fun _ => 0)] H _ := hw
  refine W.cs (cells' := 4) (slots' := 4900) rfl rfl ?_
  refine gx_putF (ws' := [gx_o h_t 8 [none, none, none, none, some (some q1), none, some (some q2), none, none, none, some (some q3), some (some q4), some none, none, none, none, none, some none, some none, some none, none, none, none, none, some none, none, none, none] (upd (upd (upd (upd (fun _ => 0) 1 8) 2 12) 3 1) 8 (-1)), gx_a q1 cI 300 (fun _ => 0), gx_a q2 cZ 3200 (fun _ => 0), gx_a q3 cI 700 (fun _ => 0), gx_a q4 cI 700 (fun _ => 0)]) C hin hw 0 rfl (k := 11) (Nat.le_of_ble_eq_true rfl) lf_X8_init_33 rfl rfl rfl dX8_init_59 (fun H locs hw => ?_)
  refine lv_aload_n hx hb dX8_init_62 rfl (lv_at hl 0 rfl) ?_
  refine lv_sipush (v := 700) hx hb dX8_init_63 (by decide) ?_
  refine gx_newI (N := 700) C hw (by decide +kernel) (by decide) (by decide) (by decide) (by decide) (by decide) dX8_init_66 (fun q5 H hw => ?_)
  have hw : gx_W D A s [gx_o h_t 8 [none, none, none, none, some (some q1), none, some (some q2), none, none, none, some (some q3), some (some q4), some none, none, none, none, none, some none, some none, some none, none, none, none, none, some none, none, none, none] (upd (upd (upd (upd (fun _ => 0) 1 8) 2 12) 3 1) 8 (-1)), gx_a q1 cI 300 (fun _ => 0), gx_a q2 cZ 3200 (fun _ => 0), gx_a q3 cI 700 (fun _ => 0), gx_a q4 cI 700 (fun _ => 0), gx_a q5 cI 700 (fun _ => 0)] H _ := hw
  refine W.cs (cells' := 5) (slots' := 5600) rfl rfl ?_
  refine gx_putF (ws' := [gx_o h_t 8 [none, none, none, none, some (some q1), none, some (some q2), none, none, none, some (some q3), some (some q4), some (some q5), none, none, none, none, some none, some none, some none, none, none, none, none, some none, none, none, none] (upd (upd (upd (upd (fun _ => 0) 1 8) 2 12) 3 1) 8 (-1)), gx_a q1 cI 300 (fun _ => 0), gx_a q2 cZ 3200 (fun _ => 0), gx_a q3 cI 700 (fun _ => 0), gx_a q4 cI 700 (fun _ => 0), gx_a q5 cI 700 (fun _ => 0)]) C hin hw 0 rfl (k := 12) (Nat.le_of_ble_eq_true rfl) lf_X8_init_36 rfl rfl rfl dX8_init_68 (fun H locs hw => ?_)
  refine lv_aload_n hx hb dX8_init_71 rfl (lv_at hl 0 rfl) ?_
  refine lv_sipush (v := 300) hx hb dX8_init_72 (by decide) ?_
  refine gx_newI (N := 300) C hw (by decide +kernel) (by decide) (by decide) (by decide) (by decide) (by decide) dX8_init_75 (fun q6 H hw => ?_)
  have hw : gx_W D A s [gx_o h_t 8 [none, none, none, none, some (some q1), none, some (some q2), none, none, none, some (some q3), some (some q4), some (some q5), none, none, none, none, some none, some none, some none, none, none, none, none, some none, none, none, none] (upd (upd (upd (upd (fun _ => 0) 1 8) 2 12) 3 1) 8 (-1)), gx_a q1 cI 300 (fun _ => 0), gx_a q2 cZ 3200 (fun _ => 0), gx_a q3 cI 700 (fun _ => 0), gx_a q4 cI 700 (fun _ => 0), gx_a q5 cI 700 (fun _ => 0), gx_a q6 cI 300 (fun _ => 0)] H _ := hw
  refine W.cs (cells' := 6) (slots' := 5900) rfl rfl ?_
  refine gx_putF (ws' := [gx_o h_t 8 [none, none, none, none, some (some q1), none, some (some q2), none, none, none, some (some q3), some (some q4), some (some q5), none, none, none, none, some (some q6), some none, some none, none, none, none, none, some none, none, none, none] (upd (upd (upd (upd (fun _ => 0) 1 8) 2 12) 3 1) 8 (-1)), gx_a q1 cI 300 (fun _ => 0), gx_a q2 cZ 3200 (fun _ => 0), gx_a q3 cI 700 (fun _ => 0), gx_a q4 cI 700 (fun _ => 0), gx_a q5 cI 700 (fun _ => 0), gx_a q6 cI 300 (fun _ => 0)]) C hin hw 0 rfl (k := 17) (Nat.le_of_ble_eq_true rfl) lf_X8_init_39 rfl rfl rfl dX8_init_77 (fun H locs hw => ?_)
  refine lv_aload_n hx hb dX8_init_80 rfl (lv_at hl 0 rfl) ?_
  refine lv_sipush (v := 300) hx hb dX8_init_81 (by decide) ?_
  refine gx_newI (N := 300) C hw (by decide +kernel) (by decide) (by decide) (by decide) (by decide) (by decide) dX8_init_84 (fun q7 H hw => ?_)
  have hw : gx_W D A s [gx_o h_t 8 [none, none, none, none, some (some q1), none, some (some q2), none, none, none, some (some q3), some (some q4), some (some q5), none, none, none, none, some (some q6), some none, some none, none, none, none, none, some none, none, none, none] (upd (upd (upd (upd (fun _ => 0) 1 8) 2 12) 3 1) 8 (-1)), gx_a q1 cI 300 (fun _ => 0), gx_a q2 cZ 3200 (fun _ => 0), gx_a q3 cI 700 (fun _ => 0), gx_a q4 cI 700 (fun _ => 0), gx_a q5 cI 700 (fun _ => 0), gx_a q6 cI 300 (fun _ => 0), gx_a q7 cI 300 (fun _ => 0)] H _ := hw
  refine W.cs (cells' := 7) (slots' := 6200) rfl rfl ?_
  refine gx_putF (ws' := [gx_o h_t 8 [none, none, none, none, some (some q1), none, some (some q2), none, none, none, some (some q3), some (some q4), some (some q5), none, none, none, none, some (some q6), some (some q7), some none, none, none, none, none, some none, none, none, none] (upd (upd (upd (upd (fun _ => 0) 1 8) 2 12) 3 1) 8 (-1)), gx_a q1 cI 300 (fun _ => 0), gx_a q2 cZ 3200 (fun _ => 0), gx_a q3 cI 700 (fun _ => 0), gx_a q4 cI 700 (fun _ => 0), gx_a q5 cI 700 (fun _ => 0), gx_a q6 cI 300 (fun _ => 0), gx_a q7 cI 300 (fun _ => 0)]) C hin hw 0 rfl (k := 18) (Nat.le_of_ble_eq_true rfl) lf_X8_init_42 rfl rfl rfl dX8_init_86 (fun H locs hw => ?_)
  refine lv_aload_n hx hb dX8_init_89 rfl (lv_at hl 0 rfl) ?_
  refine lv_sipush (v := 300) hx hb dX8_init_90 (by decide) ?_
  refine gx_newI (N := 300) C hw (by decide +kernel) (by decide) (by decide) (by decide) (by decide) (by decide) dX8_init_93 (fun q8 H hw => ?_)
  have hw : gx_W D A s [gx_o h_t 8 [none, none, none, none, some (some q1), none, some (some q2), none, none, none, some (some q3), some (some q4), some (some q5), none, none, none, none, some (some q6), some (some q7), some none, none, none, none, none, some none, none, none, none] (upd (upd (upd (upd (fun _ => 0) 1 8) 2 12) 3 1) 8 (-1)), gx_a q1 cI 300 (fun _ => 0), gx_a q2 cZ 3200 (fun _ => 0), gx_a q3 cI 700 (fun _ => 0), gx_a q4 cI 700 (fun _ => 0), gx_a q5 cI 700 (fun _ => 0), gx_a q6 cI 300 (fun _ => 0), gx_a q7 cI 300 (fun _ => 0), gx_a q8 cI 300 (fun _ => 0)] H _ := hw
  refine W.cs (cells' := 8) (slots' := 6500) rfl rfl ?_
  refine gx_putF (ws' := [gx_o h_t 8 [none, none, none, none, some (some q1), none, some (some q2), none, none, none, some (some q3), some (some q4), some (some q5), none, none, none, none, some (some q6), some (some q7), some (some q8), none, none, none, none, some none, none, none, none] (upd (upd (upd (upd (fun _ => 0) 1 8) 2 12) 3 1) 8 (-1)), gx_a q1 cI 300 (fun _ => 0), gx_a q2 cZ 3200 (fun _ => 0), gx_a q3 cI 700 (fun _ => 0), gx_a q4 cI 700 (fun _ => 0), gx_a q5 cI 700 (fun _ => 0), gx_a q6 cI 300 (fun _ => 0), gx_a q7 cI 300 (fun _ => 0), gx_a q8 cI 300 (fun _ => 0)]) C hin hw 0 rfl (k := 19) (Nat.le_of_ble_eq_true rfl) lf_X8_init_45 rfl rfl rfl dX8_init_95 (fun H locs hw => ?_)
  refine lv_aload_n hx hb dX8_init_98 rfl (lv_at hl 0 rfl) ?_
  refine lv_sipush (v := 300) hx hb dX8_init_99 (by decide) ?_
  refine gx_newI (N := 300) C hw (by decide +kernel) (by decide) (by decide) (by decide) (by decide) (by decide) dX8_init_102 (fun q9 H hw => ?_)
  have hw : gx_W D A s [gx_o h_t 8 [none, none, none, none, some (some q1), none, some (some q2), none, none, none, some (some q3), some (some q4), some (some q5), none, none, none, none, some (some q6), some (some q7), some (some q8), none, none, none, none, some none, none, none, none] (upd (upd (upd (upd (fun _ => 0) 1 8) 2 12) 3 1) 8 (-1)), gx_a q1 cI 300 (fun _ => 0), gx_a q2 cZ 3200 (fun _ => 0), gx_a q3 cI 700 (fun _ => 0), gx_a q4 cI 700 (fun _ => 0), gx_a q5 cI 700 (fun _ => 0), gx_a q6 cI 300 (fun _ => 0), gx_a q7 cI 300 (fun _ => 0), gx_a q8 cI 300 (fun _ => 0), gx_a q9 cI 300 (fun _ => 0)] H _ := hw
  refine W.cs (cells' := 9) (slots' := 6800) rfl rfl ?_
  refine gx_putF (ws' := [gx_o h_t 8 [none, none, none, none, some (some q1), none, some (some q2), none, none, none, some (some q3), some (some q4), some (some q5), none, none, none, none, some (some q6), some (some q7), some (some q8), none, none, none, none, some (some q9), none, none, none] (upd (upd (upd (upd (fun _ => 0) 1 8) 2 12) 3 1) 8 (-1)), gx_a q1 cI 300 (fun _ => 0), gx_a q2 cZ 3200 (fun _ => 0), gx_a q3 cI 700 (fun _ => 0), gx_a q4 cI 700 (fun _ => 0), gx_a q5 cI 700 (fun _ => 0), gx_a q6 cI 300 (fun _ => 0), gx_a q7 cI 300 (fun _ => 0), gx_a q8 cI 300 (fun _ => 0), gx_a q9 cI 300 (fun _ => 0)]) C hin hw 0 rfl (k := 24) (Nat.le_of_ble_eq_true rfl) lf_X8_init_48 rfl rfl rfl dX8_init_104 (fun H locs hw => ?_)
  refine lv_aload_n hx hb dX8_init_107 rfl (lv_at hl 0 rfl) ?_
  refine gx_callv (As := []) (ws' := [gx_o h_t 8 [none, none, none, none, some (some q1), none, some (some q2), none, none, none, some (some q3), some (some q4), some (some q5), none, none, none, none, some (some q6), some (some q7), some (some q8), none, none, none, none, some (some q9), none, none, none] (upd (upd (upd (upd (upd (fun _ => 0) 1 8) 2 12) 3 1) 8 (-1)) 21 0), gx_a q1 cI 300 (fun _ => 0), gx_a q2 cZ 3200 (fun _ => 0), gx_a q3 cI 700 (fun _ => 0), gx_a q4 cI 700 (fun _ => 0), gx_a q5 cI 700 (fun _ => 0), gx_a q6 cI 300 (fun _ => 0), gx_a q7 cI 300 (fun _ => 0), gx_a q8 cI 300 (fun _ => 0), gx_a q9 cI 300 (fun _ => 0)]) (isC := [0]) (isR := [1, 2, 3, 4, 5, 6, 7, 8, 9]) (isP := [9, 0, 1, 2, 3, 4, 5, 6, 7, 8]) C hw (ct_X8_layCodes l D cI cZ h_t q1 q2 q3 q4 q5 q6 q7 q8 q9 (upd (upd (upd (upd (fun _ => 0) 1 8) 2 12) 3 1) 8 (-1)) rfl) kv_X8_init_51 ⟨rfl, rfl⟩ ⟨rfl, rfl, by decide, by decide, by decide, by decide, rfl⟩ 0 rfl rfl rfl rfl hl.1 (Nat.le_of_ble_eq_true rfl) ⟨by decide, by decide⟩ dX8_init_108 (fun H locs hw => ?_)
  exact hQ _ _ _ _ _ dX8_init_111 ⟨q1, q2, q3, q4, q5, q6, q7, q8, q9, rfl⟩ hw
