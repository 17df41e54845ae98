section
variable {p : Program} {l : Launch} {e : Env} {s : State} {m : MethodId} {args : Array Value} {below : List Frame} {meth : Method} {c : Code} {D : va_G} {cI cZ : ClassId} {A : Nat → Prop} {Q : State → Prop}
-- LzwForms$Rules.allow: touched []; used []; mod []; height 0
def wd_X3_allow (cI cZ : ClassId) : va_W := []
set_option maxHeartbeats 4000000 in
set_option maxRecDepth 100000 in
theorem tm_X3_allow_32 (C : gx_C cX3_allow 4 wsX3_allow RX3 D cI cZ p s m args c) {z : Int32} (hQ : gx_Qi cX3_allow .boolean p l e (gx_rm 0) s m args below meth c D A Q (wd_X3_allow cI cZ ) z) : ∀ (x1 x2 x3 : Int32) (ls : Array Slot) (H : Heap) (locs : List Loc), lv_has ls 4 [(1, .int x1), (2, .int x2), (3, .int x3)] → gx_W D A s (wd_X3_allow cI cZ ) H locs → fn_X3_allow_j32 x1 x2 x3 = some z → W p l e (gx_rm 0) s m args below meth c H locs 0 0 Q (F0 m 32 ls []) := by
  have hx := C.1.1
  have hb := C.1.2.1
  intro x1 x2 x3 ls H locs hl hw hf
  rw [fn_X3_allow_j32] at hf
  refine lv_iload_n hx hb dX3_allow_32 rfl (lv_at hl 1 rfl) ?_
  refine lv_iload_n hx hb dX3_allow_33 rfl (lv_at hl 0 rfl) ?_
  refine lv_iconst (v := 2) hx hb dX3_allow_34 (by decide) ?_
  refine lv_iadd hx hb dX3_allow_35 ?_
  refine lv_icmp_lt (tgt := 59) hx hb dX3_allow_36 (by decide) (fun hc => ?_) (fun hc => ?_)
  · replace hf := gx_t hc hf
    refine lv_iconst (v := 0) hx hb dX3_allow_59 (by decide) ?_
    obtain rfl := Option.some.inj hf
    exact hQ _ _ _ _ dX3_allow_60 (gx_nb (Or.inl rfl)) hw
  · replace hf := gx_f hc hf
    refine lv_iload_n hx hb dX3_allow_39 rfl (lv_at hl 1 rfl) ?_
    refine lv_bipush (v := 12) hx hb dX3_allow_40 (by decide) ?_
    refine lv_icmp_gt (tgt := 59) hx hb dX3_allow_42 (by decide) (fun hc => ?_) (fun hc => ?_)
    · replace hf := gx_t hc hf
      refine lv_iconst (v := 0) hx hb dX3_allow_59 (by decide) ?_
      obtain rfl := Option.some.inj hf
      exact hQ _ _ _ _ dX3_allow_60 (gx_nb (Or.inl rfl)) hw
    · replace hf := gx_f hc hf
      refine lv_iload_n hx hb dX3_allow_45 rfl (lv_at hl 2 rfl) ?_
      refine lv_if_lt (tgt := 59) hx hb dX3_allow_46 (by decide) (fun hc => ?_) (fun hc => ?_)
      · replace hf := gx_t hc hf
        refine lv_iconst (v := 0) hx hb dX3_allow_59 (by decide) ?_
        obtain rfl := Option.some.inj hf
        exact hQ _ _ _ _ dX3_allow_60 (gx_nb (Or.inl rfl)) hw
      · replace hf := gx_f hc hf
        refine lv_iload_n hx hb dX3_allow_49 rfl (lv_at hl 2 rfl) ?_
        refine lv_bipush (v := 100) hx hb dX3_allow_50 (by decide) ?_
        refine lv_icmp_gt (tgt := 59) hx hb dX3_allow_52 (by decide) (fun hc => ?_) (fun hc => ?_)
        · replace hf := gx_t hc hf
          refine lv_iconst (v := 0) hx hb dX3_allow_59 (by decide) ?_
          obtain rfl := Option.some.inj hf
          exact hQ _ _ _ _ dX3_allow_60 (gx_nb (Or.inl rfl)) hw
        · replace hf := gx_f hc hf
          refine lv_iconst (v := 1) hx hb dX3_allow_55 (by decide) ?_
          refine lv_goto (tgt := 60) hx hb dX3_allow_56 (by decide) ?_
          obtain rfl := Option.some.inj hf
          exact hQ _ _ _ _ dX3_allow_60 (gx_nb (Or.inr rfl)) hw
set_option maxHeartbeats 4000000 in
set_option maxRecDepth 100000 in
theorem ct_X3_allow (l : Launch) (D : va_G) (cI cZ : ClassId) (a1 a2 a3 a4 : Int32) {z : Int32} (hf : fn_X3_allow a1 a2 a3 a4 = some z) : gx_Mi l yX3_allow wsX3_allow (gx_rm 0) D cI cZ [.int a1, .int a2, .int a3, .int a4] (wd_X3_allow cI cZ ) (wd_X3_allow cI cZ ) z := by
  refine gx_ofi (cc := cX3_allow) (own := RX3) (by decide) rfl rfl (Nat.le_of_ble_eq_true rfl) [(0, .int a1), (1, .int a2), (2, .int a3), (3, .int a4)] rfl ?_
  intro p e s m args below meth c A Q ls C hQ hl hw
  have hx := C.1.1
  have hb := C.1.2.1
  rw [fn_X3_allow] at hf
  refine lv_iload_n hx hb dX3_allow_0 rfl (lv_at hl 0 rfl) ?_
  refine lv_if_lt (tgt := 30) hx hb dX3_allow_1 (by decide) (fun hc => ?_) (fun hc => ?_)
  · replace hf := gx_t hc hf
    refine lv_iconst (v := 0) hx hb dX3_allow_30 (by decide) ?_
    obtain rfl := Option.some.inj hf
    exact hQ _ _ _ _ dX3_allow_31 (gx_nb (Or.inl rfl)) hw
  · replace hf := gx_f hc hf
    refine lv_iload_n hx hb dX3_allow_4 rfl (lv_at hl 0 rfl) ?_
    refine lv_iconst (v := 2) hx hb dX3_allow_5 (by decide) ?_
    refine lv_icmp_gt (tgt := 30) hx hb dX3_allow_6 (by decide) (fun hc => ?_) (fun hc => ?_)
    · replace hf := gx_t hc hf
      refine lv_iconst (v := 0) hx hb dX3_allow_30 (by decide) ?_
      obtain rfl := Option.some.inj hf
      exact hQ _ _ _ _ dX3_allow_31 (gx_nb (Or.inl rfl)) hw
    · replace hf := gx_f hc hf
      refine lv_iload_n hx hb dX3_allow_9 rfl (lv_at hl 1 rfl) ?_
      refine lv_iconst (v := 2) hx hb dX3_allow_10 (by decide) ?_
      refine lv_icmp_lt (tgt := 30) hx hb dX3_allow_11 (by decide) (fun hc => ?_) (fun hc => ?_)
      · replace hf := gx_t hc hf
        refine lv_iconst (v := 0) hx hb dX3_allow_30 (by decide) ?_
        obtain rfl := Option.some.inj hf
        exact hQ _ _ _ _ dX3_allow_31 (gx_nb (Or.inl rfl)) hw
      · replace hf := gx_f hc hf
        refine lv_iload_n hx hb dX3_allow_14 rfl (lv_at hl 1 rfl) ?_
        refine lv_bipush (v := 8) hx hb dX3_allow_15 (by decide) ?_
        refine lv_icmp_gt (tgt := 30) hx hb dX3_allow_17 (by decide) (fun hc => ?_) (fun hc => ?_)
        · replace hf := gx_t hc hf
          refine lv_iconst (v := 0) hx hb dX3_allow_30 (by decide) ?_
          obtain rfl := Option.some.inj hf
          exact hQ _ _ _ _ dX3_allow_31 (gx_nb (Or.inl rfl)) hw
        · replace hf := gx_f hc hf
          refine lv_iload_n hx hb dX3_allow_20 rfl (lv_at hl 0 rfl) ?_
          refine lv_if_eq (tgt := 32) hx hb dX3_allow_21 (by decide) (fun hc => ?_) (fun hc => ?_)
          · replace hf := gx_t hc hf
            exact tm_X3_allow_32 C  hQ  a2 a3 a4 _ _ _ (lv_sub hl [1, 2, 3] rfl) hw hf
          · replace hf := gx_f hc hf
            refine lv_iload_n hx hb dX3_allow_24 rfl (lv_at hl 1 rfl) ?_
            refine lv_bipush (v := 8) hx hb dX3_allow_25 (by decide) ?_
            refine lv_icmp_eq (tgt := 32) hx hb dX3_allow_27 (by decide) (fun hc => ?_) (fun hc => ?_)
            · replace hf := gx_t hc hf
              exact tm_X3_allow_32 C  hQ  a2 a3 a4 _ _ _ (lv_sub hl [1, 2, 3] rfl) hw hf
            · replace hf := gx_f hc hf
              refine lv_iconst (v := 0) hx hb dX3_allow_30 (by decide) ?_
              obtain rfl := Option.some.inj hf
              exact hQ _ _ _ _ dX3_allow_31 (gx_nb (Or.inl rfl)) hw
-- LzwForms$Rules.become: touched ['t']; used ['t']; mod ['t']; height 0
theorem ln_X3_become_15 : gx_L wsX3_become RX3 15 3 0 := ⟨_, _, _, rfl, by decide +kernel, by decide, Or.inl (by decide +kernel)⟩
theorem lp_X3_become_15 : gx_LP wsX3_become RX3 15 3 0 false .int := ⟨_, _, _, tyX3, rfl, by decide +kernel, by decide, by decide +kernel, tyX3_ok, nmX3, by decide +kernel, by decide +kernel, by decide +kernel⟩
theorem ln_X3_become_19 : gx_L wsX3_become RX3 19 3 1 := ⟨_, _, _, rfl, by decide +kernel, by decide, Or.inl (by decide +kernel)⟩
theorem lp_X3_become_19 : gx_LP wsX3_become RX3 19 3 1 false .int := ⟨_, _, _, tyX3, rfl, by decide +kernel, by decide, by decide +kernel, tyX3_ok, nmX3, by decide +kernel, by decide +kernel, by decide +kernel⟩
theorem ln_X3_become_22 : gx_L wsX3_become RX3 22 3 2 := ⟨_, _, _, rfl, by decide +kernel, by decide, Or.inl (by decide +kernel)⟩
theorem lp_X3_become_22 : gx_LP wsX3_become RX3 22 3 2 false .int := ⟨_, _, _, tyX3, rfl, by decide +kernel, by decide, by decide +kernel, tyX3_ok, nmX3, by decide +kernel, by decide +kernel, by decide +kernel⟩
theorem lp_X3_become_25 : gx_LP wsX3_become RX3 25 3 3 false .int := ⟨_, _, _, tyX3, rfl, by decide +kernel, by decide, by decide +kernel, tyX3_ok, nmX3, by decide +kernel, by decide +kernel, by decide +kernel⟩
theorem ln_X3_become_28 : gx_L wsX3_become RX3 28 3 4 := ⟨_, _, _, rfl, by decide +kernel, by decide, Or.inl (by decide +kernel)⟩
theorem lp_X3_become_28 : gx_LP wsX3_become RX3 28 3 4 false .boolean := ⟨_, _, _, tyX3, rfl, by decide +kernel, by decide, by decide +kernel, tyX3_ok, nmX3, by decide +kernel, by decide +kernel, by decide +kernel⟩
theorem lp_X3_become_32 : gx_LP wsX3_become RX3 32 3 5 false .boolean := ⟨_, _, _, tyX3, rfl, by decide +kernel, by decide, by decide +kernel, tyX3_ok, nmX3, by decide +kernel, by decide +kernel, by decide +kernel⟩
theorem lp_X3_become_35 : gx_LP wsX3_become RX3 35 3 6 false .boolean := ⟨_, _, _, tyX3, rfl, by decide +kernel, by decide, by decide +kernel, tyX3_ok, nmX3, by decide +kernel, by decide +kernel, by decide +kernel⟩
theorem ln_X3_become_38 : gx_L wsX3_become RX3 38 3 7 := ⟨_, _, _, rfl, by decide +kernel, by decide, Or.inl (by decide +kernel)⟩
theorem lp_X3_become_38 : gx_LP wsX3_become RX3 38 3 7 false .int := ⟨_, _, _, tyX3, rfl, by decide +kernel, by decide, by decide +kernel, tyX3_ok, nmX3, by decide +kernel, by decide +kernel, by decide +kernel⟩
theorem lp_X3_become_41 : gx_LP wsX3_become RX3 41 3 8 false .int := ⟨_, _, _, tyX3, rfl, by decide +kernel, by decide, by decide +kernel, tyX3_ok, nmX3, by decide +kernel, by decide +kernel, by decide +kernel⟩
theorem lp_X3_become_44 : gx_LP wsX3_become RX3 44 3 9 false .int := ⟨_, _, _, tyX3, rfl, by decide +kernel, by decide, by decide +kernel, tyX3_ok, nmX3, by decide +kernel, by decide +kernel, by decide +kernel⟩
theorem ln_X3_become_47 : gx_L wsX3_become RX3 47 3 11 := ⟨_, _, _, rfl, by decide +kernel, by decide, Or.inl (by decide +kernel)⟩
theorem lp_X3_become_47 : gx_LP wsX3_become RX3 47 3 11 false .int := ⟨_, _, _, tyX3, rfl, by decide +kernel, by decide, by decide +kernel, tyX3_ok, nmX3, by decide +kernel, by decide +kernel, by decide +kernel⟩
theorem lp_X3_become_50 : gx_LP wsX3_become RX3 50 3 10 false .int := ⟨_, _, _, tyX3, rfl, by decide +kernel, by decide, by decide +kernel, tyX3_ok, nmX3, by decide +kernel, by decide +kernel, by decide +kernel⟩
def wd_X3_become (cI cZ : ClassId) (h_t : Nat) (V_t : Nat → Int32) : va_W := [gx_o h_t 3 [none, none, none, none, none, none, none, none, none, none, none, none] V_t]
set_option maxHeartbeats 4000000 in
set_option maxRecDepth 100000 in
theorem tm_X3_become_143 (C : gx_C cX3_become 5 wsX3_become RX3 D cI cZ p s m args c) (h_t : Nat) {z : (Nat → Int32)} (hQ : gx_Qv cX3_become p l e (gx_rm 0) s m args below meth c D A Q (wd_X3_become cI cZ h_t z)) : ∀ (V_t : Nat → Int32) (s1 : Int32) (ls : Array Slot) (H : Heap) (locs : List Loc), lv_has ls 5 [(0, .ref h_t)] → gx_W D A s (wd_X3_become cI cZ h_t V_t) H locs → fn_X3_become_j143 V_t s1 = some z → W p l e (gx_rm 0) s m args below meth c H locs 0 0 Q (F0 m 143 ls [.int s1, .ref h_t]) := by
  have hx := C.1.1
  have hb := C.1.2.1
  intro V_t s1 ls H locs hl hw hf
  rw [fn_X3_become_j143] at hf
  refine gx_put (ws' := wd_X3_become cI cZ h_t (upd V_t 11 s1)) C hw 0 rfl rfl lp_X3_become_47 rfl rfl rfl dX3_become_143 (fun H locs hw => ?_)
  refine lv_aload_n hx hb dX3_become_146 rfl (lv_at hl 0 rfl) ?_
  refine lv_iconst (v := 1) hx hb dX3_become_147 (by decide) ?_
  refine lv_aload_n hx hb dX3_become_148 rfl (lv_at hl 0 rfl) ?_
  refine gx_get (v := .int (V_t 2)) C hw 0 rfl (gx_gj rfl ((pk_un (by decide)).trans rfl)) ln_X3_become_22 dX3_become_149 ?_
  refine lv_ishl hx hb dX3_become_152 ?_
  refine lv_aload_n hx hb dX3_become_153 rfl (lv_at hl 0 rfl) ?_
  refine gx_get (v := .int s1) C hw 0 rfl (gx_gj rfl pk_us) ln_X3_become_47 dX3_become_154 ?_
  refine lv_isub hx hb dX3_become_157 ?_
  refine gx_put (ws' := wd_X3_become cI cZ h_t (upd (upd V_t 11 s1) 10 ((1 <<< ((V_t 2) &&& 31)) - s1))) C hw 0 rfl rfl lp_X3_become_50 rfl rfl rfl dX3_become_158 (fun H locs hw => ?_)
  obtain rfl := Option.some.inj hf
  exact hQ _ _ _ _ dX3_become_161 hw
set_option maxHeartbeats 4000000 in
set_option maxRecDepth 100000 in
theorem tm_X3_become_126 (C : gx_C cX3_become 5 wsX3_become RX3 D cI cZ p s m args c) (h_t : Nat) {z : (Nat → Int32)} (hQ : gx_Qv cX3_become p l e (gx_rm 0) s m args below meth c D A Q (wd_X3_become cI cZ h_t z)) : ∀ (V_t : Nat → Int32) (s1 : Int32) (ls : Array Slot) (H : Heap) (locs : List Loc), lv_has ls 5 [(0, .ref h_t)] → gx_W D A s (wd_X3_become cI cZ h_t V_t) H locs → fn_X3_become_j126 V_t s1 = some z → W p l e (gx_rm 0) s m args below meth c H locs 0 0 Q (F0 m 126 ls [.int s1, .ref h_t]) := by
  have hx := C.1.1
  have hb := C.1.2.1
  intro V_t s1 ls H locs hl hw hf
  rw [fn_X3_become_j126] at hf
  refine gx_put (ws' := wd_X3_become cI cZ h_t (upd V_t 9 s1)) C hw 0 rfl rfl lp_X3_become_44 rfl rfl rfl dX3_become_126 (fun H locs hw => ?_)
  refine lv_aload_n hx hb dX3_become_129 rfl (lv_at hl 0 rfl) ?_
  refine lv_aload_n hx hb dX3_become_130 rfl (lv_at hl 0 rfl) ?_
  refine gx_get (v := .int (V_t 0)) C hw 0 rfl (gx_gj rfl ((pk_un (by decide)).trans rfl)) ln_X3_become_15 dX3_become_131 ?_
  refine lv_iconst (v := 1) hx hb dX3_become_134 (by decide) ?_
  refine lv_icmp_ne (tgt := 142) hx hb dX3_become_135 (by decide) (fun hc => ?_) (fun hc => ?_)
  · replace hf := gx_f hc hf
    refine lv_iconst (v := 0) hx hb dX3_become_142 (by decide) ?_
    exact tm_X3_become_143 C h_t hQ  (upd V_t 9 s1) 0 _ _ _ (lv_sub hl [0] rfl) hw hf
  · replace hf := gx_t hc hf
    refine lv_iconst (v := 1) hx hb dX3_become_138 (by decide) ?_
    refine lv_goto (tgt := 143) hx hb dX3_become_139 (by decide) ?_
    exact tm_X3_become_143 C h_t hQ  (upd V_t 9 s1) 1 _ _ _ (lv_sub hl [0] rfl) hw hf
set_option maxHeartbeats 4000000 in
set_option maxRecDepth 100000 in
theorem tm_X3_become_100 (C : gx_C cX3_become 5 wsX3_become RX3 D cI cZ p s m args c) (h_t : Nat) {z : (Nat → Int32)} (hQ : gx_Qv cX3_become p l e (gx_rm 0) s m args below meth c D A Q (wd_X3_become cI cZ h_t z)) : ∀ (V_t : Nat → Int32) (s1 : Int32) (ls : Array Slot) (H : Heap) (locs : List Loc), lv_has ls 5 [(0, .ref h_t)] → gx_W D A s (wd_X3_become cI cZ h_t V_t) H locs → fn_X3_become_j100 V_t s1 = some z → W p l e (gx_rm 0) s m args below meth c H locs 0 0 Q (F0 m 100 ls [.int s1, .ref h_t]) := by
  have hx := C.1.1
  have hb := C.1.2.1
  intro V_t s1 ls H locs hl hw hf
  rw [fn_X3_become_j100] at hf
  refine gx_put (ws' := wd_X3_become cI cZ h_t (upd V_t 8 s1)) C hw 0 rfl rfl lp_X3_become_41 rfl rfl rfl dX3_become_100 (fun H locs hw => ?_)
  refine lv_aload_n hx hb dX3_become_103 rfl (lv_at hl 0 rfl) ?_
  refine lv_aload_n hx hb dX3_become_104 rfl (lv_at hl 0 rfl) ?_
  refine gx_get (v := .int (V_t 4)) C hw 0 rfl (gx_gj rfl ((pk_un (by decide)).trans rfl)) ln_X3_become_28 dX3_become_105 ?_
  refine lv_if_eq (tgt := 120) hx hb dX3_become_108 (by decide) (fun hc => ?_) (fun hc => ?_)
  · replace hf := gx_t hc hf
    refine lv_aload_n hx hb dX3_become_120 rfl (lv_at hl 0 rfl) ?_
    refine gx_get (v := .int (V_t 7)) C hw 0 rfl (gx_gj rfl ((pk_un (by decide)).trans rfl)) ln_X3_become_38 dX3_become_121 ?_
    refine lv_iconst (v := 1) hx hb dX3_become_124 (by decide) ?_
    refine lv_iadd hx hb dX3_become_125 ?_
    exact tm_X3_become_126 C h_t hQ  (upd V_t 8 s1) ((V_t 7) + 1) _ _ _ (lv_sub hl [0] rfl) hw hf
  · replace hf := gx_f hc hf
    refine lv_aload_n hx hb dX3_become_111 rfl (lv_at hl 0 rfl) ?_
    refine gx_get (v := .int (V_t 7)) C hw 0 rfl (gx_gj rfl ((pk_un (by decide)).trans rfl)) ln_X3_become_38 dX3_become_112 ?_
    refine lv_iconst (v := 2) hx hb dX3_become_115 (by decide) ?_
    refine lv_iadd hx hb dX3_become_116 ?_
    refine lv_goto (tgt := 126) hx hb dX3_become_117 (by decide) ?_
    exact tm_X3_become_126 C h_t hQ  (upd V_t 8 s1) ((V_t 7) + 2) _ _ _ (lv_sub hl [0] rfl) hw hf
set_option maxHeartbeats 4000000 in
set_option maxRecDepth 100000 in
theorem tm_X3_become_69 (C : gx_C cX3_become 5 wsX3_become RX3 D cI cZ p s m args c) (h_t : Nat) {z : (Nat → Int32)} (hQ : gx_Qv cX3_become p l e (gx_rm 0) s m args below meth c D A Q (wd_X3_become cI cZ h_t z)) : ∀ (V_t : Nat → Int32) (s1 : Int32) (ls : Array Slot) (H : Heap) (locs : List Loc), lv_has ls 5 [(0, .ref h_t)] → gx_W D A s (wd_X3_become cI cZ h_t V_t) H locs → fn_X3_become_j69 V_t s1 = some z → W p l e (gx_rm 0) s m args below meth c H locs 0 0 Q (F0 m 69 ls [.int s1, .ref h_t]) := by
  have hx := C.1.1
  have hb := C.1.2.1
  intro V_t s1 ls H locs hl hw hf
  rw [fn_X3_become_j69] at hf
  obtain ⟨hz_69, hf⟩ := gx_g hf
  refine gx_put (ws' := wd_X3_become cI cZ h_t (upd V_t 6 s1)) C hw 0 rfl rfl lp_X3_become_35 (gx_nb hz_69) (gx_fb hz_69) rfl dX3_become_69 (fun H locs hw => ?_)
  refine lv_aload_n hx hb dX3_become_72 rfl (lv_at hl 0 rfl) ?_
  refine lv_iconst (v := 1) hx hb dX3_become_73 (by decide) ?_
  refine lv_aload_n hx hb dX3_become_74 rfl (lv_at hl 0 rfl) ?_
  refine gx_get (v := .int (V_t 1)) C hw 0 rfl (gx_gj rfl ((pk_un (by decide)).trans rfl)) ln_X3_become_19 dX3_become_75 ?_
  refine lv_ishl hx hb dX3_become_78 ?_
  refine gx_put (ws' := wd_X3_become cI cZ h_t (upd (upd V_t 6 s1) 7 (1 <<< ((V_t 1) &&& 31)))) C hw 0 rfl rfl lp_X3_become_38 rfl rfl rfl dX3_become_79 (fun H locs hw => ?_)
  refine lv_aload_n hx hb dX3_become_82 rfl (lv_at hl 0 rfl) ?_
  refine lv_aload_n hx hb dX3_become_83 rfl (lv_at hl 0 rfl) ?_
  refine gx_get (v := .int (V_t 4)) C hw 0 rfl (gx_gj rfl ((pk_un (by decide)).trans ((pk_un (by decide)).trans rfl))) ln_X3_become_28 dX3_become_84 ?_
  refine lv_if_eq (tgt := 99) hx hb dX3_become_87 (by decide) (fun hc => ?_) (fun hc => ?_)
  · replace hf := gx_t hc hf
    refine lv_iconst (v := (-1)) hx hb dX3_become_99 (by decide) ?_
    exact tm_X3_become_100 C h_t hQ  (upd (upd V_t 6 s1) 7 (1 <<< ((V_t 1) &&& 31))) (-1) _ _ _ (lv_sub hl [0] rfl) hw hf
  · replace hf := gx_f hc hf
    refine lv_aload_n hx hb dX3_become_90 rfl (lv_at hl 0 rfl) ?_
    refine gx_get (v := .int (1 <<< ((V_t 1) &&& 31))) C hw 0 rfl (gx_gj rfl pk_us) ln_X3_become_38 dX3_become_91 ?_
    refine lv_iconst (v := 1) hx hb dX3_become_94 (by decide) ?_
    refine lv_iadd hx hb dX3_become_95 ?_
    refine lv_goto (tgt := 100) hx hb dX3_become_96 (by decide) ?_
    exact tm_X3_become_100 C h_t hQ  (upd (upd V_t 6 s1) 7 (1 <<< ((V_t 1) &&& 31))) ((1 <<< ((V_t 1) &&& 31)) + 1) _ _ _ (lv_sub hl [0] rfl) hw hf
set_option maxHeartbeats 4000000 in
set_option maxRecDepth 100000 in
theorem tm_X3_become_52 (C : gx_C cX3_become 5 wsX3_become RX3 D cI cZ p s m args c) (h_t : Nat) {z : (Nat → Int32)} (hQ : gx_Qv cX3_become p l e (gx_rm 0) s m args below meth c D A Q (wd_X3_become cI cZ h_t z)) : ∀ (V_t : Nat → Int32) (s1 : Int32) (ls : Array Slot) (H : Heap) (locs : List Loc), lv_has ls 5 [(0, .ref h_t)] → gx_W D A s (wd_X3_become cI cZ h_t V_t) H locs → fn_X3_become_j52 V_t s1 = some z → W p l e (gx_rm 0) s m args below meth c H locs 0 0 Q (F0 m 52 ls [.int s1, .ref h_t]) := by
  have hx := C.1.1
  have hb := C.1.2.1
  intro V_t s1 ls H locs hl hw hf
  rw [fn_X3_become_j52] at hf
  obtain ⟨hz_52, hf⟩ := gx_g hf
  refine gx_put (ws' := wd_X3_become cI cZ h_t (upd V_t 5 s1)) C hw 0 rfl rfl lp_X3_become_32 (gx_nb hz_52) (gx_fb hz_52) rfl dX3_become_52 (fun H locs hw => ?_)
  refine lv_aload_n hx hb dX3_become_55 rfl (lv_at hl 0 rfl) ?_
  refine lv_aload_n hx hb dX3_become_56 rfl (lv_at hl 0 rfl) ?_
  refine gx_get (v := .int (V_t 0)) C hw 0 rfl (gx_gj rfl ((pk_un (by decide)).trans rfl)) ln_X3_become_15 dX3_become_57 ?_
  refine lv_iconst (v := 1) hx hb dX3_become_60 (by decide) ?_
  refine lv_icmp_ne (tgt := 68) hx hb dX3_become_61 (by decide) (fun hc => ?_) (fun hc => ?_)
  · replace hf := gx_f hc hf
    refine lv_iconst (v := 0) hx hb dX3_become_68 (by decide) ?_
    exact tm_X3_become_69 C h_t hQ  (upd V_t 5 s1) 0 _ _ _ (lv_sub hl [0] rfl) hw hf
  · replace hf := gx_t hc hf
    refine lv_iconst (v := 1) hx hb dX3_become_64 (by decide) ?_
    refine lv_goto (tgt := 69) hx hb dX3_become_65 (by decide) ?_
    exact tm_X3_become_69 C h_t hQ  (upd V_t 5 s1) 1 _ _ _ (lv_sub hl [0] rfl) hw hf
set_option maxHeartbeats 4000000 in
set_option maxRecDepth 100000 in
theorem tm_X3_become_35 (C : gx_C cX3_become 5 wsX3_become RX3 D cI cZ p s m args c) (h_t : Nat) {z : (Nat → Int32)} (hQ : gx_Qv cX3_become p l e (gx_rm 0) s m args below meth c D A Q (wd_X3_become cI cZ h_t z)) : ∀ (V_t : Nat → Int32) (s1 : Int32) (ls : Array Slot) (H : Heap) (locs : List Loc), lv_has ls 5 [(0, .ref h_t)] → gx_W D A s (wd_X3_become cI cZ h_t V_t) H locs → fn_X3_become_j35 V_t s1 = some z → W p l e (gx_rm 0) s m args below meth c H locs 0 0 Q (F0 m 35 ls [.int s1, .ref h_t]) := by
  have hx := C.1.1
  have hb := C.1.2.1
  intro V_t s1 ls H locs hl hw hf
  rw [fn_X3_become_j35] at hf
  obtain ⟨hz_35, hf⟩ := gx_g hf
  refine gx_put (ws' := wd_X3_become cI cZ h_t (upd V_t 4 s1)) C hw 0 rfl rfl lp_X3_become_28 (gx_nb hz_35) (gx_fb hz_35) rfl dX3_become_35 (fun H locs hw => ?_)
  refine lv_aload_n hx hb dX3_become_38 rfl (lv_at hl 0 rfl) ?_
  refine lv_aload_n hx hb dX3_become_39 rfl (lv_at hl 0 rfl) ?_
  refine gx_get (v := .int (V_t 0)) C hw 0 rfl (gx_gj rfl ((pk_un (by decide)).trans rfl)) ln_X3_become_15 dX3_become_40 ?_
  refine lv_iconst (v := 2) hx hb dX3_become_43 (by decide) ?_
  refine lv_icmp_ne (tgt := 51) hx hb dX3_become_44 (by decide) (fun hc => ?_) (fun hc => ?_)
  · replace hf := gx_f hc hf
    refine lv_iconst (v := 0) hx hb dX3_become_51 (by decide) ?_
    exact tm_X3_become_52 C h_t hQ  (upd V_t 4 s1) 0 _ _ _ (lv_sub hl [0] rfl) hw hf
  · replace hf := gx_t hc hf
    refine lv_iconst (v := 1) hx hb dX3_become_47 (by decide) ?_
    refine lv_goto (tgt := 52) hx hb dX3_become_48 (by decide) ?_
    exact tm_X3_become_52 C h_t hQ  (upd V_t 4 s1) 1 _ _ _ (lv_sub hl [0] rfl) hw hf
set_option maxHeartbeats 4000000 in
set_option maxRecDepth 100000 in
theorem ct_X3_become (l : Launch) (D : va_G) (cI cZ : ClassId) (h_t : Nat) (V_t : Nat → Int32) (a1 a2 a3 a4 : Int32) {z : (Nat → Int32)} (hf : fn_X3_become V_t a1 a2 a3 a4 = some z) : gx_Mv l yX3_become wsX3_become (gx_rm 0) D cI cZ [.ref h_t, .int a1, .int a2, .int a3, .int a4] (wd_X3_become cI cZ h_t V_t) (wd_X3_become cI cZ h_t z) := by
  refine gx_ofv (cc := cX3_become) (own := RX3) (by decide) rfl rfl (Nat.le_of_ble_eq_true rfl) [(0, .ref h_t), (1, .int a1), (2, .int a2), (3, .int a3), (4, .int a4)] rfl ?_
  intro p e s m args below meth c A Q ls C hQ hl hw
  have hx := C.1.1
  have hb := C.1.2.1
  rw [fn_X3_become] at hf
  refine lv_aload_n hx hb dX3_become_0 rfl (lv_at hl 0 rfl) ?_
  refine lv_iload_n hx hb dX3_become_1 rfl (lv_at hl 1 rfl) ?_
  refine gx_put (ws' := wd_X3_become cI cZ h_t (upd V_t 0 a1)) C hw 0 rfl rfl lp_X3_become_15 rfl rfl rfl dX3_become_2 (fun H locs hw => ?_)
  refine lv_aload_n hx hb dX3_become_5 rfl (lv_at hl 0 rfl) ?_
  refine lv_iload_n hx hb dX3_become_6 rfl (lv_at hl 2 rfl) ?_
  refine gx_put (ws' := wd_X3_become cI cZ h_t (upd (upd V_t 0 a1) 1 a2)) C hw 0 rfl rfl lp_X3_become_19 rfl rfl rfl dX3_become_7 (fun H locs hw => ?_)
  refine lv_aload_n hx hb dX3_become_10 rfl (lv_at hl 0 rfl) ?_
  refine lv_iload_n hx hb dX3_become_11 rfl (lv_at hl 3 rfl) ?_
  refine gx_put (ws' := wd_X3_become cI cZ h_t (upd (upd (upd V_t 0 a1) 1 a2) 2 a3)) C hw 0 rfl rfl lp_X3_become_22 rfl rfl rfl dX3_become_12 (fun H locs hw => ?_)
  refine lv_aload_n hx hb dX3_become_15 rfl (lv_at hl 0 rfl) ?_
  refine lv_iload hx hb dX3_become_16 (lv_at hl 4 rfl) ?_
  refine gx_put (ws' := wd_X3_become cI cZ h_t (upd (upd (upd (upd V_t 0 a1) 1 a2) 2 a3) 3 a4)) C hw 0 rfl rfl lp_X3_become_25 rfl rfl rfl dX3_become_18 (fun H locs hw => ?_)
  refine lv_aload_n hx hb dX3_become_21 rfl (lv_at hl 0 rfl) ?_
  refine lv_aload_n hx hb dX3_become_22 rfl (lv_at hl 0 rfl) ?_
  refine gx_get (v := .int a1) C hw 0 rfl (gx_gj rfl ((pk_un (by decide)).trans ((pk_un (by decide)).trans ((pk_un (by decide)).trans pk_us)))) ln_X3_become_15 dX3_become_23 ?_
  refine lv_iconst (v := 2) hx hb dX3_become_26 (by decide) ?_
  refine lv_icmp_eq (tgt := 34) hx hb dX3_become_27 (by decide) (fun hc => ?_) (fun hc => ?_)
  · replace hf := gx_t hc hf
    refine lv_iconst (v := 0) hx hb dX3_become_34 (by decide) ?_
    exact tm_X3_become_35 C h_t hQ  (upd (upd (upd (upd V_t 0 a1) 1 a2) 2 a3) 3 a4) 0 _ _ _ (lv_sub hl [0] rfl) hw hf
  · replace hf := gx_f hc hf
    refine lv_iconst (v := 1) hx hb dX3_become_30 (by decide) ?_
    refine lv_goto (tgt := 35) hx hb dX3_become_31 (by decide) ?_
    exact tm_X3_become_35 C h_t hQ  (upd (upd (upd (upd V_t 0 a1) 1 a2) 2 a3) 3 a4) 1 _ _ _ (lv_sub hl [0] rfl) hw hf
-- LzwForms$Rules.isSymbol: touched ['t']; used ['t']; mod []; height 0
theorem ln_X3_isSymbol_38 : gx_L wsX3_isSymbol RX3 38 3 7 := ⟨_, _, _, rfl, by decide +kernel, by decide, Or.inl (by decide +kernel)⟩
def wd_X3_isSymbol (cI cZ : ClassId) (h_t : Nat) (V_t : Nat → Int32) : va_W := [gx_o h_t 3 [none, none, none, none, none, none, none, none, none, none, none, none] V_t]
set_option maxHeartbeats 4000000 in
set_option maxRecDepth 100000 in
theorem ct_X3_isSymbol (l : Launch) (D : va_G) (cI cZ : ClassId) (h_t : Nat) (V_t : Nat → Int32) (a1 : Int32) {z : Int32} (hf : fn_X3_isSymbol V_t a1 = some z) : gx_Mi l yX3_isSymbol wsX3_isSymbol (gx_rm 0) D cI cZ [.ref h_t, .int a1] (wd_X3_isSymbol cI cZ h_t V_t) (wd_X3_isSymbol cI cZ h_t V_t) z := by
  refine gx_ofi (cc := cX3_isSymbol) (own := RX3) (by decide) rfl rfl (Nat.le_of_ble_eq_true rfl) [(0, .ref h_t), (1, .int a1)] rfl ?_
  intro p e s m args below meth c A Q ls C hQ hl hw
  have hx := C.1.1
  have hb := C.1.2.1
  rw [fn_X3_isSymbol] at hf
  refine lv_iload_n hx hb dX3_isSymbol_0 rfl (lv_at hl 1 rfl) ?_
  refine lv_if_lt (tgt := 16) hx hb dX3_isSymbol_1 (by decide) (fun hc => ?_) (fun hc => ?_)
  · replace hf := gx_t hc hf
    refine lv_iconst (v := 0) hx hb dX3_isSymbol_16 (by decide) ?_
    obtain rfl := Option.some.inj hf
    exact hQ _ _ _ _ dX3_isSymbol_17 (gx_nb (Or.inl rfl)) hw
  · replace hf := gx_f hc hf
    refine lv_iload_n hx hb dX3_isSymbol_4 rfl (lv_at hl 1 rfl) ?_
    refine lv_aload_n hx hb dX3_isSymbol_5 rfl (lv_at hl 0 rfl) ?_
    refine gx_get (v := .int (V_t 7)) C hw 0 rfl (gx_gj rfl rfl) ln_X3_isSymbol_38 dX3_isSymbol_6 ?_
    refine lv_icmp_ge (tgt := 16) hx hb dX3_isSymbol_9 (by decide) (fun hc => ?_) (fun hc => ?_)
    · replace hf := gx_t hc hf
      refine lv_iconst (v := 0) hx hb dX3_isSymbol_16 (by decide) ?_
      obtain rfl := Option.some.inj hf
      exact hQ _ _ _ _ dX3_isSymbol_17 (gx_nb (Or.inl rfl)) hw
    · replace hf := gx_f hc hf
      refine lv_iconst (v := 1) hx hb dX3_isSymbol_12 (by decide) ?_
      refine lv_goto (tgt := 17) hx hb dX3_isSymbol_13 (by decide) ?_
      obtain rfl := Option.some.inj hf
      exact hQ _ _ _ _ dX3_isSymbol_17 (gx_nb (Or.inr rfl)) hw
-- LzwForms$Rules.countThatWidens: touched ['t']; used ['t']; mod []; height 0
theorem ln_X3_countThatWidens_47 : gx_L wsX3_countThatWidens RX3 47 3 11 := ⟨_, _, _, rfl, by decide +kernel, by decide, Or.inl (by decide +kernel)⟩
def wd_X3_countThatWidens (cI cZ : ClassId) (h_t : Nat) (V_t : Nat → Int32) : va_W := [gx_o h_t 3 [none, none, none, none, none, none, none, none, none, none, none, none] V_t]
set_option maxHeartbeats 4000000 in
set_option maxRecDepth 100000 in
theorem ct_X3_countThatWidens (l : Launch) (D : va_G) (cI cZ : ClassId) (h_t : Nat) (V_t : Nat → Int32) (a1 : Int32) {z : Int32} (hf : fn_X3_countThatWidens V_t a1 = some z) : gx_Mi l yX3_countThatWidens wsX3_countThatWidens (gx_rm 0) D cI cZ [.ref h_t, .int a1] (wd_X3_countThatWidens cI cZ h_t V_t) (wd_X3_countThatWidens cI cZ h_t V_t) z := by
  refine gx_ofi (cc := cX3_countThatWidens) (own := RX3) (by decide) rfl rfl (Nat.le_of_ble_eq_true rfl) [(0, .ref h_t), (1, .int a1)] rfl ?_
  intro p e s m args below meth c A Q ls C hQ hl hw
  have hx := C.1.1
  have hb := C.1.2.1
  rw [fn_X3_countThatWidens] at hf
  refine lv_iconst (v := 1) hx hb dX3_countThatWidens_0 (by decide) ?_
  refine lv_iload_n hx hb dX3_countThatWidens_1 rfl (lv_at hl 1 rfl) ?_
  refine lv_ishl hx hb dX3_countThatWidens_2 ?_
  refine lv_aload_n hx hb dX3_countThatWidens_3 rfl (lv_at hl 0 rfl) ?_
  refine gx_get (v := .int (V_t 11)) C hw 0 rfl (gx_gj rfl rfl) ln_X3_countThatWidens_47 dX3_countThatWidens_4 ?_
  refine lv_isub hx hb dX3_countThatWidens_7 ?_
  obtain rfl := Option.some.inj hf
  exact hQ _ _ _ _ dX3_countThatWidens_8 rfl hw
end
