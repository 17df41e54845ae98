theorem gx_arr {ty : FieldType} {args : Array Value} {s : State} (h : (Cond.arrayClass ty).before args s = true) : ∃ cA : ClassId, ArrOfT s cA ty ∧ s.vm.findClass ("[" ++ ty.toString) = some cA := by
  obtain ⟨cA, k, comp, h1, h2, h3⟩ := Cond.arrayClass_spec h
  exact ⟨cA, fun n z => ⟨fun k h => (by cases h), k, h2, comp, h3⟩, h1⟩
set_option maxRecDepth 20000 in
theorem gx_N_in : ∀ w ∈ gx_N.map gx_nw, w ∈ lw_tbl := gx_inP [69, 71, 72, 74, 75, 77, 78, 79, 81, 82, 83, 86, 88, 89, 90, 91, 92, 94, 95, 97, 98, 99, 101, 102, 151, 173, 175, 176, 178, 210, 231, 233, 235, 237, 239, 241, 276, 282] (by decide +kernel)
set_option maxRecDepth 20000 in
theorem gx_instX0 : Cond.instantiable RX0 7 ∈ lw_tbl := List.mem_of_getElem? (i := 166) (by decide +kernel)
set_option maxRecDepth 20000 in
theorem gx_instX1 : Cond.instantiable RX1 9 ∈ lw_tbl := List.mem_of_getElem? (i := 160) (by decide +kernel)
set_option maxRecDepth 20000 in
theorem gx_instX2 : Cond.instantiable RX2 2 ∈ lw_tbl := List.mem_of_getElem? (i := 136) (by decide +kernel)
set_option maxRecDepth 20000 in
theorem gx_instX3 : Cond.instantiable RX3 12 ∈ lw_tbl := List.mem_of_getElem? (i := 59) (by decide +kernel)
set_option maxRecDepth 20000 in
theorem gx_instX4 : Cond.instantiable RX4 7 ∈ lw_tbl := List.mem_of_getElem? (i := 198) (by decide +kernel)
set_option maxRecDepth 20000 in
theorem gx_instX5 : Cond.instantiable RX5 2 ∈ lw_tbl := List.mem_of_getElem? (i := 130) (by decide +kernel)
set_option maxRecDepth 20000 in
theorem gx_instX6 : Cond.instantiable RX6 10 ∈ lw_tbl := List.mem_of_getElem? (i := 263) (by decide +kernel)
set_option maxRecDepth 20000 in
theorem gx_instX7 : Cond.instantiable RX7 7 ∈ lw_tbl := List.mem_of_getElem? (i := 51) (by decide +kernel)
set_option maxRecDepth 20000 in
theorem gx_instX8 : Cond.instantiable RX8 28 ∈ lw_tbl := List.mem_of_getElem? (i := 602) (by decide +kernel)
set_option maxRecDepth 20000 in
theorem gx_arrI : Cond.arrayClass .int ∈ lw_tbl := List.mem_of_getElem? (i := 148) (by decide +kernel)
set_option maxRecDepth 20000 in
theorem gx_arrZ : Cond.arrayClass .boolean ∈ lw_tbl := List.mem_of_getElem? (i := 696) (by decide +kernel)
theorem ki_L_law_9 : gx_KI wsL_law RL 9 yX7_init cX7_init 3 wsX7_init (gx_rmc 3 26 4780) room_1 0 := ⟨gL_law_X7_init, ⟨_, rfl⟩, rfl, by decide +kernel, by decide +kernel, by decide +kernel, ⟨by decide, by decide, by decide +kernel⟩, ⟨by decide, by decide⟩⟩
theorem ki_L_law_12 : gx_KI wsL_law RL 12 yX8_init cX8_init 1 wsX8_init (gx_rmc 1 9 6800) room_1 0 := ⟨gL_law_X8_init, ⟨_, rfl⟩, rfl, by decide +kernel, by decide +kernel, by decide +kernel, ⟨by decide, by decide, by decide +kernel⟩, ⟨by decide, by decide⟩⟩
set_option maxHeartbeats 8000000 in
set_option maxRecDepth 100000 in
theorem whole_start {p : Program} {e : Env} {s : State} {m : MethodId} {below : List Frame} {meth : Method} {c : Code} (l : Launch) {b L : Nat} {xs : Nat → Int32} (hL : L ≤ 2560) (C0 : lw_At p s m meth c b L xs) : W p l e room_1 s m #[Value.ref b] below meth c s.heap [] 0 0 (lw_Z below #[Value.ref b] s) (entryFrame m ([Value.ref b] : List Value).toArray 4) := by
  obtain ⟨hx, hb, hr, hml, hown, hts, hX, hbl, hlocks, hgv⟩ := id C0
  obtain ⟨c0, iS0, hKn0⟩ := u_known (C := RX0) (T := TX0) (N := 7) (n := 7) hts inX0 (hts _ gx_instX0)
  obtain ⟨c1, iS1, hKn1⟩ := u_known (C := RX1) (T := TX1) (N := 9) (n := 9) hts inX1 (hts _ gx_instX1)
  obtain ⟨c2, iS2, hKn2⟩ := u_known (C := RX2) (T := TX2) (N := 2) (n := 2) hts inX2 (hts _ gx_instX2)
  obtain ⟨c3, iS3, hKn3⟩ := u_known (C := RX3) (T := TX3) (N := 12) (n := 12) hts inX3 (hts _ gx_instX3)
  obtain ⟨c4, iS4, hKn4⟩ := u_known (C := RX4) (T := TX4) (N := 7) (n := 7) hts inX4 (hts _ gx_instX4)
  obtain ⟨c5, iS5, hKn5⟩ := u_known (C := RX5) (T := TX5) (N := 2) (n := 2) hts inX5 (hts _ gx_instX5)
  obtain ⟨c6, iS6, hKn6⟩ := u_known (C := RX6) (T := TX6) (N := 10) (n := 10) hts inX6 (hts _ gx_instX6)
  obtain ⟨c7, iS7, hKn7⟩ := u_known (C := RX7) (T := TX7) (N := 7) (n := 7) hts inX7 (hts _ gx_instX7)
  obtain ⟨c8, iS8, hKn8⟩ := u_known (C := RX8) (T := TX8) (N := 28) (n := 28) hts inX8 (hts _ gx_instX8)
  obtain ⟨dC, dI, hKc⟩ : ∃ (dC : Nat → ClassId) (dI : Nat → Nat → Nat), ∀ (k : Nat) (q : vw_C), vwCl[k]? = some q → u_Kn s q.1 q.2.1 q.2.2 (dC k) (dI k) := by
    refine ⟨fun k => if k = 0 then c0 else if k = 1 then c1 else if k = 2 then c2 else if k = 3 then c3 else if k = 4 then c4 else if k = 5 then c5 else if k = 6 then c6 else if k = 7 then c7 else c8, fun k => if k = 0 then iS0 else if k = 1 then iS1 else if k = 2 then iS2 else if k = 3 then iS3 else if k = 4 then iS4 else if k = 5 then iS5 else if k = 6 then iS6 else if k = 7 then iS7 else iS8, ?_⟩
    intro k q hq
    match k, hq with
    | 0, hq => cases hq; exact hKn0
    | 1, hq => cases hq; exact hKn1
    | 2, hq => cases hq; exact hKn2
    | 3, hq => cases hq; exact hKn3
    | 4, hq => cases hq; exact hKn4
    | 5, hq => cases hq; exact hKn5
    | 6, hq => cases hq; exact hKn6
    | 7, hq => cases hq; exact hKn7
    | 8, hq => cases hq; exact hKn8
    | k + 9, hq => simp [vwCl] at hq
  obtain ⟨cI, hI1, hI2⟩ := gx_arr (hts _ gx_arrI)
  obtain ⟨cZ, hZ1, hZ2⟩ := gx_arr (hts _ gx_arrZ)
  have hK : va_K (dC, dI) vwCl [(cI, .int), (cZ, .boolean)] s := by
    refine ⟨hKc, fun k q hq => ?_⟩
    match k, hq with
    | 0, hq => cases hq; exact ⟨hI1, hI2⟩
    | 1, hq => cases hq; exact ⟨hZ1, hZ2⟩
    | k + 2, hq => simp at hq
  have C : gx_C cL_law 4 wsL_law RL (dC, dI) cI cZ p s m #[Value.ref b] c := ⟨⟨hx, hb, hml, hown, fun w h => hts w (wsL_law_in w h)⟩, hK, fun q hq => va_Nw.of rfl (hts _ (gx_N_in _ (List.mem_map_of_mem hq)))⟩
  have hw : gx_W (dC, dI) (fun q : Nat => s.heap.size ≤ q) s [] s.heap [] := ⟨fun k q h => by simp at h, ⟨fun i j p q h => by simp at h, fun k q h => by simp at h⟩, va_S.rf, fun _ h => h⟩
  have hl := lv_entry ([.ref b]) (n := 4) (Nat.le_of_ble_eq_true rfl)
  rw [lg_entry_eq]
  generalize (lg_sl ([.ref b]) ++ List.replicate (4 - (lg_sl ([.ref b])).length) Slot.unset).toArray = ls at hl ⊢
  have hl : lv_has ls 4 [(0, .ref b)] := hl
  obtain ⟨R0, hR⟩ := pu_R0_all
  obtain ⟨T0, hT⟩ := pu_T0_all
  refine gx_new (T := TX7) (N := 7) (ci := 7) (idx := 7) C hw tyX7 tyX7_ok (fun w h => inlX7 w h) (by decide +kernel) (by decide +kernel) (by decide +kernel) rfl [some none, some none, some none, some none, some none, none, none] (by intro j hj; rcases (show j = 0 ∨ j = 1 ∨ j = 2 ∨ j = 3 ∨ j = 4 ∨ j = 5 ∨ j = 6 by omega) with rfl | rfl | rfl | rfl | rfl | rfl | rfl <;> rfl) (by decide) (by decide) dL_law_0 (fun qx H hw => ?_)
  have hw : gx_W (dC, dI) (fun q : Nat => s.heap.size ≤ q) s [gx_o qx 7 [some none, some none, some none, some none, some none, none, none] (fun _ => 0)] H _ := hw
  refine W.cs (cells' := 1) (slots' := 7) rfl rfl ?_
  refine lv_dup hx hb dL_law_3 rfl ?_
  refine gx_callc (As := []) (isC := [0]) (isR := []) (mc := 26) (ms := 4780) C hw (ct_X7_init l (dC, dI) cI cZ qx hR hT) ki_L_law_9 ⟨rfl, rfl⟩ rfl rfl (by decide) (by decide) (by decide) rfl rfl hl.1 (Nat.le_of_ble_eq_true rfl) ⟨by decide, by decide⟩ dL_law_4 (fun w1 H locs hw1 hw => ?_)
  obtain ⟨q1, q2, q3, q4, q5, q6, q7, q8, q9, q10, q11, q12, q13, q14, q15, q16, q17, q18, q19, q20, q21, q22, q23, q24, q25, q26, rfl⟩ := hw1
  have hw : gx_W (dC, dI) (fun q : Nat => s.heap.size ≤ q) s [gx_o qx 7 [some (some q1), some (some q5), some (some q2), some (some q7), some (some q21), none, none] (upd (upd (fun _ => 0) 5 0) 6 (-1)), gx_o q1 3 [none, none, none, none, none, none, none, none, none, none, none, none] R0, gx_o q2 5 [some (some q1), some (some q3)] (fun _ => 0), gx_o q3 2 [some (some q4), none] (upd (fun _ => 0) 1 0), gx_a q4 cI 400 (fun _ => 0), gx_o q5 2 [some (some q6), none] (upd (fun _ => 0) 1 0), gx_a q6 cI 300 (fun _ => 0), gx_o q7 1 [some (some q1), some (some q8), some (some q9), some (some q15), some (some q17), some (some q19), none, none, none] (fun _ => 0), gx_o q8 0 [some (some q1), none, none, none, none, none, none] (fun _ => 0), gx_o q9 4 [some (some q1), some (some q10), some (some q11), some (some q12), some (some q13), some (some q14), none] (upd (fun _ => 0) 6 0), gx_a q10 cI 300 (fun _ => 0), gx_a q11 cI 300 (fun _ => 0), gx_a q12 cI 300 (fun _ => 0), gx_a q13 cI 300 (fun _ => 0), gx_a q14 cI 558 T0, gx_o q15 2 [some (some q16), none] (upd (fun _ => 0) 1 0), gx_a q16 cI 452 (fun _ => 0), gx_o q17 2 [some (some q18), none] (upd (fun _ => 0) 1 0), gx_a q18 cI 452 (fun _ => 0), gx_o q19 2 [some (some q20), none] (upd (fun _ => 0) 1 0), gx_a q20 cI 452 (fun _ => 0), gx_o q21 6 [some (some q1), some (some q2), some (some q22), some (some q23), some (some q25), some (some q26), none, none, none, none] (fun _ => 0), gx_o q22 0 [some (some q1), none, none, none, none, none, none] (fun _ => 0), gx_o q23 2 [some (some q24), none] (upd (fun _ => 0) 1 0), gx_a q24 cI 300 (fun _ => 0), gx_a q25 cI 300 (fun _ => 0), gx_a q26 cI 300 (fun _ => 0)] H locs := hw
  refine W.cs (cells' := 27) (slots' := 4787) rfl rfl ?_
  refine lv_astore_n (lv' := [(1, .ref qx), (0, .ref b)]) hx hb dL_law_7 rfl hl (by decide) rfl (fun ls hl => ?_)
  refine gx_new (T := TX8) (N := 28) (ci := 8) (idx := 10) C hw tyX8 tyX8_ok (fun w h => inlX8 w h) (by decide +kernel) (by decide +kernel) (by decide +kernel) rfl [none, none, none, none, some none, none, some none, none, none, none, some none, some none, some none, none, none, none, none, some none, some none, some none, none, none, none, none, some none, none, none, none] (by intro j hj; rcases (show j = 0 ∨ j = 1 ∨ j = 2 ∨ j = 3 ∨ j = 4 ∨ j = 5 ∨ j = 6 ∨ j = 7 ∨ j = 8 ∨ j = 9 ∨ j = 10 ∨ j = 11 ∨ j = 12 ∨ j = 13 ∨ j = 14 ∨ j = 15 ∨ j = 16 ∨ j = 17 ∨ j = 18 ∨ j = 19 ∨ j = 20 ∨ j = 21 ∨ j = 22 ∨ j = 23 ∨ j = 24 ∨ j = 25 ∨ j = 26 ∨ j = 27 by omega) with rfl | rfl | rfl | rfl | rfl | rfl | rfl | rfl | rfl | rfl | rfl | rfl | rfl | rfl | rfl | rfl | rfl | rfl | rfl | rfl | rfl | rfl | rfl | rfl | rfl | rfl | rfl | rfl <;> rfl) (by decide) (by decide) dL_law_8 (fun qm H hw => ?_)
  have hw : gx_W (dC, dI) (fun q : Nat => s.heap.size ≤ q) s [gx_o qx 7 [some (some q1), some (some q5), some (some q2), some (some q7), some (some q21), none, none] (upd (upd (fun _ => 0) 5 0) 6 (-1)), gx_o q1 3 [none, none, none, none, none, none, none, none, none, none, none, none] R0, gx_o q2 5 [some (some q1), some (some q3)] (fun _ => 0), gx_o q3 2 [some (some q4), none] (upd (fun _ => 0) 1 0), gx_a q4 cI 400 (fun _ => 0), gx_o q5 2 [some (some q6), none] (upd (fun _ => 0) 1 0), gx_a q6 cI 300 (fun _ => 0), gx_o q7 1 [some (some q1), some (some q8), some (some q9), some (some q15), some (some q17), some (some q19), none, none, none] (fun _ => 0), gx_o q8 0 [some (some q1), none, none, none, none, none, none] (fun _ => 0), gx_o q9 4 [some (some q1), some (some q10), some (some q11), some (some q12), some (some q13), some (some q14), none] (upd (fun _ => 0) 6 0), gx_a q10 cI 300 (fun _ => 0), gx_a q11 cI 300 (fun _ => 0), gx_a q12 cI 300 (fun _ => 0), gx_a q13 cI 300 (fun _ => 0), gx_a q14 cI 558 T0, gx_o q15 2 [some (some q16), none] (upd (fun _ => 0) 1 0), gx_a q16 cI 452 (fun _ => 0), gx_o q17 2 [some (some q18), none] (upd (fun _ => 0) 1 0), gx_a q18 cI 452 (fun _ => 0), gx_o q19 2 [some (some q20), none] (upd (fun _ => 0) 1 0), gx_a q20 cI 452 (fun _ => 0), gx_o q21 6 [some (some q1), some (some q2), some (some q22), some (some q23), some (some q25), some (some q26), none, none, none, none] (fun _ => 0), gx_o q22 0 [some (some q1), none, none, none, none, none, none] (fun _ => 0), gx_o q23 2 [some (some q24), none] (upd (fun _ => 0) 1 0), gx_a q24 cI 300 (fun _ => 0), gx_a q25 cI 300 (fun _ => 0), gx_a q26 cI 300 (fun _ => 0), gx_o qm 8 [none, none, none, none, some none, none, some none, none, none, none, some none, some none, some none, none, none, none, none, some none, some none, some none, none, none, none, none, some none, none, none, none] (fun _ => 0)] H _ := hw
  refine W.cs (cells' := 28) (slots' := 4815) rfl rfl ?_
  refine lv_dup hx hb dL_law_11 rfl ?_
  refine gx_callc (As := []) (isC := [27]) (isR := [0, 1, 2, 3, 4, 5, 6, 7, 8, 9, 10, 11, 12, 13, 14, 15, 16, 17, 18, 19, 20, 21, 22, 23, 24, 25, 26]) (mc := 9) (ms := 6800) C hw (ct_X8_init l (dC, dI) cI cZ qm) ki_L_law_12 ⟨rfl, rfl⟩ rfl rfl (by decide) (by decide) (by decide) rfl rfl hl.1 (Nat.le_of_ble_eq_true rfl) ⟨by decide, by decide⟩ dL_law_12 (fun w1 H locs hw1 hw => ?_)
  obtain ⟨r1, r2, r3, r4, r5, r6, r7, r8, r9, rfl⟩ := hw1
  have hw : gx_W (dC, dI) (fun q : Nat => s.heap.size ≤ q) s [gx_o qx 7 [some (some q1), some (some q5), some (some q2), some (some q7), some (some q21), none, none] (upd (upd (fun _ => 0) 5 0) 6 (-1)), gx_o q1 3 [none, none, none, none, none, none, none, none, none, none, none, none] R0, gx_o q2 5 [some (some q1), some (some q3)] (fun _ => 0), gx_o q3 2 [some (some q4), none] (upd (fun _ => 0) 1 0), gx_a q4 cI 400 (fun _ => 0), gx_o q5 2 [some (some q6), none] (upd (fun _ => 0) 1 0), gx_a q6 cI 300 (fun _ => 0), gx_o q7 1 [some (some q1), some (some q8), some (some q9), some (some q15), some (some q17), some (some q19), none, none, none] (fun _ => 0), gx_o q8 0 [some (some q1), none, none, none, none, none, none] (fun _ => 0), gx_o q9 4 [some (some q1), some (some q10), some (some q11), some (some q12), some (some q13), some (some q14), none] (upd (fun _ => 0) 6 0), gx_a q10 cI 300 (fun _ => 0), gx_a q11 cI 300 (fun _ => 0), gx_a q12 cI 300 (fun _ => 0), gx_a q13 cI 300 (fun _ => 0), gx_a q14 cI 558 T0, gx_o q15 2 [some (some q16), none] (upd (fun _ => 0) 1 0), gx_a q16 cI 452 (fun _ => 0), gx_o q17 2 [some (some q18), none] (upd (fun _ => 0) 1 0), gx_a q18 cI 452 (fun _ => 0), gx_o q19 2 [some (some q20), none] (upd (fun _ => 0) 1 0), gx_a q20 cI 452 (fun _ => 0), gx_o q21 6 [some (some q1), some (some q2), some (some q22), some (some q23), some (some q25), some (some q26), none, none, none, none] (fun _ => 0), gx_o q22 0 [some (some q1), none, none, none, none, none, none] (fun _ => 0), gx_o q23 2 [some (some q24), none] (upd (fun _ => 0) 1 0), gx_a q24 cI 300 (fun _ => 0), gx_a q25 cI 300 (fun _ => 0), gx_a q26 cI 300 (fun _ => 0), gx_o qm 8 [none, none, none, none, some (some r1), none, some (some r2), none, none, none, some (some r3), some (some r4), some (some r5), none, none, none, none, some (some r6), some (some r7), some (some r8), none, none, none, none, some (some r9), none, none, none] (upd (upd (upd (upd (upd (fun _ => 0) 1 8) 2 12) 3 1) 8 (-1)) 21 0), gx_a r1 cI 300 (fun _ => 0), gx_a r2 cZ 3200 (fun _ => 0), gx_a r3 cI 700 (fun _ => 0), gx_a r4 cI 700 (fun _ => 0), gx_a r5 cI 700 (fun _ => 0), gx_a r6 cI 300 (fun _ => 0), gx_a r7 cI 300 (fun _ => 0), gx_a r8 cI 300 (fun _ => 0), gx_a r9 cI 300 (fun _ => 0)] H locs := hw
  refine W.cs (cells' := 37) (slots' := 11615) rfl rfl ?_
  refine lv_astore_n (lv' := [(2, .ref qm), (1, .ref qx), (0, .ref b)]) hx hb dL_law_15 rfl hl (by decide) rfl (fun ls hl => ?_)
  refine lv_iconst (v := 0) hx hb dL_law_16 (by decide) ?_
  refine lv_istore_n (lv' := [(3, .int 0), (2, .ref qm), (1, .ref qx), (0, .ref b)]) hx hb dL_law_17 rfl hl (by decide) rfl (fun ls hl => ?_)
  have hw := hw.perm (isP := [0, 1, 5, 6, 2, 3, 4, 7, 8, 9, 10, 11, 12, 13, 14, 15, 16, 17, 18, 19, 20, 21, 22, 23, 24, 25, 26, 27, 28, 29, 30, 31, 32, 33, 34, 35, 36]) (ws' := wd_L_law cI cZ qx q1 q5 q6 q2 q3 q4 q7 q8 q9 q10 q11 q12 q13 q14 q15 q16 q17 q18 q19 q20 q21 q22 q23 q24 q25 q26 qm r1 r2 r3 r4 r5 r6 r7 r8 r9 (upd (upd (fun _ => 0) 5 0) 6 (-1)) R0 (upd (fun _ => 0) 1 0) (fun _ => 0) (fun _ => 0) (upd (fun _ => 0) 1 0) (fun _ => 0) (fun _ => 0) (fun _ => 0) (upd (fun _ => 0) 6 0) (fun _ => 0) (fun _ => 0) (fun _ => 0) (fun _ => 0) T0 (upd (fun _ => 0) 1 0) (fun _ => 0) (upd (fun _ => 0) 1 0) (fun _ => 0) (upd (fun _ => 0) 1 0) (fun _ => 0) (fun _ => 0) (fun _ => 0) (upd (fun _ => 0) 1 0) (fun _ => 0) (fun _ => 0) (fun _ => 0) (upd (upd (upd (upd (upd (fun _ => 0) 1 8) 2 12) 3 1) 8 (-1)) 21 0) (fun _ => 0) (fun _ => 0) (fun _ => 0) (fun _ => 0) (fun _ => 0) (fun _ => 0) (fun _ => 0) (fun _ => 0) (fun _ => 0)) (by decide) rfl
  exact tm_L_law_18 C hr hlocks hX hbl qx q1 q5 q6 q2 q3 q4 q7 q8 q9 q10 q11 q12 q13 q14 q15 q16 q17 q18 q19 q20 q21 q22 q23 q24 q25 q26 qm r1 r2 r3 r4 r5 r6 r7 r8 r9 (fun _ => 0) gx_fuel (upd (upd (fun _ => 0) 5 0) 6 (-1)) R0 (upd (fun _ => 0) 1 0) (fun _ => 0) (upd (fun _ => 0) 1 0) (fun _ => 0) (fun _ => 0) (fun _ => 0) (upd (fun _ => 0) 6 0) (fun _ => 0) (fun _ => 0) (fun _ => 0) (fun _ => 0) T0 (upd (fun _ => 0) 1 0) (fun _ => 0) (upd (fun _ => 0) 1 0) (fun _ => 0) (upd (fun _ => 0) 1 0) (fun _ => 0) (fun _ => 0) (fun _ => 0) (upd (fun _ => 0) 1 0) (fun _ => 0) (fun _ => 0) (fun _ => 0) (upd (upd (upd (upd (upd (fun _ => 0) 1 8) 2 12) 3 1) 8 (-1)) 21 0) (fun _ => 0) (fun _ => 0) (fun _ => 0) (fun _ => 0) (fun _ => 0) (fun _ => 0) (fun _ => 0) (fun _ => 0) (fun _ => 0) 0 ls H locs (lv_sub hl [3, 2, 1, 0] rfl) hw (pu_law_all hR hT xs L hL)
