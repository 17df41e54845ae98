/-! Constructors: new cells, final fields, calls of <init>. -/
def gx_rmc (d mc ms : Nat) : Room := { frames := d, cells := mc, slots := ms, locals := 28 * d }
def gx_Mc (l : Launch) (y : MethodName) (wl : List Cond) (rm : Room) (D : va_G) (cI cZ : ClassId) (av : List Value) (ws : va_W) (P : va_W → Prop) (mc ms : Nat) : Prop := ∀ sz, Met l y wl rm (va_Pc av (gx_B D cI cZ ws sz)) (va_Qv (fun (w' : va_W) => P w') (fun w' t => gx_E D ws w' sz t) (va_A ws sz)) mc ms (va_A ws sz)
def gx_KI (Ts : List Cond) (own : String) (idx : Nat) (y : MethodName) (bytes : ByteArray) (maxL : Nat) (wl : List Cond) (rm R : Room) (n : Nat) : Prop := GoodIn Ts wl ∧ (∃ wl', wl = Cond.code y bytes maxL none :: wl') ∧ y.name = "<init>" ∧ Cond.initialized y.cls ∈ Ts ∧ Cond.methodLink own idx y ∈ Ts ∧ Cond.instanceMethod y ∈ Ts ∧ gx_D y n ∧ gx_R maxL rm R
def gx_Qc (cc : ByteArray) (p : Program) (l : Launch) (e : Env) (R : Room) (s : State) (m : MethodId) (args : Array Value) (below : List Frame) (meth : Method) (c : Code) (D : va_G) (A : Nat → Prop) (Q : State → Prop) (P : va_W → Prop) (mc ms : Nat) : Prop := ∀ (pc : Nat) (ls : Array Slot) (H : Heap) (locs : List Loc) (w' : va_W), decode cc pc = .ok (.return_, 1) → P w' → gx_W D A s w' H locs → W p l e R s m args below meth c H locs mc ms Q (F0 m pc ls [])
section GY
variable {p : Program} {l : Launch} {e : Env} {R : Room} {s : State} {m : MethodId} {args : Array Value} {below : List Frame} {meth : Method} {c : Code} {H : Heap} {locs : List Loc} {cells slots : Nat} {Q : State → Prop}
variable {cc : ByteArray} {nL pc : Nat} {Ts : List Cond} {own : String} {D : va_G} {cI cZ : ClassId} {A : Nat → Prop} {ws ws' : va_W} {ls : Array Slot} {rest st : List Value}
theorem gx_newI (C : gx_C cc nL Ts own D cI cZ p s m args c) (hw : gx_W D A s ws H locs) (harr : Cond.arrayClass .int ∈ Ts) {n : Int32} {N : Nat} (hn : ¬ n < 0) (hN : n.toNatClampNeg = N) (hby : N * 4 ≤ 536870912) (hcells : cells + 1 ≤ R.cells) (hslots : slots + N ≤ R.slots) (hdg : decode cc pc = .ok (.newarray .int, 2))
    (kk : ∀ (q : Nat) (H : Heap), gx_W D A s (ws ++ [gx_a q cI N (fun _ => 0)]) H locs → W p l e R s m args below meth c H locs (cells + 1) (slots + N) Q (F0 m (pc + 2) ls (.ref q :: rest))) : W p l e R s m args below meth c H locs cells slots Q (F0 m pc ls (.int n :: rest)) := by
  refine va_newa (atype := .int) (ty := .int) (a0 := (N, .inl (fun _ => 0))) C.1.1 C.1.2.1 (C.1.2.2.2.2 _ harr) rfl C.2.1 hw.1 hw.2.1 hw.2.2.1 hw.2.2.2 (fun cA => rfl) hn hN hby hcells hslots hdg (fun q cA H1 hK hP hD hS => ?_)
  have h1 : s.vm.findClass ("[" ++ FieldType.int.toString) = some cA := (hK.2 2 (cA, .int) rfl).2
  have h2 : s.vm.findClass ("[" ++ FieldType.int.toString) = some cI := (hK.2 0 (cI, .int) rfl).2
  have h3 : cA = cI := Option.some.inj (h1.symm.trans h2)
  subst h3
  exact kk q H1 ⟨hP, hD, hS, hw.2.2.2⟩
theorem gx_newZ (C : gx_C cc nL Ts own D cI cZ p s m args c) (hw : gx_W D A s ws H locs) (harr : Cond.arrayClass .boolean ∈ Ts) {n : Int32} {N : Nat} (hn : ¬ n < 0) (hN : n.toNatClampNeg = N) (hby : N * 1 ≤ 536870912) (hcells : cells + 1 ≤ R.cells) (hslots : slots + N ≤ R.slots) (hdg : decode cc pc = .ok (.newarray .boolean, 2))
    (kk : ∀ (q : Nat) (H : Heap), gx_W D A s (ws ++ [gx_a q cZ N (fun _ => 0)]) H locs → W p l e R s m args below meth c H locs (cells + 1) (slots + N) Q (F0 m (pc + 2) ls (.ref q :: rest))) : W p l e R s m args below meth c H locs cells slots Q (F0 m pc ls (.int n :: rest)) := by
  refine va_newa (atype := .boolean) (ty := .boolean) (a0 := (N, .inl (fun _ => 0))) C.1.1 C.1.2.1 (C.1.2.2.2.2 _ harr) rfl C.2.1 hw.1 hw.2.1 hw.2.2.1 hw.2.2.2 (fun cA => rfl) hn hN hby hcells hslots hdg (fun q cA H1 hK hP hD hS => ?_)
  have h1 : s.vm.findClass ("[" ++ FieldType.boolean.toString) = some cA := (hK.2 2 (cA, .boolean) rfl).2
  have h2 : s.vm.findClass ("[" ++ FieldType.boolean.toString) = some cZ := (hK.2 1 (cZ, .boolean) rfl).2
  have h3 : cA = cZ := Option.some.inj (h1.symm.trans h2)
  subst h3
  exact kk q H1 ⟨hP, hD, hS, hw.2.2.2⟩
theorem gx_new (C : gx_C cc nL Ts own D cI cZ p s m args c) (hw : gx_W D A s ws H locs) {C' : String} {T : u_T} {N ci idx : Nat} (ty : Nat → FieldType) (hty : ∀ k, k < N → parseFieldDescriptor (T k).2.2.1 = some (ty k)) (hin : ∀ w ∈ u_ws C' T N, w ∈ Ts) (hcl : Cond.classLink own idx C' ∈ Ts) (hinst : Cond.instantiable C' N ∈ Ts) (hini : Cond.initialized C' ∈ Ts) (hc : vwCl[ci]? = some (C', T, N)) (tm : List (Option (Option Nat))) (hfs : ∀ j, j < N → defaultValue (ty j) = vp_V (gx_fs 0 tm (fun _ => 0)) j) (hcells : cells + 1 ≤ R.cells) (hslots : slots + N ≤ R.slots) (hdg : decode cc pc = .ok (.new idx, 3))
    (kk : ∀ (q : Nat) (H : Heap), gx_W D A s (ws ++ [gx_o q ci tm (fun _ => 0)]) H locs → W p l e R s m args below meth c H locs (cells + 1) (slots + N) Q (F0 m (pc + 3) ls (.ref q :: rest))) : W p l e R s m args below meth c H locs cells slots Q (F0 m pc ls rest) :=
  va_new C.1.1 C.1.2.1 C.1.2.2.2.2 hin ty hty C.1.2.2.2.1 (C.1.2.2.2.2 _ hcl) (C.1.2.2.2.2 _ hinst) (C.1.2.2.2.2 _ hini) C.2.1 hw.1 hw.2.1 hw.2.2.1 hw.2.2.2 hc hfs hcells hslots hdg (fun q H1 hP hD hS => kk q H1 ⟨hP, hD, hS, hw.2.2.2⟩)
theorem gx_putF (C : gx_C cc nL Ts own D cI cZ p s m args c) (hin2 : meth.name = "<init>") (hw : gx_W D A s ws H locs) (q0 : Nat) {a ci v : Nat} {tm : List (Option (Option Nat))} {V : Nat → Int32} (he : ws[q0]? = some (gx_o a ci tm V)) {k : Nat} (hk : k < tm.length) {ty : FieldType} {idx : Nat} (L : gx_LP Ts own idx ci k true ty) (hn : narrow ty (.ref v) = .ref v) (hfit : fits ty (.ref v) = true) (hs : ws.set q0 (gx_o a ci (tm.set k (some (some v))) V) = ws') (hdg : decode cc pc = .ok (.putfield idx, 3))
    (kk : ∀ (H : Heap) (locs : List Loc), gx_W D A s ws' H locs → W p l e R s m args below meth c H locs cells slots Q (F0 m (pc + 3) ls rest)) : W p l e R s m args below meth c H locs cells slots Q (F0 m pc ls (.ref v :: .ref a :: rest)) := by
  obtain ⟨⟨hx, hb, hml, hown, hts⟩, hK⟩ := C
  obtain ⟨C', T, N, ty0, hc, hin, hkN, hl, hty, hnm, hfin, hdecl, hd⟩ := L
  have hlen : k < (gx_fs 0 tm V).length := by rw [gx_fs_len]; exact hk
  refine va_putF hx hb hts hin ty0 hty hnm hown hK.1 hw.1 hw.2.1 hw.2.2.1 q0 he hc k hkN (hts _ hl) (fun _ h => h) hfin hin2 hdecl hd hn hfit hlen hdg (fun H1 locs1 hP hD hS => ?_)
  rw [gx_fs_setr] at hP hD
  subst hs
  exact kk H1 locs1 ⟨hP, hD, hS, hw.2.2.2⟩
theorem gx_objI (C : gx_C cc nL Ts own D cI cZ p s m args c) {idx a : Nat} (h1 : Cond.methodLink own idx objectInit ∈ Ts) (h2 : Cond.instanceMethod objectInit ∈ Ts) (h3 : Cond.code objectInit ⟨#[0xb1]⟩ 1 none ∈ Ts) (hsize : ls.size = nL) (hdg : decode cc pc = .ok (.invokespecial idx, 3)) (hR : 1 ≤ R.frames) (hl : (rest.map fun v => v.category).sum + 12 ≤ R.locals)
    (kk : W p l e R s m args below meth c H locs cells slots Q (F0 m (pc + 3) ls rest)) : W p l e R s m args below meth c H locs cells slots Q (F0 m pc ls (.ref a :: rest)) :=
  W.objInit C.1.1 C.1.2.1 C.1.2.2.2.1 (C.1.2.2.2.2 _ h1) (C.1.2.2.2.2 _ h2) (C.1.2.2.2.2 _ h3) rfl (hsize.trans C.1.2.2.1.symm) rfl hdg hR (by show 2 * 0 + _ + 12 ≤ _; omega) kk
theorem gx_callc {y : MethodName} {bytes : ByteArray} {maxL n idx b mc ms : Nat} {wl : List Cond} {rm : Room} {As : List Value} {wc : va_W} {isC isR : List Nat} {P : va_W → Prop} (C : gx_C cc nL Ts own D cI cZ p s m args c) (hw : gx_W D A s ws H locs) (hM : gx_Mc l y wl rm D cI cZ (.ref b :: As) wc P mc ms) (K : gx_KI Ts own idx y bytes maxL wl rm R n) (hr0 : rm.cells = mc ∧ rm.slots = ms) (hC : isC.map (fun i => ws[i]?) = wc.map some) (hR : isR.map (fun i => ws[i]?) = (isR.filterMap (fun i => ws[i]?)).map some) (hnC : va_nd isC = true) (hnR : va_nd isR = true) (hdis : ∀ i ∈ isR, i ∉ isC) (hn : As.length = n) (hst : st = As.reverse ++ .ref b :: rest) (hsize : ls.size = nL) (hroom : (rest.map fun v => v.category).sum ≤ 8) (hf : cells + mc ≤ R.cells ∧ slots + ms ≤ R.slots) (hdg : decode cc pc = .ok (.invokespecial idx, 3))
    (kk : ∀ (w' : va_W) (H : Heap) (locs : List Loc), P w' → gx_W D A s (isR.filterMap (fun i => ws[i]?) ++ w') H locs → W p l e R s m args below meth c H locs (cells + mc) (slots + ms) Q (F0 m (pc + 3) ls rest)) : W p l e R s m args below meth c H locs cells slots Q (F0 m pc ls st) := by
  obtain ⟨hG, ⟨wl', hwl⟩, hy, hini, hlk, hins, hd, hRR⟩ := K
  have hp := gx_preB (av := .ref b :: As) C hw hC hnC
  have hcw := cwI (R := R) (rm := rm) (mc := mc) (ms := ms) n C.1.2.2.2.2 hG hwl hr0.1 hr0.2 (C.1.2.2.2.2 _ hini) (C.1.2.2.2.2 _ hlk) (C.1.2.2.2.2 _ hins) hy hd hRR
  have hFc := va_free (wc := wc) hw.2.1 hw.2.2.1 hw.2.2.2 isC hC
  refine va_callv (va_runI (As := As) (rest := rest) C.1 (hM H.size) hcw hp rfl hn hsize hst (lv_room hroom) hdg hf) hw.2.2.1 (fun q _ h => hFc q h) hFc (fun w' t H1 locs1 ht hvm hx hE hz1 hk1 hS => ?_)
  obtain ⟨h1, h2⟩ := va_join hw.1 hw.2.1 isC isR hC hR hnR hdis hk1 hFc (ht ▸ hE.1) hE.2
  exact kk w' H1 locs1 hx ⟨h1, h2, hS, hw.2.2.2⟩
theorem gx_ofc {y : MethodName} {wl wl' : List Cond} {rm : Room} {maxL mc ms : Nat} {av : List Value} {P : va_W → Prop} (hy : plainName y.cls = true) (hwl : wl = Cond.code y cc maxL none :: wl') (hown : y.cls = own) (hlen : (lg_sl av).length ≤ maxL) (lv : List (Nat × Value)) (hlv : lv_args 0 av = lv)
    (body : ∀ (p : Program) (e : Env) (s : State) (m : MethodId) (args : Array Value) (below : List Frame) (meth : Method) (c : Code) (A : Nat → Prop) (Q : State → Prop) (ls : Array Slot), meth.name = y.name → gx_C cc maxL wl own D cI cZ p s m args c → gx_Qc cc p l e rm s m args below meth c D A Q P mc ms → lv_has ls maxL lv → gx_W D A s ws s.heap [] → W p l e rm s m args below meth c s.heap [] 0 0 Q (F0 m 0 ls [])) : gx_Mc l y wl rm D cI cZ av ws P mc ms := by
  intro sz
  refine Met.ofW (cc := cc) (maxL := maxL) (ret := none) hy hwl ?_
  intro p e s m args below meth c s₁ B hml hv
  obtain ⟨rfl, hsz, hP, hK, hD0⟩ := hv
  have hlocks := B.notSynchronized
  subst hsz
  have hl := lv_entry av (n := maxL) hlen
  rw [lg_entry_eq]
  rw [hlv] at hl
  have ho : s.vm.findClass own = some m.cls := by rw [← hown]; exact findClass_of_methodNamed B.named
  refine body p e s m av.toArray below meth c (va_A ws s.heap.size) _ _ (name_of_methodNamed B.named B.method).1 ⟨⟨B.exec, B.bytes, hml, ho, atoms_spec (ws := wl) B.pre⟩, hK⟩ (fun pc ls H locs w' hd hPw hw => ?_) hl ⟨hP, hD0.self, va_S.rf, fun q h => Or.inr h⟩
  exact W.vret B.exec B.bytes B.returns (fun t ht hW => ⟨⟨w', rfl, hPw, by rw [ht]; exact hw.1, hw.2.1⟩, hw.2.2.1.F ht⟩) hw.2.2.1.2.2 hd
theorem gx_W.perm {isP : List Nat} (hw : gx_W D A s ws H locs) (hn : va_nd isP = true) (h : isP.map (fun i => ws[i]?) = ws'.map some) : gx_W D A s ws' H locs := ⟨hw.1.sub isP (gx_mapsome _ _ _ h), hw.2.1.sub isP hn h, hw.2.2.1, hw.2.2.2⟩
theorem gx_W.eq (hw : gx_W D A s ws H locs) (h : ws = ws') : gx_W D A s ws' H locs := h ▸ hw
end GY
